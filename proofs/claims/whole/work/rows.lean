section
-- ===== PART A: goes FIRST, ahead of the names: the tables' words, and 'selects' of the private methods out of them =====
/-- a private method of a class that the tables say can be made, by its rows of tables_1 -/
def lw_okq (q : MethodName × Nat) : Prop := (q.1.cls ≠ "java/lang/invoke/MethodHandle" ∧ q.1.cls ≠ "java/lang/invoke/VarHandle") ∧ Cond.instantiable q.1.cls q.2 ∈ tables_1 ∧ Cond.privateMethod q.1 ∈ tables_1 ∧ Cond.instanceMethod q.1 ∈ tables_1
theorem lw_p0 : lw_okq (⟨"EchoLine$Report", "heardBeats", "(I)I"⟩, 1) := ⟨⟨by decide +kernel, by decide +kernel⟩, List.mem_of_getElem? (i := 89) (by decide +kernel), List.mem_of_getElem? (i := 217) (by decide +kernel), List.mem_of_getElem? (i := 218) (by decide +kernel)⟩
theorem lw_p1 : lw_okq (⟨"EchoLine", "total", "(I)I"⟩, 5) := ⟨⟨by decide +kernel, by decide +kernel⟩, List.mem_of_getElem? (i := 18) (by decide +kernel), List.mem_of_getElem? (i := 237) (by decide +kernel), List.mem_of_getElem? (i := 238) (by decide +kernel)⟩
theorem lw_p2 : lw_okq (⟨"EchoLine$Report", "wordsHeardByMask", "(I)I"⟩, 1) := ⟨⟨by decide +kernel, by decide +kernel⟩, List.mem_of_getElem? (i := 89) (by decide +kernel), List.mem_of_getElem? (i := 245) (by decide +kernel), List.mem_of_getElem? (i := 246) (by decide +kernel)⟩
theorem lw_p3 : lw_okq (⟨"EchoLine$Report", "maskOf", "([[II)I"⟩, 1) := ⟨⟨by decide +kernel, by decide +kernel⟩, List.mem_of_getElem? (i := 89) (by decide +kernel), List.mem_of_getElem? (i := 249) (by decide +kernel), List.mem_of_getElem? (i := 250) (by decide +kernel)⟩
theorem lw_p4 : lw_okq (⟨"EchoLine$Report", "messages", "()I"⟩, 1) := ⟨⟨by decide +kernel, by decide +kernel⟩, List.mem_of_getElem? (i := 89) (by decide +kernel), List.mem_of_getElem? (i := 253) (by decide +kernel), List.mem_of_getElem? (i := 254) (by decide +kernel)⟩
theorem lw_p5 : lw_okq (⟨"EchoLine$Report", "messagesHeardWhole", "()I"⟩, 1) := ⟨⟨by decide +kernel, by decide +kernel⟩, List.mem_of_getElem? (i := 89) (by decide +kernel), List.mem_of_getElem? (i := 257) (by decide +kernel), List.mem_of_getElem? (i := 258) (by decide +kernel)⟩
theorem lw_p6 : lw_okq (⟨"EchoLine$Report", "allHeardWhole", "(II)Z"⟩, 1) := ⟨⟨by decide +kernel, by decide +kernel⟩, List.mem_of_getElem? (i := 89) (by decide +kernel), List.mem_of_getElem? (i := 261) (by decide +kernel), List.mem_of_getElem? (i := 262) (by decide +kernel)⟩
theorem lw_p7 : lw_okq (⟨"EchoLine", "takeSpeakers", "(LEchoLine$Hash;)V"⟩, 5) := ⟨⟨by decide +kernel, by decide +kernel⟩, List.mem_of_getElem? (i := 18) (by decide +kernel), List.mem_of_getElem? (i := 277) (by decide +kernel), List.mem_of_getElem? (i := 278) (by decide +kernel)⟩
theorem lw_p8 : lw_okq (⟨"EchoLine$Report", "heardWordsByBeats", "(I)I"⟩, 1) := ⟨⟨by decide +kernel, by decide +kernel⟩, List.mem_of_getElem? (i := 89) (by decide +kernel), List.mem_of_getElem? (i := 285) (by decide +kernel), List.mem_of_getElem? (i := 286) (by decide +kernel)⟩
theorem lw_p9 : lw_okq (⟨"EchoLine$Report", "repeatedBeats", "(I)I"⟩, 1) := ⟨⟨by decide +kernel, by decide +kernel⟩, List.mem_of_getElem? (i := 89) (by decide +kernel), List.mem_of_getElem? (i := 289) (by decide +kernel), List.mem_of_getElem? (i := 290) (by decide +kernel)⟩
theorem lw_p10 : lw_okq (⟨"EchoLine$Report", "isRepeated", "(II)Z"⟩, 1) := ⟨⟨by decide +kernel, by decide +kernel⟩, List.mem_of_getElem? (i := 89) (by decide +kernel), List.mem_of_getElem? (i := 293) (by decide +kernel), List.mem_of_getElem? (i := 294) (by decide +kernel)⟩
theorem lw_p11 : lw_okq (⟨"EchoLine$Report", "gaps", "(I)I"⟩, 1) := ⟨⟨by decide +kernel, by decide +kernel⟩, List.mem_of_getElem? (i := 89) (by decide +kernel), List.mem_of_getElem? (i := 297) (by decide +kernel), List.mem_of_getElem? (i := 298) (by decide +kernel)⟩
theorem lw_p12 : lw_okq (⟨"EchoLine$Report", "wordsSaidBy", "(I)I"⟩, 1) := ⟨⟨by decide +kernel, by decide +kernel⟩, List.mem_of_getElem? (i := 89) (by decide +kernel), List.mem_of_getElem? (i := 301) (by decide +kernel), List.mem_of_getElem? (i := 302) (by decide +kernel)⟩
theorem lw_p13 : lw_okq (⟨"EchoLine$Report", "heardWordsByWords", "(I)I"⟩, 1) := ⟨⟨by decide +kernel, by decide +kernel⟩, List.mem_of_getElem? (i := 89) (by decide +kernel), List.mem_of_getElem? (i := 305) (by decide +kernel), List.mem_of_getElem? (i := 306) (by decide +kernel)⟩
theorem lw_p14 : lw_okq (⟨"EchoLine", "takeLatestWords", "(LEchoLine$Hash;)V"⟩, 5) := ⟨⟨by decide +kernel, by decide +kernel⟩, List.mem_of_getElem? (i := 18) (by decide +kernel), List.mem_of_getElem? (i := 313) (by decide +kernel), List.mem_of_getElem? (i := 314) (by decide +kernel)⟩
theorem lw_p15 : lw_okq (⟨"EchoLine", "takeLatestBeats", "(LEchoLine$Hash;)V"⟩, 5) := ⟨⟨by decide +kernel, by decide +kernel⟩, List.mem_of_getElem? (i := 18) (by decide +kernel), List.mem_of_getElem? (i := 326) (by decide +kernel), List.mem_of_getElem? (i := 327) (by decide +kernel)⟩
def lw_privs_1 : List (MethodName × Nat) := [(⟨"EchoLine$Report", "heardBeats", "(I)I"⟩, 1), (⟨"EchoLine", "total", "(I)I"⟩, 5), (⟨"EchoLine$Report", "wordsHeardByMask", "(I)I"⟩, 1), (⟨"EchoLine$Report", "maskOf", "([[II)I"⟩, 1), (⟨"EchoLine$Report", "messages", "()I"⟩, 1), (⟨"EchoLine$Report", "messagesHeardWhole", "()I"⟩, 1), (⟨"EchoLine$Report", "allHeardWhole", "(II)Z"⟩, 1), (⟨"EchoLine", "takeSpeakers", "(LEchoLine$Hash;)V"⟩, 5), (⟨"EchoLine$Report", "heardWordsByBeats", "(I)I"⟩, 1), (⟨"EchoLine$Report", "repeatedBeats", "(I)I"⟩, 1), (⟨"EchoLine$Report", "isRepeated", "(II)Z"⟩, 1), (⟨"EchoLine$Report", "gaps", "(I)I"⟩, 1), (⟨"EchoLine$Report", "wordsSaidBy", "(I)I"⟩, 1), (⟨"EchoLine$Report", "heardWordsByWords", "(I)I"⟩, 1), (⟨"EchoLine", "takeLatestWords", "(LEchoLine$Hash;)V"⟩, 5), (⟨"EchoLine", "takeLatestBeats", "(LEchoLine$Hash;)V"⟩, 5)]
theorem lw_r1 : ∀ q ∈ lw_privs_1, lw_okq q := List.forall_mem_cons.mpr ⟨lw_p0, List.forall_mem_cons.mpr ⟨lw_p1, List.forall_mem_cons.mpr ⟨lw_p2, List.forall_mem_cons.mpr ⟨lw_p3, List.forall_mem_cons.mpr ⟨lw_p4, List.forall_mem_cons.mpr ⟨lw_p5, List.forall_mem_cons.mpr ⟨lw_p6, List.forall_mem_cons.mpr ⟨lw_p7, List.forall_mem_cons.mpr ⟨lw_p8, List.forall_mem_cons.mpr ⟨lw_p9, List.forall_mem_cons.mpr ⟨lw_p10, List.forall_mem_cons.mpr ⟨lw_p11, List.forall_mem_cons.mpr ⟨lw_p12, List.forall_mem_cons.mpr ⟨lw_p13, List.forall_mem_cons.mpr ⟨lw_p14, List.forall_mem_cons.mpr ⟨lw_p15, fun _ h => absurd h List.not_mem_nil⟩⟩⟩⟩⟩⟩⟩⟩⟩⟩⟩⟩⟩⟩⟩⟩
theorem lw_p16 : lw_okq (⟨"EchoLine", "takeMessages", "(LEchoLine$Hash;)V"⟩, 5) := ⟨⟨by decide +kernel, by decide +kernel⟩, List.mem_of_getElem? (i := 18) (by decide +kernel), List.mem_of_getElem? (i := 334) (by decide +kernel), List.mem_of_getElem? (i := 335) (by decide +kernel)⟩
theorem lw_p17 : lw_okq (⟨"java/lang/Throwable", "fillInStackTrace", "(I)Ljava/lang/Throwable;"⟩, 6) := ⟨⟨by decide +kernel, by decide +kernel⟩, List.mem_of_getElem? (i := 402) (by decide +kernel), List.mem_of_getElem? (i := 400) (by decide +kernel), List.mem_of_getElem? (i := 401) (by decide +kernel)⟩
theorem lw_p18 : lw_okq (⟨"EchoLine$History", "dropOldest", "()V"⟩, 2) := ⟨⟨by decide +kernel, by decide +kernel⟩, List.mem_of_getElem? (i := 99) (by decide +kernel), List.mem_of_getElem? (i := 475) (by decide +kernel), List.mem_of_getElem? (i := 476) (by decide +kernel)⟩
theorem lw_p19 : lw_okq (⟨"EchoLine$Chamber", "endBeat", "()V"⟩, 12) := ⟨⟨by decide +kernel, by decide +kernel⟩, List.mem_of_getElem? (i := 26) (by decide +kernel), List.mem_of_getElem? (i := 487) (by decide +kernel), List.mem_of_getElem? (i := 488) (by decide +kernel)⟩
theorem lw_p20 : lw_okq (⟨"EchoLine$Text", "partEnd", "(I)I"⟩, 2) := ⟨⟨by decide +kernel, by decide +kernel⟩, List.mem_of_getElem? (i := 115) (by decide +kernel), List.mem_of_getElem? (i := 554) (by decide +kernel), List.mem_of_getElem? (i := 555) (by decide +kernel)⟩
theorem lw_p21 : lw_okq (⟨"EchoLine$Text", "restIn", "(LEchoLine$Chamber;II)Z"⟩, 2) := ⟨⟨by decide +kernel, by decide +kernel⟩, List.mem_of_getElem? (i := 115) (by decide +kernel), List.mem_of_getElem? (i := 558) (by decide +kernel), List.mem_of_getElem? (i := 559) (by decide +kernel)⟩
theorem lw_p22 : lw_okq (⟨"EchoLine$Text", "speakIn", "(LEchoLine$Chamber;II)Z"⟩, 2) := ⟨⟨by decide +kernel, by decide +kernel⟩, List.mem_of_getElem? (i := 115) (by decide +kernel), List.mem_of_getElem? (i := 564) (by decide +kernel), List.mem_of_getElem? (i := 565) (by decide +kernel)⟩
theorem lw_p23 : lw_okq (⟨"EchoLineModel", "canSpeak", "()Z"⟩, 13) := ⟨⟨by decide +kernel, by decide +kernel⟩, List.mem_of_getElem? (i := 657) (by decide +kernel), List.mem_of_getElem? (i := 718) (by decide +kernel), List.mem_of_getElem? (i := 719) (by decide +kernel)⟩
theorem lw_p24 : lw_okq (⟨"EchoLineModel", "goes", "(ZZZ)Z"⟩, 13) := ⟨⟨by decide +kernel, by decide +kernel⟩, List.mem_of_getElem? (i := 657) (by decide +kernel), List.mem_of_getElem? (i := 722) (by decide +kernel), List.mem_of_getElem? (i := 723) (by decide +kernel)⟩
theorem lw_p25 : lw_okq (⟨"EchoLineModel", "saves", "()V"⟩, 13) := ⟨⟨by decide +kernel, by decide +kernel⟩, List.mem_of_getElem? (i := 657) (by decide +kernel), List.mem_of_getElem? (i := 726) (by decide +kernel), List.mem_of_getElem? (i := 727) (by decide +kernel)⟩
theorem lw_p26 : lw_okq (⟨"EchoLineModel", "copies", "(II)V"⟩, 13) := ⟨⟨by decide +kernel, by decide +kernel⟩, List.mem_of_getElem? (i := 657) (by decide +kernel), List.mem_of_getElem? (i := 730) (by decide +kernel), List.mem_of_getElem? (i := 731) (by decide +kernel)⟩
theorem lw_p27 : lw_okq (⟨"EchoLineModel", "speaks", "(III)I"⟩, 13) := ⟨⟨by decide +kernel, by decide +kernel⟩, List.mem_of_getElem? (i := 657) (by decide +kernel), List.mem_of_getElem? (i := 734) (by decide +kernel), List.mem_of_getElem? (i := 735) (by decide +kernel)⟩
theorem lw_p28 : lw_okq (⟨"EchoLineModel", "delay", "(II)I"⟩, 13) := ⟨⟨by decide +kernel, by decide +kernel⟩, List.mem_of_getElem? (i := 657) (by decide +kernel), List.mem_of_getElem? (i := 738) (by decide +kernel), List.mem_of_getElem? (i := 739) (by decide +kernel)⟩
theorem lw_p29 : lw_okq (⟨"EchoLineModel", "ends", "()V"⟩, 13) := ⟨⟨by decide +kernel, by decide +kernel⟩, List.mem_of_getElem? (i := 657) (by decide +kernel), List.mem_of_getElem? (i := 745) (by decide +kernel), List.mem_of_getElem? (i := 746) (by decide +kernel)⟩
theorem lw_p30 : lw_okq (⟨"EchoLineModel", "voice", "(II)I"⟩, 13) := ⟨⟨by decide +kernel, by decide +kernel⟩, List.mem_of_getElem? (i := 657) (by decide +kernel), List.mem_of_getElem? (i := 749) (by decide +kernel), List.mem_of_getElem? (i := 750) (by decide +kernel)⟩
theorem lw_p31 : lw_okq (⟨"EchoLineModel", "part", "(II)I"⟩, 13) := ⟨⟨by decide +kernel, by decide +kernel⟩, List.mem_of_getElem? (i := 657) (by decide +kernel), List.mem_of_getElem? (i := 753) (by decide +kernel), List.mem_of_getElem? (i := 754) (by decide +kernel)⟩
def lw_privs_2 : List (MethodName × Nat) := [(⟨"EchoLine", "takeMessages", "(LEchoLine$Hash;)V"⟩, 5), (⟨"java/lang/Throwable", "fillInStackTrace", "(I)Ljava/lang/Throwable;"⟩, 6), (⟨"EchoLine$History", "dropOldest", "()V"⟩, 2), (⟨"EchoLine$Chamber", "endBeat", "()V"⟩, 12), (⟨"EchoLine$Text", "partEnd", "(I)I"⟩, 2), (⟨"EchoLine$Text", "restIn", "(LEchoLine$Chamber;II)Z"⟩, 2), (⟨"EchoLine$Text", "speakIn", "(LEchoLine$Chamber;II)Z"⟩, 2), (⟨"EchoLineModel", "canSpeak", "()Z"⟩, 13), (⟨"EchoLineModel", "goes", "(ZZZ)Z"⟩, 13), (⟨"EchoLineModel", "saves", "()V"⟩, 13), (⟨"EchoLineModel", "copies", "(II)V"⟩, 13), (⟨"EchoLineModel", "speaks", "(III)I"⟩, 13), (⟨"EchoLineModel", "delay", "(II)I"⟩, 13), (⟨"EchoLineModel", "ends", "()V"⟩, 13), (⟨"EchoLineModel", "voice", "(II)I"⟩, 13), (⟨"EchoLineModel", "part", "(II)I"⟩, 13)]
theorem lw_r2 : ∀ q ∈ lw_privs_2, lw_okq q := List.forall_mem_cons.mpr ⟨lw_p16, List.forall_mem_cons.mpr ⟨lw_p17, List.forall_mem_cons.mpr ⟨lw_p18, List.forall_mem_cons.mpr ⟨lw_p19, List.forall_mem_cons.mpr ⟨lw_p20, List.forall_mem_cons.mpr ⟨lw_p21, List.forall_mem_cons.mpr ⟨lw_p22, List.forall_mem_cons.mpr ⟨lw_p23, List.forall_mem_cons.mpr ⟨lw_p24, List.forall_mem_cons.mpr ⟨lw_p25, List.forall_mem_cons.mpr ⟨lw_p26, List.forall_mem_cons.mpr ⟨lw_p27, List.forall_mem_cons.mpr ⟨lw_p28, List.forall_mem_cons.mpr ⟨lw_p29, List.forall_mem_cons.mpr ⟨lw_p30, List.forall_mem_cons.mpr ⟨lw_p31, fun _ h => absurd h List.not_mem_nil⟩⟩⟩⟩⟩⟩⟩⟩⟩⟩⟩⟩⟩⟩⟩⟩
theorem lw_p32 : lw_okq (⟨"EchoLineModel", "passes", "(I)V"⟩, 13) := ⟨⟨by decide +kernel, by decide +kernel⟩, List.mem_of_getElem? (i := 657) (by decide +kernel), List.mem_of_getElem? (i := 761) (by decide +kernel), List.mem_of_getElem? (i := 762) (by decide +kernel)⟩
theorem lw_p33 : lw_okq (⟨"EchoLineModel", "readsAll", "()V"⟩, 13) := ⟨⟨by decide +kernel, by decide +kernel⟩, List.mem_of_getElem? (i := 657) (by decide +kernel), List.mem_of_getElem? (i := 785) (by decide +kernel), List.mem_of_getElem? (i := 786) (by decide +kernel)⟩
theorem lw_p34 : lw_okq (⟨"EchoLineModel", "reads", "()V"⟩, 13) := ⟨⟨by decide +kernel, by decide +kernel⟩, List.mem_of_getElem? (i := 657) (by decide +kernel), List.mem_of_getElem? (i := 789) (by decide +kernel), List.mem_of_getElem? (i := 790) (by decide +kernel)⟩
theorem lw_p35 : lw_okq (⟨"EchoLineModel", "isNow", "(II)Z"⟩, 13) := ⟨⟨by decide +kernel, by decide +kernel⟩, List.mem_of_getElem? (i := 657) (by decide +kernel), List.mem_of_getElem? (i := 793) (by decide +kernel), List.mem_of_getElem? (i := 794) (by decide +kernel)⟩
theorem lw_p36 : lw_okq (⟨"EchoLineModel", "number", "(I)I"⟩, 13) := ⟨⟨by decide +kernel, by decide +kernel⟩, List.mem_of_getElem? (i := 657) (by decide +kernel), List.mem_of_getElem? (i := 797) (by decide +kernel), List.mem_of_getElem? (i := 798) (by decide +kernel)⟩
theorem lw_p37 : lw_okq (⟨"EchoLineModel", "digit", "(I)I"⟩, 13) := ⟨⟨by decide +kernel, by decide +kernel⟩, List.mem_of_getElem? (i := 657) (by decide +kernel), List.mem_of_getElem? (i := 801) (by decide +kernel), List.mem_of_getElem? (i := 802) (by decide +kernel)⟩
theorem lw_p38 : lw_okq (⟨"EchoLineModel", "sign", "(I)V"⟩, 13) := ⟨⟨by decide +kernel, by decide +kernel⟩, List.mem_of_getElem? (i := 657) (by decide +kernel), List.mem_of_getElem? (i := 805) (by decide +kernel), List.mem_of_getElem? (i := 806) (by decide +kernel)⟩
theorem lw_p39 : lw_okq (⟨"EchoLineModel", "ofWord", "(II)I"⟩, 13) := ⟨⟨by decide +kernel, by decide +kernel⟩, List.mem_of_getElem? (i := 657) (by decide +kernel), List.mem_of_getElem? (i := 829) (by decide +kernel), List.mem_of_getElem? (i := 830) (by decide +kernel)⟩
theorem lw_p40 : lw_okq (⟨"EchoLineModel", "reached", "(I)I"⟩, 13) := ⟨⟨by decide +kernel, by decide +kernel⟩, List.mem_of_getElem? (i := 657) (by decide +kernel), List.mem_of_getElem? (i := 833) (by decide +kernel), List.mem_of_getElem? (i := 834) (by decide +kernel)⟩
theorem lw_p41 : lw_okq (⟨"EchoLineModel", "hearers", "(I)I"⟩, 13) := ⟨⟨by decide +kernel, by decide +kernel⟩, List.mem_of_getElem? (i := 657) (by decide +kernel), List.mem_of_getElem? (i := 837) (by decide +kernel), List.mem_of_getElem? (i := 838) (by decide +kernel)⟩
theorem lw_p42 : lw_okq (⟨"EchoLineModel", "firstHeard", "(II)I"⟩, 13) := ⟨⟨by decide +kernel, by decide +kernel⟩, List.mem_of_getElem? (i := 657) (by decide +kernel), List.mem_of_getElem? (i := 841) (by decide +kernel), List.mem_of_getElem? (i := 842) (by decide +kernel)⟩
theorem lw_p43 : lw_okq (⟨"EchoLineModel", "comesTo", "(II)I"⟩, 13) := ⟨⟨by decide +kernel, by decide +kernel⟩, List.mem_of_getElem? (i := 657) (by decide +kernel), List.mem_of_getElem? (i := 849) (by decide +kernel), List.mem_of_getElem? (i := 850) (by decide +kernel)⟩
theorem lw_p44 : lw_okq (⟨"EchoLineModel", "ofHeard", "(III)I"⟩, 13) := ⟨⟨by decide +kernel, by decide +kernel⟩, List.mem_of_getElem? (i := 657) (by decide +kernel), List.mem_of_getElem? (i := 857) (by decide +kernel), List.mem_of_getElem? (i := 858) (by decide +kernel)⟩
theorem lw_p45 : lw_okq (⟨"EchoLineModel", "heardAt", "(II)I"⟩, 13) := ⟨⟨by decide +kernel, by decide +kernel⟩, List.mem_of_getElem? (i := 657) (by decide +kernel), List.mem_of_getElem? (i := 861) (by decide +kernel), List.mem_of_getElem? (i := 862) (by decide +kernel)⟩
theorem lw_p46 : lw_okq (⟨"EchoLineModel", "ofSpeaker", "(II)I"⟩, 13) := ⟨⟨by decide +kernel, by decide +kernel⟩, List.mem_of_getElem? (i := 657) (by decide +kernel), List.mem_of_getElem? (i := 869) (by decide +kernel), List.mem_of_getElem? (i := 870) (by decide +kernel)⟩
theorem lw_p47 : lw_okq (⟨"EchoLineModel", "beatsOf", "(IZ)I"⟩, 13) := ⟨⟨by decide +kernel, by decide +kernel⟩, List.mem_of_getElem? (i := 657) (by decide +kernel), List.mem_of_getElem? (i := 873) (by decide +kernel), List.mem_of_getElem? (i := 874) (by decide +kernel)⟩
def lw_privs_3 : List (MethodName × Nat) := [(⟨"EchoLineModel", "passes", "(I)V"⟩, 13), (⟨"EchoLineModel", "readsAll", "()V"⟩, 13), (⟨"EchoLineModel", "reads", "()V"⟩, 13), (⟨"EchoLineModel", "isNow", "(II)Z"⟩, 13), (⟨"EchoLineModel", "number", "(I)I"⟩, 13), (⟨"EchoLineModel", "digit", "(I)I"⟩, 13), (⟨"EchoLineModel", "sign", "(I)V"⟩, 13), (⟨"EchoLineModel", "ofWord", "(II)I"⟩, 13), (⟨"EchoLineModel", "reached", "(I)I"⟩, 13), (⟨"EchoLineModel", "hearers", "(I)I"⟩, 13), (⟨"EchoLineModel", "firstHeard", "(II)I"⟩, 13), (⟨"EchoLineModel", "comesTo", "(II)I"⟩, 13), (⟨"EchoLineModel", "ofHeard", "(III)I"⟩, 13), (⟨"EchoLineModel", "heardAt", "(II)I"⟩, 13), (⟨"EchoLineModel", "ofSpeaker", "(II)I"⟩, 13), (⟨"EchoLineModel", "beatsOf", "(IZ)I"⟩, 13)]
theorem lw_r3 : ∀ q ∈ lw_privs_3, lw_okq q := List.forall_mem_cons.mpr ⟨lw_p32, List.forall_mem_cons.mpr ⟨lw_p33, List.forall_mem_cons.mpr ⟨lw_p34, List.forall_mem_cons.mpr ⟨lw_p35, List.forall_mem_cons.mpr ⟨lw_p36, List.forall_mem_cons.mpr ⟨lw_p37, List.forall_mem_cons.mpr ⟨lw_p38, List.forall_mem_cons.mpr ⟨lw_p39, List.forall_mem_cons.mpr ⟨lw_p40, List.forall_mem_cons.mpr ⟨lw_p41, List.forall_mem_cons.mpr ⟨lw_p42, List.forall_mem_cons.mpr ⟨lw_p43, List.forall_mem_cons.mpr ⟨lw_p44, List.forall_mem_cons.mpr ⟨lw_p45, List.forall_mem_cons.mpr ⟨lw_p46, List.forall_mem_cons.mpr ⟨lw_p47, fun _ h => absurd h List.not_mem_nil⟩⟩⟩⟩⟩⟩⟩⟩⟩⟩⟩⟩⟩⟩⟩⟩
theorem lw_p48 : lw_okq (⟨"EchoLineModel", "gaps", "(I)I"⟩, 13) := ⟨⟨by decide +kernel, by decide +kernel⟩, List.mem_of_getElem? (i := 657) (by decide +kernel), List.mem_of_getElem? (i := 877) (by decide +kernel), List.mem_of_getElem? (i := 878) (by decide +kernel)⟩
theorem lw_p49 : lw_okq (⟨"EchoLineModel", "wordsOf", "(I)I"⟩, 13) := ⟨⟨by decide +kernel, by decide +kernel⟩, List.mem_of_getElem? (i := 657) (by decide +kernel), List.mem_of_getElem? (i := 881) (by decide +kernel), List.mem_of_getElem? (i := 882) (by decide +kernel)⟩
theorem lw_p50 : lw_okq (⟨"EchoLineModel", "distinct", "(I)I"⟩, 13) := ⟨⟨by decide +kernel, by decide +kernel⟩, List.mem_of_getElem? (i := 657) (by decide +kernel), List.mem_of_getElem? (i := 885) (by decide +kernel), List.mem_of_getElem? (i := 886) (by decide +kernel)⟩
theorem lw_p51 : lw_okq (⟨"EchoLineModel", "how", "(III)I"⟩, 13) := ⟨⟨by decide +kernel, by decide +kernel⟩, List.mem_of_getElem? (i := 657) (by decide +kernel), List.mem_of_getElem? (i := 893) (by decide +kernel), List.mem_of_getElem? (i := 894) (by decide +kernel)⟩
theorem lw_p52 : lw_okq (⟨"EchoLineModel", "counted", "(I)I"⟩, 13) := ⟨⟨by decide +kernel, by decide +kernel⟩, List.mem_of_getElem? (i := 657) (by decide +kernel), List.mem_of_getElem? (i := 901) (by decide +kernel), List.mem_of_getElem? (i := 902) (by decide +kernel)⟩
theorem lw_p53 : lw_okq (⟨"EchoLineModel", "wordsHeardBy", "(I)I"⟩, 13) := ⟨⟨by decide +kernel, by decide +kernel⟩, List.mem_of_getElem? (i := 657) (by decide +kernel), List.mem_of_getElem? (i := 905) (by decide +kernel), List.mem_of_getElem? (i := 906) (by decide +kernel)⟩
theorem lw_p54 : lw_okq (⟨"EchoLineModel", "messages", "(Z)I"⟩, 13) := ⟨⟨by decide +kernel, by decide +kernel⟩, List.mem_of_getElem? (i := 657) (by decide +kernel), List.mem_of_getElem? (i := 909) (by decide +kernel), List.mem_of_getElem? (i := 910) (by decide +kernel)⟩
theorem lw_p55 : lw_okq (⟨"EchoLineModel", "reason", "(II)I"⟩, 13) := ⟨⟨by decide +kernel, by decide +kernel⟩, List.mem_of_getElem? (i := 657) (by decide +kernel), List.mem_of_getElem? (i := 917) (by decide +kernel), List.mem_of_getElem? (i := 918) (by decide +kernel)⟩
theorem lw_p56 : lw_okq (⟨"EchoLineModel", "silentBeats", "(II)I"⟩, 13) := ⟨⟨by decide +kernel, by decide +kernel⟩, List.mem_of_getElem? (i := 657) (by decide +kernel), List.mem_of_getElem? (i := 929) (by decide +kernel), List.mem_of_getElem? (i := 930) (by decide +kernel)⟩
theorem lw_p57 : lw_okq (⟨"EchoLineModel", "best", "()I"⟩, 13) := ⟨⟨by decide +kernel, by decide +kernel⟩, List.mem_of_getElem? (i := 657) (by decide +kernel), List.mem_of_getElem? (i := 937) (by decide +kernel), List.mem_of_getElem? (i := 938) (by decide +kernel)⟩
theorem lw_p58 : lw_okq (⟨"EchoLineModel", "share", "()D"⟩, 13) := ⟨⟨by decide +kernel, by decide +kernel⟩, List.mem_of_getElem? (i := 657) (by decide +kernel), List.mem_of_getElem? (i := 945) (by decide +kernel), List.mem_of_getElem? (i := 946) (by decide +kernel)⟩
def lw_privs_4 : List (MethodName × Nat) := [(⟨"EchoLineModel", "gaps", "(I)I"⟩, 13), (⟨"EchoLineModel", "wordsOf", "(I)I"⟩, 13), (⟨"EchoLineModel", "distinct", "(I)I"⟩, 13), (⟨"EchoLineModel", "how", "(III)I"⟩, 13), (⟨"EchoLineModel", "counted", "(I)I"⟩, 13), (⟨"EchoLineModel", "wordsHeardBy", "(I)I"⟩, 13), (⟨"EchoLineModel", "messages", "(Z)I"⟩, 13), (⟨"EchoLineModel", "reason", "(II)I"⟩, 13), (⟨"EchoLineModel", "silentBeats", "(II)I"⟩, 13), (⟨"EchoLineModel", "best", "()I"⟩, 13), (⟨"EchoLineModel", "share", "()D"⟩, 13)]
theorem lw_r4 : ∀ q ∈ lw_privs_4, lw_okq q := List.forall_mem_cons.mpr ⟨lw_p48, List.forall_mem_cons.mpr ⟨lw_p49, List.forall_mem_cons.mpr ⟨lw_p50, List.forall_mem_cons.mpr ⟨lw_p51, List.forall_mem_cons.mpr ⟨lw_p52, List.forall_mem_cons.mpr ⟨lw_p53, List.forall_mem_cons.mpr ⟨lw_p54, List.forall_mem_cons.mpr ⟨lw_p55, List.forall_mem_cons.mpr ⟨lw_p56, List.forall_mem_cons.mpr ⟨lw_p57, List.forall_mem_cons.mpr ⟨lw_p58, fun _ h => absurd h List.not_mem_nil⟩⟩⟩⟩⟩⟩⟩⟩⟩⟩⟩
def lw_privs : List (MethodName × Nat) := lw_privs_1 ++ (lw_privs_2 ++ (lw_privs_3 ++ (lw_privs_4)))
def lw_tbl : List Cond := k2_sels lw_privs ++ tables_1
theorem lw_privs_ok : ∀ q ∈ lw_privs, lw_okq q := by
  show ∀ q ∈ lw_privs_1 ++ (lw_privs_2 ++ (lw_privs_3 ++ (lw_privs_4))), lw_okq q
  exact List.forall_mem_append.mpr ⟨lw_r1, List.forall_mem_append.mpr ⟨lw_r2, List.forall_mem_append.mpr ⟨lw_r3, lw_r4⟩⟩⟩
/-- the streams that the claim lets the run draw from -/
abbrev lw_cs : List Choice := [Jvm.Choice.named "NaN.bits"]
theorem lw_bits : nanBits ∈ lw_cs := by first | decide | exact List.mem_cons_self | simp [lw_cs, nanBits]
end
section
/-! ===== BEGIN words of one list among another's, by their places ===== -/
theorem goodIn_r {big : List Cond} (ws : List Cond) (ps : List Nat) (hp : ws = ps.filterMap (fun i => big[i]?)) (h : ws.all goodWord = true) : GoodIn big ws := by
  intro w hw
  have h1 := List.all_eq_true.mp h w hw
  rw [hp] at hw
  obtain ⟨i, -, hi⟩ := List.mem_filterMap.mp hw
  have hm : w ∈ big := by first | exact List.mem_of_getElem? hi | exact List.getElem?_mem hi
  exact ⟨hm, good_of_word h1⟩
theorem goodIn_app {big a b : List Cond} (ha : GoodIn big a) (hb : GoodIn big b) : GoodIn big (a ++ b) := fun w h => (List.mem_append.mp h).elim (ha w) (hb w)
theorem goodIn_ca {big a b : List Cond} {c : Cond} (ha : GoodIn big (c :: a)) (hb : GoodIn big b) : GoodIn big (c :: (a ++ b)) := fun w h => (List.mem_cons.mp h).elim (fun e => ha w (List.mem_cons.mpr (Or.inl e))) (fun h => (List.mem_append.mp h).elim (fun h => ha w (List.mem_cons.mpr (Or.inr h))) (hb w))
theorem goodIn_sub {big ws : List Cond} (hm : ∀ w ∈ ws, w ∈ big) (h : ws.all goodWord = true) : GoodIn big ws := fun w hw => ⟨hm w hw, good_of_word (List.all_eq_true.mp h w hw)⟩
/-! ===== END ===== -/

/-! ===== BEGIN exceptions that leave a method, and their catching by the caller (launches without stack traces) ===== -/
section VXA
/-! The laws vx_back, vx_callV, vx_callS, vx_callSW, vx_throw0, vx_throwS follow proofs of the library, with one case more: JvmDerived/Free/Laws.lean (Back.of_free), Shelf42/LK1.lean (callV, callS), Shelf/KitTraced.lean (throwNew0V, throwNewS). -/
/-- where a method has thrown q: the class by its name, the cell, what was written, the world -/
def vx_T (XC : String → State → State → Prop) (st : State) (q : Addr) (t : State) (mc ms : Nat) (free : Addr → Prop) : Prop :=
  ∃ (E : String) (ce : Cell) (L : List Loc), XC E st t ∧ t.heap[q]? = some ce ∧ ce.vm = .none ∧ st.vm.findClass E = some ce.cls ∧ st.WarmedH t.vm ∧ st.sameButNew ({ t with vm := st.vm } : State) L mc ms ∧ ∀ z ∈ L, free z.base
def vx_Q (Qc : Array Value → State → Outcome → State → Prop) (XC : String → State → State → Prop) (mc ms : Nat) (free : Addr → Prop) : Array Value → State → Outcome → State → Prop := fun a st o t =>
  (Qc a st o t ∧ ∃ L, FrameEnd st o t L mc ms ∧ ∀ q ∈ L, free q.base) ∨ ∃ q, o = .threw q ∧ vx_T XC st q t mc ms free
/-- a callee that returns or throws -/
def vx_Met (l : Launch) (y : MethodName) (ws : List Cond) (rm : Room) (Pc : Array Value → State → Prop) (Qc : Array Value → State → Outcome → State → Prop) (XC : String → State → State → Prop) (mc ms : Nat) (free : Addr → Prop) : Prop :=
  MetFree l y (headSpec ws rm) Pc (fun _ _ _ _ _ => True) (vx_Q Qc XC mc ms free)
def vx_Post (XC : String → State → State → Prop) (mc ms : Nat) (free : Addr → Prop) : Pt → Array Value → Addr → Pt → Prop := fun A a q B =>
  ∃ (g : JFrame) (mk : MethodId) (t : State) (L : List Loc) (E : String) (ce : Cell), B.U.heap = t.heap ∧ B.U.vm = t.vm ∧ XC E (A.U.calling g mk a) t ∧ t.heap[q]? = some ce ∧ ce.vm = .none ∧ A.U.vm.findClass E = some ce.cls ∧ B.locs = A.locs ++ L ∧ (∀ z ∈ L, free z.base) ∧ B.cells = A.cells + mc ∧ B.slots = A.slots + ms
def vx_Back (l : Launch) (R : Room) (p : Program) (e : Env) (below : List Frame) (s : State) (sargs : Array Value) (y : MethodName) (len W9 : Nat)
    (Pre : Pt → Array Value → Prop) (Post : Pt → Array Value → Option Value → Pt → Prop) (PostX : Pt → Array Value → Addr → Pt → Prop) : Prop :=
  ∀ (m : MethodId) (meth : Method) (c : Code) (A : Pt) (g : JFrame) (ig : Instr) (mk : MethodId) (a : Array Value),
    Stand p l e R s m sargs below meth c A.U A.locs A.cells A.slots → g.method = m → g.locals.size = c.maxLocals → decode c.code g.pc = .ok (ig, len) →
    2 * g.monitorRoom + (g.stack.map fun v => v.category).sum ≤ W9 → A.U.methodNamed? y = some mk → Pre A a →
    (∃ (v : Option Value) (B : Pt), Stand p l e R s m sargs below meth c B.U B.locs B.cells B.slots ∧ Post A a v B ∧
      Steps p.tables e below (doInvoke e (A.U.setTop g) [] mk a).1 (B.U.setTop { g with pc := g.pc + len, stack := v.toList ++ g.stack })) ∨
    (∃ (q : Addr) (B : Pt), Stand p l e R s m sargs below meth c B.U B.locs B.cells B.slots ∧ PostX A a q B ∧
      Steps p.tables e below (doInvoke e (A.U.setTop g) [] mk a).1 ((B.U.setTop g).pushFrame (.throwing q)))
section Payer
variable {l : Launch} {R : Room} {p : Program} {e : Env} {below : List Frame} {s : State} {sargs : Array Value} {y : MethodName} {len W9 : Nat}
theorem vx_back {ws : List Cond} {rm : Room} {Pc : Array Value → State → Prop} {Qc : Array Value → State → Outcome → State → Prop} {XC : String → State → State → Prop} {mc ms : Nat} {free : Addr → Prop} {bytes : ByteArray} {maxL : Nat} {ret : Option FieldType}
    (hM : vx_Met l y ws rm Pc Qc XC mc ms free) (hblind : FrameBlind Pc) (hrc : rm.cells = mc) (hrs : rm.slots = ms)
    (hframes : rm.frames + 1 ≤ R.frames) (hlocals : W9 + (maxL + 11) + rm.locals ≤ R.locals)
    (hws : ∀ w ∈ ws, ∀ a' U, s.WarmedH U.vm → w.before a' U = true) (hcode : Cond.code y bytes maxL ret ∈ ws) (hinit : ∀ a' U, s.WarmedH U.vm → (Cond.initialized y.cls).before a' U = true) :
    vx_Back l R p e below s sargs y len W9 (PreOf R mc ms Pc) (PostOf Qc mc ms free) (vx_Post XC mc ms free) := by
  intro m meth c A g ig mk a X hg hsize hdg hW hn hp
  have h1 : (headSpec ws rm).pre.before a A.U = true := atoms_intro fun w hw => hws w hw _ _ X.warmed
  have h2 : (Cond.code y bytes maxL ret).before a A.U = true := hws _ hcode _ _ X.warmed
  have h3 : (Cond.initialized y.cls).before a A.U = true := hinit _ _ X.warmed
  have h4 : A.cells + (headSpec ws rm).room.cells ≤ R.cells := by rw [show (headSpec ws rm).room.cells = mc from hrc]; exact hp.1
  have h5 : A.slots + (headSpec ws rm).room.slots ≤ R.slots := by rw [show (headSpec ws rm).room.slots = ms from hrs]; exact hp.2.1
  have hPc : Pc a (A.U.calling g mk a) := hblind _ _ _ _ hp.2.2
  obtain ⟨U, Ls, c0, s0⟩ := A
  dsimp only [Pt.U, Pt.locs, Pt.cells, Pt.slots] at h1 h2 h3 h4 h5 X hn hPc ⊢
  obtain ⟨methY, cY, hmY, hcY, -, hlY, -, -, -, -⟩ := Cond.code_spec hn h2
  obtain ⟨kY, hkY, -⟩ := className_of_methodNamed hn
  have hinitY : kY.init = .initialized := Cond.initialized_spec (findClass_of_methodNamed hn) hkY h3
  have h : At U g.method c below := by rw [hg]; exact X.here
  have hlocals9 : W9 + (maxL + 11) + (headSpec ws rm).room.locals ≤ R.locals := hlocals
  have happ : (headSpec ws rm).appliesLoose y e.platform (U.calling g mk a) = true :=
    Spec.appliesLoose_calling (g := g) h hdg hn hkY hinitY
      (X.room_calling (g := g) (R' := (headSpec ws rm).room) hsize hmY hcY hframes (by rw [hlY]; omega) h4 h5) h1
  obtain ⟨mid, hmid⟩ := h.above
  have hfr : (U.setTop g).frames = (.java g :: mid) ++ below := by rw [State.frames_setTop' g h.top, hmid]; rfl
  obtain ⟨o, s₂, hsteps, -, hend, hq⟩ := Steps.callFree hM p X.admits X.cas X.clock (acts := []) hfr happ hPc trivial
  have hq' : vx_Q Qc XC mc ms free a (U.calling g mk a) o s₂ := hq
  rw [State.frames_setTop' g h.top] at hend
  obtain ⟨g₀, hg0⟩ := Option.isSome_iff_exists.mp h.top
  obtain ⟨r, hr⟩ := State.topJava?_eq_some.mp hg0
  have hr' : (({ U with heap := s₂.heap, slotsUsed := s₂.slotsUsed } : State).setVm s₂.vm).frames = .java g₀ :: r := hr
  rcases hq' with ⟨hqc, L, hfe, hL⟩ | ⟨q, rfl, E, ce, L, hx, hce, hcv, hcl, hW₂, hsm, hL⟩
  · obtain ⟨⟨v, rfl⟩, hW₂, e2, q2, q3, q4, q5, q6⟩ := id hfe
    have e3 : s₂ = ({ (U.calling g mk a).setFrames s₂.frames with heap := s₂.heap, slotsUsed := s₂.slotsUsed } : State).setVm s₂.vm := by
      have : s₂ = ({ s₂ with vm := (U.calling g mk a).vm } : State).setVm s₂.vm := rfl
      rw [e2] at this
      exact this
    obtain ⟨c₂, i₂, len₂, hc₂, hd₂, hf₂⟩ := hend
    have hW' : U.WarmedH s₂.vm := hW₂
    have hcc : c₂ = c := by
      have h1 : s₂.code? g.method = U.code? g.method := by
        rw [State.code?_eq, State.code?_eq, hW'.alike.method?]
      exact Option.some.inj (hc₂.symm.trans (h1.trans h.code))
    subst hcc
    have hlen : len₂ = len := by rw [hdg] at hd₂; cases hd₂; rfl
    subst hlen
    have hs₂ : s₂ = (({ U with heap := s₂.heap, slotsUsed := s₂.slotsUsed } : State).setVm s₂.vm).setTop { g with pc := g.pc + len₂, stack := v.toList ++ g.stack } := by
      refine e3.trans ?_
      rw [hf₂, State.calling_eq h.top, State.setFrames_setFrames, State.setTop_of_frames _ hr', hr]
      rfl
    have hsame : U.sameButNew ({ U with heap := s₂.heap, slotsUsed := s₂.slotsUsed } : State) L mc ms := by
      refine ⟨?_, q2, q3, q4, q5, q6⟩
      obtain ⟨t, ht, -⟩ := State.frames_cons hr
      show ({ U with heap := s₂.heap, slotsUsed := s₂.slotsUsed } : State) = { U.setFrames U.frames with heap := s₂.heap, slotsUsed := s₂.slotsUsed }
      rw [State.setFrames_self ht]
    subst hg
    refine Or.inl ⟨v, ⟨(({ U with heap := s₂.heap, slotsUsed := s₂.slotsUsed } : State).setVm s₂.vm), Ls ++ L, c0 + mc, s0 + ms⟩,
      ⟨X.admits, X.cas, X.clock, X.frames, X.room, X.hears, X.method, X.code, (X.here.setHeapUsed s₂.heap s₂.slotsUsed).setVm hW'.alike, X.tail, State.WarmedH.trans X.warmed hW', X.limits, X.bytes, X.same.trans (hsame.setVm s.vm)⟩,
      ⟨g, mk, s₂, L, rfl, rfl, hqc, rfl, hL, rfl, rfl⟩, ?_⟩
    show Steps p.tables e below _ ((({ U with heap := s₂.heap, slotsUsed := s₂.slotsUsed } : State).setVm s₂.vm).setTop { g with pc := g.pc + len₂, stack := v.toList ++ g.stack })
    rw [← hs₂]
    exact hsteps
  · obtain ⟨e2, q2, q3, q4, q5, q6⟩ := id hsm
    have e3 : s₂ = ({ (U.calling g mk a).setFrames s₂.frames with heap := s₂.heap, slotsUsed := s₂.slotsUsed } : State).setVm s₂.vm := by
      have : s₂ = ({ s₂ with vm := (U.calling g mk a).vm } : State).setVm s₂.vm := rfl
      rw [e2] at this
      exact this
    have hf₂ : s₂.frames = .throwing q :: .java g :: U.frames.tail := hend
    have hW' : U.WarmedH s₂.vm := hW₂
    have hs₂ : s₂ = ((({ U with heap := s₂.heap, slotsUsed := s₂.slotsUsed } : State).setVm s₂.vm).setTop g).pushFrame (.throwing q) := by
      refine e3.trans ?_
      rw [hf₂, State.calling_eq h.top, State.setFrames_setFrames, State.pushFrame, State.frames_setTop _ hr', State.setTop_of_frames _ hr', State.setFrames_setFrames, hr]
      rfl
    have hsame : U.sameButNew ({ U with heap := s₂.heap, slotsUsed := s₂.slotsUsed } : State) L mc ms := by
      refine ⟨?_, q2, q3, q4, q5, q6⟩
      obtain ⟨t, ht, -⟩ := State.frames_cons hr
      show ({ U with heap := s₂.heap, slotsUsed := s₂.slotsUsed } : State) = { U.setFrames U.frames with heap := s₂.heap, slotsUsed := s₂.slotsUsed }
      rw [State.setFrames_self ht]
    subst hg
    refine Or.inr ⟨q, ⟨(({ U with heap := s₂.heap, slotsUsed := s₂.slotsUsed } : State).setVm s₂.vm), Ls ++ L, c0 + mc, s0 + ms⟩,
      ⟨X.admits, X.cas, X.clock, X.frames, X.room, X.hears, X.method, X.code, (X.here.setHeapUsed s₂.heap s₂.slotsUsed).setVm hW'.alike, X.tail, State.WarmedH.trans X.warmed hW', X.limits, X.bytes, X.same.trans (hsame.setVm s.vm)⟩,
      ⟨g, mk, s₂, L, E, ce, rfl, rfl, hx, hce, hcv, hcl, rfl, hL, rfl, rfl⟩, ?_⟩
    show Steps p.tables e below _ (((({ U with heap := s₂.heap, slotsUsed := s₂.slotsUsed } : State).setVm s₂.vm).setTop g).pushFrame (.throwing q))
    rw [← hs₂]
    exact hsteps
end Payer
section Calls
variable {p : Program} {l : Launch} {e : Env} {R : Room} {s : State} {m : MethodId} {args : Array Value} {below : List Frame} {meth : Method} {c : Code} {T : State} {locs : List Loc} {cells slots : Nat}
theorem vx_callV (X : Stand p l e R s m args below meth c T locs cells slots) (hexec : p.tables.exec = Jvm.exec) {own C : String} {index : Nat} {y : MethodName} {bytes : ByteArray} {maxL : Nat} {ret : Option FieldType}
    (hown : s.vm.findClass own = some m.cls) (hlink : (Cond.methodLink own index y).before args s = true) (hinst : (Cond.instanceMethod y).before args s = true) (hsel : (Cond.selects C y y).before args s = true)
    (hcode : (Cond.code y bytes maxL ret).before args s = true) (hy : y.cls ≠ "java/lang/invoke/MethodHandle" ∧ y.cls ≠ "java/lang/invoke/VarHandle")
    {W9 : Nat} {Pre : Pt → Array Value → Prop} {Post : Pt → Array Value → Option Value → Pt → Prop} {PostX : Pt → Array Value → Addr → Pt → Prop} (hK : vx_Back l R p e below s args y 3 W9 Pre Post PostX)
    {b : Addr} {cellB : Cell} (hcell : T.heap[b]? = some cellB) (hobj : cellB.vm.isStatics = false) (hcls : s.vm.findClass C = some cellB.cls)
    {g : JFrame} (hg : g.method = m) (hsize : g.locals.size = c.maxLocals) {argsL rest : List Value} (hlen : ∀ sig, parseMethodDescriptor y.desc = some sig → argsL.length = sig.parameters.length)
    (hstack : g.stack = argsL.reverse ++ .ref b :: rest) (hW : 2 * g.monitorRoom + (rest.map fun v => v.category).sum ≤ W9) (hdg : decode c.code g.pc = .ok (.invokevirtual index, 3))
    (hpre : ∀ vm₁, s.WarmedH vm₁ → Pre ⟨T.setVm vm₁, locs, cells, slots⟩ (Value.ref b :: argsL).toArray) :
    (∃ (v : Option Value) (vm₁ : Vm) (B : Pt), s.WarmedH vm₁ ∧ Stand p l e R s m args below meth c B.U B.locs B.cells B.slots ∧ Post ⟨T.setVm vm₁, locs, cells, slots⟩ (Value.ref b :: argsL).toArray v B ∧
      ∀ target, Steps p.tables e below (B.U.setTop { g with pc := g.pc + 3, stack := v.toList ++ rest }) target → Steps p.tables e below (T.setTop g) target) ∨
    (∃ (q : Addr) (vm₁ : Vm) (B : Pt), s.WarmedH vm₁ ∧ Stand p l e R s m args below meth c B.U B.locs B.cells B.slots ∧ PostX ⟨T.setVm vm₁, locs, cells, slots⟩ (Value.ref b :: argsL).toArray q B ∧
      Steps p.tables e below (T.setTop g) ((B.U.setTop { g with stack := rest }).pushFrame (.throwing q))) := by
  obtain ⟨mk, methM, hnamed, hmethM, hstM, habM⟩ := Cond.instanceMethod_spec hinst
  obtain ⟨methM', cM, hmethM', -, -, -, -, -, -, hsigM⟩ := Cond.code_spec hnamed hcode
  cases hmethM.symm.trans hmethM'
  obtain ⟨c2, r2, m2, q1, q2, q3, q4, kP, hkP, hkPi⟩ := Cond.selects_spec hsel
  cases hcls.symm.trans q1
  cases (State.methodFound?_of_named hnamed hy).symm.trans q2
  cases hnamed.symm.trans q3
  have hselP : selectMethod e.platform s.vm cellB.cls mk = .method mk := by rw [Launch.admits_selectMethod X.admits]; exact q4
  obtain ⟨vm₁, X₁, hstep₁⟩ := X.invokevirtual hexec hown hlink hnamed hmethM hstM hkP hkPi hy (a := b) (cell := cellB) hcell
    (fun z h => by rw [h] at hobj; cases hobj) hselP hmethM habM hkP hkPi (g := g) hg (argsL := argsL) (rest := rest) (hlen _ hsigM) hstack hdg
  rcases hK m meth c ⟨T.setVm vm₁, locs, cells, slots⟩ { g with stack := rest } (.invokevirtual index) mk (Value.ref b :: argsL).toArray X₁ hg hsize hdg hW (X₁.named hnamed) (hpre vm₁ X₁.warmed) with ⟨v, B, X', hpost, hsteps⟩ | ⟨q, B, X', hpost, hsteps⟩
  · exact Or.inl ⟨v, vm₁, B, X₁.warmed, X', hpost, fun target h => hstep₁ _ fun acts => by rw [doInvoke_state]; exact hsteps.trans h⟩
  · exact Or.inr ⟨q, vm₁, B, X₁.warmed, X', hpost, hstep₁ _ fun acts => by rw [doInvoke_state]; exact hsteps⟩
theorem vx_callS (X : Stand p l e R s m args below meth c T locs cells slots) (hexec : p.tables.exec = Jvm.exec) {own : String} {index : Nat} {y : MethodName} {bytes : ByteArray} {maxL : Nat} {ret : Option FieldType}
    (hown : s.vm.findClass own = some m.cls) (hlink : (Cond.methodLink own index y).before args s = true) (hstat : (Cond.static y).before args s = true) (hinit : (Cond.initialized y.cls).before args s = true)
    (hcode : (Cond.code y bytes maxL ret).before args s = true) (hy : y.cls ≠ "java/lang/invoke/MethodHandle" ∧ y.cls ≠ "java/lang/invoke/VarHandle")
    {W9 : Nat} {Pre : Pt → Array Value → Prop} {Post : Pt → Array Value → Option Value → Pt → Prop} {PostX : Pt → Array Value → Addr → Pt → Prop} (hK : vx_Back l R p e below s args y 3 W9 Pre Post PostX)
    {g : JFrame} (hg : g.method = m) (hsize : g.locals.size = c.maxLocals) {argsL rest : List Value} (hlen : ∀ sig, parseMethodDescriptor y.desc = some sig → argsL.length = sig.parameters.length)
    (hstack : g.stack = argsL.reverse ++ rest) (hW : 2 * g.monitorRoom + (rest.map fun v => v.category).sum ≤ W9) (hdg : decode c.code g.pc = .ok (.invokestatic index, 3))
    (hpre : ∀ vm₁, s.WarmedH vm₁ → Pre ⟨T.setVm vm₁, locs, cells, slots⟩ argsL.toArray) :
    (∃ (v : Option Value) (vm₁ : Vm) (B : Pt), s.WarmedH vm₁ ∧ Stand p l e R s m args below meth c B.U B.locs B.cells B.slots ∧ Post ⟨T.setVm vm₁, locs, cells, slots⟩ argsL.toArray v B ∧
      ∀ target, Steps p.tables e below (B.U.setTop { g with pc := g.pc + 3, stack := v.toList ++ rest }) target → Steps p.tables e below (T.setTop g) target) ∨
    (∃ (q : Addr) (vm₁ : Vm) (B : Pt), s.WarmedH vm₁ ∧ Stand p l e R s m args below meth c B.U B.locs B.cells B.slots ∧ PostX ⟨T.setVm vm₁, locs, cells, slots⟩ argsL.toArray q B ∧
      Steps p.tables e below (T.setTop g) ((B.U.setTop { g with stack := rest }).pushFrame (.throwing q))) := by
  obtain ⟨mk, hnamed⟩ := Cond.code_named hcode
  obtain ⟨methM, cM, hmethM, -, -, -, -, -, -, hsigM⟩ := Cond.code_spec hnamed hcode
  have hstatic : methM.isStatic = true := Cond.static_spec hnamed hmethM hstat
  obtain ⟨kP, hkP, -⟩ := className_of_methodNamed hnamed
  have hinitP : kP.init = .initialized := Cond.initialized_spec (findClass_of_methodNamed hnamed) hkP hinit
  obtain ⟨vm₁, X₁, hstep₁⟩ := X.invokestatic hexec hown hlink hnamed hmethM hstatic hkP hinitP hy (g := g) hg (argsL := argsL) (rest := rest) (hlen _ hsigM) hstack hdg
  rcases hK m meth c ⟨T.setVm vm₁, locs, cells, slots⟩ { g with stack := rest } (.invokestatic index) mk argsL.toArray X₁ hg hsize hdg hW (X₁.named hnamed) (hpre vm₁ X₁.warmed) with ⟨v, B, X', hpost, hsteps⟩ | ⟨q, B, X', hpost, hsteps⟩
  · exact Or.inl ⟨v, vm₁, B, X₁.warmed, X', hpost, fun target h => hstep₁ _ fun acts => by rw [doInvoke_state]; exact hsteps.trans h⟩
  · exact Or.inr ⟨q, vm₁, B, X₁.warmed, X', hpost, hstep₁ _ fun acts => by rw [doInvoke_state]; exact hsteps⟩
end Calls
theorem vx_cls {s : State} {T : State} {vm₁ : Vm} {E : String} {k : ClassId} (hW : s.WarmedH vm₁) (h : (T.setVm vm₁).vm.findClass E = some k) : s.vm.findClass E = some k := by
  have h1 : vm₁.findClass E = some k := h
  rw [hW.alike.findClass] at h1
  exact h1
/-- the method's frame g, with q thrown over it -/
def vx_W (p : Program) (l : Launch) (e : Env) (R : Room) (s : State) (m : MethodId) (args : Array Value) (below : List Frame) (meth : Method) (c : Code) (H : Heap) (locs : List Loc) (cells slots : Nat) (Q : State → Prop) (g : JFrame) (q : Addr) : Prop :=
  ∀ T : State, T.heap = H → Stand p l e R s m args below meth c T locs cells slots → ∃ t, Steps p.tables e below ((T.setTop g).pushFrame (.throwing q)) t ∧ Q t
def vx_Run (p : Program) (l : Launch) (e : Env) (R : Room) (s : State) (m : MethodId) (args : Array Value) (below : List Frame) (meth : Method) (c : Code) (H : Heap) (locs : List Loc) (cells slots mc ms : Nat) (g : JFrame) (rest : List Value) (Qa : State → Outcome → State → Prop) (XC : String → State → State → Prop) (free : Addr → Prop) : Prop :=
  ∀ T : State, T.heap = H → Stand p l e R s m args below meth c T locs cells slots →
    (∃ (v : Option Value) (st₀ t T' : State) (L : List Loc), st₀.heap = H ∧ Stand p l e R s m args below meth c T' (locs ++ L) (cells + mc) (slots + ms) ∧ (∀ q ∈ L, free q.base) ∧ T'.heap = t.heap ∧ T'.vm = t.vm ∧ Qa st₀ (.returned v) t ∧
      Goes p e below T g T' { g with pc := g.pc + 3, stack := v.toList ++ rest }) ∨
    (∃ (q : Addr) (st₀ t T' : State) (L : List Loc) (E : String) (ce : Cell), st₀.heap = H ∧ Stand p l e R s m args below meth c T' (locs ++ L) (cells + mc) (slots + ms) ∧ (∀ z ∈ L, free z.base) ∧ T'.heap = t.heap ∧ T'.vm = t.vm ∧ XC E st₀ t ∧ t.heap[q]? = some ce ∧ ce.vm = .none ∧ s.vm.findClass E = some ce.cls ∧
      Steps p.tables e below (T.setTop g) ((T'.setTop { g with stack := rest }).pushFrame (.throwing q)))
def vx_X {S : Type} (px : S → Prop) (B : String → S → State → Prop) (A : Nat → Prop) : String → State → State → Prop := fun E st t => ∃ u : S, px u ∧ B E u t ∧ va_F A st t
section Runs
variable {p : Program} {l : Launch} {e : Env} {R : Room} {s : State} {m : MethodId} {args : Array Value} {below : List Frame} {meth : Method} {c : Code} {H : Heap} {locs : List Loc} {cells slots : Nat}
variable {y : MethodName} {bytes cc : ByteArray} {maxL nL mc ms n index : Nat} {ret : Option FieldType} {ws : List Cond} {rm : Room} {Pc : Array Value → State → Prop} {Qc : Array Value → State → Outcome → State → Prop} {XC : String → State → State → Prop} {free : Addr → Prop} {Ts : List Cond} {own C : String} {b : Addr} {As rest : List Value} {g : JFrame}
theorem vx_callBack (cb : CallB R s args own index y bytes maxL ret ws rm mc ms n) (hM : vx_Met l y ws rm Pc Qc XC mc ms free) (hbl : FrameBlind Pc) : vx_Back l R p e below s args y 3 8 (PreOf R mc ms Pc) (PostOf Qc mc ms free) (vx_Post XC mc ms free) := by
  obtain ⟨hrc, hrs, hfr, hlo, hws, hcw, -, hini, -⟩ := cb
  exact vx_back (bytes := bytes) (maxL := maxL) (ret := ret) hM hbl hrc hrs hfr hlo hws hcw (fun a' U hW => word_at hW (Or.inl (by first | rfl | simp [Cond.onTables, Cond.keeps, Cond.steady])) hini)
theorem vx_runV (S : CallFix p m c cc nL s args Ts own) (hM : vx_Met l y ws rm Pc Qc XC mc ms free) (cw : CallW R s args own C index y bytes maxL ret ws rm mc ms n) (hp : PreV s H C b Pc As)
    (hg : g.method = m) (hn : As.length = n) (hsize : g.locals.size = nL) (hstack : g.stack = As.reverse ++ .ref b :: rest) (hW : 2 * g.monitorRoom + (rest.map fun v => v.category).sum ≤ 8) (hdg : decode cc g.pc = .ok (.invokevirtual index, 3)) (hf : cells + mc ≤ R.cells ∧ slots + ms ≤ R.slots) :
    vx_Run p l e R s m args below meth c H locs cells slots mc ms g rest (Qc (Value.ref b :: As).toArray) XC free := by
  have hK : vx_Back l R p e below s args y 3 8 (PreOf R mc ms Pc) (PostOf Qc mc ms free) (vx_Post XC mc ms free) := vx_callBack cw.1 hM hp.1
  obtain ⟨⟨-, -, -, -, -, -, hcode, -, hy, hlen, hl⟩, hin, hse⟩ := cw
  obtain ⟨hx, hb, hml, ho, -⟩ := S
  obtain ⟨-, ⟨cellB, hcB, hoB, hclB⟩, hPc⟩ := hp
  intro T hT X
  rcases vx_callV X hx (C := C) (bytes := bytes) (maxL := maxL) (ret := ret) ho hl hin hse hcode hy hK (by rw [hT]; exact hcB) hoB hclB hg (hsize.trans hml.symm) (argsL := As) (rest := rest) (fun sig h => hn.trans (hlen sig h)) hstack hW (by rw [hb]; exact hdg)
    (fun vm₁ hW₁ => ⟨hf.1, hf.2, hPc (T.setVm vm₁) hT hW₁⟩) with ⟨v, vm₁, ⟨U', l2, c2, s2⟩, hW₁, X', ⟨g', mk, t, L, e1, e2, hq, h1, hL, h2, h3⟩, st⟩ | ⟨q, vm₁, ⟨U', l2, c2, s2⟩, hW₁, X', ⟨g', mk, t, L, E, ce, e1, e2, hq, hce, hcv, hcl, h1, hL, h2, h3⟩, st⟩
  · dsimp only [Pt.U, Pt.locs, Pt.cells, Pt.slots] at X' e1 e2 h1 h2 h3 st
    subst h1; subst h2; subst h3
    exact Or.inl ⟨v, (T.setVm vm₁).calling g' mk (Value.ref b :: As).toArray, t, U', L, hT, X', hL, e1, e2, hq, st⟩
  · dsimp only [Pt.U, Pt.locs, Pt.cells, Pt.slots] at X' e1 e2 h1 h2 h3 st hcl
    subst h1; subst h2; subst h3
    exact Or.inr ⟨q, (T.setVm vm₁).calling g' mk (Value.ref b :: As).toArray, t, U', L, E, ce, hT, X', hL, e1, e2, hq, hce, hcv, vx_cls hW₁ hcl, st⟩
theorem vx_runS (S : CallFix p m c cc nL s args Ts own) (hM : vx_Met l y ws rm Pc Qc XC mc ms free) (cw : CallB R s args own index y bytes maxL ret ws rm mc ms n ∧ (Cond.static y).before args s = true) (hp : PreS s H Pc As)
    (hg : g.method = m) (hn : As.length = n) (hsize : g.locals.size = nL) (hstack : g.stack = As.reverse ++ rest) (hW : 2 * g.monitorRoom + (rest.map fun v => v.category).sum ≤ 8) (hdg : decode cc g.pc = .ok (.invokestatic index, 3)) (hf : cells + mc ≤ R.cells ∧ slots + ms ≤ R.slots) :
    vx_Run p l e R s m args below meth c H locs cells slots mc ms g rest (Qc As.toArray) XC free := by
  have hK : vx_Back l R p e below s args y 3 8 (PreOf R mc ms Pc) (PostOf Qc mc ms free) (vx_Post XC mc ms free) := vx_callBack cw.1 hM hp.1
  obtain ⟨⟨-, -, -, -, -, -, hcode, hini, hy, hlen, hl⟩, hstt⟩ := cw
  obtain ⟨hx, hb, hml, ho, -⟩ := S
  intro T hT X
  rcases vx_callS X hx (bytes := bytes) (maxL := maxL) (ret := ret) ho hl hstt hini hcode hy hK hg (hsize.trans hml.symm) (argsL := As) (rest := rest) (fun sig h => hn.trans (hlen sig h)) hstack hW (by rw [hb]; exact hdg)
    (fun vm₁ hW₁ => ⟨hf.1, hf.2, hp.2 (T.setVm vm₁) hT hW₁⟩) with ⟨v, vm₁, ⟨U', l2, c2, s2⟩, hW₁, X', ⟨g', mk, t, L, e1, e2, hq, h1, hL, h2, h3⟩, st⟩ | ⟨q, vm₁, ⟨U', l2, c2, s2⟩, hW₁, X', ⟨g', mk, t, L, E, ce, e1, e2, hq, hce, hcv, hcl, h1, hL, h2, h3⟩, st⟩
  · dsimp only [Pt.U, Pt.locs, Pt.cells, Pt.slots] at X' e1 e2 h1 h2 h3 st
    subst h1; subst h2; subst h3
    exact Or.inl ⟨v, (T.setVm vm₁).calling g' mk As.toArray, t, U', L, hT, X', hL, e1, e2, hq, st⟩
  · dsimp only [Pt.U, Pt.locs, Pt.cells, Pt.slots] at X' e1 e2 h1 h2 h3 st hcl
    subst h1; subst h2; subst h3
    exact Or.inr ⟨q, (T.setVm vm₁).calling g' mk As.toArray, t, U', L, E, ce, hT, X', hL, e1, e2, hq, hce, hcv, vx_cls hW₁ hcl, st⟩
end Runs
section Rows
variable {p : Program} {l : Launch} {e : Env} {R : Room} {s : State} {m : MethodId} {args : Array Value} {below : List Frame} {meth : Method} {c : Code} {H : Heap} {locs : List Loc} {cells slots : Nat} {Q : State → Prop}
variable {mc ms : Nat} {free : Addr → Prop} {A0 A1 : Nat → Prop} {H0 : Heap} {a : Array Value} {pc : Nat} {ls : Array Slot} {st0 rest : List Value}
theorem vx_keep {st₀ t T' : State} {L : List Loc} (h0 : st₀.heap = H) (e1 : T'.heap = t.heap) (hS : va_S A0 H0 H locs) (hA : ∀ q, q < H.size → A1 q → A0 q) (hf : ∀ q, free q → A0 q) (hL : ∀ q ∈ L, free q.base) (hF : va_F A1 st₀ t) :
    H.size ≤ T'.heap.size ∧ (∀ q : Nat, q < H.size → ¬ A1 q → T'.heap[q]? = H[q]?) ∧ va_S A0 H0 T'.heap (locs ++ L) := by
  obtain ⟨hz, hk⟩ := hF
  rw [h0] at hz hk
  exact ⟨by rw [e1]; exact hz, fun q h1 h2 => by rw [e1]; exact hk q h1 h2,
    ⟨Nat.le_trans hS.1 (by rw [e1]; exact hz), fun q h1 h2 => by rw [e1, hk q (Nat.lt_of_lt_of_le h1 hS.1) (fun z => h2 (hA q (Nat.lt_of_lt_of_le h1 hS.1) z))]; exact hS.2.1 q h1 h2, fun q hq => by
      rcases List.mem_append.mp hq with h | h
      · exact hS.2.2 q h
      · exact hf _ (hL q h)⟩⟩
theorem vx_calli {S SX : Type} {post : Int32 → S → Prop} {px : SX → Prop} {B : S → State → Prop} {BX : String → SX → State → Prop} {AX : Nat → Prop} (hr : vx_Run p l e R s m args below meth c H locs cells slots mc ms (F0 m pc ls st0) rest (va_Qi post B A1 a) (vx_X px BX AX) free) (hS : va_S A0 H0 H locs) (hA : ∀ q, q < H.size → A1 q → A0 q) (hf : ∀ q, free q → A0 q) (hAX : ∀ q, q < H.size → AX q → A0 q)
    (kx : ∀ (E : String) (ce : Cell) (q9 : Addr) (u : SX) (t : State) (H1 : Heap) (locs1 : List Loc), t.heap = H1 → s.vm.Alike t.vm → px u → BX E u t → H.size ≤ H1.size → (∀ q : Nat, q < H.size → ¬ AX q → H1[q]? = H[q]?) → va_S A0 H0 H1 locs1 → H1[q9]? = some ce → ce.vm = .none → s.vm.findClass E = some ce.cls → vx_W p l e R s m args below meth c H1 locs1 (cells + mc) (slots + ms) Q (F0 m pc ls rest) q9)
    (kk : ∀ (r : Int32) (u : S) (t : State) (H1 : Heap) (locs1 : List Loc), t.heap = H1 → s.vm.Alike t.vm → post r u → B u t → H.size ≤ H1.size → (∀ q : Nat, q < H.size → ¬ A1 q → H1[q]? = H[q]?) → va_S A0 H0 H1 locs1 → W p l e R s m args below meth c H1 locs1 (cells + mc) (slots + ms) Q (F0 m (pc + 3) ls (.int r :: rest))) : W p l e R s m args below meth c H locs cells slots Q (F0 m pc ls st0) := by
  intro T hT X
  rcases hr T hT X with ⟨v, st₀, t, T', L, h0, X', hL, e1, e2, ⟨⟨r, u, hv, hp, hb⟩, hF⟩, st⟩ | ⟨q, st₀, t, T', L, E, ce, h0, X', hL, e1, e2, ⟨u, hp, hb, hF⟩, hce, hcv, hcl, st⟩
  · cases hv
    obtain ⟨k1, k2, k3⟩ := vx_keep h0 e1 hS hA hf hL hF
    obtain ⟨t2, a1, b1⟩ := kk r u t T'.heap (locs ++ L) e1.symm (by rw [← e2]; exact X'.warmed.alike) hp hb k1 k2 k3 T' rfl X'
    exact ⟨t2, st t2 a1, b1⟩
  · obtain ⟨k1, k2, k3⟩ := vx_keep h0 e1 hS hAX hf hL hF
    obtain ⟨t2, a1, b1⟩ := kx E ce q u t T'.heap (locs ++ L) e1.symm (by rw [← e2]; exact X'.warmed.alike) hp hb k1 k2 k3 (by rw [e1]; exact hce) hcv hcl T' rfl X'
    exact ⟨t2, st.trans a1, b1⟩
theorem vx_calll {S SX : Type} {post : Int64 → S → Prop} {px : SX → Prop} {B : S → State → Prop} {BX : String → SX → State → Prop} {AX : Nat → Prop} (hr : vx_Run p l e R s m args below meth c H locs cells slots mc ms (F0 m pc ls st0) rest (va_Ql post B A1 a) (vx_X px BX AX) free) (hS : va_S A0 H0 H locs) (hA : ∀ q, q < H.size → A1 q → A0 q) (hf : ∀ q, free q → A0 q) (hAX : ∀ q, q < H.size → AX q → A0 q)
    (kx : ∀ (E : String) (ce : Cell) (q9 : Addr) (u : SX) (t : State) (H1 : Heap) (locs1 : List Loc), t.heap = H1 → s.vm.Alike t.vm → px u → BX E u t → H.size ≤ H1.size → (∀ q : Nat, q < H.size → ¬ AX q → H1[q]? = H[q]?) → va_S A0 H0 H1 locs1 → H1[q9]? = some ce → ce.vm = .none → s.vm.findClass E = some ce.cls → vx_W p l e R s m args below meth c H1 locs1 (cells + mc) (slots + ms) Q (F0 m pc ls rest) q9)
    (kk : ∀ (r : Int64) (u : S) (t : State) (H1 : Heap) (locs1 : List Loc), t.heap = H1 → s.vm.Alike t.vm → post r u → B u t → H.size ≤ H1.size → (∀ q : Nat, q < H.size → ¬ A1 q → H1[q]? = H[q]?) → va_S A0 H0 H1 locs1 → W p l e R s m args below meth c H1 locs1 (cells + mc) (slots + ms) Q (F0 m (pc + 3) ls (.long r :: rest))) : W p l e R s m args below meth c H locs cells slots Q (F0 m pc ls st0) := by
  intro T hT X
  rcases hr T hT X with ⟨v, st₀, t, T', L, h0, X', hL, e1, e2, ⟨⟨r, u, hv, hp, hb⟩, hF⟩, st⟩ | ⟨q, st₀, t, T', L, E, ce, h0, X', hL, e1, e2, ⟨u, hp, hb, hF⟩, hce, hcv, hcl, st⟩
  · cases hv
    obtain ⟨k1, k2, k3⟩ := vx_keep h0 e1 hS hA hf hL hF
    obtain ⟨t2, a1, b1⟩ := kk r u t T'.heap (locs ++ L) e1.symm (by rw [← e2]; exact X'.warmed.alike) hp hb k1 k2 k3 T' rfl X'
    exact ⟨t2, st t2 a1, b1⟩
  · obtain ⟨k1, k2, k3⟩ := vx_keep h0 e1 hS hAX hf hL hF
    obtain ⟨t2, a1, b1⟩ := kx E ce q u t T'.heap (locs ++ L) e1.symm (by rw [← e2]; exact X'.warmed.alike) hp hb k1 k2 k3 (by rw [e1]; exact hce) hcv hcl T' rfl X'
    exact ⟨t2, st.trans a1, b1⟩
theorem vx_callf {S SX : Type} {post : UInt32 → S → Prop} {px : SX → Prop} {B : S → State → Prop} {BX : String → SX → State → Prop} {AX : Nat → Prop} (hr : vx_Run p l e R s m args below meth c H locs cells slots mc ms (F0 m pc ls st0) rest (va_Qf post B A1 a) (vx_X px BX AX) free) (hS : va_S A0 H0 H locs) (hA : ∀ q, q < H.size → A1 q → A0 q) (hf : ∀ q, free q → A0 q) (hAX : ∀ q, q < H.size → AX q → A0 q)
    (kx : ∀ (E : String) (ce : Cell) (q9 : Addr) (u : SX) (t : State) (H1 : Heap) (locs1 : List Loc), t.heap = H1 → s.vm.Alike t.vm → px u → BX E u t → H.size ≤ H1.size → (∀ q : Nat, q < H.size → ¬ AX q → H1[q]? = H[q]?) → va_S A0 H0 H1 locs1 → H1[q9]? = some ce → ce.vm = .none → s.vm.findClass E = some ce.cls → vx_W p l e R s m args below meth c H1 locs1 (cells + mc) (slots + ms) Q (F0 m pc ls rest) q9)
    (kk : ∀ (r : UInt32) (u : S) (t : State) (H1 : Heap) (locs1 : List Loc), t.heap = H1 → s.vm.Alike t.vm → post r u → B u t → H.size ≤ H1.size → (∀ q : Nat, q < H.size → ¬ A1 q → H1[q]? = H[q]?) → va_S A0 H0 H1 locs1 → W p l e R s m args below meth c H1 locs1 (cells + mc) (slots + ms) Q (F0 m (pc + 3) ls (.float r :: rest))) : W p l e R s m args below meth c H locs cells slots Q (F0 m pc ls st0) := by
  intro T hT X
  rcases hr T hT X with ⟨v, st₀, t, T', L, h0, X', hL, e1, e2, ⟨⟨r, u, hv, hp, hb⟩, hF⟩, st⟩ | ⟨q, st₀, t, T', L, E, ce, h0, X', hL, e1, e2, ⟨u, hp, hb, hF⟩, hce, hcv, hcl, st⟩
  · cases hv
    obtain ⟨k1, k2, k3⟩ := vx_keep h0 e1 hS hA hf hL hF
    obtain ⟨t2, a1, b1⟩ := kk r u t T'.heap (locs ++ L) e1.symm (by rw [← e2]; exact X'.warmed.alike) hp hb k1 k2 k3 T' rfl X'
    exact ⟨t2, st t2 a1, b1⟩
  · obtain ⟨k1, k2, k3⟩ := vx_keep h0 e1 hS hAX hf hL hF
    obtain ⟨t2, a1, b1⟩ := kx E ce q u t T'.heap (locs ++ L) e1.symm (by rw [← e2]; exact X'.warmed.alike) hp hb k1 k2 k3 (by rw [e1]; exact hce) hcv hcl T' rfl X'
    exact ⟨t2, st.trans a1, b1⟩
theorem vx_calld {S SX : Type} {post : UInt64 → S → Prop} {px : SX → Prop} {B : S → State → Prop} {BX : String → SX → State → Prop} {AX : Nat → Prop} (hr : vx_Run p l e R s m args below meth c H locs cells slots mc ms (F0 m pc ls st0) rest (va_Qd post B A1 a) (vx_X px BX AX) free) (hS : va_S A0 H0 H locs) (hA : ∀ q, q < H.size → A1 q → A0 q) (hf : ∀ q, free q → A0 q) (hAX : ∀ q, q < H.size → AX q → A0 q)
    (kx : ∀ (E : String) (ce : Cell) (q9 : Addr) (u : SX) (t : State) (H1 : Heap) (locs1 : List Loc), t.heap = H1 → s.vm.Alike t.vm → px u → BX E u t → H.size ≤ H1.size → (∀ q : Nat, q < H.size → ¬ AX q → H1[q]? = H[q]?) → va_S A0 H0 H1 locs1 → H1[q9]? = some ce → ce.vm = .none → s.vm.findClass E = some ce.cls → vx_W p l e R s m args below meth c H1 locs1 (cells + mc) (slots + ms) Q (F0 m pc ls rest) q9)
    (kk : ∀ (r : UInt64) (u : S) (t : State) (H1 : Heap) (locs1 : List Loc), t.heap = H1 → s.vm.Alike t.vm → post r u → B u t → H.size ≤ H1.size → (∀ q : Nat, q < H.size → ¬ A1 q → H1[q]? = H[q]?) → va_S A0 H0 H1 locs1 → W p l e R s m args below meth c H1 locs1 (cells + mc) (slots + ms) Q (F0 m (pc + 3) ls (.double r :: rest))) : W p l e R s m args below meth c H locs cells slots Q (F0 m pc ls st0) := by
  intro T hT X
  rcases hr T hT X with ⟨v, st₀, t, T', L, h0, X', hL, e1, e2, ⟨⟨r, u, hv, hp, hb⟩, hF⟩, st⟩ | ⟨q, st₀, t, T', L, E, ce, h0, X', hL, e1, e2, ⟨u, hp, hb, hF⟩, hce, hcv, hcl, st⟩
  · cases hv
    obtain ⟨k1, k2, k3⟩ := vx_keep h0 e1 hS hA hf hL hF
    obtain ⟨t2, a1, b1⟩ := kk r u t T'.heap (locs ++ L) e1.symm (by rw [← e2]; exact X'.warmed.alike) hp hb k1 k2 k3 T' rfl X'
    exact ⟨t2, st t2 a1, b1⟩
  · obtain ⟨k1, k2, k3⟩ := vx_keep h0 e1 hS hAX hf hL hF
    obtain ⟨t2, a1, b1⟩ := kx E ce q u t T'.heap (locs ++ L) e1.symm (by rw [← e2]; exact X'.warmed.alike) hp hb k1 k2 k3 (by rw [e1]; exact hce) hcv hcl T' rfl X'
    exact ⟨t2, st.trans a1, b1⟩
theorem vx_callv {S SX : Type} {post : S → Prop} {px : SX → Prop} {B : S → State → Prop} {BX : String → SX → State → Prop} {AX : Nat → Prop} (hr : vx_Run p l e R s m args below meth c H locs cells slots mc ms (F0 m pc ls st0) rest (va_Qv post B A1 a) (vx_X px BX AX) free) (hS : va_S A0 H0 H locs) (hA : ∀ q, q < H.size → A1 q → A0 q) (hf : ∀ q, free q → A0 q) (hAX : ∀ q, q < H.size → AX q → A0 q)
    (kx : ∀ (E : String) (ce : Cell) (q9 : Addr) (u : SX) (t : State) (H1 : Heap) (locs1 : List Loc), t.heap = H1 → s.vm.Alike t.vm → px u → BX E u t → H.size ≤ H1.size → (∀ q : Nat, q < H.size → ¬ AX q → H1[q]? = H[q]?) → va_S A0 H0 H1 locs1 → H1[q9]? = some ce → ce.vm = .none → s.vm.findClass E = some ce.cls → vx_W p l e R s m args below meth c H1 locs1 (cells + mc) (slots + ms) Q (F0 m pc ls rest) q9)
    (kk : ∀ (u : S) (t : State) (H1 : Heap) (locs1 : List Loc), t.heap = H1 → s.vm.Alike t.vm → post u → B u t → H.size ≤ H1.size → (∀ q : Nat, q < H.size → ¬ A1 q → H1[q]? = H[q]?) → va_S A0 H0 H1 locs1 → W p l e R s m args below meth c H1 locs1 (cells + mc) (slots + ms) Q (F0 m (pc + 3) ls (rest))) : W p l e R s m args below meth c H locs cells slots Q (F0 m pc ls st0) := by
  intro T hT X
  rcases hr T hT X with ⟨v, st₀, t, T', L, h0, X', hL, e1, e2, ⟨⟨u, hv, hp, hb⟩, hF⟩, st⟩ | ⟨q, st₀, t, T', L, E, ce, h0, X', hL, e1, e2, ⟨u, hp, hb, hF⟩, hce, hcv, hcl, st⟩
  · cases hv
    obtain ⟨k1, k2, k3⟩ := vx_keep h0 e1 hS hA hf hL hF
    obtain ⟨t2, a1, b1⟩ := kk u t T'.heap (locs ++ L) e1.symm (by rw [← e2]; exact X'.warmed.alike) hp hb k1 k2 k3 T' rfl X'
    exact ⟨t2, st t2 a1, b1⟩
  · obtain ⟨k1, k2, k3⟩ := vx_keep h0 e1 hS hAX hf hL hF
    obtain ⟨t2, a1, b1⟩ := kx E ce q u t T'.heap (locs ++ L) e1.symm (by rw [← e2]; exact X'.warmed.alike) hp hb k1 k2 k3 (by rw [e1]; exact hce) hcv hcl T' rfl X'
    exact ⟨t2, st.trans a1, b1⟩
/-- caught by the row x of this method's table; the rows ahead don't take it -/
theorem vx_catch {own name : String} {E : String} {ce : Cell} {q : Addr} (hown : s.vm.findClass own = some m.cls) (pre : List ExceptionTableEntry) (x : ExceptionTableEntry) (suf : List ExceptionTableEntry) (hsplit : c.exceptionTable.toList = pre ++ x :: suf)
    (hpass : ∀ z ∈ pre, covers z pc = false ∨ (z.catchType ≠ 0 ∧ ∃ nm : String, (Cond.classLink own z.catchType nm).before args s = true ∧ va_Nc E nm s)) (hx : covers x pc = true) (h0 : x.catchType ≠ 0)
    (hlink : (Cond.classLink own x.catchType name).before args s = true) (hcast : (Cond.castable E name).before args s = true) (hcell : H[q]? = some ce) (hv : ce.vm = .none) (hcl : s.vm.findClass E = some ce.cls)
    (kk : W p l e R s m args below meth c H locs cells slots Q (F0 m x.handlerPc ls [.ref q])) : vx_W p l e R s m args below meth c H locs cells slots Q (F0 m pc ls rest) q := by
  intro T hT X
  have hpl : e.platform.magicAccessors = ({} : Platform).magicAccessors := by rw [X.admits.platform]
  obtain ⟨c3, c4, hc3, hc4, hasg⟩ := Cond.castable_spec hcast
  cases Option.some.inj (hc3.symm.trans hcl)
  obtain ⟨c5, hc5, hcl5⟩ := Cond.classLink_spec hown hlink e.platform hpl
  cases Option.some.inj (hc4.symm.trans hc5)
  obtain ⟨vm', X', st⟩ := X.thenCaughtThrough q (g := F0 m pc ls rest) rfl (Steps.refl _) (by rw [hT]; exact hcell) (by rw [hv]; rfl) (by obtain ⟨k9, h9, -⟩ := Vm.findClass_spec hcl; exact ⟨k9, h9⟩) pre x suf hsplit
    (fun z hz => by
      rcases hpass z hz with h | ⟨hz0, nm, hl1, hn1⟩
      · exact Or.inl h
      · obtain ⟨c6, hc6, hcl6⟩ := Cond.classLink_spec hown hl1 e.platform hpl
        obtain ⟨a8, b8, h1, h2, h3⟩ := hn1
        cases Option.some.inj (h1.symm.trans hcl)
        cases Option.some.inj (h2.symm.trans hc6)
        exact Or.inr ⟨hz0, _, hcl6, h3⟩) hx (Or.inr ⟨h0, c4, hcl5, hasg⟩)
  obtain ⟨t, a1, b1⟩ := kk (T.setVm vm') hT X'
  exact ⟨t, st.trans a1, b1⟩
end Rows
section Ends
variable {p : Program} {l : Launch} {e : Env} {R : Room} {s : State} {m : MethodId} {args : Array Value} {below : List Frame} {meth : Method} {c : Code} {H : Heap} {locs : List Loc} {cells slots : Nat} {Q : State → Prop}
variable {mc ms : Nat} {free : Addr → Prop} {A0 A1 : Nat → Prop} {H0 : Heap} {a : Array Value} {ls : Array Slot} {st0 rest : List Value}
variable {Qc : Array Value → State → Outcome → State → Prop} {XC : String → State → State → Prop}
/-- what a body that may throw owes at its end -/
def vx_MQ (below : List Frame) (Qc : Array Value → State → Outcome → State → Prop) (XC : String → State → State → Prop) (a : Array Value) (s : State) (mc ms : Nat) (free : Addr → Prop) : State → Prop := fun t =>
  ∃ o, t.status = .running ∧ Ended t below o ∧ vx_Q Qc XC mc ms free a s o t
theorem vx_ret {g : JFrame} {mc ms : Nat} (k : W p l e R s m args below meth c H locs cells slots (MQ below Qc args s mc ms free) g) : W p l e R s m args below meth c H locs cells slots (vx_MQ below Qc XC args s mc ms free) g := by
  intro T hT X
  obtain ⟨t, a1, o, b1, b2, b3, b4⟩ := k T hT X
  exact ⟨t, a1, o, b1, b2, Or.inl ⟨b3, b4⟩⟩
/-- not caught here: it goes on to the caller -/
theorem vx_widen {g : JFrame} {q : Addr} {k n : Nat} (h1 : cells ≤ k) (h2 : slots ≤ n) (kk : vx_W p l e R s m args below meth c H locs k n Q g q) : vx_W p l e R s m args below meth c H locs cells slots Q g q := fun T hT X => kk T hT (stand_widen X h1 h2)
theorem vx_out {pc : Nat} {E : String} {ce : Cell} {q : Addr} {mc ms : Nat} (hout : ∀ x ∈ c.exceptionTable.toList, covers x pc = false) (hlocks : meth.locks = false) (hcell : H[q]? = some ce) (hv : ce.vm = .none) (hcl : s.vm.findClass E = some ce.cls)
    (hx : ∀ t : State, t.heap = H → s.vm.Alike t.vm → XC E s t) (hf : ∀ z ∈ locs, free z.base) (hc : cells ≤ mc) (hs : slots ≤ ms) :
    vx_W p l e R s m args below meth c H locs cells slots (vx_MQ below Qc XC args s mc ms free) (F0 m pc ls rest) q := by
  intro T hT X
  obtain ⟨st1, hrun, hend, hW, hsm⟩ := X.leaveThrown q (g := F0 m pc ls rest) rfl rfl rfl hout hlocks
  have hcell9 : (T.setFrames (.throwing q :: below)).heap[q]? = some ce := by
    show T.heap[q]? = some ce
    rw [hT]; exact hcell
  exact ⟨_, st1, .threw q, hrun, hend, Or.inr ⟨q, rfl, E, ce, locs, hx _ hT hW.alike, hcell9, hv, hcl, hW, hsm.mono hc hs, hf⟩⟩
theorem vx_frame {U : State} {k n : Nat} (h : s.sameButNew ({ U with vm := s.vm } : State) locs k n) : s.heap.size ≤ U.heap.size ∧ ∀ q : Nat, q < s.heap.size → (∀ z ∈ locs, z.base ≠ q) → U.heap[q]? = s.heap[q]? := by
  obtain ⟨-, h2, -, -, -, h6⟩ := h
  refine ⟨h2, fun q hq hz => ?_⟩
  obtain ⟨c9, e1, e2, e3, e4⟩ := h6 q _ (Array.getElem?_eq_getElem hq)
  have hs : c9.slots = (s.heap[q]).slots := Array.ext_getElem? fun i => e4 i fun hm => hz _ hm rfl
  have h9 : c9 = s.heap[q] := by
    rw [hs] at e2
    exact e2
  have e5 : U.heap[q]? = some c9 := e1
  rw [e5, h9, Array.getElem?_eq_getElem hq]
/-- the words of a throw but the four that speak of the heap -/
def vx_no (w : Cond) : Bool := decide (w ≠ .isRef (.static Bundle.tN "UNASSIGNED_STACK" Bundle.steD)) && decide (w ≠ .isRef (.static Bundle.tN "SUPPRESSED_SENTINEL" Bundle.listD)) && decide (w ≠ .laysStatic Bundle.tN "UNASSIGNED_STACK" Bundle.steD) && decide (w ≠ .laysStatic Bundle.tN "SUPPRESSED_SENTINEL" Bundle.listD)
def vx_at0 (own : String) (ic : Nat) (X : String) (names : List String) : List Cond := (Bundle.ownAtoms0 own ic X names).filter vx_no
def vx_atS (own : String) (ic : Nat) (X : String) (names : List String) : List Cond := (Bundle.ownAtoms own ic X names).filter vx_no
/-- a word that the tables alone decide, or a good one -/
def vx_ot (w : Cond) : Bool := w.onTables || goodWord w
theorem vx_ot_at {args a' : Array Value} {s U : State} {w : Cond} (hW : s.WarmedH U.vm) (hvm : s.vm = U.vm) (hg : vx_ot w = true) (h : w.before args s = true) : w.before a' U = true := by
  simp only [vx_ot, Bool.or_eq_true] at hg
  rcases hg with hg | hg
  · exact va_tabs hg hvm h
  · exact word_at hW (good_of_word hg) h
/-- a list's words: the good ones out of the method's own list, the others by premises of their own -/
theorem vx_hat {args : Array Value} {s : State} {L B : List Cond} (h1 : ∀ w ∈ L.filter goodWord, w.before args s = true) (h2 : ∀ w ∈ L.filter (fun w => !goodWord w), w ∈ B) (h3 : ∀ w ∈ B, w.before args s = true) : ∀ w ∈ L, w.before args s = true := by
  intro w hw
  by_cases g : goodWord w = true
  · exact h1 w (List.mem_filter.mpr ⟨hw, g⟩)
  · refine h3 w (h2 w (List.mem_filter.mpr ⟨hw, ?_⟩))
    show (!goodWord w) = true
    cases hgw : goodWord w
    · rfl
    · exact absurd hgw g
theorem vx_c {args : Array Value} {s : State} {w : Cond} {B : List Cond} (h : w.before args s = true) (t : ∀ w ∈ B, w.before args s = true) : ∀ w' ∈ w :: B, w'.before args s = true := fun w' h' => (List.mem_cons.mp h').elim (fun e => by rw [e]; exact h) (t w')
theorem vx_n {args : Array Value} {s : State} : ∀ w ∈ ([] : List Cond), w.before args s = true := fun _ h => nomatch h
theorem vx_own {args : Array Value} {s : State} {L : List Cond} (h1 : ∀ w ∈ L.filter vx_no, w.before args s = true)
    (hU : (Cond.isRef (.static Bundle.tN "UNASSIGNED_STACK" Bundle.steD)).before args s = true) (hN : (Cond.isRef (.static Bundle.tN "SUPPRESSED_SENTINEL" Bundle.listD)).before args s = true)
    (lU : (Cond.laysStatic Bundle.tN "UNASSIGNED_STACK" Bundle.steD).before args s = true) (lN : (Cond.laysStatic Bundle.tN "SUPPRESSED_SENTINEL" Bundle.listD).before args s = true) : ∀ w ∈ L, w.before args s = true := by
  intro w hw
  by_cases e1 : w = .isRef (.static Bundle.tN "UNASSIGNED_STACK" Bundle.steD)
  · rw [e1]; exact hU
  · by_cases e2 : w = .isRef (.static Bundle.tN "SUPPRESSED_SENTINEL" Bundle.listD)
    · rw [e2]; exact hN
    · by_cases e3 : w = .laysStatic Bundle.tN "UNASSIGNED_STACK" Bundle.steD
      · rw [e3]; exact lU
      · by_cases e4 : w = .laysStatic Bundle.tN "SUPPRESSED_SENTINEL" Bundle.listD
        · rw [e4]; exact lN
        · exact h1 w (List.mem_filter.mpr ⟨hw, by unfold vx_no; rw [decide_eq_true e1, decide_eq_true e2, decide_eq_true e3, decide_eq_true e4]; rfl⟩)
/-- where a static field lies, its class's statics cell in H -/
def vx_L (C n d : String) (A : Nat → Prop) (U : State) (H : Heap) : Prop := ∃ (c : ClassId) (k : Class) (i : Nat) (f : Field) (a : Nat) (cell : Cell), U.vm.findClass C = some c ∧ U.fieldFound? C n d = some (c, k, i, f) ∧ f.isStatic = true ∧ k.statics = some a ∧ H[a]? = some cell ∧ cell.vm.isStatics = true ∧ cell.cls = c ∧ f.slot < cell.slots.size ∧ k.staticTypes[f.slot]? = some f.type ∧ ¬ A a
theorem vx_L.moved {C n d : String} {A : Nat → Prop} {u U : State} {H : Heap} (hvm : u.vm.Alike U.vm) (h : vx_L C n d A u H) : vx_L C n d A U H := by
  obtain ⟨c, k, i, f, a, cell, h1, h2, h3, h4, h5, h6, h7, h8, h9, h10⟩ := h
  obtain ⟨k', hi', he⟩ := State.fieldFound?_setVm hvm h2
  exact ⟨c, k', i, f, a, cell, by rw [hvm.findClass]; exact h1, hi', h3, by rw [he]; exact h4, h5, h6, h7, h8, by rw [he]; exact h9, h10⟩
theorem vx_L.kept {C n d : String} {A : Nat → Prop} {U : State} {H H1 : Heap} (h : vx_L C n d A U H) (hq : ∀ a : Nat, a < H.size → ¬ A a → H1[a]? = H[a]?) : vx_L C n d A U H1 := by
  obtain ⟨c, k, i, f, a, cell, h1, h2, h3, h4, h5, h6, h7, h8, h9, h10⟩ := h
  exact ⟨c, k, i, f, a, cell, h1, h2, h3, h4, by rw [hq a (Array.getElem?_eq_some_iff.mp h5).1 h10]; exact h5, h6, h7, h8, h9, h10⟩
theorem vx_L.narrow {C n d : String} {A B : Nat → Prop} {U : State} {H : Heap} (h : vx_L C n d A U H) (hAB : ∀ q, B q → A q) : vx_L C n d B U H := by
  obtain ⟨c, k, i, f, a, cell, h1, h2, h3, h4, h5, h6, h7, h8, h9, h10⟩ := h
  exact ⟨c, k, i, f, a, cell, h1, h2, h3, h4, h5, h6, h7, h8, h9, fun z => h10 (hAB _ z)⟩
theorem vx_L.word {C n d : String} {A : Nat → Prop} {s : State} {args : Array Value} (h : vx_L C n d A s s.heap) : (Cond.laysStatic C n d).before args s = true := by
  obtain ⟨c, k, i, f, a, cell, h1, h2, h3, h4, h5, h6, h7, h8, h9, -⟩ := h
  show (Cond.laysStatic C n d).holds args s none s [] = true
  exact Cond.laysStatic_of h1 h2 h3 h4 h5 h6 h7 h8 h9
/-- .. and what it holds: null or some reference -/
def vx_Zq (C n d : String) (A : Nat → Prop) (U : State) (H : Heap) : Prop := va_Zq C n d A U H ∧ vx_L C n d A U H
theorem vx_Zq.moved {C n d : String} {A : Nat → Prop} {u U : State} {H : Heap} (hvm : u.vm.Alike U.vm) (h : vx_Zq C n d A u H) : vx_Zq C n d A U H := ⟨va_Zq.moved hvm h.1, vx_L.moved hvm h.2⟩
theorem vx_Zq.kept {C n d : String} {A : Nat → Prop} {U : State} {H H1 : Heap} (h : vx_Zq C n d A U H) (hq : ∀ a : Nat, a < H.size → ¬ A a → H1[a]? = H[a]?) : vx_Zq C n d A U H1 := ⟨va_Zq.kept h.1 hq, vx_L.kept h.2 hq⟩
theorem vx_Zq.narrow {C n d : String} {A B : Nat → Prop} {U : State} {H : Heap} (h : vx_Zq C n d A U H) (hAB : ∀ q, B q → A q) : vx_Zq C n d B U H := ⟨va_Zq.narrow h.1 hAB, vx_L.narrow h.2 hAB⟩
theorem vx_Zqof {args : Array Value} {s : State} {C n d : String} {A : Nat → Prop} (hl : (Cond.laysStatic C n d).before args s = true) (hini : (Cond.initialized C).before args s = true) (h : (Cond.isRef (.static C n d)).before args s = true) (hA : ∀ a : Nat, a < s.heap.size → ¬ A a) : vx_Zq C n d A s s.heap := by
  refine ⟨va_Zqof hl hini h hA, ?_⟩
  obtain ⟨c, k, i, f, a, cell, h1, h2, h3, h4, h5, h6, h7, h8, h9⟩ := Cond.laysStatic_spec hl
  exact ⟨c, k, i, f, a, cell, h1, h2, h3, h4, h5, h6, h7, h8, h9, hA a (Array.getElem?_eq_some_iff.mp h5).1⟩
theorem vx_isRef {C n d : String} {v : Value} {A : Nat → Prop} {s : State} {args : Array Value} (h : va_Z C n d v A s s.heap) (hv : v.isRef = true) : (Cond.isRef (.static C n d)).before args s = true := by
  obtain ⟨cf, kf, fi, f, a, cell, h1, h2, h3, h4, h5, h6, h7, -⟩ := h
  have he : (Term.static C n d).eval args s none [] s = some v := by
    simp [Term.eval, State.fieldNamed?, h1, h2, h4, h5, h6, h7]
  simp only [Cond.before, Cond.holds, Cond.value, he]
  cases v <;> simp_all [Value.isRef]
theorem vx_isRefq {C n d : String} {A : Nat → Prop} {s : State} {args : Array Value} (h : va_Zq C n d A s s.heap) : (Cond.isRef (.static C n d)).before args s = true := by
  rcases h with h | ⟨t, h⟩
  · exact vx_isRef h rfl
  · exact vx_isRef h rfl
/-- the same frame, seen from here: as if the method were called anew in this heap -/
theorem vx_rebase {T : State} (X : Stand p l e R s m args below meth c T locs cells slots) {R' : Room} (hf : R'.frames ≤ R.frames) (hl : R'.locals ≤ R.locals) (hc : cells + R'.cells ≤ R.cells) (hs : slots + R'.slots ≤ R.slots) :
    Stand p l e R' ((T.setVm s.vm).setFrames (.invoking m args :: below)) m args below meth c T [] 0 0 := by
  have htop : (T.setVm s.vm).topJava?.isSome := X.here.top
  have hF : ((T.setVm s.vm).setFrames (.invoking m args :: below)).frames = .invoking m args :: below := State.frames_setFrames _ (State.cur_lt_of_top htop)
  obtain ⟨g₀, hg0⟩ := Option.isSome_iff_exists.mp htop
  obtain ⟨r, hr⟩ := State.topJava?_eq_some.mp hg0
  have hl9 : e.platform.stackLimits (T.setVm s.vm).me = e.platform.stackLimits s.me := X.limits
  have hb9 : (T.setVm s.vm).me.stackBytes = s.me.stackBytes := X.bytes
  refine ⟨X.admits, X.cas, X.clock, hF, ?_, X.hears, X.method, X.code, X.here, X.tail, X.warmed, ?_, ?_, ?_⟩
  · have h := X.room
    have hU : ((T.setVm s.vm).setFrames (.invoking m args :: below)).localsInUse = s.localsInUse := by
      rw [State.localsInUse_invoking hF (meth := meth) (c := c) X.method X.code, State.localsInUse_invoking X.frames X.method X.code]
    simp only [State.hasRoom, Bool.and_eq_true, decide_eq_true_eq] at h ⊢
    obtain ⟨⟨⟨⟨h1, h2, h3, h4, h5, h6⟩, h7⟩, h8⟩, h9⟩ := h
    rw [X.frames, List.length_cons] at h2 h3
    have q1 := X.heapSize
    have q2 := X.used
    simp only [hF, hU, List.length_cons, State.stackLimits_setFrames, State.stackBytes_setFrames, hl9, hb9]
    refine ⟨⟨⟨⟨by omega, by omega, by omega, by omega, by omega, h6⟩, ?_⟩, ?_⟩, X.book⟩
    · show T.heap.size + R'.cells ≤ e.platform.maxCells
      omega
    · show T.slotsUsed + R'.slots ≤ e.platform.maxSlots
      omega
  · rw [State.stackLimits_setFrames]; rfl
  · rw [State.stackBytes_setFrames]; rfl
  · refine ⟨?_, Nat.le_refl _, Nat.le_refl _, ?_, ?_, fun a c9 h9 => ⟨c9, h9, rfl, rfl, fun _ _ => rfl⟩⟩
    · obtain ⟨t, ht, -⟩ := State.frames_cons hr
      show T.setVm s.vm = { ((T.setVm s.vm).setFrames (.invoking m args :: below)).setFrames (T.setVm s.vm).frames with heap := T.heap, slotsUsed := T.slotsUsed }
      rw [State.setFrames_setFrames, State.setFrames_self ht]
      rfl
    · show T.slotsUsed = T.slotsUsed + ((T.heap.toList.drop T.heap.size).map (·.slots.size)).sum
      rw [List.drop_eq_nil_of_le (Nat.le_of_eq Array.length_toList)]
      rfl
    · show ((T.heap.toList.drop T.heap.size).map (·.slots.size)).sum ≤ 0
      rw [List.drop_eq_nil_of_le (Nat.le_of_eq Array.length_toList)]
      exact Nat.le_refl _
/-- 'throw new E()': new; dup; invokespecial; athrow -/
theorem vx_throw0 {cc : ByteArray} {pc : Nat} (hexec : p.tables.exec = Jvm.exec) (hb : c.code = cc) (hl : l.stackTraces = false) {own cls : String} {names : List String} {ik ic mc ms : Nat} {A : Nat → Prop}
    (hown : s.vm.findClass own = some m.cls) (hcls : Bundle.fit cls = true) (hnames : ∀ n ∈ names, Bundle.fit n = true)
    (hk : (Cond.classLink own ik cls).before args s = true) (hini : (Cond.initialized cls).before args s = true) (hat : ∀ w ∈ vx_at0 own ic cls names, w.before args s = true)
    (hgood : ∀ w ∈ Cond.classLink own ik cls :: Cond.initialized cls :: vx_at0 own ic cls names, vx_ot w = true)
    (hU : vx_Zq Bundle.tN "UNASSIGNED_STACK" Bundle.steD A s s.heap) (hN : vx_Zq Bundle.tN "SUPPRESSED_SENTINEL" Bundle.listD A s s.heap) (hS : va_S A s.heap H locs) (hsize : ls.size = c.maxLocals)
    (d0 : decode cc pc = .ok (.new ik, 3)) (d3 : decode cc (pc + 3) = .ok (.dup, 1)) (d4 : decode cc (pc + 4) = .ok (.invokespecial ic, 3)) (d7 : decode cc (pc + 7) = .ok (.athrow, 1))
    (hout : ∀ x ∈ c.exceptionTable.toList, covers x (pc + 7) = false)
    (hRframes : names.length + 3 < R.frames) (hRlocals : (rest.map fun v => v.category).sum + (13 * (names.length + 1) + 42) ≤ R.locals) (hRcells : cells + 1 ≤ R.cells) (hRslots : slots + 6 ≤ R.slots) (hlocks : meth.locks = false)
    (hx : ∀ t : State, s.vm.Alike t.vm → H.size ≤ t.heap.size → (∀ q : Nat, q < H.size → t.heap[q]? = H[q]?) → XC cls s t)
    (hf : ∀ z ∈ locs, free z.base) (hc : cells + 1 ≤ mc) (hs : slots + 6 ≤ ms) :
    W p l e R s m args below meth c H locs cells slots (vx_MQ below Qc XC args s mc ms free) (F0 m pc ls rest) := by
  intro T hT X
  have htr : e.platform.stackTraces = false := (show e.platform.stackTraces = l.stackTraces by rw [X.admits.platform]).trans hl
  have Y := vx_rebase X (R' := { frames := R.frames, locals := R.locals, cells := 1, slots := 6 }) (Nat.le_refl _) (Nat.le_refl _) hRcells hRslots
  obtain ⟨s', hA⟩ : ∃ z, z = (T.setVm s.vm).setFrames (.invoking m args :: below) := ⟨_, rfl⟩
  rw [← hA] at Y
  have hvm : s'.vm = s.vm := by rw [hA]; rfl
  have hhp : s'.heap = H := by rw [hA]; exact hT
  have hW0 : s.WarmedH s'.vm := by rw [hvm]; exact State.WarmedH.refl s
  have hat' : ∀ w ∈ vx_at0 own ic cls names, w.before args s' = true := fun w hw => vx_ot_at hW0 hvm.symm (hgood w (List.mem_cons_of_mem _ (List.mem_cons_of_mem _ hw))) (hat w hw)
  have hk' : (Cond.classLink own ik cls).before args s' = true := vx_ot_at hW0 hvm.symm (hgood _ List.mem_cons_self) hk
  have hini' : (Cond.initialized cls).before args s' = true := vx_ot_at hW0 hvm.symm (hgood _ (List.mem_cons_of_mem _ List.mem_cons_self)) hini
  have hU' : vx_Zq Bundle.tN "UNASSIGNED_STACK" Bundle.steD A s' s'.heap := by rw [hhp]; exact vx_Zq.moved hW0.alike (hU.kept hS.2.1)
  have hN' : vx_Zq Bundle.tN "SUPPRESSED_SENTINEL" Bundle.listD A s' s'.heap := by rw [hhp]; exact vx_Zq.moved hW0.alike (hN.kept hS.2.1)
  have h : ∀ w ∈ Bundle.ownAtoms0 own ic cls names, w.before args s' = true := vx_own hat' (vx_isRefq hU'.1) (vx_isRefq hN'.1) hU'.2.word hN'.2.word
  have hown' : s'.vm.findClass own = some m.cls := by rw [hvm]; exact hown
  have hins : (Cond.instantiable cls 6).before args s' = true := h _ (by simp [Bundle.ownAtoms0])
  obtain ⟨vm₁, cX, kX, hfX, hkX, -, -, X₁, st1⟩ := Y.newCold hexec (own := own) (C := cls) (index := ik) (n := 6) hown' hk' hins hini'
    (g := F0 m pc ls rest) rfl (by rw [hb]; exact d0) (Nat.le_refl _) (Nat.le_refl _)
  generalize hT1 : (T.setVm vm₁).pushCell { cls := cX, slots := kX.instanceTypes.map defaultValue, vm := .none } = T1 at X₁ st1
  have hcat : (Value.ref T.heap.size).category = 1 := rfl
  have hcellA : T1.heap[T.heap.size]? = some (freshCell cX kX) := by rw [← hT1]; exact State.heap_pushCell_size _ _
  have d3' : decode c.code (pc + 3) = .ok (.dup, 1) := by rw [hb]; exact d3
  obtain ⟨U, hsteps, hrun, hend, hW, hsame, ce, hce, hO⟩ := X₁.ctorThrow0 hexec htr (own := own) (cls := cls) (names := names) (ic := ic) hown' hcls hnames h (fun x hx => nomatch hx) hfX hkX hcellA (by rw [hhp, hT]; exact Nat.le_refl _)
    (g := { method := m, pc := pc + 4, locals := ls, stack := .ref T.heap.size :: .ref T.heap.size :: rest, locked := none }) rfl hsize rfl rfl (rest := rest) rfl
    (by rw [hb]; exact d4) (by rw [hb]; exact d7) hout hRframes (by simp only [List.map_cons, List.sum_cons, hcat]; omega) hlocks
  obtain ⟨f1, f2⟩ := vx_frame hsame
  rw [hhp] at f1 f2
  have hWs : s.WarmedH U.vm := State.WarmedH.trans hW0 hW
  have hcl : s.vm.findClass cls = some ce.cls := by
    have h9 := hO.cls
    rw [hvm] at h9
    exact h9
  have hall : s.sameButNew ({ U with vm := s.vm } : State) locs mc ms := by
    subst hA
    obtain ⟨e1, e2⟩ := hsame
    rw [State.setFrames_setFrames] at e1
    have h2 : (T.setVm s.vm).sameButNew ({ U with vm := s.vm } : State) [] (0 + 1) (0 + 6) := ⟨e1, e2⟩
    have h3 := X.same.trans h2
    rw [List.append_nil] at h3
    exact h3.mono hc hs
  refine ⟨U, ?_, .threw T.heap.size, hrun, hend, Or.inr ⟨T.heap.size, rfl, cls, ce, locs, hx U hWs.alike f1 (fun q hq => f2 q hq (fun z hz => nomatch hz)), hce, hO.vm, hcl, hWs, hall, hf⟩⟩
  refine st1 _ ?_
  show Steps p.tables e below (T1.setTop { method := m, pc := pc + 3, locals := ls, stack := .ref T.heap.size :: rest, locked := none }) _
  jvm_step X₁.here [X₁.here.top, hexec, d3', Value.category]
  exact hsteps
/-- 'throw new E("text")': new; dup; ldc; invokespecial; athrow -/
theorem vx_throwS {cc : ByteArray} {pc : Nat} (hexec : p.tables.exec = Jvm.exec) (hb : c.code = cc) (hl : l.stackTraces = false) {own cls text : String} {names : List String} {ik is ic mc ms sa : Nat} {A : Nat → Prop}
    (hown : s.vm.findClass own = some m.cls) (hcls : Bundle.fit cls = true) (hnames : ∀ n ∈ names, Bundle.fit n = true)
    (hk : (Cond.classLink own ik cls).before args s = true) (hini : (Cond.initialized cls).before args s = true) (hstr : vk_R own is text sa s) (hat : ∀ w ∈ vx_atS own ic cls names, w.before args s = true)
    (hgood : ∀ w ∈ Cond.classLink own ik cls :: Cond.initialized cls :: vx_atS own ic cls names, vx_ot w = true)
    (hU : vx_Zq Bundle.tN "UNASSIGNED_STACK" Bundle.steD A s s.heap) (hN : vx_Zq Bundle.tN "SUPPRESSED_SENTINEL" Bundle.listD A s s.heap) (hS : va_S A s.heap H locs) (hsize : ls.size = c.maxLocals)
    (d0 : decode cc pc = .ok (.new ik, 3)) (d3 : decode cc (pc + 3) = .ok (.dup, 1)) (d4 : decode cc (pc + 4) = .ok (.ldc is, 2)) (d6 : decode cc (pc + 6) = .ok (.invokespecial ic, 3)) (d9 : decode cc (pc + 9) = .ok (.athrow, 1))
    (hout : ∀ x ∈ c.exceptionTable.toList, covers x (pc + 9) = false)
    (hRframes : names.length + 3 < R.frames) (hRlocals : (rest.map fun v => v.category).sum + (13 * (names.length + 1) + 43) ≤ R.locals) (hRcells : cells + 1 ≤ R.cells) (hRslots : slots + 6 ≤ R.slots) (hlocks : meth.locks = false)
    (hx : ∀ t : State, s.vm.Alike t.vm → H.size ≤ t.heap.size → (∀ q : Nat, q < H.size → t.heap[q]? = H[q]?) → XC cls s t)
    (hf : ∀ z ∈ locs, free z.base) (hc : cells + 1 ≤ mc) (hs : slots + 6 ≤ ms) :
    W p l e R s m args below meth c H locs cells slots (vx_MQ below Qc XC args s mc ms free) (F0 m pc ls rest) := by
  intro T hT X
  have htr : e.platform.stackTraces = false := (show e.platform.stackTraces = l.stackTraces by rw [X.admits.platform]).trans hl
  have Y := vx_rebase X (R' := { frames := R.frames, locals := R.locals, cells := 1, slots := 6 }) (Nat.le_refl _) (Nat.le_refl _) hRcells hRslots
  obtain ⟨s', hA⟩ : ∃ z, z = (T.setVm s.vm).setFrames (.invoking m args :: below) := ⟨_, rfl⟩
  rw [← hA] at Y
  have hvm : s'.vm = s.vm := by rw [hA]; rfl
  have hhp : s'.heap = H := by rw [hA]; exact hT
  have hW0 : s.WarmedH s'.vm := by rw [hvm]; exact State.WarmedH.refl s
  have hat' : ∀ w ∈ vx_atS own ic cls names, w.before args s' = true := fun w hw => vx_ot_at hW0 hvm.symm (hgood w (List.mem_cons_of_mem _ (List.mem_cons_of_mem _ hw))) (hat w hw)
  have hk' : (Cond.classLink own ik cls).before args s' = true := vx_ot_at hW0 hvm.symm (hgood _ List.mem_cons_self) hk
  have hini' : (Cond.initialized cls).before args s' = true := vx_ot_at hW0 hvm.symm (hgood _ (List.mem_cons_of_mem _ List.mem_cons_self)) hini
  have hU' : vx_Zq Bundle.tN "UNASSIGNED_STACK" Bundle.steD A s' s'.heap := by rw [hhp]; exact vx_Zq.moved hW0.alike (hU.kept hS.2.1)
  have hN' : vx_Zq Bundle.tN "SUPPRESSED_SENTINEL" Bundle.listD A s' s'.heap := by rw [hhp]; exact vx_Zq.moved hW0.alike (hN.kept hS.2.1)
  have h : ∀ w ∈ Bundle.ownAtoms own ic cls names, w.before args s' = true := vx_own hat' (vx_isRefq hU'.1) (vx_isRefq hN'.1) hU'.2.word hN'.2.word
  have hown' : s'.vm.findClass own = some m.cls := by rw [hvm]; exact hown
  have hins : (Cond.instantiable cls 6).before args s' = true := h _ (by simp [Bundle.ownAtoms])
  obtain ⟨vm₁, cX, kX, hfX, hkX, -, -, X₁, st1⟩ := Y.newCold hexec (own := own) (C := cls) (index := ik) (n := 6) hown' hk' hins hini'
    (g := F0 m pc ls rest) rfl (by rw [hb]; exact d0) (Nat.le_refl _) (Nat.le_refl _)
  generalize hT1 : (T.setVm vm₁).pushCell { cls := cX, slots := kX.instanceTypes.map defaultValue, vm := .none } = T1 at X₁ st1
  have hcat : (Value.ref T.heap.size).category = 1 := rfl
  have hcellA : T1.heap[T.heap.size]? = some (freshCell cX kX) := by rw [← hT1]; exact State.heap_pushCell_size _ _
  have d3' : decode c.code (pc + 3) = .ok (.dup, 1) := by rw [hb]; exact d3
  have d4' : decode c.code (pc + 4) = .ok (.ldc is, 2) := by rw [hb]; exact d4
  have hstr' : vk_R own is text sa s' := vk_R.warm hW0 hstr
  obtain ⟨U, hsteps, hrun, hend, hW, hsame, ce, hce, hO⟩ := X₁.ctorThrowS hexec htr (own := own) (cls := cls) (names := names) (ic := ic) hown' hcls hnames h (fun x hx => nomatch hx) hfX hkX hcellA (by rw [hhp, hT]; exact Nat.le_refl _) (msg := .ref sa) rfl
    (g := { method := m, pc := pc + 6, locals := ls, stack := .ref sa :: .ref T.heap.size :: .ref T.heap.size :: rest, locked := none }) rfl hsize rfl rfl (rest := rest) rfl
    (by rw [hb]; exact d6) (by rw [hb]; exact d9) hout hRframes (by simp only [List.map_cons, List.sum_cons, hcat]; omega) hlocks
  obtain ⟨f1, f2⟩ := vx_frame hsame
  rw [hhp] at f1 f2
  have hWs : s.WarmedH U.vm := State.WarmedH.trans hW0 hW
  have hcl : s.vm.findClass cls = some ce.cls := by
    have h9 := hO.cls
    rw [hvm] at h9
    exact h9
  have hall : s.sameButNew ({ U with vm := s.vm } : State) locs mc ms := by
    subst hA
    obtain ⟨e1, e2⟩ := hsame
    rw [State.setFrames_setFrames] at e1
    have h2 : (T.setVm s.vm).sameButNew ({ U with vm := s.vm } : State) [] (0 + 1) (0 + 6) := ⟨e1, e2⟩
    have h3 := X.same.trans h2
    rw [List.append_nil] at h3
    exact h3.mono hc hs
  refine ⟨U, ?_, .threw T.heap.size, hrun, hend, Or.inr ⟨T.heap.size, rfl, cls, ce, locs, hx U hWs.alike f1 (fun q hq => f2 q hq (fun z hz => nomatch hz)), hce, hO.vm, hcl, hWs, hall, hf⟩⟩
  refine st1 _ ?_
  show Steps p.tables e below (T1.setTop { method := m, pc := pc + 3, locals := ls, stack := .ref T.heap.size :: rest, locked := none }) _
  jvm_step X₁.here [X₁.here.top, hexec, d3', Value.category]
  exact X₁.ldcString hexec (own := own) (text := text) (index := is) (a := sa) hown' hstr'.1 hstr'.2
    (g := { method := m, pc := pc + 4, locals := ls, stack := .ref T.heap.size :: .ref T.heap.size :: rest, locked := none }) rfl d4' _ hsteps
/-- 'throw new E("text")', the text by a wide index -/
theorem vx_throwSW {cc : ByteArray} {pc : Nat} (hexec : p.tables.exec = Jvm.exec) (hb : c.code = cc) (hl : l.stackTraces = false) {own cls text : String} {names : List String} {ik is ic mc ms sa : Nat} {A : Nat → Prop}
    (hown : s.vm.findClass own = some m.cls) (hcls : Bundle.fit cls = true) (hnames : ∀ n ∈ names, Bundle.fit n = true)
    (hk : (Cond.classLink own ik cls).before args s = true) (hini : (Cond.initialized cls).before args s = true) (hstr : vk_R own is text sa s) (hat : ∀ w ∈ vx_atS own ic cls names, w.before args s = true)
    (hgood : ∀ w ∈ Cond.classLink own ik cls :: Cond.initialized cls :: vx_atS own ic cls names, vx_ot w = true)
    (hU : vx_Zq Bundle.tN "UNASSIGNED_STACK" Bundle.steD A s s.heap) (hN : vx_Zq Bundle.tN "SUPPRESSED_SENTINEL" Bundle.listD A s s.heap) (hS : va_S A s.heap H locs) (hsize : ls.size = c.maxLocals)
    (d0 : decode cc pc = .ok (.new ik, 3)) (d3 : decode cc (pc + 3) = .ok (.dup, 1)) (d4 : decode cc (pc + 4) = .ok (.ldc_w is, 3)) (d7 : decode cc (pc + 7) = .ok (.invokespecial ic, 3)) (d10 : decode cc (pc + 10) = .ok (.athrow, 1))
    (hout : ∀ x ∈ c.exceptionTable.toList, covers x (pc + 10) = false)
    (hRframes : names.length + 3 < R.frames) (hRlocals : (rest.map fun v => v.category).sum + (13 * (names.length + 1) + 43) ≤ R.locals) (hRcells : cells + 1 ≤ R.cells) (hRslots : slots + 6 ≤ R.slots) (hlocks : meth.locks = false)
    (hx : ∀ t : State, s.vm.Alike t.vm → H.size ≤ t.heap.size → (∀ q : Nat, q < H.size → t.heap[q]? = H[q]?) → XC cls s t)
    (hf : ∀ z ∈ locs, free z.base) (hc : cells + 1 ≤ mc) (hs : slots + 6 ≤ ms) :
    W p l e R s m args below meth c H locs cells slots (vx_MQ below Qc XC args s mc ms free) (F0 m pc ls rest) := by
  intro T hT X
  have htr : e.platform.stackTraces = false := (show e.platform.stackTraces = l.stackTraces by rw [X.admits.platform]).trans hl
  have Y := vx_rebase X (R' := { frames := R.frames, locals := R.locals, cells := 1, slots := 6 }) (Nat.le_refl _) (Nat.le_refl _) hRcells hRslots
  obtain ⟨s', hA⟩ : ∃ z, z = (T.setVm s.vm).setFrames (.invoking m args :: below) := ⟨_, rfl⟩
  rw [← hA] at Y
  have hvm : s'.vm = s.vm := by rw [hA]; rfl
  have hhp : s'.heap = H := by rw [hA]; exact hT
  have hW0 : s.WarmedH s'.vm := by rw [hvm]; exact State.WarmedH.refl s
  have hat' : ∀ w ∈ vx_atS own ic cls names, w.before args s' = true := fun w hw => vx_ot_at hW0 hvm.symm (hgood w (List.mem_cons_of_mem _ (List.mem_cons_of_mem _ hw))) (hat w hw)
  have hk' : (Cond.classLink own ik cls).before args s' = true := vx_ot_at hW0 hvm.symm (hgood _ List.mem_cons_self) hk
  have hini' : (Cond.initialized cls).before args s' = true := vx_ot_at hW0 hvm.symm (hgood _ (List.mem_cons_of_mem _ List.mem_cons_self)) hini
  have hU' : vx_Zq Bundle.tN "UNASSIGNED_STACK" Bundle.steD A s' s'.heap := by rw [hhp]; exact vx_Zq.moved hW0.alike (hU.kept hS.2.1)
  have hN' : vx_Zq Bundle.tN "SUPPRESSED_SENTINEL" Bundle.listD A s' s'.heap := by rw [hhp]; exact vx_Zq.moved hW0.alike (hN.kept hS.2.1)
  have h : ∀ w ∈ Bundle.ownAtoms own ic cls names, w.before args s' = true := vx_own hat' (vx_isRefq hU'.1) (vx_isRefq hN'.1) hU'.2.word hN'.2.word
  have hown' : s'.vm.findClass own = some m.cls := by rw [hvm]; exact hown
  have hins : (Cond.instantiable cls 6).before args s' = true := h _ (by simp [Bundle.ownAtoms])
  obtain ⟨vm₁, cX, kX, hfX, hkX, -, -, X₁, st1⟩ := Y.newCold hexec (own := own) (C := cls) (index := ik) (n := 6) hown' hk' hins hini'
    (g := F0 m pc ls rest) rfl (by rw [hb]; exact d0) (Nat.le_refl _) (Nat.le_refl _)
  generalize hT1 : (T.setVm vm₁).pushCell { cls := cX, slots := kX.instanceTypes.map defaultValue, vm := .none } = T1 at X₁ st1
  have hcat : (Value.ref T.heap.size).category = 1 := rfl
  have hcellA : T1.heap[T.heap.size]? = some (freshCell cX kX) := by rw [← hT1]; exact State.heap_pushCell_size _ _
  have d3' : decode c.code (pc + 3) = .ok (.dup, 1) := by rw [hb]; exact d3
  have d4' : decode c.code (pc + 4) = .ok (.ldc_w is, 3) := by rw [hb]; exact d4
  have hstr' : vk_R own is text sa s' := vk_R.warm hW0 hstr
  obtain ⟨U, hsteps, hrun, hend, hW, hsame, ce, hce, hO⟩ := X₁.ctorThrowS hexec htr (own := own) (cls := cls) (names := names) (ic := ic) hown' hcls hnames h (fun x hx => nomatch hx) hfX hkX hcellA (by rw [hhp, hT]; exact Nat.le_refl _) (msg := .ref sa) rfl
    (g := { method := m, pc := pc + 7, locals := ls, stack := .ref sa :: .ref T.heap.size :: .ref T.heap.size :: rest, locked := none }) rfl hsize rfl rfl (rest := rest) rfl
    (by rw [hb]; exact d7) (by rw [hb]; exact d10) hout hRframes (by simp only [List.map_cons, List.sum_cons, hcat]; omega) hlocks
  obtain ⟨f1, f2⟩ := vx_frame hsame
  rw [hhp] at f1 f2
  have hWs : s.WarmedH U.vm := State.WarmedH.trans hW0 hW
  have hcl : s.vm.findClass cls = some ce.cls := by
    have h9 := hO.cls
    rw [hvm] at h9
    exact h9
  have hall : s.sameButNew ({ U with vm := s.vm } : State) locs mc ms := by
    subst hA
    obtain ⟨e1, e2⟩ := hsame
    rw [State.setFrames_setFrames] at e1
    have h2 : (T.setVm s.vm).sameButNew ({ U with vm := s.vm } : State) [] (0 + 1) (0 + 6) := ⟨e1, e2⟩
    have h3 := X.same.trans h2
    rw [List.append_nil] at h3
    exact h3.mono hc hs
  refine ⟨U, ?_, .threw T.heap.size, hrun, hend, Or.inr ⟨T.heap.size, rfl, cls, ce, locs, hx U hWs.alike f1 (fun q hq => f2 q hq (fun z hz => nomatch hz)), hce, hO.vm, hcl, hWs, hall, hf⟩⟩
  refine st1 _ ?_
  show Steps p.tables e below (T1.setTop { method := m, pc := pc + 3, locals := ls, stack := .ref T.heap.size :: rest, locked := none }) _
  jvm_step X₁.here [X₁.here.top, hexec, d3', Value.category]
  exact X₁.ldcStringW hexec (own := own) (text := text) (index := is) (a := sa) hown' hstr'.1 hstr'.2
    (g := { method := m, pc := pc + 4, locals := ls, stack := .ref T.heap.size :: .ref T.heap.size :: rest, locked := none }) rfl d4' _ hsteps
end Ends
section Bodies
variable {l : Launch}
theorem vx_ofW {y : MethodName} {ws ws' : List Cond} {rm : Room} {Pc : Array Value → State → Prop} {Qc : Array Value → State → Outcome → State → Prop} {XC : String → State → State → Prop} {mc ms : Nat} {free : Addr → Prop} {cc : ByteArray} {maxL : Nat} {ret : Option FieldType}
    (hy : plainName y.cls = true) (hw : ws = Cond.code y cc maxL ret :: ws')
    (body : ∀ p e s m args below meth c s₁, BodyLoose p l y (headSpec ws rm) cc maxL ret e s m args below meth c s₁ → c.maxLocals = maxL → (∀ x ∈ c.exceptionTable.toList, False) → Pc args s →
      W p l e (headSpec ws rm).room s m args below meth c s.heap [] 0 0 (vx_MQ below Qc XC args s mc ms free) (entryFrame m args maxL)) : vx_Met l y ws rm Pc Qc XC mc ms free := by
  refine MetFree.of_bodyS (code := cc) (maxLocals := maxL) (ret := ret) hy ?_ ?_
  · intro args s m h hn
    obtain ⟨meth, c, h1, h2, h3, h4, h5, h6, -, -⟩ := Cond.code_spec hn (atoms_spec (ws := ws) h _ (by rw [hw]; exact List.mem_cons_self))
    exact ⟨meth, c, h1, h2, h3, h4, h5, h6⟩
  · intro p e s m args below meth c s₁ B hml hP _
    have hh0 : s₁.heap = s.heap := by rw [B.state]; rfl
    have ht : ∀ x ∈ c.exceptionTable.toList, False := by
      obtain ⟨meth9, c9, h1, h2, -, -, -, -, h7, -⟩ := Cond.code_spec B.named (atoms_spec (ws := ws) B.pre _ (by rw [hw]; exact List.mem_cons_self))
      cases Option.some.inj (h1.symm.trans B.method)
      cases Option.some.inj (h2.symm.trans (Stand.of_body B).code)
      intro x hx
      rw [Array.isEmpty_iff.mp h7] at hx
      cases hx
    obtain ⟨t, a1, o, b1, b2, b3⟩ := body p e s m args below meth c s₁ B hml ht hP s₁ hh0 (Stand.of_body B)
    exact ⟨t, o, a1, b1, b2, b3⟩
/-- the table of a body with handlers -/
theorem vx_table {p : Program} {x y : MethodName} {S : Spec} {cc bytes : ByteArray} {maxL maxL' : Nat} {ret ret' : Option FieldType} {e : Env} {s s₁ : State} {m : MethodId} {args : Array Value} {below : List Frame} {meth : Method} {c : Code} {hh : List (Nat × Nat × Nat × Nat)}
    (B : BodyLoose p l y S cc maxL ret e s m args below meth c s₁) (h : (Cond.codeWith y bytes maxL' ret' hh).before args s = true) : c.exceptionTable.toList = tableOf hh := by
  obtain ⟨m9, meth9, c9, hn9, h1, h2, -, -, h6, -⟩ := Cond.codeWith_spec h
  cases Option.some.inj (hn9.symm.trans B.named)
  cases Option.some.inj (h1.symm.trans B.method)
  cases Option.some.inj (h2.symm.trans (Stand.of_body B).code)
  rw [← h6, table_eq]
end Bodies
end VXA
/-! ===== END ===== -/
/-! ===== BEGIN a static call of a method with an exception table ===== -/
section VXS
variable {p : Program} {l : Launch} {e : Env} {R : Room} {s : State} {m : MethodId} {args : Array Value} {below : List Frame} {meth : Method} {c : Code} {T : State} {H : Heap} {locs : List Loc} {cells slots : Nat}
abbrev vx_CSW (R : Room) (s : State) (args : Array Value) (own : String) (index : Nat) (y : MethodName) (bytes : ByteArray) (maxL : Nat) (ret : Option FieldType) (hh : List (Nat × Nat × Nat × Nat)) (ws : List Cond) (rm : Room) (mc ms n : Nat) : Prop :=
  (rm.cells = mc ∧ rm.slots = ms ∧ rm.frames + 1 ≤ R.frames ∧ 8 + (maxL + 11) + rm.locals ≤ R.locals ∧ (∀ w ∈ ws, ∀ (a' : Array Value) (U : State), s.WarmedH U.vm → w.before a' U = true) ∧ Cond.codeWith y bytes maxL ret hh ∈ ws) ∧
  (Cond.codeWith y bytes maxL ret hh).before args s = true ∧ (Cond.initialized y.cls).before args s = true ∧ (y.cls ≠ "java/lang/invoke/MethodHandle" ∧ y.cls ≠ "java/lang/invoke/VarHandle") ∧
  (∀ sig, parseMethodDescriptor y.desc = some sig → n = sig.parameters.length) ∧ (Cond.methodLink own index y).before args s = true ∧ (Cond.static y).before args s = true
theorem vx_cwSW {own : String} {index maxL mc ms : Nat} {y : MethodName} {bytes : ByteArray} {ret : Option FieldType} {hh : List (Nat × Nat × Nat × Nat)} {Ts ws ws' : List Cond} {rm : Room} (n : Nat) (ht : ∀ w ∈ Ts, w.before args s = true) (hT : GoodIn Ts (va_wsS own index y ws)) (hw : ws = Cond.codeWith y bytes maxL ret hh :: ws') (hrc : rm.cells = mc) (hrs : rm.slots = ms)
    (hd : y.cls ≠ "java/lang/invoke/MethodHandle" ∧ y.cls ≠ "java/lang/invoke/VarHandle" ∧ (parseMethodDescriptor y.desc).map (fun d => d.parameters.length) = some n) (hR : rm.frames + 1 ≤ R.frames ∧ 8 + (maxL + 11) + rm.locals ≤ R.locals) :
    vx_CSW R s args own index y bytes maxL ret hh ws rm mc ms n := by
  have ok : ∀ w ∈ va_wsS own index y ws, w.before args s = true := fun w h => ht w (hT w h).1
  have hG : GoodIn Ts ws := fun w h => hT w (by unfold va_wsS; exact List.mem_append_right _ h)
  have hc : Cond.codeWith y bytes maxL ret hh ∈ ws := by rw [hw]; exact List.mem_cons_self
  refine ⟨⟨hrc, hrs, hR.1, hR.2, pay_in ht hG, hc⟩, ht _ (hG _ hc).1, ok _ (by simp [va_wsS]), ⟨hd.1, hd.2.1⟩, fun sig h => ?_, ok _ (by simp [va_wsS]), ok _ (by simp [va_wsS])⟩
  have h2 := hd.2.2
  rw [h] at h2
  exact (Option.some.inj h2).symm
theorem vx_callSW (X : Stand p l e R s m args below meth c T locs cells slots) (hexec : p.tables.exec = Jvm.exec) {own : String} {index : Nat} {y : MethodName} {bytes : ByteArray} {maxL : Nat} {ret : Option FieldType} {hh : List (Nat × Nat × Nat × Nat)}
    (hown : s.vm.findClass own = some m.cls) (hlink : (Cond.methodLink own index y).before args s = true) (hstat : (Cond.static y).before args s = true) (hinit : (Cond.initialized y.cls).before args s = true)
    (hcode : (Cond.codeWith y bytes maxL ret hh).before args s = true) (hy : y.cls ≠ "java/lang/invoke/MethodHandle" ∧ y.cls ≠ "java/lang/invoke/VarHandle")
    {W9 : Nat} {Pre : Pt → Array Value → Prop} {Post : Pt → Array Value → Option Value → Pt → Prop} (hK : Back l R p e below s args y 3 W9 Pre Post)
    {g : JFrame} (hg : g.method = m) (hsize : g.locals.size = c.maxLocals) {argsL rest : List Value} (hlen : ∀ sig, parseMethodDescriptor y.desc = some sig → argsL.length = sig.parameters.length)
    (hstack : g.stack = argsL.reverse ++ rest) (hW : 2 * g.monitorRoom + (rest.map fun v => v.category).sum ≤ W9) (hdg : decode c.code g.pc = .ok (.invokestatic index, 3))
    (hpre : ∀ vm₁, s.WarmedH vm₁ → Pre ⟨T.setVm vm₁, locs, cells, slots⟩ argsL.toArray) :
    ∃ (v : Option Value) (vm₁ : Vm) (B : Pt), s.WarmedH vm₁ ∧ Stand p l e R s m args below meth c B.U B.locs B.cells B.slots ∧ Post ⟨T.setVm vm₁, locs, cells, slots⟩ argsL.toArray v B ∧
      ∀ target, Steps p.tables e below (B.U.setTop { g with pc := g.pc + 3, stack := v.toList ++ rest }) target → Steps p.tables e below (T.setTop g) target := by
  obtain ⟨mk, methM, cM, hnamed, hmethM, -, -, -, -, -, -, hsigM⟩ := Cond.codeWith_spec hcode
  have hstatic : methM.isStatic = true := Cond.static_spec hnamed hmethM hstat
  obtain ⟨kP, hkP, -⟩ := className_of_methodNamed hnamed
  have hinitP : kP.init = .initialized := Cond.initialized_spec (findClass_of_methodNamed hnamed) hkP hinit
  obtain ⟨vm₁, X₁, hstep₁⟩ := X.invokestatic hexec hown hlink hnamed hmethM hstatic hkP hinitP hy (g := g) hg (argsL := argsL) (rest := rest) (hlen _ hsigM) hstack hdg
  obtain ⟨v, B, X', hpost, hsteps⟩ := hK m meth c ⟨T.setVm vm₁, locs, cells, slots⟩ { g with stack := rest } (.invokestatic index) mk argsL.toArray X₁ hg hsize hdg hW (X₁.named hnamed) (hpre vm₁ X₁.warmed)
  exact ⟨v, vm₁, B, X₁.warmed, X', hpost, fun target h => hstep₁ _ fun acts => by rw [doInvoke_state]; exact hsteps.trans h⟩
theorem vx_runSW {y : MethodName} {bytes cc : ByteArray} {maxL nL mc ms n index : Nat} {ret : Option FieldType} {hh : List (Nat × Nat × Nat × Nat)} {ws : List Cond} {rm : Room} {Pc : Array Value → State → Prop} {Qc : Array Value → State → Outcome → State → Prop} {free : Addr → Prop} {Ts : List Cond} {own : String} {As rest : List Value} {g : JFrame}
    (S : CallFix p m c cc nL s args Ts own) (hM : Met l y ws rm Pc Qc mc ms free) (cw : vx_CSW R s args own index y bytes maxL ret hh ws rm mc ms n) (hp : PreS s H Pc As)
    (hg : g.method = m) (hn : As.length = n) (hsize : g.locals.size = nL) (hstack : g.stack = As.reverse ++ rest) (hW : 2 * g.monitorRoom + (rest.map fun v => v.category).sum ≤ 8) (hdg : decode cc g.pc = .ok (.invokestatic index, 3)) (hf : cells + mc ≤ R.cells ∧ slots + ms ≤ R.slots) :
    va_Run p l e R s m args below meth c H locs cells slots mc ms g rest (Qc As.toArray) (free) := by
  obtain ⟨⟨hrc, hrs, hfr, hlo, hws, hcw⟩, hcode, hini, hy, hlen, hl, hstt⟩ := cw
  have hK : Back l R p e below s args y 3 8 (PreOf R mc ms Pc) (PostOf Qc mc ms free) := va_backW (hh := hh) (bytes := bytes) (maxL := maxL) (ret := ret) hM hp.1 hrc hrs hfr hlo hws hcw (fun a' U hW => word_at hW (Or.inl (by first | rfl | simp [Cond.onTables, Cond.keeps, Cond.steady])) hini)
  obtain ⟨hx, hb, hml, ho, -⟩ := S
  intro T hT X
  obtain ⟨v, vm₁, ⟨U', l2, c2, s2⟩, hW₁, X', ⟨g', mk, t, L, e1, e2, hq, h1, hL, h2, h3⟩, st⟩ := vx_callSW X hx (hh := hh) (bytes := bytes) (maxL := maxL) (ret := ret) ho hl hstt hini hcode hy hK hg (hsize.trans hml.symm) (argsL := As) (rest := rest) (fun sig h => hn.trans (hlen sig h)) hstack hW (by rw [hb]; exact hdg)
    (fun vm₁ hW₁ => ⟨hf.1, hf.2, hp.2 (T.setVm vm₁) hT hW₁⟩)
  dsimp only [Pt.U, Pt.locs, Pt.cells, Pt.slots] at X' e1 e2 h1 h2 h3 st
  subst h1; subst h2; subst h3
  exact ⟨v, (T.setVm vm₁).calling g' mk As.toArray, t, U', L, hT, X', hL, e1, e2, hq, st⟩
/-- not caught here, past rows that name other classes: it goes on to the caller -/
theorem vx_outP {p : Program} {l : Launch} {e : Env} {R : Room} {s : State} {m : MethodId} {args : Array Value} {below : List Frame} {meth : Method} {c : Code} {H : Heap} {locs : List Loc} {cells slots : Nat} {free : Addr → Prop} {ls : Array Slot} {rest : List Value} {Qc : Array Value → State → Outcome → State → Prop} {XC : String → State → State → Prop}
    {pc : Nat} {own E : String} {ce : Cell} {q : Addr} {mc ms : Nat} (hown : s.vm.findClass own = some m.cls) (hlocks : meth.locks = false)
    (hpass : ∀ z ∈ c.exceptionTable.toList, covers z pc = false ∨ (z.catchType ≠ 0 ∧ ∃ nm : String, (Cond.classLink own z.catchType nm).before args s = true ∧ va_Nc E nm s)) (hcell : H[q]? = some ce) (hv : ce.vm = .none) (hcl : s.vm.findClass E = some ce.cls)
    (hx : ∀ t : State, t.heap = H → s.vm.Alike t.vm → XC E s t) (hf : ∀ z ∈ locs, free z.base) (hc : cells ≤ mc) (hs : slots ≤ ms) :
    vx_W p l e R s m args below meth c H locs cells slots (vx_MQ below Qc XC args s mc ms free) (F0 m pc ls rest) q := by
  intro T hT X
  have hpl : e.platform.magicAccessors = ({} : Platform).magicAccessors := by rw [X.admits.platform]
  obtain ⟨vm', hW', X', st⟩ := X.outThrough hlocks q (g := F0 m pc ls rest) rfl rfl rfl (cell := ce) (by rw [hT]; exact hcell) (by rw [hv]; rfl)
    (by obtain ⟨k9, h9, -⟩ := Vm.findClass_spec hcl; exact ⟨k9, h9⟩) (fun z hz => by
      rcases hpass z hz with h | ⟨hz0, nm, hl1, hn1⟩
      · exact Or.inl h
      · obtain ⟨c6, hc6, hcl6⟩ := Cond.classLink_spec hown hl1 e.platform hpl
        obtain ⟨a8, b8, h1, h2, h3⟩ := hn1
        cases Option.some.inj (h1.symm.trans hcl)
        cases Option.some.inj (h2.symm.trans hc6)
        exact Or.inr ⟨hz0, _, hcl6, h3⟩)
  obtain ⟨g₀, hfr⟩ := X'.frames_eq
  have hcell9 : ((T.setVm vm').setFrames (.throwing q :: below)).heap[q]? = some ce := by
    show T.heap[q]? = some ce
    rw [hT]; exact hcell
  have hend : Ended ((T.setVm vm').setFrames (.throwing q :: below)) below (.threw q) := State.frames_setFrames _ (State.cur_lt_of_frames hfr)
  refine ⟨(T.setVm vm').setFrames (.throwing q :: below), ?_, .threw q, X'.here.running, hend, Or.inr ⟨q, rfl, E, ce, locs, hx _ hT (X'.ends _).1.alike, hcell9, hv, hcl, (X'.ends _).1, (X'.ends _).2.mono hc hs, hf⟩⟩
  rw [X.pushThrowing_eq]
  exact st
/-- a thing of a world lies in the heap -/
theorem vx_lt {D : va_G} {cl : List vw_C} {ws : va_W} {H1 : Heap} (h : va_P D cl ws H1) {k : Nat} {q : Nat × va_E} (hk : ws[k]? = some q) : q.1 < H1.size := (h k q hk).lt
end VXS
/-! ===== END ===== -/
/-! ===== BEGIN methods with a table of their own: called by a name, returning or throwing ===== -/
section VXH
/-! vx_backW, vx_callVX, vx_callSX, vx_callVW, vx_runVW, vx_runVX, vx_runSX, vx_ofWH follow the same proofs as their sisters above (Free/Laws.lean, Shelf42/LK1.lean); vx_outP calls Shelf42/NT130.lean (outThrough). -/
section
variable {l : Launch} {R : Room} {p : Program} {e : Env} {below : List Frame} {s : State} {sargs : Array Value} {y : MethodName} {len W9 : Nat}
theorem vx_backW {ws : List Cond} {rm : Room} {Pc : Array Value → State → Prop} {Qc : Array Value → State → Outcome → State → Prop} {XC : String → State → State → Prop} {mc ms : Nat} {free : Addr → Prop} {bytes : ByteArray} {maxL : Nat} {ret : Option FieldType} {hh : List (Nat × Nat × Nat × Nat)}
    (hM : vx_Met l y ws rm Pc Qc XC mc ms free) (hblind : FrameBlind Pc) (hrc : rm.cells = mc) (hrs : rm.slots = ms)
    (hframes : rm.frames + 1 ≤ R.frames) (hlocals : W9 + (maxL + 11) + rm.locals ≤ R.locals)
    (hws : ∀ w ∈ ws, ∀ a' U, s.WarmedH U.vm → w.before a' U = true) (hcode : Cond.codeWith y bytes maxL ret hh ∈ ws) (hinit : ∀ a' U, s.WarmedH U.vm → (Cond.initialized y.cls).before a' U = true) :
    vx_Back l R p e below s sargs y len W9 (PreOf R mc ms Pc) (PostOf Qc mc ms free) (vx_Post XC mc ms free) := by
  intro m meth c A g ig mk a X hg hsize hdg hW hn hp
  have h1 : (headSpec ws rm).pre.before a A.U = true := atoms_intro fun w hw => hws w hw _ _ X.warmed
  have h2 : (Cond.codeWith y bytes maxL ret hh).before a A.U = true := hws _ hcode _ _ X.warmed
  have h3 : (Cond.initialized y.cls).before a A.U = true := hinit _ _ X.warmed
  have h4 : A.cells + (headSpec ws rm).room.cells ≤ R.cells := by rw [show (headSpec ws rm).room.cells = mc from hrc]; exact hp.1
  have h5 : A.slots + (headSpec ws rm).room.slots ≤ R.slots := by rw [show (headSpec ws rm).room.slots = ms from hrs]; exact hp.2.1
  have hPc : Pc a (A.U.calling g mk a) := hblind _ _ _ _ hp.2.2
  obtain ⟨U, Ls, c0, s0⟩ := A
  dsimp only [Pt.U, Pt.locs, Pt.cells, Pt.slots] at h1 h2 h3 h4 h5 X hn hPc ⊢
  obtain ⟨m9, methY, cY, hn9, hmY, hcY, -, hlY, -⟩ := Cond.codeWith_spec h2
  cases Option.some.inj (hn9.symm.trans hn)
  obtain ⟨kY, hkY, -⟩ := className_of_methodNamed hn
  have hinitY : kY.init = .initialized := Cond.initialized_spec (findClass_of_methodNamed hn) hkY h3
  have h : At U g.method c below := by rw [hg]; exact X.here
  have hlocals9 : W9 + (maxL + 11) + (headSpec ws rm).room.locals ≤ R.locals := hlocals
  have happ : (headSpec ws rm).appliesLoose y e.platform (U.calling g mk a) = true :=
    Spec.appliesLoose_calling (g := g) h hdg hn hkY hinitY
      (X.room_calling (g := g) (R' := (headSpec ws rm).room) hsize hmY hcY hframes (by rw [hlY]; omega) h4 h5) h1
  obtain ⟨mid, hmid⟩ := h.above
  have hfr : (U.setTop g).frames = (.java g :: mid) ++ below := by rw [State.frames_setTop' g h.top, hmid]; rfl
  obtain ⟨o, s₂, hsteps, -, hend, hq⟩ := Steps.callFree hM p X.admits X.cas X.clock (acts := []) hfr happ hPc trivial
  have hq' : vx_Q Qc XC mc ms free a (U.calling g mk a) o s₂ := hq
  rw [State.frames_setTop' g h.top] at hend
  obtain ⟨g₀, hg0⟩ := Option.isSome_iff_exists.mp h.top
  obtain ⟨r, hr⟩ := State.topJava?_eq_some.mp hg0
  have hr' : (({ U with heap := s₂.heap, slotsUsed := s₂.slotsUsed } : State).setVm s₂.vm).frames = .java g₀ :: r := hr
  rcases hq' with ⟨hqc, L, hfe, hL⟩ | ⟨q, rfl, E, ce, L, hx, hce, hcv, hcl, hW₂, hsm, hL⟩
  · obtain ⟨⟨v, rfl⟩, hW₂, e2, q2, q3, q4, q5, q6⟩ := id hfe
    have e3 : s₂ = ({ (U.calling g mk a).setFrames s₂.frames with heap := s₂.heap, slotsUsed := s₂.slotsUsed } : State).setVm s₂.vm := by
      have : s₂ = ({ s₂ with vm := (U.calling g mk a).vm } : State).setVm s₂.vm := rfl
      rw [e2] at this
      exact this
    obtain ⟨c₂, i₂, len₂, hc₂, hd₂, hf₂⟩ := hend
    have hW' : U.WarmedH s₂.vm := hW₂
    have hcc : c₂ = c := by
      have h1 : s₂.code? g.method = U.code? g.method := by
        rw [State.code?_eq, State.code?_eq, hW'.alike.method?]
      exact Option.some.inj (hc₂.symm.trans (h1.trans h.code))
    subst hcc
    have hlen : len₂ = len := by rw [hdg] at hd₂; cases hd₂; rfl
    subst hlen
    have hs₂ : s₂ = (({ U with heap := s₂.heap, slotsUsed := s₂.slotsUsed } : State).setVm s₂.vm).setTop { g with pc := g.pc + len₂, stack := v.toList ++ g.stack } := by
      refine e3.trans ?_
      rw [hf₂, State.calling_eq h.top, State.setFrames_setFrames, State.setTop_of_frames _ hr', hr]
      rfl
    have hsame : U.sameButNew ({ U with heap := s₂.heap, slotsUsed := s₂.slotsUsed } : State) L mc ms := by
      refine ⟨?_, q2, q3, q4, q5, q6⟩
      obtain ⟨t, ht, -⟩ := State.frames_cons hr
      show ({ U with heap := s₂.heap, slotsUsed := s₂.slotsUsed } : State) = { U.setFrames U.frames with heap := s₂.heap, slotsUsed := s₂.slotsUsed }
      rw [State.setFrames_self ht]
    subst hg
    refine Or.inl ⟨v, ⟨(({ U with heap := s₂.heap, slotsUsed := s₂.slotsUsed } : State).setVm s₂.vm), Ls ++ L, c0 + mc, s0 + ms⟩,
      ⟨X.admits, X.cas, X.clock, X.frames, X.room, X.hears, X.method, X.code, (X.here.setHeapUsed s₂.heap s₂.slotsUsed).setVm hW'.alike, X.tail, State.WarmedH.trans X.warmed hW', X.limits, X.bytes, X.same.trans (hsame.setVm s.vm)⟩,
      ⟨g, mk, s₂, L, rfl, rfl, hqc, rfl, hL, rfl, rfl⟩, ?_⟩
    show Steps p.tables e below _ ((({ U with heap := s₂.heap, slotsUsed := s₂.slotsUsed } : State).setVm s₂.vm).setTop { g with pc := g.pc + len₂, stack := v.toList ++ g.stack })
    rw [← hs₂]
    exact hsteps
  · obtain ⟨e2, q2, q3, q4, q5, q6⟩ := id hsm
    have e3 : s₂ = ({ (U.calling g mk a).setFrames s₂.frames with heap := s₂.heap, slotsUsed := s₂.slotsUsed } : State).setVm s₂.vm := by
      have : s₂ = ({ s₂ with vm := (U.calling g mk a).vm } : State).setVm s₂.vm := rfl
      rw [e2] at this
      exact this
    have hf₂ : s₂.frames = .throwing q :: .java g :: U.frames.tail := hend
    have hW' : U.WarmedH s₂.vm := hW₂
    have hs₂ : s₂ = ((({ U with heap := s₂.heap, slotsUsed := s₂.slotsUsed } : State).setVm s₂.vm).setTop g).pushFrame (.throwing q) := by
      refine e3.trans ?_
      rw [hf₂, State.calling_eq h.top, State.setFrames_setFrames, State.pushFrame, State.frames_setTop _ hr', State.setTop_of_frames _ hr', State.setFrames_setFrames, hr]
      rfl
    have hsame : U.sameButNew ({ U with heap := s₂.heap, slotsUsed := s₂.slotsUsed } : State) L mc ms := by
      refine ⟨?_, q2, q3, q4, q5, q6⟩
      obtain ⟨t, ht, -⟩ := State.frames_cons hr
      show ({ U with heap := s₂.heap, slotsUsed := s₂.slotsUsed } : State) = { U.setFrames U.frames with heap := s₂.heap, slotsUsed := s₂.slotsUsed }
      rw [State.setFrames_self ht]
    subst hg
    refine Or.inr ⟨q, ⟨(({ U with heap := s₂.heap, slotsUsed := s₂.slotsUsed } : State).setVm s₂.vm), Ls ++ L, c0 + mc, s0 + ms⟩,
      ⟨X.admits, X.cas, X.clock, X.frames, X.room, X.hears, X.method, X.code, (X.here.setHeapUsed s₂.heap s₂.slotsUsed).setVm hW'.alike, X.tail, State.WarmedH.trans X.warmed hW', X.limits, X.bytes, X.same.trans (hsame.setVm s.vm)⟩,
      ⟨g, mk, s₂, L, E, ce, rfl, rfl, hx, hce, hcv, hcl, rfl, hL, rfl, rfl⟩, ?_⟩
    show Steps p.tables e below _ (((({ U with heap := s₂.heap, slotsUsed := s₂.slotsUsed } : State).setVm s₂.vm).setTop g).pushFrame (.throwing q))
    rw [← hs₂]
    exact hsteps
end
variable {p : Program} {l : Launch} {e : Env} {R : Room} {s : State} {m : MethodId} {args : Array Value} {below : List Frame} {meth : Method} {c : Code} {T : State} {H : Heap} {locs : List Loc} {cells slots : Nat}
theorem vx_callVX (X : Stand p l e R s m args below meth c T locs cells slots) (hexec : p.tables.exec = Jvm.exec) {own C : String} {index : Nat} {y : MethodName} {bytes : ByteArray} {maxL : Nat} {ret : Option FieldType} {hh : List (Nat × Nat × Nat × Nat)}
    (hown : s.vm.findClass own = some m.cls) (hlink : (Cond.methodLink own index y).before args s = true) (hinst : (Cond.instanceMethod y).before args s = true) (hsel : (Cond.selects C y y).before args s = true)
    (hcode : (Cond.codeWith y bytes maxL ret hh).before args s = true) (hy : y.cls ≠ "java/lang/invoke/MethodHandle" ∧ y.cls ≠ "java/lang/invoke/VarHandle")
    {W9 : Nat} {Pre : Pt → Array Value → Prop} {Post : Pt → Array Value → Option Value → Pt → Prop} {PostX : Pt → Array Value → Addr → Pt → Prop} (hK : vx_Back l R p e below s args y 3 W9 Pre Post PostX)
    {b : Addr} {cellB : Cell} (hcell : T.heap[b]? = some cellB) (hobj : cellB.vm.isStatics = false) (hcls : s.vm.findClass C = some cellB.cls)
    {g : JFrame} (hg : g.method = m) (hsize : g.locals.size = c.maxLocals) {argsL rest : List Value} (hlen : ∀ sig, parseMethodDescriptor y.desc = some sig → argsL.length = sig.parameters.length)
    (hstack : g.stack = argsL.reverse ++ .ref b :: rest) (hW : 2 * g.monitorRoom + (rest.map fun v => v.category).sum ≤ W9) (hdg : decode c.code g.pc = .ok (.invokevirtual index, 3))
    (hpre : ∀ vm₁, s.WarmedH vm₁ → Pre ⟨T.setVm vm₁, locs, cells, slots⟩ (Value.ref b :: argsL).toArray) :
    (∃ (v : Option Value) (vm₁ : Vm) (B : Pt), s.WarmedH vm₁ ∧ Stand p l e R s m args below meth c B.U B.locs B.cells B.slots ∧ Post ⟨T.setVm vm₁, locs, cells, slots⟩ (Value.ref b :: argsL).toArray v B ∧
      ∀ target, Steps p.tables e below (B.U.setTop { g with pc := g.pc + 3, stack := v.toList ++ rest }) target → Steps p.tables e below (T.setTop g) target) ∨
    (∃ (q : Addr) (vm₁ : Vm) (B : Pt), s.WarmedH vm₁ ∧ Stand p l e R s m args below meth c B.U B.locs B.cells B.slots ∧ PostX ⟨T.setVm vm₁, locs, cells, slots⟩ (Value.ref b :: argsL).toArray q B ∧
      Steps p.tables e below (T.setTop g) ((B.U.setTop { g with stack := rest }).pushFrame (.throwing q))) := by
  obtain ⟨mk, methM, hnamed, hmethM, hstM, habM⟩ := Cond.instanceMethod_spec hinst
  obtain ⟨m8, methM', cM, hn8, hmethM', -, -, -, -, -, -, hsigM⟩ := Cond.codeWith_spec hcode
  cases Option.some.inj (hn8.symm.trans hnamed)
  cases hmethM.symm.trans hmethM'
  obtain ⟨c2, r2, m2, q1, q2, q3, q4, kP, hkP, hkPi⟩ := Cond.selects_spec hsel
  cases hcls.symm.trans q1
  cases (State.methodFound?_of_named hnamed hy).symm.trans q2
  cases hnamed.symm.trans q3
  have hselP : selectMethod e.platform s.vm cellB.cls mk = .method mk := by rw [Launch.admits_selectMethod X.admits]; exact q4
  obtain ⟨vm₁, X₁, hstep₁⟩ := X.invokevirtual hexec hown hlink hnamed hmethM hstM hkP hkPi hy (a := b) (cell := cellB) hcell
    (fun z h => by rw [h] at hobj; cases hobj) hselP hmethM habM hkP hkPi (g := g) hg (argsL := argsL) (rest := rest) (hlen _ hsigM) hstack hdg
  rcases hK m meth c ⟨T.setVm vm₁, locs, cells, slots⟩ { g with stack := rest } (.invokevirtual index) mk (Value.ref b :: argsL).toArray X₁ hg hsize hdg hW (X₁.named hnamed) (hpre vm₁ X₁.warmed) with ⟨v, B, X', hpost, hsteps⟩ | ⟨q, B, X', hpost, hsteps⟩
  · exact Or.inl ⟨v, vm₁, B, X₁.warmed, X', hpost, fun target h => hstep₁ _ fun acts => by rw [doInvoke_state]; exact hsteps.trans h⟩
  · exact Or.inr ⟨q, vm₁, B, X₁.warmed, X', hpost, hstep₁ _ fun acts => by rw [doInvoke_state]; exact hsteps⟩
theorem vx_callSX (X : Stand p l e R s m args below meth c T locs cells slots) (hexec : p.tables.exec = Jvm.exec) {own : String} {index : Nat} {y : MethodName} {bytes : ByteArray} {maxL : Nat} {ret : Option FieldType} {hh : List (Nat × Nat × Nat × Nat)}
    (hown : s.vm.findClass own = some m.cls) (hlink : (Cond.methodLink own index y).before args s = true) (hstat : (Cond.static y).before args s = true) (hinit : (Cond.initialized y.cls).before args s = true)
    (hcode : (Cond.codeWith y bytes maxL ret hh).before args s = true) (hy : y.cls ≠ "java/lang/invoke/MethodHandle" ∧ y.cls ≠ "java/lang/invoke/VarHandle")
    {W9 : Nat} {Pre : Pt → Array Value → Prop} {Post : Pt → Array Value → Option Value → Pt → Prop} {PostX : Pt → Array Value → Addr → Pt → Prop} (hK : vx_Back l R p e below s args y 3 W9 Pre Post PostX)
    {g : JFrame} (hg : g.method = m) (hsize : g.locals.size = c.maxLocals) {argsL rest : List Value} (hlen : ∀ sig, parseMethodDescriptor y.desc = some sig → argsL.length = sig.parameters.length)
    (hstack : g.stack = argsL.reverse ++ rest) (hW : 2 * g.monitorRoom + (rest.map fun v => v.category).sum ≤ W9) (hdg : decode c.code g.pc = .ok (.invokestatic index, 3))
    (hpre : ∀ vm₁, s.WarmedH vm₁ → Pre ⟨T.setVm vm₁, locs, cells, slots⟩ argsL.toArray) :
    (∃ (v : Option Value) (vm₁ : Vm) (B : Pt), s.WarmedH vm₁ ∧ Stand p l e R s m args below meth c B.U B.locs B.cells B.slots ∧ Post ⟨T.setVm vm₁, locs, cells, slots⟩ argsL.toArray v B ∧
      ∀ target, Steps p.tables e below (B.U.setTop { g with pc := g.pc + 3, stack := v.toList ++ rest }) target → Steps p.tables e below (T.setTop g) target) ∨
    (∃ (q : Addr) (vm₁ : Vm) (B : Pt), s.WarmedH vm₁ ∧ Stand p l e R s m args below meth c B.U B.locs B.cells B.slots ∧ PostX ⟨T.setVm vm₁, locs, cells, slots⟩ argsL.toArray q B ∧
      Steps p.tables e below (T.setTop g) ((B.U.setTop { g with stack := rest }).pushFrame (.throwing q))) := by
  obtain ⟨mk, methM, cM, hnamed, hmethM, -, -, -, -, -, -, hsigM⟩ := Cond.codeWith_spec hcode
  have hstatic : methM.isStatic = true := Cond.static_spec hnamed hmethM hstat
  obtain ⟨kP, hkP, -⟩ := className_of_methodNamed hnamed
  have hinitP : kP.init = .initialized := Cond.initialized_spec (findClass_of_methodNamed hnamed) hkP hinit
  obtain ⟨vm₁, X₁, hstep₁⟩ := X.invokestatic hexec hown hlink hnamed hmethM hstatic hkP hinitP hy (g := g) hg (argsL := argsL) (rest := rest) (hlen _ hsigM) hstack hdg
  rcases hK m meth c ⟨T.setVm vm₁, locs, cells, slots⟩ { g with stack := rest } (.invokestatic index) mk argsL.toArray X₁ hg hsize hdg hW (X₁.named hnamed) (hpre vm₁ X₁.warmed) with ⟨v, B, X', hpost, hsteps⟩ | ⟨q, B, X', hpost, hsteps⟩
  · exact Or.inl ⟨v, vm₁, B, X₁.warmed, X', hpost, fun target h => hstep₁ _ fun acts => by rw [doInvoke_state]; exact hsteps.trans h⟩
  · exact Or.inr ⟨q, vm₁, B, X₁.warmed, X', hpost, hstep₁ _ fun acts => by rw [doInvoke_state]; exact hsteps⟩
theorem vx_callVW (X : Stand p l e R s m args below meth c T locs cells slots) (hexec : p.tables.exec = Jvm.exec) {own C : String} {index : Nat} {y : MethodName} {bytes : ByteArray} {maxL : Nat} {ret : Option FieldType} {hh : List (Nat × Nat × Nat × Nat)}
    (hown : s.vm.findClass own = some m.cls) (hlink : (Cond.methodLink own index y).before args s = true) (hinst : (Cond.instanceMethod y).before args s = true) (hsel : (Cond.selects C y y).before args s = true)
    (hcode : (Cond.codeWith y bytes maxL ret hh).before args s = true) (hy : y.cls ≠ "java/lang/invoke/MethodHandle" ∧ y.cls ≠ "java/lang/invoke/VarHandle")
    {W9 : Nat} {Pre : Pt → Array Value → Prop} {Post : Pt → Array Value → Option Value → Pt → Prop} (hK : Back l R p e below s args y 3 W9 Pre Post)
    {b : Addr} {cellB : Cell} (hcell : T.heap[b]? = some cellB) (hobj : cellB.vm.isStatics = false) (hcls : s.vm.findClass C = some cellB.cls)
    {g : JFrame} (hg : g.method = m) (hsize : g.locals.size = c.maxLocals) {argsL rest : List Value} (hlen : ∀ sig, parseMethodDescriptor y.desc = some sig → argsL.length = sig.parameters.length)
    (hstack : g.stack = argsL.reverse ++ .ref b :: rest) (hW : 2 * g.monitorRoom + (rest.map fun v => v.category).sum ≤ W9) (hdg : decode c.code g.pc = .ok (.invokevirtual index, 3))
    (hpre : ∀ vm₁, s.WarmedH vm₁ → Pre ⟨T.setVm vm₁, locs, cells, slots⟩ (Value.ref b :: argsL).toArray) :
    ∃ (v : Option Value) (vm₁ : Vm) (B : Pt), s.WarmedH vm₁ ∧ Stand p l e R s m args below meth c B.U B.locs B.cells B.slots ∧ Post ⟨T.setVm vm₁, locs, cells, slots⟩ (Value.ref b :: argsL).toArray v B ∧
      ∀ target, Steps p.tables e below (B.U.setTop { g with pc := g.pc + 3, stack := v.toList ++ rest }) target → Steps p.tables e below (T.setTop g) target := by
  obtain ⟨mk, methM, hnamed, hmethM, hstM, habM⟩ := Cond.instanceMethod_spec hinst
  obtain ⟨m8, methM', cM, hn8, hmethM', -, -, -, -, -, -, hsigM⟩ := Cond.codeWith_spec hcode
  cases Option.some.inj (hn8.symm.trans hnamed)
  cases hmethM.symm.trans hmethM'
  obtain ⟨c2, r2, m2, q1, q2, q3, q4, kP, hkP, hkPi⟩ := Cond.selects_spec hsel
  cases hcls.symm.trans q1
  cases (State.methodFound?_of_named hnamed hy).symm.trans q2
  cases hnamed.symm.trans q3
  have hselP : selectMethod e.platform s.vm cellB.cls mk = .method mk := by rw [Launch.admits_selectMethod X.admits]; exact q4
  obtain ⟨vm₁, X₁, hstep₁⟩ := X.invokevirtual hexec hown hlink hnamed hmethM hstM hkP hkPi hy (a := b) (cell := cellB) hcell
    (fun z h => by rw [h] at hobj; cases hobj) hselP hmethM habM hkP hkPi (g := g) hg (argsL := argsL) (rest := rest) (hlen _ hsigM) hstack hdg
  obtain ⟨v, B, X', hpost, hsteps⟩ := hK m meth c ⟨T.setVm vm₁, locs, cells, slots⟩ { g with stack := rest } (.invokevirtual index) mk (Value.ref b :: argsL).toArray X₁ hg hsize hdg hW (X₁.named hnamed) (hpre vm₁ X₁.warmed)
  exact ⟨v, vm₁, B, X₁.warmed, X', hpost, fun target h => hstep₁ _ fun acts => by rw [doInvoke_state]; exact hsteps.trans h⟩
abbrev vx_CVW (R : Room) (s : State) (args : Array Value) (own C : String) (index : Nat) (y : MethodName) (bytes : ByteArray) (maxL : Nat) (ret : Option FieldType) (hh : List (Nat × Nat × Nat × Nat)) (ws : List Cond) (rm : Room) (mc ms n : Nat) : Prop :=
  (rm.cells = mc ∧ rm.slots = ms ∧ rm.frames + 1 ≤ R.frames ∧ 8 + (maxL + 11) + rm.locals ≤ R.locals ∧ (∀ w ∈ ws, ∀ (a' : Array Value) (U : State), s.WarmedH U.vm → w.before a' U = true) ∧ Cond.codeWith y bytes maxL ret hh ∈ ws) ∧
  (Cond.codeWith y bytes maxL ret hh).before args s = true ∧ (Cond.initialized y.cls).before args s = true ∧ (y.cls ≠ "java/lang/invoke/MethodHandle" ∧ y.cls ≠ "java/lang/invoke/VarHandle") ∧
  (∀ sig, parseMethodDescriptor y.desc = some sig → n = sig.parameters.length) ∧ (Cond.methodLink own index y).before args s = true ∧ (Cond.instanceMethod y).before args s = true ∧ (Cond.selects C y y).before args s = true
theorem vx_cwVW {own C : String} {index maxL mc ms : Nat} {y : MethodName} {bytes : ByteArray} {ret : Option FieldType} {hh : List (Nat × Nat × Nat × Nat)} {Ts ws ws' : List Cond} {rm : Room} (n : Nat) (ht : ∀ w ∈ Ts, w.before args s = true) (hT : GoodIn Ts (wsV own index C y ws)) (hw : ws = Cond.codeWith y bytes maxL ret hh :: ws') (hrc : rm.cells = mc) (hrs : rm.slots = ms)
    (hd : y.cls = C ∧ y.cls ≠ "java/lang/invoke/MethodHandle" ∧ y.cls ≠ "java/lang/invoke/VarHandle" ∧ (parseMethodDescriptor y.desc).map (fun d => d.parameters.length) = some n) (hR : rm.frames + 1 ≤ R.frames ∧ 8 + (maxL + 11) + rm.locals ≤ R.locals) :
    vx_CVW R s args own C index y bytes maxL ret hh ws rm mc ms n := by
  obtain ⟨hC, hd⟩ := hd
  subst hC
  have ok : ∀ w ∈ wsV own index y.cls y ws, w.before args s = true := fun w h => ht w (hT w h).1
  have hG : GoodIn Ts ws := fun w h => hT w (by unfold wsV; exact List.mem_append_right _ h)
  have hc : Cond.codeWith y bytes maxL ret hh ∈ ws := by rw [hw]; exact List.mem_cons_self
  refine ⟨⟨hrc, hrs, hR.1, hR.2, pay_in ht hG, hc⟩, ht _ (hG _ hc).1, ok _ (by simp [wsV]), ⟨hd.1, hd.2.1⟩, fun sig h => ?_, ok _ (by simp [wsV]), ok _ (by simp [wsV]), ok _ (by simp [wsV])⟩
  have h2 := hd.2.2
  rw [h] at h2
  exact (Option.some.inj h2).symm
theorem vx_runVW {y : MethodName} {bytes cc : ByteArray} {maxL nL mc ms n index : Nat} {ret : Option FieldType} {hh : List (Nat × Nat × Nat × Nat)} {ws : List Cond} {rm : Room} {Pc : Array Value → State → Prop} {Qc : Array Value → State → Outcome → State → Prop} {free : Addr → Prop} {Ts : List Cond} {own C : String} {b : Addr} {As rest : List Value} {g : JFrame}
    (S : CallFix p m c cc nL s args Ts own) (hM : Met l y ws rm Pc Qc mc ms free) (cw : vx_CVW R s args own C index y bytes maxL ret hh ws rm mc ms n) (hp : PreV s H C b Pc As)
    (hg : g.method = m) (hn : As.length = n) (hsize : g.locals.size = nL) (hstack : g.stack = As.reverse ++ .ref b :: rest) (hW : 2 * g.monitorRoom + (rest.map fun v => v.category).sum ≤ 8) (hdg : decode cc g.pc = .ok (.invokevirtual index, 3)) (hf : cells + mc ≤ R.cells ∧ slots + ms ≤ R.slots) :
    va_Run p l e R s m args below meth c H locs cells slots mc ms g rest (Qc (Value.ref b :: As).toArray) free := by
  obtain ⟨⟨hrc, hrs, hfr, hlo, hws, hcw⟩, hcode, hini, hy, hlen, hl, hin, hse⟩ := cw
  have hK : Back l R p e below s args y 3 8 (PreOf R mc ms Pc) (PostOf Qc mc ms free) := va_backW (hh := hh) (bytes := bytes) (maxL := maxL) (ret := ret) hM hp.1 hrc hrs hfr hlo hws hcw (fun a' U hW => word_at hW (Or.inl (by first | rfl | simp [Cond.onTables, Cond.keeps, Cond.steady])) hini)
  obtain ⟨hx, hb, hml, ho, -⟩ := S
  obtain ⟨-, ⟨cellB, hcB, hoB, hclB⟩, hPc⟩ := hp
  intro T hT X
  obtain ⟨v, vm₁, ⟨U', l2, c2, s2⟩, hW₁, X', ⟨g', mk, t, L, e1, e2, hq, h1, hL, h2, h3⟩, st⟩ := vx_callVW X hx (C := C) (hh := hh) (bytes := bytes) (maxL := maxL) (ret := ret) ho hl hin hse hcode hy hK (by rw [hT]; exact hcB) hoB hclB hg (hsize.trans hml.symm) (argsL := As) (rest := rest) (fun sig h => hn.trans (hlen sig h)) hstack hW (by rw [hb]; exact hdg)
    (fun vm₁ hW₁ => ⟨hf.1, hf.2, hPc (T.setVm vm₁) hT hW₁⟩)
  dsimp only [Pt.U, Pt.locs, Pt.cells, Pt.slots] at X' e1 e2 h1 h2 h3 st
  subst h1; subst h2; subst h3
  exact ⟨v, (T.setVm vm₁).calling g' mk (Value.ref b :: As).toArray, t, U', L, hT, X', hL, e1, e2, hq, st⟩
section
variable {y : MethodName} {bytes cc : ByteArray} {maxL nL mc ms n index : Nat} {ret : Option FieldType} {ws : List Cond} {rm : Room} {Pc : Array Value → State → Prop} {Qc : Array Value → State → Outcome → State → Prop} {XC : String → State → State → Prop} {free : Addr → Prop} {Ts : List Cond} {own C : String} {b : Addr} {As rest : List Value} {g : JFrame}
theorem vx_runVX {hh : List (Nat × Nat × Nat × Nat)} (S : CallFix p m c cc nL s args Ts own) (hM : vx_Met l y ws rm Pc Qc XC mc ms free) (cw : vx_CVW R s args own C index y bytes maxL ret hh ws rm mc ms n) (hp : PreV s H C b Pc As)
    (hg : g.method = m) (hn : As.length = n) (hsize : g.locals.size = nL) (hstack : g.stack = As.reverse ++ .ref b :: rest) (hW : 2 * g.monitorRoom + (rest.map fun v => v.category).sum ≤ 8) (hdg : decode cc g.pc = .ok (.invokevirtual index, 3)) (hf : cells + mc ≤ R.cells ∧ slots + ms ≤ R.slots) :
    vx_Run p l e R s m args below meth c H locs cells slots mc ms g rest (Qc (Value.ref b :: As).toArray) XC free := by
  obtain ⟨⟨hrc, hrs, hfr, hlo, hws, hcw⟩, hcode, hini, hy, hlen, hl, hin, hse⟩ := cw
  have hK : vx_Back l R p e below s args y 3 8 (PreOf R mc ms Pc) (PostOf Qc mc ms free) (vx_Post XC mc ms free) := vx_backW (hh := hh) (bytes := bytes) (maxL := maxL) (ret := ret) hM hp.1 hrc hrs hfr hlo hws hcw (fun a' U hW => word_at hW (Or.inl (by first | rfl | simp [Cond.onTables, Cond.keeps, Cond.steady])) hini)
  obtain ⟨hx, hb, hml, ho, -⟩ := S
  obtain ⟨-, ⟨cellB, hcB, hoB, hclB⟩, hPc⟩ := hp
  intro T hT X
  rcases vx_callVX X hx (C := C) (hh := hh) (bytes := bytes) (maxL := maxL) (ret := ret) ho hl hin hse hcode hy hK (by rw [hT]; exact hcB) hoB hclB hg (hsize.trans hml.symm) (argsL := As) (rest := rest) (fun sig h => hn.trans (hlen sig h)) hstack hW (by rw [hb]; exact hdg)
    (fun vm₁ hW₁ => ⟨hf.1, hf.2, hPc (T.setVm vm₁) hT hW₁⟩) with ⟨v, vm₁, ⟨U', l2, c2, s2⟩, hW₁, X', ⟨g', mk, t, L, e1, e2, hq, h1, hL, h2, h3⟩, st⟩ | ⟨q, vm₁, ⟨U', l2, c2, s2⟩, hW₁, X', ⟨g', mk, t, L, E, ce, e1, e2, hq, hce, hcv, hcl, h1, hL, h2, h3⟩, st⟩
  · dsimp only [Pt.U, Pt.locs, Pt.cells, Pt.slots] at X' e1 e2 h1 h2 h3 st
    subst h1; subst h2; subst h3
    exact Or.inl ⟨v, (T.setVm vm₁).calling g' mk (Value.ref b :: As).toArray, t, U', L, hT, X', hL, e1, e2, hq, st⟩
  · dsimp only [Pt.U, Pt.locs, Pt.cells, Pt.slots] at X' e1 e2 h1 h2 h3 st hcl
    subst h1; subst h2; subst h3
    exact Or.inr ⟨q, (T.setVm vm₁).calling g' mk (Value.ref b :: As).toArray, t, U', L, E, ce, hT, X', hL, e1, e2, hq, hce, hcv, vx_cls hW₁ hcl, st⟩
theorem vx_runSX {hh : List (Nat × Nat × Nat × Nat)} (S : CallFix p m c cc nL s args Ts own) (hM : vx_Met l y ws rm Pc Qc XC mc ms free) (cw : vx_CSW R s args own index y bytes maxL ret hh ws rm mc ms n) (hp : PreS s H Pc As)
    (hg : g.method = m) (hn : As.length = n) (hsize : g.locals.size = nL) (hstack : g.stack = As.reverse ++ rest) (hW : 2 * g.monitorRoom + (rest.map fun v => v.category).sum ≤ 8) (hdg : decode cc g.pc = .ok (.invokestatic index, 3)) (hf : cells + mc ≤ R.cells ∧ slots + ms ≤ R.slots) :
    vx_Run p l e R s m args below meth c H locs cells slots mc ms g rest (Qc As.toArray) XC free := by
  obtain ⟨⟨hrc, hrs, hfr, hlo, hws, hcw⟩, hcode, hini, hy, hlen, hl, hstt⟩ := cw
  have hK : vx_Back l R p e below s args y 3 8 (PreOf R mc ms Pc) (PostOf Qc mc ms free) (vx_Post XC mc ms free) := vx_backW (hh := hh) (bytes := bytes) (maxL := maxL) (ret := ret) hM hp.1 hrc hrs hfr hlo hws hcw (fun a' U hW => word_at hW (Or.inl (by first | rfl | simp [Cond.onTables, Cond.keeps, Cond.steady])) hini)
  obtain ⟨hx, hb, hml, ho, -⟩ := S
  intro T hT X
  rcases vx_callSX X hx (hh := hh) (bytes := bytes) (maxL := maxL) (ret := ret) ho hl hstt hini hcode hy hK hg (hsize.trans hml.symm) (argsL := As) (rest := rest) (fun sig h => hn.trans (hlen sig h)) hstack hW (by rw [hb]; exact hdg)
    (fun vm₁ hW₁ => ⟨hf.1, hf.2, hp.2 (T.setVm vm₁) hT hW₁⟩) with ⟨v, vm₁, ⟨U', l2, c2, s2⟩, hW₁, X', ⟨g', mk, t, L, e1, e2, hq, h1, hL, h2, h3⟩, st⟩ | ⟨q, vm₁, ⟨U', l2, c2, s2⟩, hW₁, X', ⟨g', mk, t, L, E, ce, e1, e2, hq, hce, hcv, hcl, h1, hL, h2, h3⟩, st⟩
  · dsimp only [Pt.U, Pt.locs, Pt.cells, Pt.slots] at X' e1 e2 h1 h2 h3 st
    subst h1; subst h2; subst h3
    exact Or.inl ⟨v, (T.setVm vm₁).calling g' mk As.toArray, t, U', L, hT, X', hL, e1, e2, hq, st⟩
  · dsimp only [Pt.U, Pt.locs, Pt.cells, Pt.slots] at X' e1 e2 h1 h2 h3 st hcl
    subst h1; subst h2; subst h3
    exact Or.inr ⟨q, (T.setVm vm₁).calling g' mk As.toArray, t, U', L, E, ce, hT, X', hL, e1, e2, hq, hce, hcv, vx_cls hW₁ hcl, st⟩
end
end VXH
theorem vx_ofWH {l : Launch} {y : MethodName} {ws ws' : List Cond} {rm : Room} {Pc : Array Value → State → Prop} {Qc : Array Value → State → Outcome → State → Prop} {XC : String → State → State → Prop} {mc ms : Nat} {free : Addr → Prop} {cc : ByteArray} {maxL : Nat} {ret : Option FieldType} {hh : List (Nat × Nat × Nat × Nat)}
    (hy : plainName y.cls = true) (hw : ws = Cond.codeWith y cc maxL ret hh :: ws')
    (body : ∀ p e s m args below meth c s₁, BodyLoose p l y (headSpec ws rm) cc maxL ret e s m args below meth c s₁ → c.maxLocals = maxL → Pc args s →
      W p l e (headSpec ws rm).room s m args below meth c s.heap [] 0 0 (vx_MQ below Qc XC args s mc ms free) (entryFrame m args maxL)) : vx_Met l y ws rm Pc Qc XC mc ms free := by
  refine MetFree.of_bodyS (code := cc) (maxLocals := maxL) (ret := ret) hy ?_ ?_
  · intro args s m h hn
    obtain ⟨m9, meth, c, hn9, h1, h2, h3, h4, -, h5, h6, -⟩ := Cond.codeWith_spec (atoms_spec (ws := ws) h _ (by rw [hw]; exact List.mem_cons_self))
    cases hn.symm.trans hn9
    exact ⟨meth, c, h1, h2, h3, h4, h5, h6⟩
  · intro p e s m args below meth c s₁ B hml hP _
    have hh0 : s₁.heap = s.heap := by rw [B.state]; rfl
    obtain ⟨t, a1, o, b1, b2, b3⟩ := body p e s m args below meth c s₁ B hml hP s₁ hh0 (Stand.of_body B)
    exact ⟨t, o, a1, b1, b2, b3⟩
/-! ===== END ===== -/
end
section
def RX0 : String := "EchoLine$Chamber"
def TX0 : u_T := fun k => match k with
  | 0 => ("EchoLine$Chamber", "beat", "I", false)
  | 1 => ("EchoLine$Chamber", "words", "I", false)
  | 2 => ("EchoLine$Chamber", "walls", "[I", true)
  | 3 => ("EchoLine$Chamber", "settings", "[I", true)
  | 4 => ("EchoLine$Chamber", "seatOf", "[I", true)
  | 5 => ("EchoLine$Chamber", "wordOf", "[I", true)
  | 6 => ("EchoLine$Chamber", "markOf", "[I", true)
  | 7 => ("EchoLine$Chamber", "saidAt", "[I", true)
  | 8 => ("EchoLine$Chamber", "comesAt", "[[I", true)
  | 9 => ("EchoLine$Chamber", "firstHeardAt", "[[I", true)
  | 10 => ("EchoLine$Chamber", "heardNumber", "[[I", true)
  | _ => ("EchoLine$Chamber", "messageWords", "[I", true)
def tyX0 : Nat → FieldType := fun k => match k with
  | 0 => .int
  | 1 => .int
  | 2 => .array .int
  | 3 => .array .int
  | 4 => .array .int
  | 5 => .array .int
  | 6 => .array .int
  | 7 => .array .int
  | 8 => .array (.array .int)
  | 9 => .array (.array .int)
  | 10 => .array (.array .int)
  | _ => .array .int
abbrev wsX00 : List Cond := u_ws RX0 TX0 12
theorem nmX0 : ∀ a, a < 12 → ∀ b, b < 12 → a ≠ b → (TX0 a).2.1 ≠ (TX0 b).2.1 := by decide +kernel
theorem tyX0_ok : ∀ k, k < 12 → parseFieldDescriptor (TX0 k).2.2.1 = some (tyX0 k) := by decide +kernel
abbrev cX0_init : ByteArray := prog_2_method_1_code
def yX0_init : MethodName := ⟨RX0, "<init>", "()V"⟩
abbrev cX0_become : ByteArray := prog_2_method_2_code
def yX0_become : MethodName := ⟨RX0, "become", "(LEchoLine$Chamber;)V"⟩
abbrev cX0_canSpeak : ByteArray := prog_2_method_3_code
def yX0_canSpeak : MethodName := ⟨RX0, "canSpeak", "()Z"⟩
abbrev cX0_speak : ByteArray := prog_2_method_4_code
def yX0_speak : MethodName := ⟨RX0, "speak", "(III)I"⟩
abbrev cX0_canRest : ByteArray := prog_2_method_5_code
def yX0_canRest : MethodName := ⟨RX0, "canRest", "(I)Z"⟩
abbrev cX0_rest : ByteArray := prog_2_method_6_code
def yX0_rest : MethodName := ⟨RX0, "rest", "(I)V"⟩
abbrev cX0_endBeat : ByteArray := prog_2_method_7_code
def yX0_endBeat : MethodName := ⟨RX0, "endBeat", "()V"⟩
abbrev cX0_delayBetween : ByteArray := prog_2_method_8_code
def yX0_delayBetween : MethodName := ⟨RX0, "delayBetween", "(II)I"⟩
abbrev cX0_secondLast : ByteArray := prog_2_method_9_code
def yX0_secondLast : MethodName := ⟨RX0, "secondLast", "(II)I"⟩
abbrev cX0_messagePlace : ByteArray := prog_2_method_10_code
def yX0_messagePlace : MethodName := ⟨RX0, "messagePlace", "(II)I"⟩
def RX1 : String := "EchoLine$Hash"
def TX1 : u_T := fun k => match k with
  | _ => ("EchoLine$Hash", "value", "J", false)
def tyX1 : Nat → FieldType := fun k => match k with
  | _ => .long
abbrev wsX10 : List Cond := u_ws RX1 TX1 1
theorem nmX1 : ∀ a, a < 1 → ∀ b, b < 1 → a ≠ b → (TX1 a).2.1 ≠ (TX1 b).2.1 := by decide +kernel
theorem tyX1_ok : ∀ k, k < 1 → parseFieldDescriptor (TX1 k).2.2.1 = some (tyX1 k) := by decide +kernel
abbrev cX1_init : ByteArray := prog_3_method_1_code
def yX1_init : MethodName := ⟨RX1, "<init>", "()V"⟩
abbrev cX1_take : ByteArray := prog_3_method_2_code
def yX1_take : MethodName := ⟨RX1, "take", "(J)V"⟩
abbrev cX1_bitsOf : ByteArray := prog_3_method_3_code
def yX1_bitsOf : MethodName := ⟨RX1, "bitsOf", "(D)J"⟩
def RX2 : String := "EchoLine$History"
def TX2 : u_T := fun k => match k with
  | 0 => ("EchoLine$History", "size", "I", false)
  | _ => ("EchoLine$History", "saved", "[LEchoLine$Chamber;", true)
def tyX2 : Nat → FieldType := fun k => match k with
  | 0 => .int
  | _ => .array (.object "EchoLine$Chamber")
abbrev wsX20 : List Cond := u_ws RX2 TX2 2
theorem nmX2 : ∀ a, a < 2 → ∀ b, b < 2 → a ≠ b → (TX2 a).2.1 ≠ (TX2 b).2.1 := by decide +kernel
theorem tyX2_ok : ∀ k, k < 2 → parseFieldDescriptor (TX2 k).2.2.1 = some (tyX2 k) := by decide +kernel
abbrev cX2_init : ByteArray := prog_4_method_1_code
def yX2_init : MethodName := ⟨RX2, "<init>", "()V"⟩
abbrev cX2_save : ByteArray := prog_4_method_2_code
def yX2_save : MethodName := ⟨RX2, "save", "(LEchoLine$Chamber;)V"⟩
abbrev cX2_dropOldest : ByteArray := prog_4_method_3_code
def yX2_dropOldest : MethodName := ⟨RX2, "dropOldest", "()V"⟩
abbrev cX2_latest : ByteArray := prog_4_method_4_code
def yX2_latest : MethodName := ⟨RX2, "latest", "()LEchoLine$Chamber;"⟩
abbrev cX2_dropLatest : ByteArray := prog_4_method_5_code
def yX2_dropLatest : MethodName := ⟨RX2, "dropLatest", "()V"⟩
def RX3 : String := "EchoLine$Report"
def TX3 : u_T := fun k => match k with
  | _ => ("EchoLine$Report", "chamber", "LEchoLine$Chamber;", true)
def tyX3 : Nat → FieldType := fun k => match k with
  | _ => .object "EchoLine$Chamber"
abbrev wsX30 : List Cond := u_ws RX3 TX3 1
theorem nmX3 : ∀ a, a < 1 → ∀ b, b < 1 → a ≠ b → (TX3 a).2.1 ≠ (TX3 b).2.1 := by decide +kernel
theorem tyX3_ok : ∀ k, k < 1 → parseFieldDescriptor (TX3 k).2.2.1 = some (tyX3 k) := by decide +kernel
abbrev cX3_init : ByteArray := prog_5_method_1_code
def yX3_init : MethodName := ⟨RX3, "<init>", "(LEchoLine$Chamber;)V"⟩
abbrev cX3_ofWord : ByteArray := prog_5_method_2_code
def yX3_ofWord : MethodName := ⟨RX3, "ofWord", "(II)I"⟩
abbrev cX3_maskOf : ByteArray := prog_5_method_3_code
def yX3_maskOf : MethodName := ⟨RX3, "maskOf", "([[II)I"⟩
abbrev cX3_ofBeat : ByteArray := prog_5_method_4_code
def yX3_ofBeat : MethodName := ⟨RX3, "ofBeat", "(III)I"⟩
abbrev cX3_isRepeated : ByteArray := prog_5_method_5_code
def yX3_isRepeated : MethodName := ⟨RX3, "isRepeated", "(II)Z"⟩
abbrev cX3_ofSpeaker : ByteArray := prog_5_method_6_code
def yX3_ofSpeaker : MethodName := ⟨RX3, "ofSpeaker", "(II)I"⟩
abbrev cX3_heardBeats : ByteArray := prog_5_method_7_code
def yX3_heardBeats : MethodName := ⟨RX3, "heardBeats", "(I)I"⟩
abbrev cX3_heardWordsByBeats : ByteArray := prog_5_method_8_code
def yX3_heardWordsByBeats : MethodName := ⟨RX3, "heardWordsByBeats", "(I)I"⟩
abbrev cX3_heardWordsByWords : ByteArray := prog_5_method_9_code
def yX3_heardWordsByWords : MethodName := ⟨RX3, "heardWordsByWords", "(I)I"⟩
abbrev cX3_repeatedBeats : ByteArray := prog_5_method_10_code
def yX3_repeatedBeats : MethodName := ⟨RX3, "repeatedBeats", "(I)I"⟩
abbrev cX3_gaps : ByteArray := prog_5_method_11_code
def yX3_gaps : MethodName := ⟨RX3, "gaps", "(I)I"⟩
abbrev cX3_wordsSaidBy : ByteArray := prog_5_method_12_code
def yX3_wordsSaidBy : MethodName := ⟨RX3, "wordsSaidBy", "(I)I"⟩
abbrev cX3_hearingOf : ByteArray := prog_5_method_13_code
def yX3_hearingOf : MethodName := ⟨RX3, "hearingOf", "(III)I"⟩
abbrev cX3_ofAll : ByteArray := prog_5_method_14_code
def yX3_ofAll : MethodName := ⟨RX3, "ofAll", "(I)I"⟩
abbrev cX3_wordsHeardByMask : ByteArray := prog_5_method_15_code
def yX3_wordsHeardByMask : MethodName := ⟨RX3, "wordsHeardByMask", "(I)I"⟩
abbrev cX3_messages : ByteArray := prog_5_method_16_code
def yX3_messages : MethodName := ⟨RX3, "messages", "()I"⟩
abbrev cX3_messagesHeardWhole : ByteArray := prog_5_method_17_code
def yX3_messagesHeardWhole : MethodName := ⟨RX3, "messagesHeardWhole", "()I"⟩
abbrev cX3_allHeardWhole : ByteArray := prog_5_method_18_code
def yX3_allHeardWhole : MethodName := ⟨RX3, "allHeardWhole", "(II)Z"⟩
abbrev cX3_whyUnheard : ByteArray := prog_5_method_19_code
def yX3_whyUnheard : MethodName := ⟨RX3, "whyUnheard", "(II)I"⟩
abbrev cX3_silentBeatsUntilHeard : ByteArray := prog_5_method_20_code
def yX3_silentBeatsUntilHeard : MethodName := ⟨RX3, "silentBeatsUntilHeard", "(II)I"⟩
abbrev cX3_bestPlace : ByteArray := prog_5_method_21_code
def yX3_bestPlace : MethodName := ⟨RX3, "bestPlace", "()I"⟩
abbrev cX3_share : ByteArray := prog_5_method_22_code
def yX3_share : MethodName := ⟨RX3, "share", "()D"⟩
def RX4 : String := "EchoLine$Text"
def TX4 : u_T := fun k => match k with
  | 0 => ("EchoLine$Text", "length", "I", false)
  | _ => ("EchoLine$Text", "signs", "[C", true)
def tyX4 : Nat → FieldType := fun k => match k with
  | 0 => .int
  | _ => .array .char
abbrev wsX40 : List Cond := u_ws RX4 TX4 2
theorem nmX4 : ∀ a, a < 2 → ∀ b, b < 2 → a ≠ b → (TX4 a).2.1 ≠ (TX4 b).2.1 := by decide +kernel
theorem tyX4_ok : ∀ k, k < 2 → parseFieldDescriptor (TX4 k).2.2.1 = some (tyX4 k) := by decide +kernel
abbrev cX4_init : ByteArray := prog_6_method_1_code
def yX4_init : MethodName := ⟨RX4, "<init>", "()V"⟩
abbrev cX4_add : ByteArray := prog_6_method_2_code
def yX4_add : MethodName := ⟨RX4, "add", "(C)V"⟩
abbrev cX4_errorPlace : ByteArray := prog_6_method_3_code
def yX4_errorPlace : MethodName := ⟨RX4, "errorPlace", "()I"⟩
abbrev cX4_isComplete : ByteArray := prog_6_method_4_code
def yX4_isComplete : MethodName := ⟨RX4, "isComplete", "()Z"⟩
abbrev cX4_next : ByteArray := prog_6_method_5_code
def yX4_next : MethodName := ⟨RX4, "next", "(IC)I"⟩
abbrev cX4_behindWord : ByteArray := prog_6_method_6_code
def yX4_behindWord : MethodName := ⟨RX4, "behindWord", "(C)I"⟩
abbrev cX4_behindPart : ByteArray := prog_6_method_7_code
def yX4_behindPart : MethodName := ⟨RX4, "behindPart", "(C)I"⟩
abbrev cX4_pauseDigit : ByteArray := prog_6_method_8_code
def yX4_pauseDigit : MethodName := ⟨RX4, "pauseDigit", "(C)I"⟩
abbrev cX4_isDigit : ByteArray := prog_6_method_9_code
def yX4_isDigit : MethodName := ⟨RX4, "isDigit", "(C)Z"⟩
abbrev cX4_happenIn : ByteArray := prog_6_method_10_code
def yX4_happenIn : MethodName := ⟨RX4, "happenIn", "(LEchoLine$Chamber;)V"⟩
abbrev cX4_partEnd : ByteArray := prog_6_method_11_code
def yX4_partEnd : MethodName := ⟨RX4, "partEnd", "(I)I"⟩
abbrev cX4_restIn : ByteArray := prog_6_method_12_code
def yX4_restIn : MethodName := ⟨RX4, "restIn", "(LEchoLine$Chamber;II)Z"⟩
abbrev cX4_speakIn : ByteArray := prog_6_method_13_code
def yX4_speakIn : MethodName := ⟨RX4, "speakIn", "(LEchoLine$Chamber;II)Z"⟩
def RX5 : String := "EchoLine"
def TX5 : u_T := fun k => match k with
  | 0 => ("EchoLine", "now", "LEchoLine$Chamber;", true)
  | 1 => ("EchoLine", "report", "LEchoLine$Report;", true)
  | 2 => ("EchoLine", "history", "LEchoLine$History;", true)
  | 3 => ("EchoLine", "text", "LEchoLine$Text;", true)
  | _ => ("EchoLine", "snapshot", "LEchoLine$Chamber;", false)
def tyX5 : Nat → FieldType := fun k => match k with
  | 0 => .object "EchoLine$Chamber"
  | 1 => .object "EchoLine$Report"
  | 2 => .object "EchoLine$History"
  | 3 => .object "EchoLine$Text"
  | _ => .object "EchoLine$Chamber"
abbrev wsX50 : List Cond := u_ws RX5 TX5 5
theorem nmX5 : ∀ a, a < 5 → ∀ b, b < 5 → a ≠ b → (TX5 a).2.1 ≠ (TX5 b).2.1 := by decide +kernel
theorem tyX5_ok : ∀ k, k < 5 → parseFieldDescriptor (TX5 k).2.2.1 = some (tyX5 k) := by decide +kernel
abbrev cX5_init : ByteArray := prog_1_method_1_code
def yX5_init : MethodName := ⟨RX5, "<init>", "()V"⟩
abbrev cX5_say : ByteArray := prog_1_method_2_code
def yX5_say : MethodName := ⟨RX5, "say", "(III)I"⟩
abbrev cX5_pass : ByteArray := prog_1_method_3_code
def yX5_pass : MethodName := ⟨RX5, "pass", "(I)I"⟩
abbrev cX5_wall : ByteArray := prog_1_method_4_code
def yX5_wall : MethodName := ⟨RX5, "wall", "(II)I"⟩
abbrev cX5_set : ByteArray := prog_1_method_5_code
def yX5_set : MethodName := ⟨RX5, "set", "(II)I"⟩
abbrev cX5_append : ByteArray := prog_1_method_6_code
def yX5_append : MethodName := ⟨RX5, "append", "(I)I"⟩
abbrev cX5_clearBuffer : ByteArray := prog_1_method_7_code
def yX5_clearBuffer : MethodName := ⟨RX5, "clearBuffer", "()I"⟩
abbrev cX5_firstError : ByteArray := prog_1_method_8_code
def yX5_firstError : MethodName := ⟨RX5, "firstError", "()I"⟩
abbrev cX5_talk : ByteArray := prog_1_method_9_code
def yX5_talk : MethodName := ⟨RX5, "talk", "()I"⟩
abbrev cX5_undo : ByteArray := prog_1_method_10_code
def yX5_undo : MethodName := ⟨RX5, "undo", "()I"⟩
abbrev cX5_keep : ByteArray := prog_1_method_11_code
def yX5_keep : MethodName := ⟨RX5, "keep", "()I"⟩
abbrev cX5_restore : ByteArray := prog_1_method_12_code
def yX5_restore : MethodName := ⟨RX5, "restore", "()I"⟩
abbrev cX5_said : ByteArray := prog_1_method_13_code
def yX5_said : MethodName := ⟨RX5, "said", "(II)I"⟩
abbrev cX5_comes : ByteArray := prog_1_method_14_code
def yX5_comes : MethodName := ⟨RX5, "comes", "(II)I"⟩
abbrev cX5_heard : ByteArray := prog_1_method_15_code
def yX5_heard : MethodName := ⟨RX5, "heard", "(III)I"⟩
abbrev cX5_speaker : ByteArray := prog_1_method_16_code
def yX5_speaker : MethodName := ⟨RX5, "speaker", "(II)I"⟩
abbrev cX5_message : ByteArray := prog_1_method_17_code
def yX5_message : MethodName := ⟨RX5, "message", "(III)I"⟩
abbrev cX5_count : ByteArray := prog_1_method_18_code
def yX5_count : MethodName := ⟨RX5, "count", "(I)I"⟩
abbrev cX5_whyNot : ByteArray := prog_1_method_19_code
def yX5_whyNot : MethodName := ⟨RX5, "whyNot", "(II)I"⟩
abbrev cX5_ifSilent : ByteArray := prog_1_method_20_code
def yX5_ifSilent : MethodName := ⟨RX5, "ifSilent", "(I)I"⟩
abbrev cX5_heardIn : ByteArray := prog_1_method_21_code
def yX5_heardIn : MethodName := ⟨RX5, "heardIn", "(II)I"⟩
abbrev cX5_bestSeat : ByteArray := prog_1_method_22_code
def yX5_bestSeat : MethodName := ⟨RX5, "bestSeat", "()I"⟩
abbrev cX5_heardShare : ByteArray := prog_1_method_23_code
def yX5_heardShare : MethodName := ⟨RX5, "heardShare", "()D"⟩
abbrev cX5_digest : ByteArray := prog_1_method_24_code
def yX5_digest : MethodName := ⟨RX5, "digest", "()J"⟩
abbrev cX5_takeSpeakers : ByteArray := prog_1_method_25_code
def yX5_takeSpeakers : MethodName := ⟨RX5, "takeSpeakers", "(LEchoLine$Hash;)V"⟩
abbrev cX5_takeLatestWords : ByteArray := prog_1_method_26_code
def yX5_takeLatestWords : MethodName := ⟨RX5, "takeLatestWords", "(LEchoLine$Hash;)V"⟩
abbrev cX5_takeLatestBeats : ByteArray := prog_1_method_27_code
def yX5_takeLatestBeats : MethodName := ⟨RX5, "takeLatestBeats", "(LEchoLine$Hash;)V"⟩
abbrev cX5_takeMessages : ByteArray := prog_1_method_28_code
def yX5_takeMessages : MethodName := ⟨RX5, "takeMessages", "(LEchoLine$Hash;)V"⟩
abbrev cX5_total : ByteArray := prog_1_method_29_code
def yX5_total : MethodName := ⟨RX5, "total", "(I)I"⟩
abbrev cX5_isWithin : ByteArray := prog_1_method_30_code
def yX5_isWithin : MethodName := ⟨RX5, "isWithin", "(III)Z"⟩
abbrev cX5_requireSeat : ByteArray := prog_1_method_31_code
def yX5_requireSeat : MethodName := ⟨RX5, "requireSeat", "(I)V"⟩
abbrev cX5_require : ByteArray := prog_1_method_32_code
def yX5_require : MethodName := ⟨RX5, "require", "(Z)V"⟩
def RX6 : String := "EchoLineModel"
def TX6 : u_T := fun k => match k with
  | 0 => ("EchoLineModel", "s", "[I", true)
  | 1 => ("EchoLineModel", "states", "I", false)
  | 2 => ("EchoLineModel", "isKept", "Z", false)
  | 3 => ("EchoLineModel", "thrown", "I", false)
  | 4 => ("EchoLineModel", "text", "[C", true)
  | 5 => ("EchoLineModel", "typed", "I", false)
  | 6 => ("EchoLineModel", "at", "I", false)
  | 7 => ("EchoLineModel", "isWrong", "Z", false)
  | 8 => ("EchoLineModel", "seatOf", "I", false)
  | 9 => ("EchoLineModel", "markOf", "I", false)
  | 10 => ("EchoLineModel", "pause", "I", false)
  | 11 => ("EchoLineModel", "many", "I", false)
  | _ => ("EchoLineModel", "words", "[I", true)
def tyX6 : Nat → FieldType := fun k => match k with
  | 0 => .array .int
  | 1 => .int
  | 2 => .boolean
  | 3 => .int
  | 4 => .array .char
  | 5 => .int
  | 6 => .int
  | 7 => .boolean
  | 8 => .int
  | 9 => .int
  | 10 => .int
  | 11 => .int
  | _ => .array .int
abbrev wsX60 : List Cond := u_ws RX6 TX6 13
theorem nmX6 : ∀ a, a < 13 → ∀ b, b < 13 → a ≠ b → (TX6 a).2.1 ≠ (TX6 b).2.1 := by decide +kernel
theorem tyX6_ok : ∀ k, k < 13 → parseFieldDescriptor (TX6 k).2.2.1 = some (tyX6 k) := by decide +kernel
abbrev cX6_init : ByteArray := prog_8_method_1_code
def yX6_init : MethodName := ⟨RX6, "<init>", "()V"⟩
abbrev cX6_thrown : ByteArray := prog_8_method_2_code
def yX6_thrown : MethodName := ⟨RX6, "thrown", "()I"⟩
abbrev cX6_in : ByteArray := prog_8_method_3_code
def yX6_in : MethodName := ⟨RX6, "in", "(III)Z"⟩
abbrev cX6_goes : ByteArray := prog_8_method_4_code
def yX6_goes : MethodName := ⟨RX6, "goes", "(ZZZ)Z"⟩
abbrev cX6_copies : ByteArray := prog_8_method_5_code
def yX6_copies : MethodName := ⟨RX6, "copies", "(II)V"⟩
abbrev cX6_saves : ByteArray := prog_8_method_6_code
def yX6_saves : MethodName := ⟨RX6, "saves", "()V"⟩
abbrev cX6_part : ByteArray := prog_8_method_7_code
def yX6_part : MethodName := ⟨RX6, "part", "(II)I"⟩
abbrev cX6_isSeat : ByteArray := prog_8_method_8_code
def yX6_isSeat : MethodName := ⟨RX6, "isSeat", "(I)Z"⟩
abbrev cX6_apart : ByteArray := prog_8_method_9_code
def yX6_apart : MethodName := ⟨RX6, "apart", "(II)I"⟩
abbrev cX6_delay : ByteArray := prog_8_method_10_code
def yX6_delay : MethodName := ⟨RX6, "delay", "(II)I"⟩
abbrev cX6_voice : ByteArray := prog_8_method_11_code
def yX6_voice : MethodName := ⟨RX6, "voice", "(II)I"⟩
abbrev cX6_ends : ByteArray := prog_8_method_12_code
def yX6_ends : MethodName := ⟨RX6, "ends", "()V"⟩
abbrev cX6_speaks : ByteArray := prog_8_method_13_code
def yX6_speaks : MethodName := ⟨RX6, "speaks", "(III)I"⟩
abbrev cX6_canSpeak : ByteArray := prog_8_method_14_code
def yX6_canSpeak : MethodName := ⟨RX6, "canSpeak", "()Z"⟩
abbrev cX6_passes : ByteArray := prog_8_method_15_code
def yX6_passes : MethodName := ⟨RX6, "passes", "(I)V"⟩
abbrev cX6_say : ByteArray := prog_8_method_16_code
def yX6_say : MethodName := ⟨RX6, "say", "(III)I"⟩
abbrev cX6_pass : ByteArray := prog_8_method_17_code
def yX6_pass : MethodName := ⟨RX6, "pass", "(I)I"⟩
abbrev cX6_wall : ByteArray := prog_8_method_18_code
def yX6_wall : MethodName := ⟨RX6, "wall", "(II)I"⟩
abbrev cX6_set : ByteArray := prog_8_method_19_code
def yX6_set : MethodName := ⟨RX6, "set", "(II)I"⟩
abbrev cX6_append : ByteArray := prog_8_method_20_code
def yX6_append : MethodName := ⟨RX6, "append", "(I)I"⟩
abbrev cX6_clearBuffer : ByteArray := prog_8_method_21_code
def yX6_clearBuffer : MethodName := ⟨RX6, "clearBuffer", "()I"⟩
abbrev cX6_isNow : ByteArray := prog_8_method_22_code
def yX6_isNow : MethodName := ⟨RX6, "isNow", "(II)Z"⟩
abbrev cX6_sign : ByteArray := prog_8_method_23_code
def yX6_sign : MethodName := ⟨RX6, "sign", "(I)V"⟩
abbrev cX6_digit : ByteArray := prog_8_method_24_code
def yX6_digit : MethodName := ⟨RX6, "digit", "(I)I"⟩
abbrev cX6_number : ByteArray := prog_8_method_25_code
def yX6_number : MethodName := ⟨RX6, "number", "(I)I"⟩
abbrev cX6_reads : ByteArray := prog_8_method_26_code
def yX6_reads : MethodName := ⟨RX6, "reads", "()V"⟩
abbrev cX6_readsAll : ByteArray := prog_8_method_27_code
def yX6_readsAll : MethodName := ⟨RX6, "readsAll", "()V"⟩
abbrev cX6_firstError : ByteArray := prog_8_method_28_code
def yX6_firstError : MethodName := ⟨RX6, "firstError", "()I"⟩
abbrev cX6_talk : ByteArray := prog_8_method_29_code
def yX6_talk : MethodName := ⟨RX6, "talk", "()I"⟩
abbrev cX6_undo : ByteArray := prog_8_method_30_code
def yX6_undo : MethodName := ⟨RX6, "undo", "()I"⟩
abbrev cX6_keep : ByteArray := prog_8_method_31_code
def yX6_keep : MethodName := ⟨RX6, "keep", "()I"⟩
abbrev cX6_restore : ByteArray := prog_8_method_32_code
def yX6_restore : MethodName := ⟨RX6, "restore", "()I"⟩
abbrev cX6_heardAt : ByteArray := prog_8_method_33_code
def yX6_heardAt : MethodName := ⟨RX6, "heardAt", "(II)I"⟩
abbrev cX6_firstHeard : ByteArray := prog_8_method_34_code
def yX6_firstHeard : MethodName := ⟨RX6, "firstHeard", "(II)I"⟩
abbrev cX6_hearers : ByteArray := prog_8_method_35_code
def yX6_hearers : MethodName := ⟨RX6, "hearers", "(I)I"⟩
abbrev cX6_reached : ByteArray := prog_8_method_36_code
def yX6_reached : MethodName := ⟨RX6, "reached", "(I)I"⟩
abbrev cX6_ofWord : ByteArray := prog_8_method_37_code
def yX6_ofWord : MethodName := ⟨RX6, "ofWord", "(II)I"⟩
abbrev cX6_said : ByteArray := prog_8_method_38_code
def yX6_said : MethodName := ⟨RX6, "said", "(II)I"⟩
abbrev cX6_comesTo : ByteArray := prog_8_method_39_code
def yX6_comesTo : MethodName := ⟨RX6, "comesTo", "(II)I"⟩
abbrev cX6_comes : ByteArray := prog_8_method_40_code
def yX6_comes : MethodName := ⟨RX6, "comes", "(II)I"⟩
abbrev cX6_ofHeard : ByteArray := prog_8_method_41_code
def yX6_ofHeard : MethodName := ⟨RX6, "ofHeard", "(III)I"⟩
abbrev cX6_heard : ByteArray := prog_8_method_42_code
def yX6_heard : MethodName := ⟨RX6, "heard", "(III)I"⟩
abbrev cX6_distinct : ByteArray := prog_8_method_43_code
def yX6_distinct : MethodName := ⟨RX6, "distinct", "(I)I"⟩
abbrev cX6_wordsOf : ByteArray := prog_8_method_44_code
def yX6_wordsOf : MethodName := ⟨RX6, "wordsOf", "(I)I"⟩
abbrev cX6_gaps : ByteArray := prog_8_method_45_code
def yX6_gaps : MethodName := ⟨RX6, "gaps", "(I)I"⟩
abbrev cX6_beatsOf : ByteArray := prog_8_method_46_code
def yX6_beatsOf : MethodName := ⟨RX6, "beatsOf", "(IZ)I"⟩
abbrev cX6_ofSpeaker : ByteArray := prog_8_method_47_code
def yX6_ofSpeaker : MethodName := ⟨RX6, "ofSpeaker", "(II)I"⟩
abbrev cX6_speaker : ByteArray := prog_8_method_48_code
def yX6_speaker : MethodName := ⟨RX6, "speaker", "(II)I"⟩
abbrev cX6_how : ByteArray := prog_8_method_49_code
def yX6_how : MethodName := ⟨RX6, "how", "(III)I"⟩
abbrev cX6_message : ByteArray := prog_8_method_50_code
def yX6_message : MethodName := ⟨RX6, "message", "(III)I"⟩
abbrev cX6_wordsHeardBy : ByteArray := prog_8_method_51_code
def yX6_wordsHeardBy : MethodName := ⟨RX6, "wordsHeardBy", "(I)I"⟩
abbrev cX6_messages : ByteArray := prog_8_method_52_code
def yX6_messages : MethodName := ⟨RX6, "messages", "(Z)I"⟩
abbrev cX6_counted : ByteArray := prog_8_method_53_code
def yX6_counted : MethodName := ⟨RX6, "counted", "(I)I"⟩
abbrev cX6_count : ByteArray := prog_8_method_54_code
def yX6_count : MethodName := ⟨RX6, "count", "(I)I"⟩
abbrev cX6_reason : ByteArray := prog_8_method_55_code
def yX6_reason : MethodName := ⟨RX6, "reason", "(II)I"⟩
abbrev cX6_whyNot : ByteArray := prog_8_method_56_code
def yX6_whyNot : MethodName := ⟨RX6, "whyNot", "(II)I"⟩
abbrev cX6_ifSilent : ByteArray := prog_8_method_57_code
def yX6_ifSilent : MethodName := ⟨RX6, "ifSilent", "(I)I"⟩
abbrev cX6_silentBeats : ByteArray := prog_8_method_58_code
def yX6_silentBeats : MethodName := ⟨RX6, "silentBeats", "(II)I"⟩
abbrev cX6_heardIn : ByteArray := prog_8_method_59_code
def yX6_heardIn : MethodName := ⟨RX6, "heardIn", "(II)I"⟩
abbrev cX6_best : ByteArray := prog_8_method_60_code
def yX6_best : MethodName := ⟨RX6, "best", "()I"⟩
abbrev cX6_bestSeat : ByteArray := prog_8_method_61_code
def yX6_bestSeat : MethodName := ⟨RX6, "bestSeat", "()I"⟩
abbrev cX6_share : ByteArray := prog_8_method_62_code
def yX6_share : MethodName := ⟨RX6, "share", "()D"⟩
abbrev cX6_heardShare : ByteArray := prog_8_method_63_code
def yX6_heardShare : MethodName := ⟨RX6, "heardShare", "()D"⟩
abbrev cX6_digest : ByteArray := prog_8_method_64_code
def yX6_digest : MethodName := ⟨RX6, "digest", "()J"⟩
def RJxe99ae : String := "java/lang/Double"
def TJxe99ae : u_T := fun k => match k with
  | _ => ("", "", "", false)
def tyJxe99ae : Nat → FieldType := fun k => match k with
  | _ => .int
abbrev wsJxe99ae0 : List Cond := u_ws RJxe99ae TJxe99ae 0
theorem nmJxe99ae : ∀ a, a < 0 → ∀ b, b < 0 → a ≠ b → (TJxe99ae a).2.1 ≠ (TJxe99ae b).2.1 := by decide +kernel
theorem tyJxe99ae_ok : ∀ k, k < 0 → parseFieldDescriptor (TJxe99ae k).2.2.1 = some (tyJxe99ae k) := by decide +kernel
abbrev cJxe99ae_isNaN_b9ae7 : ByteArray := prog_9_method_6_code
def yJxe99ae_isNaN_b9ae7 : MethodName := ⟨RJxe99ae, "isNaN", "(D)Z"⟩
abbrev cJxe99ae_doubleToLongBits_ccdee : ByteArray := prog_9_method_23_code
def yJxe99ae_doubleToLongBits_ccdee : MethodName := ⟨RJxe99ae, "doubleToLongBits", "(D)J"⟩
def RJ9 : String := "java/lang/Math"
def TJ9 : u_T := fun k => match k with
  | _ => ("", "", "", false)
def tyJ9 : Nat → FieldType := fun k => match k with
  | _ => .int
abbrev wsJ90 : List Cond := u_ws RJ9 TJ9 0
theorem nmJ9 : ∀ a, a < 0 → ∀ b, b < 0 → a ≠ b → (TJ9 a).2.1 ≠ (TJ9 b).2.1 := by decide +kernel
theorem tyJ9_ok : ∀ k, k < 0 → parseFieldDescriptor (TJ9 k).2.2.1 = some (tyJ9 k) := by decide +kernel
abbrev cJ9_abs_0f7a4 : ByteArray := prog_14_method_59_code
def yJ9_abs_0f7a4 : MethodName := ⟨RJ9, "abs", "(I)I"⟩
abbrev cJ9_max_7cf53 : ByteArray := prog_14_method_65_code
def yJ9_max_7cf53 : MethodName := ⟨RJ9, "max", "(II)I"⟩
abbrev cJ9_min_7cf53 : ByteArray := prog_14_method_69_code
def yJ9_min_7cf53 : MethodName := ⟨RJ9, "min", "(II)I"⟩
def RJ0 : String := "java/lang/String"
def TJ0 : u_T := fun k => match k with
  | _ => ("", "", "", false)
def tyJ0 : Nat → FieldType := fun k => match k with
  | _ => .int
abbrev wsJ00 : List Cond := u_ws RJ0 TJ0 0
theorem nmJ0 : ∀ a, a < 0 → ∀ b, b < 0 → a ≠ b → (TJ0 a).2.1 ≠ (TJ0 b).2.1 := by decide +kernel
theorem tyJ0_ok : ∀ k, k < 0 → parseFieldDescriptor (TJ0 k).2.2.1 = some (tyJ0 k) := by decide +kernel
def RJ10 : String := "java/lang/System"
def TJ10 : u_T := fun k => match k with
  | _ => ("", "", "", false)
def tyJ10 : Nat → FieldType := fun k => match k with
  | _ => .int
abbrev wsJ100 : List Cond := u_ws RJ10 TJ10 0
theorem nmJ10 : ∀ a, a < 0 → ∀ b, b < 0 → a ≠ b → (TJ10 a).2.1 ≠ (TJ10 b).2.1 := by decide +kernel
theorem tyJ10_ok : ∀ k, k < 0 → parseFieldDescriptor (TJ10 k).2.2.1 = some (tyJ10 k) := by decide +kernel
def RL : String := "EchoLineLaw"
abbrev cL_say : ByteArray := method_3_code
def yL_say : MethodName := ⟨RL, "say", "(LEchoLine;III[J)I"⟩
abbrev cL_pass : ByteArray := method_4_code
def yL_pass : MethodName := ⟨RL, "pass", "(LEchoLine;I[J)I"⟩
abbrev cL_wall : ByteArray := method_5_code
def yL_wall : MethodName := ⟨RL, "wall", "(LEchoLine;II[J)I"⟩
abbrev cL_set : ByteArray := method_6_code
def yL_set : MethodName := ⟨RL, "set", "(LEchoLine;II[J)I"⟩
abbrev cL_append : ByteArray := method_7_code
def yL_append : MethodName := ⟨RL, "append", "(LEchoLine;I[J)I"⟩
abbrev cL_talk : ByteArray := method_8_code
def yL_talk : MethodName := ⟨RL, "talk", "(LEchoLine;[J)I"⟩
abbrev cL_undo : ByteArray := method_9_code
def yL_undo : MethodName := ⟨RL, "undo", "(LEchoLine;[J)I"⟩
abbrev cL_restore : ByteArray := method_10_code
def yL_restore : MethodName := ⟨RL, "restore", "(LEchoLine;[J)I"⟩
abbrev cL_said : ByteArray := method_11_code
def yL_said : MethodName := ⟨RL, "said", "(LEchoLine;II[J)I"⟩
abbrev cL_comes : ByteArray := method_12_code
def yL_comes : MethodName := ⟨RL, "comes", "(LEchoLine;II[J)I"⟩
abbrev cL_heard : ByteArray := method_13_code
def yL_heard : MethodName := ⟨RL, "heard", "(LEchoLine;III[J)I"⟩
abbrev cL_speaker : ByteArray := method_14_code
def yL_speaker : MethodName := ⟨RL, "speaker", "(LEchoLine;II[J)I"⟩
abbrev cL_message : ByteArray := method_15_code
def yL_message : MethodName := ⟨RL, "message", "(LEchoLine;III[J)I"⟩
abbrev cL_count : ByteArray := method_16_code
def yL_count : MethodName := ⟨RL, "count", "(LEchoLine;I[J)I"⟩
abbrev cL_whyNot : ByteArray := method_17_code
def yL_whyNot : MethodName := ⟨RL, "whyNot", "(LEchoLine;II[J)I"⟩
abbrev cL_ifSilent : ByteArray := method_18_code
def yL_ifSilent : MethodName := ⟨RL, "ifSilent", "(LEchoLine;I[J)I"⟩
abbrev cL_heardIn : ByteArray := method_19_code
def yL_heardIn : MethodName := ⟨RL, "heardIn", "(LEchoLine;II[J)I"⟩
abbrev cL_law : ByteArray := code
def yL_law : MethodName := ⟨RL, "law", "([I)Z"⟩
abbrev vwCl : List vw_C := [(RX0, TX0, 12), (RX1, TX1, 1), (RX2, TX2, 2), (RX3, TX3, 1), (RX4, TX4, 2), (RX5, TX5, 5), (RX6, TX6, 13)]
end
section
theorem dX0_init_0 : decode cX0_init 0 = .ok (.aload_n 0, 1) := by decide +kernel
theorem dX0_init_1 : decode cX0_init 1 = .ok (.invokespecial 3, 3) := by decide +kernel
theorem dX0_init_4 : decode cX0_init 4 = .ok (.aload_n 0, 1) := by decide +kernel
theorem dX0_init_5 : decode cX0_init 5 = .ok (.bipush 6, 2) := by decide +kernel
theorem dX0_init_7 : decode cX0_init 7 = .ok (.newarray .int, 2) := by decide +kernel
theorem dX0_init_9 : decode cX0_init 9 = .ok (.putfield 9, 3) := by decide +kernel
theorem dX0_init_12 : decode cX0_init 12 = .ok (.aload_n 0, 1) := by decide +kernel
theorem dX0_init_13 : decode cX0_init 13 = .ok (.iconst 3, 1) := by decide +kernel
theorem dX0_init_14 : decode cX0_init 14 = .ok (.newarray .int, 2) := by decide +kernel
theorem dX0_init_16 : decode cX0_init 16 = .ok (.dup, 1) := by decide +kernel
theorem dX0_init_17 : decode cX0_init 17 = .ok (.iconst 0, 1) := by decide +kernel
theorem dX0_init_18 : decode cX0_init 18 = .ok (.iconst 1, 1) := by decide +kernel
theorem dX0_init_19 : decode cX0_init 19 = .ok (.iastore, 1) := by decide +kernel
theorem dX0_init_20 : decode cX0_init 20 = .ok (.dup, 1) := by decide +kernel
theorem dX0_init_21 : decode cX0_init 21 = .ok (.iconst 1, 1) := by decide +kernel
theorem dX0_init_22 : decode cX0_init 22 = .ok (.iconst 1, 1) := by decide +kernel
theorem dX0_init_23 : decode cX0_init 23 = .ok (.iastore, 1) := by decide +kernel
theorem dX0_init_24 : decode cX0_init 24 = .ok (.dup, 1) := by decide +kernel
theorem dX0_init_25 : decode cX0_init 25 = .ok (.iconst 2, 1) := by decide +kernel
theorem dX0_init_26 : decode cX0_init 26 = .ok (.bipush 8, 2) := by decide +kernel
theorem dX0_init_28 : decode cX0_init 28 = .ok (.iastore, 1) := by decide +kernel
theorem dX0_init_29 : decode cX0_init 29 = .ok (.putfield 15, 3) := by decide +kernel
theorem dX0_init_32 : decode cX0_init 32 = .ok (.aload_n 0, 1) := by decide +kernel
theorem dX0_init_33 : decode cX0_init 33 = .ok (.sipush 200, 3) := by decide +kernel
theorem dX0_init_36 : decode cX0_init 36 = .ok (.newarray .int, 2) := by decide +kernel
theorem dX0_init_38 : decode cX0_init 38 = .ok (.putfield 18, 3) := by decide +kernel
theorem dX0_init_41 : decode cX0_init 41 = .ok (.aload_n 0, 1) := by decide +kernel
theorem dX0_init_42 : decode cX0_init 42 = .ok (.sipush 200, 3) := by decide +kernel
theorem dX0_init_45 : decode cX0_init 45 = .ok (.newarray .int, 2) := by decide +kernel
theorem dX0_init_47 : decode cX0_init 47 = .ok (.putfield 21, 3) := by decide +kernel
theorem dX0_init_50 : decode cX0_init 50 = .ok (.aload_n 0, 1) := by decide +kernel
theorem dX0_init_51 : decode cX0_init 51 = .ok (.sipush 200, 3) := by decide +kernel
theorem dX0_init_54 : decode cX0_init 54 = .ok (.newarray .int, 2) := by decide +kernel
theorem dX0_init_56 : decode cX0_init 56 = .ok (.putfield 24, 3) := by decide +kernel
theorem dX0_init_59 : decode cX0_init 59 = .ok (.aload_n 0, 1) := by decide +kernel
theorem dX0_init_60 : decode cX0_init 60 = .ok (.sipush 200, 3) := by decide +kernel
theorem dX0_init_63 : decode cX0_init 63 = .ok (.newarray .int, 2) := by decide +kernel
theorem dX0_init_65 : decode cX0_init 65 = .ok (.putfield 27, 3) := by decide +kernel
theorem dX0_init_68 : decode cX0_init 68 = .ok (.aload_n 0, 1) := by decide +kernel
theorem dX0_init_69 : decode cX0_init 69 = .ok (.bipush 6, 2) := by decide +kernel
theorem dX0_init_71 : decode cX0_init 71 = .ok (.sipush 200, 3) := by decide +kernel
theorem dX0_init_74 : decode cX0_init 74 = .ok (.multianewarray 30 2, 4) := by decide +kernel
theorem dX0_init_78 : decode cX0_init 78 = .ok (.putfield 32, 3) := by decide +kernel
theorem dX0_init_81 : decode cX0_init 81 = .ok (.aload_n 0, 1) := by decide +kernel
theorem dX0_init_82 : decode cX0_init 82 = .ok (.bipush 6, 2) := by decide +kernel
theorem dX0_init_84 : decode cX0_init 84 = .ok (.sipush 200, 3) := by decide +kernel
theorem dX0_init_87 : decode cX0_init 87 = .ok (.multianewarray 30 2, 4) := by decide +kernel
theorem dX0_init_91 : decode cX0_init 91 = .ok (.putfield 35, 3) := by decide +kernel
theorem dX0_init_94 : decode cX0_init 94 = .ok (.aload_n 0, 1) := by decide +kernel
theorem dX0_init_95 : decode cX0_init 95 = .ok (.bipush 6, 2) := by decide +kernel
theorem dX0_init_97 : decode cX0_init 97 = .ok (.sipush 400, 3) := by decide +kernel
theorem dX0_init_100 : decode cX0_init 100 = .ok (.multianewarray 30 2, 4) := by decide +kernel
theorem dX0_init_104 : decode cX0_init 104 = .ok (.putfield 38, 3) := by decide +kernel
theorem dX0_init_107 : decode cX0_init 107 = .ok (.aload_n 0, 1) := by decide +kernel
theorem dX0_init_108 : decode cX0_init 108 = .ok (.bipush 60, 2) := by decide +kernel
theorem dX0_init_110 : decode cX0_init 110 = .ok (.newarray .int, 2) := by decide +kernel
theorem dX0_init_112 : decode cX0_init 112 = .ok (.putfield 41, 3) := by decide +kernel
theorem dX0_init_115 : decode cX0_init 115 = .ok (.return_, 1) := by decide +kernel
theorem dX0_become_0 : decode cX0_become 0 = .ok (.aload_n 0, 1) := by decide +kernel
theorem dX0_become_1 : decode cX0_become 1 = .ok (.aload_n 1, 1) := by decide +kernel
theorem dX0_become_2 : decode cX0_become 2 = .ok (.getfield 44, 3) := by decide +kernel
theorem dX0_become_5 : decode cX0_become 5 = .ok (.putfield 44, 3) := by decide +kernel
theorem dX0_become_8 : decode cX0_become 8 = .ok (.aload_n 0, 1) := by decide +kernel
theorem dX0_become_9 : decode cX0_become 9 = .ok (.aload_n 1, 1) := by decide +kernel
theorem dX0_become_10 : decode cX0_become 10 = .ok (.getfield 48, 3) := by decide +kernel
theorem dX0_become_13 : decode cX0_become 13 = .ok (.putfield 48, 3) := by decide +kernel
theorem dX0_become_16 : decode cX0_become 16 = .ok (.aload_n 1, 1) := by decide +kernel
theorem dX0_become_17 : decode cX0_become 17 = .ok (.getfield 9, 3) := by decide +kernel
theorem dX0_become_20 : decode cX0_become 20 = .ok (.iconst 0, 1) := by decide +kernel
theorem dX0_become_21 : decode cX0_become 21 = .ok (.aload_n 0, 1) := by decide +kernel
theorem dX0_become_22 : decode cX0_become 22 = .ok (.getfield 9, 3) := by decide +kernel
theorem dX0_become_25 : decode cX0_become 25 = .ok (.iconst 0, 1) := by decide +kernel
theorem dX0_become_26 : decode cX0_become 26 = .ok (.aload_n 0, 1) := by decide +kernel
theorem dX0_become_27 : decode cX0_become 27 = .ok (.getfield 9, 3) := by decide +kernel
theorem dX0_become_30 : decode cX0_become 30 = .ok (.arraylength, 1) := by decide +kernel
theorem dX0_become_31 : decode cX0_become 31 = .ok (.invokestatic 51, 3) := by decide +kernel
theorem dX0_become_34 : decode cX0_become 34 = .ok (.aload_n 1, 1) := by decide +kernel
theorem dX0_become_35 : decode cX0_become 35 = .ok (.getfield 15, 3) := by decide +kernel
theorem dX0_become_38 : decode cX0_become 38 = .ok (.iconst 0, 1) := by decide +kernel
theorem dX0_become_39 : decode cX0_become 39 = .ok (.aload_n 0, 1) := by decide +kernel
theorem dX0_become_40 : decode cX0_become 40 = .ok (.getfield 15, 3) := by decide +kernel
theorem dX0_become_43 : decode cX0_become 43 = .ok (.iconst 0, 1) := by decide +kernel
theorem dX0_become_44 : decode cX0_become 44 = .ok (.aload_n 0, 1) := by decide +kernel
theorem dX0_become_45 : decode cX0_become 45 = .ok (.getfield 15, 3) := by decide +kernel
theorem dX0_become_48 : decode cX0_become 48 = .ok (.arraylength, 1) := by decide +kernel
theorem dX0_become_49 : decode cX0_become 49 = .ok (.invokestatic 51, 3) := by decide +kernel
theorem dX0_become_52 : decode cX0_become 52 = .ok (.aload_n 1, 1) := by decide +kernel
theorem dX0_become_53 : decode cX0_become 53 = .ok (.getfield 18, 3) := by decide +kernel
theorem dX0_become_56 : decode cX0_become 56 = .ok (.iconst 0, 1) := by decide +kernel
theorem dX0_become_57 : decode cX0_become 57 = .ok (.aload_n 0, 1) := by decide +kernel
theorem dX0_become_58 : decode cX0_become 58 = .ok (.getfield 18, 3) := by decide +kernel
theorem dX0_become_61 : decode cX0_become 61 = .ok (.iconst 0, 1) := by decide +kernel
theorem dX0_become_62 : decode cX0_become 62 = .ok (.aload_n 0, 1) := by decide +kernel
theorem dX0_become_63 : decode cX0_become 63 = .ok (.getfield 48, 3) := by decide +kernel
theorem dX0_become_66 : decode cX0_become 66 = .ok (.invokestatic 51, 3) := by decide +kernel
theorem dX0_become_69 : decode cX0_become 69 = .ok (.aload_n 1, 1) := by decide +kernel
theorem dX0_become_70 : decode cX0_become 70 = .ok (.getfield 21, 3) := by decide +kernel
theorem dX0_become_73 : decode cX0_become 73 = .ok (.iconst 0, 1) := by decide +kernel
theorem dX0_become_74 : decode cX0_become 74 = .ok (.aload_n 0, 1) := by decide +kernel
theorem dX0_become_75 : decode cX0_become 75 = .ok (.getfield 21, 3) := by decide +kernel
theorem dX0_become_78 : decode cX0_become 78 = .ok (.iconst 0, 1) := by decide +kernel
theorem dX0_become_79 : decode cX0_become 79 = .ok (.aload_n 0, 1) := by decide +kernel
theorem dX0_become_80 : decode cX0_become 80 = .ok (.getfield 48, 3) := by decide +kernel
theorem dX0_become_83 : decode cX0_become 83 = .ok (.invokestatic 51, 3) := by decide +kernel
theorem dX0_become_86 : decode cX0_become 86 = .ok (.aload_n 1, 1) := by decide +kernel
theorem dX0_become_87 : decode cX0_become 87 = .ok (.getfield 24, 3) := by decide +kernel
theorem dX0_become_90 : decode cX0_become 90 = .ok (.iconst 0, 1) := by decide +kernel
theorem dX0_become_91 : decode cX0_become 91 = .ok (.aload_n 0, 1) := by decide +kernel
theorem dX0_become_92 : decode cX0_become 92 = .ok (.getfield 24, 3) := by decide +kernel
theorem dX0_become_95 : decode cX0_become 95 = .ok (.iconst 0, 1) := by decide +kernel
theorem dX0_become_96 : decode cX0_become 96 = .ok (.aload_n 0, 1) := by decide +kernel
theorem dX0_become_97 : decode cX0_become 97 = .ok (.getfield 48, 3) := by decide +kernel
theorem dX0_become_100 : decode cX0_become 100 = .ok (.invokestatic 51, 3) := by decide +kernel
theorem dX0_become_103 : decode cX0_become 103 = .ok (.aload_n 1, 1) := by decide +kernel
theorem dX0_become_104 : decode cX0_become 104 = .ok (.getfield 27, 3) := by decide +kernel
theorem dX0_become_107 : decode cX0_become 107 = .ok (.iconst 0, 1) := by decide +kernel
theorem dX0_become_108 : decode cX0_become 108 = .ok (.aload_n 0, 1) := by decide +kernel
theorem dX0_become_109 : decode cX0_become 109 = .ok (.getfield 27, 3) := by decide +kernel
theorem dX0_become_112 : decode cX0_become 112 = .ok (.iconst 0, 1) := by decide +kernel
theorem dX0_become_113 : decode cX0_become 113 = .ok (.aload_n 0, 1) := by decide +kernel
theorem dX0_become_114 : decode cX0_become 114 = .ok (.getfield 48, 3) := by decide +kernel
theorem dX0_become_117 : decode cX0_become 117 = .ok (.invokestatic 51, 3) := by decide +kernel
theorem dX0_become_120 : decode cX0_become 120 = .ok (.aload_n 1, 1) := by decide +kernel
theorem dX0_become_121 : decode cX0_become 121 = .ok (.getfield 41, 3) := by decide +kernel
theorem dX0_become_124 : decode cX0_become 124 = .ok (.iconst 0, 1) := by decide +kernel
theorem dX0_become_125 : decode cX0_become 125 = .ok (.aload_n 0, 1) := by decide +kernel
theorem dX0_become_126 : decode cX0_become 126 = .ok (.getfield 41, 3) := by decide +kernel
theorem dX0_become_129 : decode cX0_become 129 = .ok (.iconst 0, 1) := by decide +kernel
theorem dX0_become_130 : decode cX0_become 130 = .ok (.aload_n 0, 1) := by decide +kernel
theorem dX0_become_131 : decode cX0_become 131 = .ok (.getfield 41, 3) := by decide +kernel
theorem dX0_become_134 : decode cX0_become 134 = .ok (.arraylength, 1) := by decide +kernel
theorem dX0_become_135 : decode cX0_become 135 = .ok (.invokestatic 51, 3) := by decide +kernel
theorem dX0_become_138 : decode cX0_become 138 = .ok (.iconst 0, 1) := by decide +kernel
theorem dX0_become_139 : decode cX0_become 139 = .ok (.istore_n 2, 1) := by decide +kernel
theorem dX0_become_140 : decode cX0_become 140 = .ok (.iload_n 2, 1) := by decide +kernel
theorem dX0_become_141 : decode cX0_become 141 = .ok (.bipush 6, 2) := by decide +kernel
theorem dX0_become_143 : decode cX0_become 143 = .ok (.if_icmp .ge 72, 3) := by decide +kernel
theorem dX0_become_146 : decode cX0_become 146 = .ok (.aload_n 1, 1) := by decide +kernel
theorem dX0_become_147 : decode cX0_become 147 = .ok (.getfield 32, 3) := by decide +kernel
theorem dX0_become_150 : decode cX0_become 150 = .ok (.iload_n 2, 1) := by decide +kernel
theorem dX0_become_151 : decode cX0_become 151 = .ok (.aaload, 1) := by decide +kernel
theorem dX0_become_152 : decode cX0_become 152 = .ok (.iconst 0, 1) := by decide +kernel
theorem dX0_become_153 : decode cX0_become 153 = .ok (.aload_n 0, 1) := by decide +kernel
theorem dX0_become_154 : decode cX0_become 154 = .ok (.getfield 32, 3) := by decide +kernel
theorem dX0_become_157 : decode cX0_become 157 = .ok (.iload_n 2, 1) := by decide +kernel
theorem dX0_become_158 : decode cX0_become 158 = .ok (.aaload, 1) := by decide +kernel
theorem dX0_become_159 : decode cX0_become 159 = .ok (.iconst 0, 1) := by decide +kernel
theorem dX0_become_160 : decode cX0_become 160 = .ok (.aload_n 0, 1) := by decide +kernel
theorem dX0_become_161 : decode cX0_become 161 = .ok (.getfield 48, 3) := by decide +kernel
theorem dX0_become_164 : decode cX0_become 164 = .ok (.invokestatic 51, 3) := by decide +kernel
theorem dX0_become_167 : decode cX0_become 167 = .ok (.aload_n 1, 1) := by decide +kernel
theorem dX0_become_168 : decode cX0_become 168 = .ok (.getfield 35, 3) := by decide +kernel
theorem dX0_become_171 : decode cX0_become 171 = .ok (.iload_n 2, 1) := by decide +kernel
theorem dX0_become_172 : decode cX0_become 172 = .ok (.aaload, 1) := by decide +kernel
theorem dX0_become_173 : decode cX0_become 173 = .ok (.iconst 0, 1) := by decide +kernel
theorem dX0_become_174 : decode cX0_become 174 = .ok (.aload_n 0, 1) := by decide +kernel
theorem dX0_become_175 : decode cX0_become 175 = .ok (.getfield 35, 3) := by decide +kernel
theorem dX0_become_178 : decode cX0_become 178 = .ok (.iload_n 2, 1) := by decide +kernel
theorem dX0_become_179 : decode cX0_become 179 = .ok (.aaload, 1) := by decide +kernel
theorem dX0_become_180 : decode cX0_become 180 = .ok (.iconst 0, 1) := by decide +kernel
theorem dX0_become_181 : decode cX0_become 181 = .ok (.aload_n 0, 1) := by decide +kernel
theorem dX0_become_182 : decode cX0_become 182 = .ok (.getfield 48, 3) := by decide +kernel
theorem dX0_become_185 : decode cX0_become 185 = .ok (.invokestatic 51, 3) := by decide +kernel
theorem dX0_become_188 : decode cX0_become 188 = .ok (.aload_n 1, 1) := by decide +kernel
theorem dX0_become_189 : decode cX0_become 189 = .ok (.getfield 38, 3) := by decide +kernel
theorem dX0_become_192 : decode cX0_become 192 = .ok (.iload_n 2, 1) := by decide +kernel
theorem dX0_become_193 : decode cX0_become 193 = .ok (.aaload, 1) := by decide +kernel
theorem dX0_become_194 : decode cX0_become 194 = .ok (.iconst 0, 1) := by decide +kernel
theorem dX0_become_195 : decode cX0_become 195 = .ok (.aload_n 0, 1) := by decide +kernel
theorem dX0_become_196 : decode cX0_become 196 = .ok (.getfield 38, 3) := by decide +kernel
theorem dX0_become_199 : decode cX0_become 199 = .ok (.iload_n 2, 1) := by decide +kernel
theorem dX0_become_200 : decode cX0_become 200 = .ok (.aaload, 1) := by decide +kernel
theorem dX0_become_201 : decode cX0_become 201 = .ok (.iconst 0, 1) := by decide +kernel
theorem dX0_become_202 : decode cX0_become 202 = .ok (.aload_n 0, 1) := by decide +kernel
theorem dX0_become_203 : decode cX0_become 203 = .ok (.getfield 44, 3) := by decide +kernel
theorem dX0_become_206 : decode cX0_become 206 = .ok (.invokestatic 51, 3) := by decide +kernel
theorem dX0_become_209 : decode cX0_become 209 = .ok (.iinc 2 1, 3) := by decide +kernel
theorem dX0_become_212 : decode cX0_become 212 = .ok (.goto (-72), 3) := by decide +kernel
theorem dX0_become_215 : decode cX0_become 215 = .ok (.return_, 1) := by decide +kernel
theorem dX0_canSpeak_0 : decode cX0_canSpeak 0 = .ok (.aload_n 0, 1) := by decide +kernel
theorem dX0_canSpeak_1 : decode cX0_canSpeak 1 = .ok (.getfield 48, 3) := by decide +kernel
theorem dX0_canSpeak_4 : decode cX0_canSpeak 4 = .ok (.sipush 200, 3) := by decide +kernel
theorem dX0_canSpeak_7 : decode cX0_canSpeak 7 = .ok (.if_icmp .ge 17, 3) := by decide +kernel
theorem dX0_canSpeak_10 : decode cX0_canSpeak 10 = .ok (.aload_n 0, 1) := by decide +kernel
theorem dX0_canSpeak_11 : decode cX0_canSpeak 11 = .ok (.getfield 44, 3) := by decide +kernel
theorem dX0_canSpeak_14 : decode cX0_canSpeak 14 = .ok (.sipush 400, 3) := by decide +kernel
theorem dX0_canSpeak_17 : decode cX0_canSpeak 17 = .ok (.if_icmp .ge 7, 3) := by decide +kernel
theorem dX0_canSpeak_20 : decode cX0_canSpeak 20 = .ok (.iconst 1, 1) := by decide +kernel
theorem dX0_canSpeak_21 : decode cX0_canSpeak 21 = .ok (.goto 4, 3) := by decide +kernel
theorem dX0_canSpeak_24 : decode cX0_canSpeak 24 = .ok (.iconst 0, 1) := by decide +kernel
theorem dX0_canSpeak_25 : decode cX0_canSpeak 25 = .ok (.ireturn, 1) := by decide +kernel
theorem dX0_speak_0 : decode cX0_speak 0 = .ok (.aload_n 0, 1) := by decide +kernel
theorem dX0_speak_1 : decode cX0_speak 1 = .ok (.getfield 48, 3) := by decide +kernel
theorem dX0_speak_4 : decode cX0_speak 4 = .ok (.istore 4, 2) := by decide +kernel
theorem dX0_speak_6 : decode cX0_speak 6 = .ok (.aload_n 0, 1) := by decide +kernel
theorem dX0_speak_7 : decode cX0_speak 7 = .ok (.getfield 18, 3) := by decide +kernel
theorem dX0_speak_10 : decode cX0_speak 10 = .ok (.iload 4, 2) := by decide +kernel
theorem dX0_speak_12 : decode cX0_speak 12 = .ok (.iload_n 1, 1) := by decide +kernel
theorem dX0_speak_13 : decode cX0_speak 13 = .ok (.iastore, 1) := by decide +kernel
theorem dX0_speak_14 : decode cX0_speak 14 = .ok (.aload_n 0, 1) := by decide +kernel
theorem dX0_speak_15 : decode cX0_speak 15 = .ok (.getfield 21, 3) := by decide +kernel
theorem dX0_speak_18 : decode cX0_speak 18 = .ok (.iload 4, 2) := by decide +kernel
theorem dX0_speak_20 : decode cX0_speak 20 = .ok (.iload_n 2, 1) := by decide +kernel
theorem dX0_speak_21 : decode cX0_speak 21 = .ok (.iastore, 1) := by decide +kernel
theorem dX0_speak_22 : decode cX0_speak 22 = .ok (.aload_n 0, 1) := by decide +kernel
theorem dX0_speak_23 : decode cX0_speak 23 = .ok (.getfield 24, 3) := by decide +kernel
theorem dX0_speak_26 : decode cX0_speak 26 = .ok (.iload 4, 2) := by decide +kernel
theorem dX0_speak_28 : decode cX0_speak 28 = .ok (.iload_n 3, 1) := by decide +kernel
theorem dX0_speak_29 : decode cX0_speak 29 = .ok (.iastore, 1) := by decide +kernel
theorem dX0_speak_30 : decode cX0_speak 30 = .ok (.aload_n 0, 1) := by decide +kernel
theorem dX0_speak_31 : decode cX0_speak 31 = .ok (.getfield 27, 3) := by decide +kernel
theorem dX0_speak_34 : decode cX0_speak 34 = .ok (.iload 4, 2) := by decide +kernel
theorem dX0_speak_36 : decode cX0_speak 36 = .ok (.aload_n 0, 1) := by decide +kernel
theorem dX0_speak_37 : decode cX0_speak 37 = .ok (.getfield 44, 3) := by decide +kernel
theorem dX0_speak_40 : decode cX0_speak 40 = .ok (.iastore, 1) := by decide +kernel
theorem dX0_speak_41 : decode cX0_speak 41 = .ok (.iconst 0, 1) := by decide +kernel
theorem dX0_speak_42 : decode cX0_speak 42 = .ok (.istore 5, 2) := by decide +kernel
theorem dX0_speak_44 : decode cX0_speak 44 = .ok (.iload 5, 2) := by decide +kernel
theorem dX0_speak_46 : decode cX0_speak 46 = .ok (.bipush 6, 2) := by decide +kernel
theorem dX0_speak_48 : decode cX0_speak 48 = .ok (.if_icmp .ge 56, 3) := by decide +kernel
theorem dX0_speak_51 : decode cX0_speak 51 = .ok (.aload_n 0, 1) := by decide +kernel
theorem dX0_speak_52 : decode cX0_speak 52 = .ok (.iload_n 1, 1) := by decide +kernel
theorem dX0_speak_53 : decode cX0_speak 53 = .ok (.iload 5, 2) := by decide +kernel
theorem dX0_speak_55 : decode cX0_speak 55 = .ok (.invokevirtual 57, 3) := by decide +kernel
theorem dX0_speak_58 : decode cX0_speak 58 = .ok (.istore 6, 2) := by decide +kernel
theorem dX0_speak_60 : decode cX0_speak 60 = .ok (.aload_n 0, 1) := by decide +kernel
theorem dX0_speak_61 : decode cX0_speak 61 = .ok (.getfield 32, 3) := by decide +kernel
theorem dX0_speak_64 : decode cX0_speak 64 = .ok (.iload 5, 2) := by decide +kernel
theorem dX0_speak_66 : decode cX0_speak 66 = .ok (.aaload, 1) := by decide +kernel
theorem dX0_speak_67 : decode cX0_speak 67 = .ok (.iload 4, 2) := by decide +kernel
theorem dX0_speak_69 : decode cX0_speak 69 = .ok (.iload 6, 2) := by decide +kernel
theorem dX0_speak_71 : decode cX0_speak 71 = .ok (.iconst (-1), 1) := by decide +kernel
theorem dX0_speak_72 : decode cX0_speak 72 = .ok (.if_icmp .ne 7, 3) := by decide +kernel
theorem dX0_speak_75 : decode cX0_speak 75 = .ok (.iconst (-1), 1) := by decide +kernel
theorem dX0_speak_76 : decode cX0_speak 76 = .ok (.goto 10, 3) := by decide +kernel
theorem dX0_speak_79 : decode cX0_speak 79 = .ok (.aload_n 0, 1) := by decide +kernel
theorem dX0_speak_80 : decode cX0_speak 80 = .ok (.getfield 44, 3) := by decide +kernel
theorem dX0_speak_83 : decode cX0_speak 83 = .ok (.iload 6, 2) := by decide +kernel
theorem dX0_speak_85 : decode cX0_speak 85 = .ok (.iadd, 1) := by decide +kernel
theorem dX0_speak_86 : decode cX0_speak 86 = .ok (.iastore, 1) := by decide +kernel
theorem dX0_speak_87 : decode cX0_speak 87 = .ok (.aload_n 0, 1) := by decide +kernel
theorem dX0_speak_88 : decode cX0_speak 88 = .ok (.getfield 35, 3) := by decide +kernel
theorem dX0_speak_91 : decode cX0_speak 91 = .ok (.iload 5, 2) := by decide +kernel
theorem dX0_speak_93 : decode cX0_speak 93 = .ok (.aaload, 1) := by decide +kernel
theorem dX0_speak_94 : decode cX0_speak 94 = .ok (.iload 4, 2) := by decide +kernel
theorem dX0_speak_96 : decode cX0_speak 96 = .ok (.iconst (-1), 1) := by decide +kernel
theorem dX0_speak_97 : decode cX0_speak 97 = .ok (.iastore, 1) := by decide +kernel
theorem dX0_speak_98 : decode cX0_speak 98 = .ok (.iinc 5 1, 3) := by decide +kernel
theorem dX0_speak_101 : decode cX0_speak 101 = .ok (.goto (-57), 3) := by decide +kernel
theorem dX0_speak_104 : decode cX0_speak 104 = .ok (.iload_n 3, 1) := by decide +kernel
theorem dX0_speak_105 : decode cX0_speak 105 = .ok (.iconst (-1), 1) := by decide +kernel
theorem dX0_speak_106 : decode cX0_speak 106 = .ok (.if_icmp .eq 17, 3) := by decide +kernel
theorem dX0_speak_109 : decode cX0_speak 109 = .ok (.aload_n 0, 1) := by decide +kernel
theorem dX0_speak_110 : decode cX0_speak 110 = .ok (.getfield 41, 3) := by decide +kernel
theorem dX0_speak_113 : decode cX0_speak 113 = .ok (.iload_n 1, 1) := by decide +kernel
theorem dX0_speak_114 : decode cX0_speak 114 = .ok (.iload_n 3, 1) := by decide +kernel
theorem dX0_speak_115 : decode cX0_speak 115 = .ok (.invokestatic 61, 3) := by decide +kernel
theorem dX0_speak_118 : decode cX0_speak 118 = .ok (.dup2, 1) := by decide +kernel
theorem dX0_speak_119 : decode cX0_speak 119 = .ok (.iaload, 1) := by decide +kernel
theorem dX0_speak_120 : decode cX0_speak 120 = .ok (.iconst 1, 1) := by decide +kernel
theorem dX0_speak_121 : decode cX0_speak 121 = .ok (.iadd, 1) := by decide +kernel
theorem dX0_speak_122 : decode cX0_speak 122 = .ok (.iastore, 1) := by decide +kernel
theorem dX0_speak_123 : decode cX0_speak 123 = .ok (.aload_n 0, 1) := by decide +kernel
theorem dX0_speak_124 : decode cX0_speak 124 = .ok (.dup, 1) := by decide +kernel
theorem dX0_speak_125 : decode cX0_speak 125 = .ok (.getfield 48, 3) := by decide +kernel
theorem dX0_speak_128 : decode cX0_speak 128 = .ok (.iconst 1, 1) := by decide +kernel
theorem dX0_speak_129 : decode cX0_speak 129 = .ok (.iadd, 1) := by decide +kernel
theorem dX0_speak_130 : decode cX0_speak 130 = .ok (.putfield 48, 3) := by decide +kernel
theorem dX0_speak_133 : decode cX0_speak 133 = .ok (.aload_n 0, 1) := by decide +kernel
theorem dX0_speak_134 : decode cX0_speak 134 = .ok (.invokevirtual 64, 3) := by decide +kernel
theorem dX0_speak_137 : decode cX0_speak 137 = .ok (.iload 4, 2) := by decide +kernel
theorem dX0_speak_139 : decode cX0_speak 139 = .ok (.ireturn, 1) := by decide +kernel
theorem dX0_canRest_0 : decode cX0_canRest 0 = .ok (.aload_n 0, 1) := by decide +kernel
theorem dX0_canRest_1 : decode cX0_canRest 1 = .ok (.getfield 44, 3) := by decide +kernel
theorem dX0_canRest_4 : decode cX0_canRest 4 = .ok (.iload_n 1, 1) := by decide +kernel
theorem dX0_canRest_5 : decode cX0_canRest 5 = .ok (.iadd, 1) := by decide +kernel
theorem dX0_canRest_6 : decode cX0_canRest 6 = .ok (.sipush 400, 3) := by decide +kernel
theorem dX0_canRest_9 : decode cX0_canRest 9 = .ok (.if_icmp .gt 7, 3) := by decide +kernel
theorem dX0_canRest_12 : decode cX0_canRest 12 = .ok (.iconst 1, 1) := by decide +kernel
theorem dX0_canRest_13 : decode cX0_canRest 13 = .ok (.goto 4, 3) := by decide +kernel
theorem dX0_canRest_16 : decode cX0_canRest 16 = .ok (.iconst 0, 1) := by decide +kernel
theorem dX0_canRest_17 : decode cX0_canRest 17 = .ok (.ireturn, 1) := by decide +kernel
theorem dX0_rest_0 : decode cX0_rest 0 = .ok (.iconst 0, 1) := by decide +kernel
theorem dX0_rest_1 : decode cX0_rest 1 = .ok (.istore_n 2, 1) := by decide +kernel
theorem dX0_rest_2 : decode cX0_rest 2 = .ok (.iload_n 2, 1) := by decide +kernel
theorem dX0_rest_3 : decode cX0_rest 3 = .ok (.iload_n 1, 1) := by decide +kernel
theorem dX0_rest_4 : decode cX0_rest 4 = .ok (.if_icmp .ge 13, 3) := by decide +kernel
theorem dX0_rest_7 : decode cX0_rest 7 = .ok (.aload_n 0, 1) := by decide +kernel
theorem dX0_rest_8 : decode cX0_rest 8 = .ok (.invokevirtual 64, 3) := by decide +kernel
theorem dX0_rest_11 : decode cX0_rest 11 = .ok (.iinc 2 1, 3) := by decide +kernel
theorem dX0_rest_14 : decode cX0_rest 14 = .ok (.goto (-12), 3) := by decide +kernel
theorem dX0_rest_17 : decode cX0_rest 17 = .ok (.return_, 1) := by decide +kernel
theorem dX0_endBeat_0 : decode cX0_endBeat 0 = .ok (.iconst 0, 1) := by decide +kernel
theorem dX0_endBeat_1 : decode cX0_endBeat 1 = .ok (.istore_n 1, 1) := by decide +kernel
theorem dX0_endBeat_2 : decode cX0_endBeat 2 = .ok (.iload_n 1, 1) := by decide +kernel
theorem dX0_endBeat_3 : decode cX0_endBeat 3 = .ok (.bipush 6, 2) := by decide +kernel
theorem dX0_endBeat_5 : decode cX0_endBeat 5 = .ok (.if_icmp .ge 60, 3) := by decide +kernel
theorem dX0_endBeat_8 : decode cX0_endBeat 8 = .ok (.aload_n 0, 1) := by decide +kernel
theorem dX0_endBeat_9 : decode cX0_endBeat 9 = .ok (.iload_n 1, 1) := by decide +kernel
theorem dX0_endBeat_10 : decode cX0_endBeat 10 = .ok (.aload_n 0, 1) := by decide +kernel
theorem dX0_endBeat_11 : decode cX0_endBeat 11 = .ok (.getfield 44, 3) := by decide +kernel
theorem dX0_endBeat_14 : decode cX0_endBeat 14 = .ok (.invokevirtual 67, 3) := by decide +kernel
theorem dX0_endBeat_17 : decode cX0_endBeat 17 = .ok (.istore_n 2, 1) := by decide +kernel
theorem dX0_endBeat_18 : decode cX0_endBeat 18 = .ok (.aload_n 0, 1) := by decide +kernel
theorem dX0_endBeat_19 : decode cX0_endBeat 19 = .ok (.getfield 38, 3) := by decide +kernel
theorem dX0_endBeat_22 : decode cX0_endBeat 22 = .ok (.iload_n 1, 1) := by decide +kernel
theorem dX0_endBeat_23 : decode cX0_endBeat 23 = .ok (.aaload, 1) := by decide +kernel
theorem dX0_endBeat_24 : decode cX0_endBeat 24 = .ok (.aload_n 0, 1) := by decide +kernel
theorem dX0_endBeat_25 : decode cX0_endBeat 25 = .ok (.getfield 44, 3) := by decide +kernel
theorem dX0_endBeat_28 : decode cX0_endBeat 28 = .ok (.iload_n 2, 1) := by decide +kernel
theorem dX0_endBeat_29 : decode cX0_endBeat 29 = .ok (.iastore, 1) := by decide +kernel
theorem dX0_endBeat_30 : decode cX0_endBeat 30 = .ok (.iload_n 2, 1) := by decide +kernel
theorem dX0_endBeat_31 : decode cX0_endBeat 31 = .ok (.iconst (-1), 1) := by decide +kernel
theorem dX0_endBeat_32 : decode cX0_endBeat 32 = .ok (.if_icmp .eq 27, 3) := by decide +kernel
theorem dX0_endBeat_35 : decode cX0_endBeat 35 = .ok (.aload_n 0, 1) := by decide +kernel
theorem dX0_endBeat_36 : decode cX0_endBeat 36 = .ok (.getfield 35, 3) := by decide +kernel
theorem dX0_endBeat_39 : decode cX0_endBeat 39 = .ok (.iload_n 1, 1) := by decide +kernel
theorem dX0_endBeat_40 : decode cX0_endBeat 40 = .ok (.aaload, 1) := by decide +kernel
theorem dX0_endBeat_41 : decode cX0_endBeat 41 = .ok (.iload_n 2, 1) := by decide +kernel
theorem dX0_endBeat_42 : decode cX0_endBeat 42 = .ok (.iaload, 1) := by decide +kernel
theorem dX0_endBeat_43 : decode cX0_endBeat 43 = .ok (.iconst (-1), 1) := by decide +kernel
theorem dX0_endBeat_44 : decode cX0_endBeat 44 = .ok (.if_icmp .ne 15, 3) := by decide +kernel
theorem dX0_endBeat_47 : decode cX0_endBeat 47 = .ok (.aload_n 0, 1) := by decide +kernel
theorem dX0_endBeat_48 : decode cX0_endBeat 48 = .ok (.getfield 35, 3) := by decide +kernel
theorem dX0_endBeat_51 : decode cX0_endBeat 51 = .ok (.iload_n 1, 1) := by decide +kernel
theorem dX0_endBeat_52 : decode cX0_endBeat 52 = .ok (.aaload, 1) := by decide +kernel
theorem dX0_endBeat_53 : decode cX0_endBeat 53 = .ok (.iload_n 2, 1) := by decide +kernel
theorem dX0_endBeat_54 : decode cX0_endBeat 54 = .ok (.aload_n 0, 1) := by decide +kernel
theorem dX0_endBeat_55 : decode cX0_endBeat 55 = .ok (.getfield 44, 3) := by decide +kernel
theorem dX0_endBeat_58 : decode cX0_endBeat 58 = .ok (.iastore, 1) := by decide +kernel
theorem dX0_endBeat_59 : decode cX0_endBeat 59 = .ok (.iinc 1 1, 3) := by decide +kernel
theorem dX0_endBeat_62 : decode cX0_endBeat 62 = .ok (.goto (-60), 3) := by decide +kernel
theorem dX0_endBeat_65 : decode cX0_endBeat 65 = .ok (.aload_n 0, 1) := by decide +kernel
theorem dX0_endBeat_66 : decode cX0_endBeat 66 = .ok (.dup, 1) := by decide +kernel
theorem dX0_endBeat_67 : decode cX0_endBeat 67 = .ok (.getfield 44, 3) := by decide +kernel
theorem dX0_endBeat_70 : decode cX0_endBeat 70 = .ok (.iconst 1, 1) := by decide +kernel
theorem dX0_endBeat_71 : decode cX0_endBeat 71 = .ok (.iadd, 1) := by decide +kernel
theorem dX0_endBeat_72 : decode cX0_endBeat 72 = .ok (.putfield 44, 3) := by decide +kernel
theorem dX0_endBeat_75 : decode cX0_endBeat 75 = .ok (.return_, 1) := by decide +kernel
theorem dX0_delayBetween_0 : decode cX0_delayBetween 0 = .ok (.iload_n 1, 1) := by decide +kernel
theorem dX0_delayBetween_1 : decode cX0_delayBetween 1 = .ok (.iload_n 2, 1) := by decide +kernel
theorem dX0_delayBetween_2 : decode cX0_delayBetween 2 = .ok (.isub, 1) := by decide +kernel
theorem dX0_delayBetween_3 : decode cX0_delayBetween 3 = .ok (.invokestatic 70, 3) := by decide +kernel
theorem dX0_delayBetween_6 : decode cX0_delayBetween 6 = .ok (.istore_n 3, 1) := by decide +kernel
theorem dX0_delayBetween_7 : decode cX0_delayBetween 7 = .ok (.iload_n 3, 1) := by decide +kernel
theorem dX0_delayBetween_8 : decode cX0_delayBetween 8 = .ok (.bipush 6, 2) := by decide +kernel
theorem dX0_delayBetween_10 : decode cX0_delayBetween 10 = .ok (.iload_n 3, 1) := by decide +kernel
theorem dX0_delayBetween_11 : decode cX0_delayBetween 11 = .ok (.isub, 1) := by decide +kernel
theorem dX0_delayBetween_12 : decode cX0_delayBetween 12 = .ok (.invokestatic 76, 3) := by decide +kernel
theorem dX0_delayBetween_15 : decode cX0_delayBetween 15 = .ok (.istore 4, 2) := by decide +kernel
theorem dX0_delayBetween_17 : decode cX0_delayBetween 17 = .ok (.aload_n 0, 1) := by decide +kernel
theorem dX0_delayBetween_18 : decode cX0_delayBetween 18 = .ok (.getfield 15, 3) := by decide +kernel
theorem dX0_delayBetween_21 : decode cX0_delayBetween 21 = .ok (.iconst 0, 1) := by decide +kernel
theorem dX0_delayBetween_22 : decode cX0_delayBetween 22 = .ok (.iaload, 1) := by decide +kernel
theorem dX0_delayBetween_23 : decode cX0_delayBetween 23 = .ok (.aload_n 0, 1) := by decide +kernel
theorem dX0_delayBetween_24 : decode cX0_delayBetween 24 = .ok (.getfield 15, 3) := by decide +kernel
theorem dX0_delayBetween_27 : decode cX0_delayBetween 27 = .ok (.iconst 1, 1) := by decide +kernel
theorem dX0_delayBetween_28 : decode cX0_delayBetween 28 = .ok (.iaload, 1) := by decide +kernel
theorem dX0_delayBetween_29 : decode cX0_delayBetween 29 = .ok (.iload 4, 2) := by decide +kernel
theorem dX0_delayBetween_31 : decode cX0_delayBetween 31 = .ok (.imul, 1) := by decide +kernel
theorem dX0_delayBetween_32 : decode cX0_delayBetween 32 = .ok (.iadd, 1) := by decide +kernel
theorem dX0_delayBetween_33 : decode cX0_delayBetween 33 = .ok (.istore 5, 2) := by decide +kernel
theorem dX0_delayBetween_35 : decode cX0_delayBetween 35 = .ok (.aload_n 0, 1) := by decide +kernel
theorem dX0_delayBetween_36 : decode cX0_delayBetween 36 = .ok (.getfield 9, 3) := by decide +kernel
theorem dX0_delayBetween_39 : decode cX0_delayBetween 39 = .ok (.iload_n 2, 1) := by decide +kernel
theorem dX0_delayBetween_40 : decode cX0_delayBetween 40 = .ok (.iaload, 1) := by decide +kernel
theorem dX0_delayBetween_41 : decode cX0_delayBetween 41 = .ok (.tableswitch 58 1 3 #[27, 40, 45], 27) := by decide +kernel
theorem dX0_delayBetween_68 : decode cX0_delayBetween 68 = .ok (.iload 4, 2) := by decide +kernel
theorem dX0_delayBetween_70 : decode cX0_delayBetween 70 = .ok (.iconst 3, 1) := by decide +kernel
theorem dX0_delayBetween_71 : decode cX0_delayBetween 71 = .ok (.if_icmp .ne 7, 3) := by decide +kernel
theorem dX0_delayBetween_74 : decode cX0_delayBetween 74 = .ok (.iconst (-1), 1) := by decide +kernel
theorem dX0_delayBetween_75 : decode cX0_delayBetween 75 = .ok (.goto 5, 3) := by decide +kernel
theorem dX0_delayBetween_78 : decode cX0_delayBetween 78 = .ok (.iload 5, 2) := by decide +kernel
theorem dX0_delayBetween_80 : decode cX0_delayBetween 80 = .ok (.ireturn, 1) := by decide +kernel
theorem dX0_delayBetween_81 : decode cX0_delayBetween 81 = .ok (.iload 5, 2) := by decide +kernel
theorem dX0_delayBetween_83 : decode cX0_delayBetween 83 = .ok (.iconst 2, 1) := by decide +kernel
theorem dX0_delayBetween_84 : decode cX0_delayBetween 84 = .ok (.iadd, 1) := by decide +kernel
theorem dX0_delayBetween_85 : decode cX0_delayBetween 85 = .ok (.ireturn, 1) := by decide +kernel
theorem dX0_delayBetween_86 : decode cX0_delayBetween 86 = .ok (.iload 4, 2) := by decide +kernel
theorem dX0_delayBetween_88 : decode cX0_delayBetween 88 = .ok (.iconst 1, 1) := by decide +kernel
theorem dX0_delayBetween_89 : decode cX0_delayBetween 89 = .ok (.if_icmp .ne 7, 3) := by decide +kernel
theorem dX0_delayBetween_92 : decode cX0_delayBetween 92 = .ok (.iconst (-1), 1) := by decide +kernel
theorem dX0_delayBetween_93 : decode cX0_delayBetween 93 = .ok (.goto 5, 3) := by decide +kernel
theorem dX0_delayBetween_96 : decode cX0_delayBetween 96 = .ok (.iload 5, 2) := by decide +kernel
theorem dX0_delayBetween_98 : decode cX0_delayBetween 98 = .ok (.ireturn, 1) := by decide +kernel
theorem dX0_delayBetween_99 : decode cX0_delayBetween 99 = .ok (.iload 5, 2) := by decide +kernel
theorem dX0_delayBetween_101 : decode cX0_delayBetween 101 = .ok (.ireturn, 1) := by decide +kernel
theorem dX0_secondLast_0 : decode cX0_secondLast 0 = .ok (.aload_n 0, 1) := by decide +kernel
theorem dX0_secondLast_1 : decode cX0_secondLast 1 = .ok (.getfield 32, 3) := by decide +kernel
theorem dX0_secondLast_4 : decode cX0_secondLast 4 = .ok (.iload_n 1, 1) := by decide +kernel
theorem dX0_secondLast_5 : decode cX0_secondLast 5 = .ok (.aaload, 1) := by decide +kernel
theorem dX0_secondLast_6 : decode cX0_secondLast 6 = .ok (.astore_n 3, 1) := by decide +kernel
theorem dX0_secondLast_7 : decode cX0_secondLast 7 = .ok (.iload_n 2, 1) := by decide +kernel
theorem dX0_secondLast_8 : decode cX0_secondLast 8 = .ok (.aload_n 0, 1) := by decide +kernel
theorem dX0_secondLast_9 : decode cX0_secondLast 9 = .ok (.getfield 15, 3) := by decide +kernel
theorem dX0_secondLast_12 : decode cX0_secondLast 12 = .ok (.iconst 2, 1) := by decide +kernel
theorem dX0_secondLast_13 : decode cX0_secondLast 13 = .ok (.iaload, 1) := by decide +kernel
theorem dX0_secondLast_14 : decode cX0_secondLast 14 = .ok (.isub, 1) := by decide +kernel
theorem dX0_secondLast_15 : decode cX0_secondLast 15 = .ok (.istore 4, 2) := by decide +kernel
theorem dX0_secondLast_17 : decode cX0_secondLast 17 = .ok (.iconst (-1), 1) := by decide +kernel
theorem dX0_secondLast_18 : decode cX0_secondLast 18 = .ok (.istore 5, 2) := by decide +kernel
theorem dX0_secondLast_20 : decode cX0_secondLast 20 = .ok (.iconst (-1), 1) := by decide +kernel
theorem dX0_secondLast_21 : decode cX0_secondLast 21 = .ok (.istore 6, 2) := by decide +kernel
theorem dX0_secondLast_23 : decode cX0_secondLast 23 = .ok (.aload_n 0, 1) := by decide +kernel
theorem dX0_secondLast_24 : decode cX0_secondLast 24 = .ok (.getfield 48, 3) := by decide +kernel
theorem dX0_secondLast_27 : decode cX0_secondLast 27 = .ok (.iconst 1, 1) := by decide +kernel
theorem dX0_secondLast_28 : decode cX0_secondLast 28 = .ok (.isub, 1) := by decide +kernel
theorem dX0_secondLast_29 : decode cX0_secondLast 29 = .ok (.istore 7, 2) := by decide +kernel
theorem dX0_secondLast_31 : decode cX0_secondLast 31 = .ok (.iload 7, 2) := by decide +kernel
theorem dX0_secondLast_33 : decode cX0_secondLast 33 = .ok (.ifCond .lt 97, 3) := by decide +kernel
theorem dX0_secondLast_36 : decode cX0_secondLast 36 = .ok (.aload_n 0, 1) := by decide +kernel
theorem dX0_secondLast_37 : decode cX0_secondLast 37 = .ok (.getfield 27, 3) := by decide +kernel
theorem dX0_secondLast_40 : decode cX0_secondLast 40 = .ok (.iload 7, 2) := by decide +kernel
theorem dX0_secondLast_42 : decode cX0_secondLast 42 = .ok (.iaload, 1) := by decide +kernel
theorem dX0_secondLast_43 : decode cX0_secondLast 43 = .ok (.iload 4, 2) := by decide +kernel
theorem dX0_secondLast_45 : decode cX0_secondLast 45 = .ok (.bipush 19, 2) := by decide +kernel
theorem dX0_secondLast_47 : decode cX0_secondLast 47 = .ok (.isub, 1) := by decide +kernel
theorem dX0_secondLast_48 : decode cX0_secondLast 48 = .ok (.if_icmp .lt 82, 3) := by decide +kernel
theorem dX0_secondLast_51 : decode cX0_secondLast 51 = .ok (.aload_n 3, 1) := by decide +kernel
theorem dX0_secondLast_52 : decode cX0_secondLast 52 = .ok (.iload 7, 2) := by decide +kernel
theorem dX0_secondLast_54 : decode cX0_secondLast 54 = .ok (.iaload, 1) := by decide +kernel
theorem dX0_secondLast_55 : decode cX0_secondLast 55 = .ok (.istore 8, 2) := by decide +kernel
theorem dX0_secondLast_57 : decode cX0_secondLast 57 = .ok (.iload 8, 2) := by decide +kernel
theorem dX0_secondLast_59 : decode cX0_secondLast 59 = .ok (.iconst (-1), 1) := by decide +kernel
theorem dX0_secondLast_60 : decode cX0_secondLast 60 = .ok (.if_icmp .eq 64, 3) := by decide +kernel
theorem dX0_secondLast_63 : decode cX0_secondLast 63 = .ok (.iload 8, 2) := by decide +kernel
theorem dX0_secondLast_65 : decode cX0_secondLast 65 = .ok (.iload 4, 2) := by decide +kernel
theorem dX0_secondLast_67 : decode cX0_secondLast 67 = .ok (.if_icmp .lt 57, 3) := by decide +kernel
theorem dX0_secondLast_70 : decode cX0_secondLast 70 = .ok (.iload 8, 2) := by decide +kernel
theorem dX0_secondLast_72 : decode cX0_secondLast 72 = .ok (.iload_n 2, 1) := by decide +kernel
theorem dX0_secondLast_73 : decode cX0_secondLast 73 = .ok (.if_icmp .le 6, 3) := by decide +kernel
theorem dX0_secondLast_76 : decode cX0_secondLast 76 = .ok (.goto 48, 3) := by decide +kernel
theorem dX0_secondLast_79 : decode cX0_secondLast 79 = .ok (.iload 5, 2) := by decide +kernel
theorem dX0_secondLast_81 : decode cX0_secondLast 81 = .ok (.iconst (-1), 1) := by decide +kernel
theorem dX0_secondLast_82 : decode cX0_secondLast 82 = .ok (.if_icmp .eq 12, 3) := by decide +kernel
theorem dX0_secondLast_85 : decode cX0_secondLast 85 = .ok (.iload 8, 2) := by decide +kernel
theorem dX0_secondLast_87 : decode cX0_secondLast 87 = .ok (.aload_n 3, 1) := by decide +kernel
theorem dX0_secondLast_88 : decode cX0_secondLast 88 = .ok (.iload 5, 2) := by decide +kernel
theorem dX0_secondLast_90 : decode cX0_secondLast 90 = .ok (.iaload, 1) := by decide +kernel
theorem dX0_secondLast_91 : decode cX0_secondLast 91 = .ok (.if_icmp .le 14, 3) := by decide +kernel
theorem dX0_secondLast_94 : decode cX0_secondLast 94 = .ok (.iload 5, 2) := by decide +kernel
theorem dX0_secondLast_96 : decode cX0_secondLast 96 = .ok (.istore 6, 2) := by decide +kernel
theorem dX0_secondLast_98 : decode cX0_secondLast 98 = .ok (.iload 7, 2) := by decide +kernel
theorem dX0_secondLast_100 : decode cX0_secondLast 100 = .ok (.istore 5, 2) := by decide +kernel
theorem dX0_secondLast_102 : decode cX0_secondLast 102 = .ok (.goto 22, 3) := by decide +kernel
theorem dX0_secondLast_105 : decode cX0_secondLast 105 = .ok (.iload 6, 2) := by decide +kernel
theorem dX0_secondLast_107 : decode cX0_secondLast 107 = .ok (.iconst (-1), 1) := by decide +kernel
theorem dX0_secondLast_108 : decode cX0_secondLast 108 = .ok (.if_icmp .eq 12, 3) := by decide +kernel
theorem dX0_secondLast_111 : decode cX0_secondLast 111 = .ok (.iload 8, 2) := by decide +kernel
theorem dX0_secondLast_113 : decode cX0_secondLast 113 = .ok (.aload_n 3, 1) := by decide +kernel
theorem dX0_secondLast_114 : decode cX0_secondLast 114 = .ok (.iload 6, 2) := by decide +kernel
theorem dX0_secondLast_116 : decode cX0_secondLast 116 = .ok (.iaload, 1) := by decide +kernel
theorem dX0_secondLast_117 : decode cX0_secondLast 117 = .ok (.if_icmp .le 7, 3) := by decide +kernel
theorem dX0_secondLast_120 : decode cX0_secondLast 120 = .ok (.iload 7, 2) := by decide +kernel
theorem dX0_secondLast_122 : decode cX0_secondLast 122 = .ok (.istore 6, 2) := by decide +kernel
theorem dX0_secondLast_124 : decode cX0_secondLast 124 = .ok (.iinc 7 (-1), 3) := by decide +kernel
theorem dX0_secondLast_127 : decode cX0_secondLast 127 = .ok (.goto (-96), 3) := by decide +kernel
theorem dX0_secondLast_130 : decode cX0_secondLast 130 = .ok (.iload 6, 2) := by decide +kernel
theorem dX0_secondLast_132 : decode cX0_secondLast 132 = .ok (.ireturn, 1) := by decide +kernel
theorem dX0_messagePlace_0 : decode cX0_messagePlace 0 = .ok (.iload_n 0, 1) := by decide +kernel
theorem dX0_messagePlace_1 : decode cX0_messagePlace 1 = .ok (.bipush 10, 2) := by decide +kernel
theorem dX0_messagePlace_3 : decode cX0_messagePlace 3 = .ok (.imul, 1) := by decide +kernel
theorem dX0_messagePlace_4 : decode cX0_messagePlace 4 = .ok (.iload_n 1, 1) := by decide +kernel
theorem dX0_messagePlace_5 : decode cX0_messagePlace 5 = .ok (.iadd, 1) := by decide +kernel
theorem dX0_messagePlace_6 : decode cX0_messagePlace 6 = .ok (.ireturn, 1) := by decide +kernel
theorem dX1_init_0 : decode cX1_init 0 = .ok (.aload_n 0, 1) := by decide +kernel
theorem dX1_init_1 : decode cX1_init 1 = .ok (.invokespecial 1, 3) := by decide +kernel
theorem dX1_init_4 : decode cX1_init 4 = .ok (.aload_n 0, 1) := by decide +kernel
theorem dX1_init_5 : decode cX1_init 5 = .ok (.ldc2_w 7, 3) := by decide +kernel
theorem dX1_init_8 : decode cX1_init 8 = .ok (.putfield 9, 3) := by decide +kernel
theorem dX1_init_11 : decode cX1_init 11 = .ok (.return_, 1) := by decide +kernel
theorem dX1_take_0 : decode cX1_take 0 = .ok (.aload_n 0, 1) := by decide +kernel
theorem dX1_take_1 : decode cX1_take 1 = .ok (.ldc2_w 15, 3) := by decide +kernel
theorem dX1_take_4 : decode cX1_take 4 = .ok (.aload_n 0, 1) := by decide +kernel
theorem dX1_take_5 : decode cX1_take 5 = .ok (.getfield 9, 3) := by decide +kernel
theorem dX1_take_8 : decode cX1_take 8 = .ok (.lmul, 1) := by decide +kernel
theorem dX1_take_9 : decode cX1_take 9 = .ok (.lload_n 1, 1) := by decide +kernel
theorem dX1_take_10 : decode cX1_take 10 = .ok (.ladd, 1) := by decide +kernel
theorem dX1_take_11 : decode cX1_take 11 = .ok (.putfield 9, 3) := by decide +kernel
theorem dX1_take_14 : decode cX1_take 14 = .ok (.return_, 1) := by decide +kernel
theorem dX1_bitsOf_0 : decode cX1_bitsOf 0 = .ok (.dload_n 0, 1) := by decide +kernel
theorem dX1_bitsOf_1 : decode cX1_bitsOf 1 = .ok (.dconst 0, 1) := by decide +kernel
theorem dX1_bitsOf_2 : decode cX1_bitsOf 2 = .ok (.dcmp .g, 1) := by decide +kernel
theorem dX1_bitsOf_3 : decode cX1_bitsOf 3 = .ok (.ifCond .gt 5, 3) := by decide +kernel
theorem dX1_bitsOf_6 : decode cX1_bitsOf 6 = .ok (.lconst 0, 1) := by decide +kernel
theorem dX1_bitsOf_7 : decode cX1_bitsOf 7 = .ok (.lreturn, 1) := by decide +kernel
theorem dX1_bitsOf_8 : decode cX1_bitsOf 8 = .ok (.dload_n 0, 1) := by decide +kernel
theorem dX1_bitsOf_9 : decode cX1_bitsOf 9 = .ok (.dstore_n 2, 1) := by decide +kernel
theorem dX1_bitsOf_10 : decode cX1_bitsOf 10 = .ok (.sipush 1023, 3) := by decide +kernel
theorem dX1_bitsOf_13 : decode cX1_bitsOf 13 = .ok (.istore 4, 2) := by decide +kernel
theorem dX1_bitsOf_15 : decode cX1_bitsOf 15 = .ok (.iconst 0, 1) := by decide +kernel
theorem dX1_bitsOf_16 : decode cX1_bitsOf 16 = .ok (.istore 5, 2) := by decide +kernel
theorem dX1_bitsOf_18 : decode cX1_bitsOf 18 = .ok (.iload 5, 2) := by decide +kernel
theorem dX1_bitsOf_20 : decode cX1_bitsOf 20 = .ok (.sipush 1023, 3) := by decide +kernel
theorem dX1_bitsOf_23 : decode cX1_bitsOf 23 = .ok (.if_icmp .ge 24, 3) := by decide +kernel
theorem dX1_bitsOf_26 : decode cX1_bitsOf 26 = .ok (.dload_n 2, 1) := by decide +kernel
theorem dX1_bitsOf_27 : decode cX1_bitsOf 27 = .ok (.dconst 1, 1) := by decide +kernel
theorem dX1_bitsOf_28 : decode cX1_bitsOf 28 = .ok (.dcmp .g, 1) := by decide +kernel
theorem dX1_bitsOf_29 : decode cX1_bitsOf 29 = .ok (.ifCond .ge 18, 3) := by decide +kernel
theorem dX1_bitsOf_32 : decode cX1_bitsOf 32 = .ok (.dload_n 2, 1) := by decide +kernel
theorem dX1_bitsOf_33 : decode cX1_bitsOf 33 = .ok (.ldc2_w 17, 3) := by decide +kernel
theorem dX1_bitsOf_36 : decode cX1_bitsOf 36 = .ok (.dmul, 1) := by decide +kernel
theorem dX1_bitsOf_37 : decode cX1_bitsOf 37 = .ok (.dstore_n 2, 1) := by decide +kernel
theorem dX1_bitsOf_38 : decode cX1_bitsOf 38 = .ok (.iinc 4 (-1), 3) := by decide +kernel
theorem dX1_bitsOf_41 : decode cX1_bitsOf 41 = .ok (.iinc 5 1, 3) := by decide +kernel
theorem dX1_bitsOf_44 : decode cX1_bitsOf 44 = .ok (.goto (-26), 3) := by decide +kernel
theorem dX1_bitsOf_47 : decode cX1_bitsOf 47 = .ok (.iload 4, 2) := by decide +kernel
theorem dX1_bitsOf_49 : decode cX1_bitsOf 49 = .ok (.i2l, 1) := by decide +kernel
theorem dX1_bitsOf_50 : decode cX1_bitsOf 50 = .ok (.bipush 52, 2) := by decide +kernel
theorem dX1_bitsOf_52 : decode cX1_bitsOf 52 = .ok (.lshl, 1) := by decide +kernel
theorem dX1_bitsOf_53 : decode cX1_bitsOf 53 = .ok (.dload_n 2, 1) := by decide +kernel
theorem dX1_bitsOf_54 : decode cX1_bitsOf 54 = .ok (.dconst 1, 1) := by decide +kernel
theorem dX1_bitsOf_55 : decode cX1_bitsOf 55 = .ok (.dsub, 1) := by decide +kernel
theorem dX1_bitsOf_56 : decode cX1_bitsOf 56 = .ok (.ldc2_w 19, 3) := by decide +kernel
theorem dX1_bitsOf_59 : decode cX1_bitsOf 59 = .ok (.dmul, 1) := by decide +kernel
theorem dX1_bitsOf_60 : decode cX1_bitsOf 60 = .ok (.d2l, 1) := by decide +kernel
theorem dX1_bitsOf_61 : decode cX1_bitsOf 61 = .ok (.lor, 1) := by decide +kernel
theorem dX1_bitsOf_62 : decode cX1_bitsOf 62 = .ok (.lreturn, 1) := by decide +kernel
theorem dX2_init_0 : decode cX2_init 0 = .ok (.aload_n 0, 1) := by decide +kernel
theorem dX2_init_1 : decode cX2_init 1 = .ok (.invokespecial 3, 3) := by decide +kernel
theorem dX2_init_4 : decode cX2_init 4 = .ok (.aload_n 0, 1) := by decide +kernel
theorem dX2_init_5 : decode cX2_init 5 = .ok (.bipush 6, 2) := by decide +kernel
theorem dX2_init_7 : decode cX2_init 7 = .ok (.anewarray 9, 3) := by decide +kernel
theorem dX2_init_10 : decode cX2_init 10 = .ok (.putfield 11, 3) := by decide +kernel
theorem dX2_init_13 : decode cX2_init 13 = .ok (.return_, 1) := by decide +kernel
theorem dX2_save_0 : decode cX2_save 0 = .ok (.aload_n 0, 1) := by decide +kernel
theorem dX2_save_1 : decode cX2_save 1 = .ok (.getfield 17, 3) := by decide +kernel
theorem dX2_save_4 : decode cX2_save 4 = .ok (.bipush 6, 2) := by decide +kernel
theorem dX2_save_6 : decode cX2_save 6 = .ok (.if_icmp .lt 7, 3) := by decide +kernel
theorem dX2_save_9 : decode cX2_save 9 = .ok (.aload_n 0, 1) := by decide +kernel
theorem dX2_save_10 : decode cX2_save 10 = .ok (.invokevirtual 21, 3) := by decide +kernel
theorem dX2_save_13 : decode cX2_save 13 = .ok (.aload_n 0, 1) := by decide +kernel
theorem dX2_save_14 : decode cX2_save 14 = .ok (.getfield 11, 3) := by decide +kernel
theorem dX2_save_17 : decode cX2_save 17 = .ok (.aload_n 0, 1) := by decide +kernel
theorem dX2_save_18 : decode cX2_save 18 = .ok (.getfield 17, 3) := by decide +kernel
theorem dX2_save_21 : decode cX2_save 21 = .ok (.aaload, 1) := by decide +kernel
theorem dX2_save_22 : decode cX2_save 22 = .ok (.astore_n 2, 1) := by decide +kernel
theorem dX2_save_23 : decode cX2_save 23 = .ok (.aload_n 2, 1) := by decide +kernel
theorem dX2_save_24 : decode cX2_save 24 = .ok (.ifnonnull 21, 3) := by decide +kernel
theorem dX2_save_27 : decode cX2_save 27 = .ok (.new 9, 3) := by decide +kernel
theorem dX2_save_30 : decode cX2_save 30 = .ok (.dup, 1) := by decide +kernel
theorem dX2_save_31 : decode cX2_save 31 = .ok (.invokespecial 24, 3) := by decide +kernel
theorem dX2_save_34 : decode cX2_save 34 = .ok (.astore_n 2, 1) := by decide +kernel
theorem dX2_save_35 : decode cX2_save 35 = .ok (.aload_n 0, 1) := by decide +kernel
theorem dX2_save_36 : decode cX2_save 36 = .ok (.getfield 11, 3) := by decide +kernel
theorem dX2_save_39 : decode cX2_save 39 = .ok (.aload_n 0, 1) := by decide +kernel
theorem dX2_save_40 : decode cX2_save 40 = .ok (.getfield 17, 3) := by decide +kernel
theorem dX2_save_43 : decode cX2_save 43 = .ok (.aload_n 2, 1) := by decide +kernel
theorem dX2_save_44 : decode cX2_save 44 = .ok (.aastore, 1) := by decide +kernel
theorem dX2_save_45 : decode cX2_save 45 = .ok (.aload_n 2, 1) := by decide +kernel
theorem dX2_save_46 : decode cX2_save 46 = .ok (.aload_n 1, 1) := by decide +kernel
theorem dX2_save_47 : decode cX2_save 47 = .ok (.invokevirtual 25, 3) := by decide +kernel
theorem dX2_save_50 : decode cX2_save 50 = .ok (.aload_n 0, 1) := by decide +kernel
theorem dX2_save_51 : decode cX2_save 51 = .ok (.dup, 1) := by decide +kernel
theorem dX2_save_52 : decode cX2_save 52 = .ok (.getfield 17, 3) := by decide +kernel
theorem dX2_save_55 : decode cX2_save 55 = .ok (.iconst 1, 1) := by decide +kernel
theorem dX2_save_56 : decode cX2_save 56 = .ok (.iadd, 1) := by decide +kernel
theorem dX2_save_57 : decode cX2_save 57 = .ok (.putfield 17, 3) := by decide +kernel
theorem dX2_save_60 : decode cX2_save 60 = .ok (.return_, 1) := by decide +kernel
theorem dX2_dropOldest_0 : decode cX2_dropOldest 0 = .ok (.aload_n 0, 1) := by decide +kernel
theorem dX2_dropOldest_1 : decode cX2_dropOldest 1 = .ok (.getfield 11, 3) := by decide +kernel
theorem dX2_dropOldest_4 : decode cX2_dropOldest 4 = .ok (.iconst 0, 1) := by decide +kernel
theorem dX2_dropOldest_5 : decode cX2_dropOldest 5 = .ok (.aaload, 1) := by decide +kernel
theorem dX2_dropOldest_6 : decode cX2_dropOldest 6 = .ok (.astore_n 1, 1) := by decide +kernel
theorem dX2_dropOldest_7 : decode cX2_dropOldest 7 = .ok (.iconst 1, 1) := by decide +kernel
theorem dX2_dropOldest_8 : decode cX2_dropOldest 8 = .ok (.istore_n 2, 1) := by decide +kernel
theorem dX2_dropOldest_9 : decode cX2_dropOldest 9 = .ok (.iload_n 2, 1) := by decide +kernel
theorem dX2_dropOldest_10 : decode cX2_dropOldest 10 = .ok (.bipush 6, 2) := by decide +kernel
theorem dX2_dropOldest_12 : decode cX2_dropOldest 12 = .ok (.if_icmp .ge 23, 3) := by decide +kernel
theorem dX2_dropOldest_15 : decode cX2_dropOldest 15 = .ok (.aload_n 0, 1) := by decide +kernel
theorem dX2_dropOldest_16 : decode cX2_dropOldest 16 = .ok (.getfield 11, 3) := by decide +kernel
theorem dX2_dropOldest_19 : decode cX2_dropOldest 19 = .ok (.iload_n 2, 1) := by decide +kernel
theorem dX2_dropOldest_20 : decode cX2_dropOldest 20 = .ok (.iconst 1, 1) := by decide +kernel
theorem dX2_dropOldest_21 : decode cX2_dropOldest 21 = .ok (.isub, 1) := by decide +kernel
theorem dX2_dropOldest_22 : decode cX2_dropOldest 22 = .ok (.aload_n 0, 1) := by decide +kernel
theorem dX2_dropOldest_23 : decode cX2_dropOldest 23 = .ok (.getfield 11, 3) := by decide +kernel
theorem dX2_dropOldest_26 : decode cX2_dropOldest 26 = .ok (.iload_n 2, 1) := by decide +kernel
theorem dX2_dropOldest_27 : decode cX2_dropOldest 27 = .ok (.aaload, 1) := by decide +kernel
theorem dX2_dropOldest_28 : decode cX2_dropOldest 28 = .ok (.aastore, 1) := by decide +kernel
theorem dX2_dropOldest_29 : decode cX2_dropOldest 29 = .ok (.iinc 2 1, 3) := by decide +kernel
theorem dX2_dropOldest_32 : decode cX2_dropOldest 32 = .ok (.goto (-23), 3) := by decide +kernel
theorem dX2_dropOldest_35 : decode cX2_dropOldest 35 = .ok (.aload_n 0, 1) := by decide +kernel
theorem dX2_dropOldest_36 : decode cX2_dropOldest 36 = .ok (.getfield 11, 3) := by decide +kernel
theorem dX2_dropOldest_39 : decode cX2_dropOldest 39 = .ok (.iconst 5, 1) := by decide +kernel
theorem dX2_dropOldest_40 : decode cX2_dropOldest 40 = .ok (.aload_n 1, 1) := by decide +kernel
theorem dX2_dropOldest_41 : decode cX2_dropOldest 41 = .ok (.aastore, 1) := by decide +kernel
theorem dX2_dropOldest_42 : decode cX2_dropOldest 42 = .ok (.aload_n 0, 1) := by decide +kernel
theorem dX2_dropOldest_43 : decode cX2_dropOldest 43 = .ok (.iconst 5, 1) := by decide +kernel
theorem dX2_dropOldest_44 : decode cX2_dropOldest 44 = .ok (.putfield 17, 3) := by decide +kernel
theorem dX2_dropOldest_47 : decode cX2_dropOldest 47 = .ok (.return_, 1) := by decide +kernel
theorem dX2_latest_0 : decode cX2_latest 0 = .ok (.aload_n 0, 1) := by decide +kernel
theorem dX2_latest_1 : decode cX2_latest 1 = .ok (.getfield 17, 3) := by decide +kernel
theorem dX2_latest_4 : decode cX2_latest 4 = .ok (.ifCond .le 17, 3) := by decide +kernel
theorem dX2_latest_7 : decode cX2_latest 7 = .ok (.aload_n 0, 1) := by decide +kernel
theorem dX2_latest_8 : decode cX2_latest 8 = .ok (.getfield 11, 3) := by decide +kernel
theorem dX2_latest_11 : decode cX2_latest 11 = .ok (.aload_n 0, 1) := by decide +kernel
theorem dX2_latest_12 : decode cX2_latest 12 = .ok (.getfield 17, 3) := by decide +kernel
theorem dX2_latest_15 : decode cX2_latest 15 = .ok (.iconst 1, 1) := by decide +kernel
theorem dX2_latest_16 : decode cX2_latest 16 = .ok (.isub, 1) := by decide +kernel
theorem dX2_latest_17 : decode cX2_latest 17 = .ok (.aaload, 1) := by decide +kernel
theorem dX2_latest_18 : decode cX2_latest 18 = .ok (.goto 4, 3) := by decide +kernel
theorem dX2_latest_21 : decode cX2_latest 21 = .ok (.aconst_null, 1) := by decide +kernel
theorem dX2_latest_22 : decode cX2_latest 22 = .ok (.areturn, 1) := by decide +kernel
theorem dX2_dropLatest_0 : decode cX2_dropLatest 0 = .ok (.aload_n 0, 1) := by decide +kernel
theorem dX2_dropLatest_1 : decode cX2_dropLatest 1 = .ok (.getfield 17, 3) := by decide +kernel
theorem dX2_dropLatest_4 : decode cX2_dropLatest 4 = .ok (.ifCond .le 13, 3) := by decide +kernel
theorem dX2_dropLatest_7 : decode cX2_dropLatest 7 = .ok (.aload_n 0, 1) := by decide +kernel
theorem dX2_dropLatest_8 : decode cX2_dropLatest 8 = .ok (.dup, 1) := by decide +kernel
theorem dX2_dropLatest_9 : decode cX2_dropLatest 9 = .ok (.getfield 17, 3) := by decide +kernel
theorem dX2_dropLatest_12 : decode cX2_dropLatest 12 = .ok (.iconst 1, 1) := by decide +kernel
theorem dX2_dropLatest_13 : decode cX2_dropLatest 13 = .ok (.isub, 1) := by decide +kernel
theorem dX2_dropLatest_14 : decode cX2_dropLatest 14 = .ok (.putfield 17, 3) := by decide +kernel
theorem dX2_dropLatest_17 : decode cX2_dropLatest 17 = .ok (.return_, 1) := by decide +kernel
theorem dX3_init_0 : decode cX3_init 0 = .ok (.aload_n 0, 1) := by decide +kernel
theorem dX3_init_1 : decode cX3_init 1 = .ok (.invokespecial 3, 3) := by decide +kernel
theorem dX3_init_4 : decode cX3_init 4 = .ok (.aload_n 0, 1) := by decide +kernel
theorem dX3_init_5 : decode cX3_init 5 = .ok (.aload_n 1, 1) := by decide +kernel
theorem dX3_init_6 : decode cX3_init 6 = .ok (.putfield 9, 3) := by decide +kernel
theorem dX3_init_9 : decode cX3_init 9 = .ok (.return_, 1) := by decide +kernel
theorem dX3_ofWord_0 : decode cX3_ofWord 0 = .ok (.iload_n 2, 1) := by decide +kernel
theorem dX3_ofWord_1 : decode cX3_ofWord 1 = .ok (.tableswitch 88 0 4 #[35, 45, 55, 65, 75], 35) := by decide +kernel
theorem dX3_ofWord_36 : decode cX3_ofWord 36 = .ok (.aload_n 0, 1) := by decide +kernel
theorem dX3_ofWord_37 : decode cX3_ofWord 37 = .ok (.getfield 9, 3) := by decide +kernel
theorem dX3_ofWord_40 : decode cX3_ofWord 40 = .ok (.getfield 15, 3) := by decide +kernel
theorem dX3_ofWord_43 : decode cX3_ofWord 43 = .ok (.iload_n 1, 1) := by decide +kernel
theorem dX3_ofWord_44 : decode cX3_ofWord 44 = .ok (.iaload, 1) := by decide +kernel
theorem dX3_ofWord_45 : decode cX3_ofWord 45 = .ok (.ireturn, 1) := by decide +kernel
theorem dX3_ofWord_46 : decode cX3_ofWord 46 = .ok (.aload_n 0, 1) := by decide +kernel
theorem dX3_ofWord_47 : decode cX3_ofWord 47 = .ok (.getfield 9, 3) := by decide +kernel
theorem dX3_ofWord_50 : decode cX3_ofWord 50 = .ok (.getfield 21, 3) := by decide +kernel
theorem dX3_ofWord_53 : decode cX3_ofWord 53 = .ok (.iload_n 1, 1) := by decide +kernel
theorem dX3_ofWord_54 : decode cX3_ofWord 54 = .ok (.iaload, 1) := by decide +kernel
theorem dX3_ofWord_55 : decode cX3_ofWord 55 = .ok (.ireturn, 1) := by decide +kernel
theorem dX3_ofWord_56 : decode cX3_ofWord 56 = .ok (.aload_n 0, 1) := by decide +kernel
theorem dX3_ofWord_57 : decode cX3_ofWord 57 = .ok (.getfield 9, 3) := by decide +kernel
theorem dX3_ofWord_60 : decode cX3_ofWord 60 = .ok (.getfield 24, 3) := by decide +kernel
theorem dX3_ofWord_63 : decode cX3_ofWord 63 = .ok (.iload_n 1, 1) := by decide +kernel
theorem dX3_ofWord_64 : decode cX3_ofWord 64 = .ok (.iaload, 1) := by decide +kernel
theorem dX3_ofWord_65 : decode cX3_ofWord 65 = .ok (.ireturn, 1) := by decide +kernel
theorem dX3_ofWord_66 : decode cX3_ofWord 66 = .ok (.aload_n 0, 1) := by decide +kernel
theorem dX3_ofWord_67 : decode cX3_ofWord 67 = .ok (.getfield 9, 3) := by decide +kernel
theorem dX3_ofWord_70 : decode cX3_ofWord 70 = .ok (.getfield 27, 3) := by decide +kernel
theorem dX3_ofWord_73 : decode cX3_ofWord 73 = .ok (.iload_n 1, 1) := by decide +kernel
theorem dX3_ofWord_74 : decode cX3_ofWord 74 = .ok (.iaload, 1) := by decide +kernel
theorem dX3_ofWord_75 : decode cX3_ofWord 75 = .ok (.ireturn, 1) := by decide +kernel
theorem dX3_ofWord_76 : decode cX3_ofWord 76 = .ok (.aload_n 0, 1) := by decide +kernel
theorem dX3_ofWord_77 : decode cX3_ofWord 77 = .ok (.aload_n 0, 1) := by decide +kernel
theorem dX3_ofWord_78 : decode cX3_ofWord 78 = .ok (.getfield 9, 3) := by decide +kernel
theorem dX3_ofWord_81 : decode cX3_ofWord 81 = .ok (.getfield 30, 3) := by decide +kernel
theorem dX3_ofWord_84 : decode cX3_ofWord 84 = .ok (.iload_n 1, 1) := by decide +kernel
theorem dX3_ofWord_85 : decode cX3_ofWord 85 = .ok (.invokevirtual 34, 3) := by decide +kernel
theorem dX3_ofWord_88 : decode cX3_ofWord 88 = .ok (.ireturn, 1) := by decide +kernel
theorem dX3_ofWord_89 : decode cX3_ofWord 89 = .ok (.aload_n 0, 1) := by decide +kernel
theorem dX3_ofWord_90 : decode cX3_ofWord 90 = .ok (.aload_n 0, 1) := by decide +kernel
theorem dX3_ofWord_91 : decode cX3_ofWord 91 = .ok (.getfield 9, 3) := by decide +kernel
theorem dX3_ofWord_94 : decode cX3_ofWord 94 = .ok (.getfield 38, 3) := by decide +kernel
theorem dX3_ofWord_97 : decode cX3_ofWord 97 = .ok (.iload_n 1, 1) := by decide +kernel
theorem dX3_ofWord_98 : decode cX3_ofWord 98 = .ok (.invokevirtual 34, 3) := by decide +kernel
theorem dX3_ofWord_101 : decode cX3_ofWord 101 = .ok (.ireturn, 1) := by decide +kernel
theorem dX3_maskOf_0 : decode cX3_maskOf 0 = .ok (.iconst 0, 1) := by decide +kernel
theorem dX3_maskOf_1 : decode cX3_maskOf 1 = .ok (.istore_n 3, 1) := by decide +kernel
theorem dX3_maskOf_2 : decode cX3_maskOf 2 = .ok (.iconst 0, 1) := by decide +kernel
theorem dX3_maskOf_3 : decode cX3_maskOf 3 = .ok (.istore 4, 2) := by decide +kernel
theorem dX3_maskOf_5 : decode cX3_maskOf 5 = .ok (.iload 4, 2) := by decide +kernel
theorem dX3_maskOf_7 : decode cX3_maskOf 7 = .ok (.bipush 6, 2) := by decide +kernel
theorem dX3_maskOf_9 : decode cX3_maskOf 9 = .ok (.if_icmp .ge 26, 3) := by decide +kernel
theorem dX3_maskOf_12 : decode cX3_maskOf 12 = .ok (.aload_n 1, 1) := by decide +kernel
theorem dX3_maskOf_13 : decode cX3_maskOf 13 = .ok (.iload 4, 2) := by decide +kernel
theorem dX3_maskOf_15 : decode cX3_maskOf 15 = .ok (.aaload, 1) := by decide +kernel
theorem dX3_maskOf_16 : decode cX3_maskOf 16 = .ok (.iload_n 2, 1) := by decide +kernel
theorem dX3_maskOf_17 : decode cX3_maskOf 17 = .ok (.iaload, 1) := by decide +kernel
theorem dX3_maskOf_18 : decode cX3_maskOf 18 = .ok (.iconst (-1), 1) := by decide +kernel
theorem dX3_maskOf_19 : decode cX3_maskOf 19 = .ok (.if_icmp .eq 10, 3) := by decide +kernel
theorem dX3_maskOf_22 : decode cX3_maskOf 22 = .ok (.iload_n 3, 1) := by decide +kernel
theorem dX3_maskOf_23 : decode cX3_maskOf 23 = .ok (.iconst 1, 1) := by decide +kernel
theorem dX3_maskOf_24 : decode cX3_maskOf 24 = .ok (.iload 4, 2) := by decide +kernel
theorem dX3_maskOf_26 : decode cX3_maskOf 26 = .ok (.ishl, 1) := by decide +kernel
theorem dX3_maskOf_27 : decode cX3_maskOf 27 = .ok (.ior, 1) := by decide +kernel
theorem dX3_maskOf_28 : decode cX3_maskOf 28 = .ok (.istore_n 3, 1) := by decide +kernel
theorem dX3_maskOf_29 : decode cX3_maskOf 29 = .ok (.iinc 4 1, 3) := by decide +kernel
theorem dX3_maskOf_32 : decode cX3_maskOf 32 = .ok (.goto (-27), 3) := by decide +kernel
theorem dX3_maskOf_35 : decode cX3_maskOf 35 = .ok (.iload_n 3, 1) := by decide +kernel
theorem dX3_maskOf_36 : decode cX3_maskOf 36 = .ok (.ireturn, 1) := by decide +kernel
theorem dX3_ofBeat_0 : decode cX3_ofBeat 0 = .ok (.aload_n 0, 1) := by decide +kernel
theorem dX3_ofBeat_1 : decode cX3_ofBeat 1 = .ok (.getfield 9, 3) := by decide +kernel
theorem dX3_ofBeat_4 : decode cX3_ofBeat 4 = .ok (.getfield 41, 3) := by decide +kernel
theorem dX3_ofBeat_7 : decode cX3_ofBeat 7 = .ok (.iload_n 1, 1) := by decide +kernel
theorem dX3_ofBeat_8 : decode cX3_ofBeat 8 = .ok (.aaload, 1) := by decide +kernel
theorem dX3_ofBeat_9 : decode cX3_ofBeat 9 = .ok (.iload_n 2, 1) := by decide +kernel
theorem dX3_ofBeat_10 : decode cX3_ofBeat 10 = .ok (.iaload, 1) := by decide +kernel
theorem dX3_ofBeat_11 : decode cX3_ofBeat 11 = .ok (.istore 4, 2) := by decide +kernel
theorem dX3_ofBeat_13 : decode cX3_ofBeat 13 = .ok (.iload 4, 2) := by decide +kernel
theorem dX3_ofBeat_15 : decode cX3_ofBeat 15 = .ok (.iconst (-1), 1) := by decide +kernel
theorem dX3_ofBeat_16 : decode cX3_ofBeat 16 = .ok (.if_icmp .eq 7, 3) := by decide +kernel
theorem dX3_ofBeat_19 : decode cX3_ofBeat 19 = .ok (.iload_n 3, 1) := by decide +kernel
theorem dX3_ofBeat_20 : decode cX3_ofBeat 20 = .ok (.ifCond .ne 6, 3) := by decide +kernel
theorem dX3_ofBeat_23 : decode cX3_ofBeat 23 = .ok (.iload 4, 2) := by decide +kernel
theorem dX3_ofBeat_25 : decode cX3_ofBeat 25 = .ok (.ireturn, 1) := by decide +kernel
theorem dX3_ofBeat_26 : decode cX3_ofBeat 26 = .ok (.iload_n 3, 1) := by decide +kernel
theorem dX3_ofBeat_27 : decode cX3_ofBeat 27 = .ok (.iconst 1, 1) := by decide +kernel
theorem dX3_ofBeat_28 : decode cX3_ofBeat 28 = .ok (.if_icmp .ne 14, 3) := by decide +kernel
theorem dX3_ofBeat_31 : decode cX3_ofBeat 31 = .ok (.aload_n 0, 1) := by decide +kernel
theorem dX3_ofBeat_32 : decode cX3_ofBeat 32 = .ok (.getfield 9, 3) := by decide +kernel
theorem dX3_ofBeat_35 : decode cX3_ofBeat 35 = .ok (.getfield 21, 3) := by decide +kernel
theorem dX3_ofBeat_38 : decode cX3_ofBeat 38 = .ok (.iload 4, 2) := by decide +kernel
theorem dX3_ofBeat_40 : decode cX3_ofBeat 40 = .ok (.iaload, 1) := by decide +kernel
theorem dX3_ofBeat_41 : decode cX3_ofBeat 41 = .ok (.ireturn, 1) := by decide +kernel
theorem dX3_ofBeat_42 : decode cX3_ofBeat 42 = .ok (.aload_n 0, 1) := by decide +kernel
theorem dX3_ofBeat_43 : decode cX3_ofBeat 43 = .ok (.iload_n 1, 1) := by decide +kernel
theorem dX3_ofBeat_44 : decode cX3_ofBeat 44 = .ok (.iload_n 2, 1) := by decide +kernel
theorem dX3_ofBeat_45 : decode cX3_ofBeat 45 = .ok (.invokevirtual 44, 3) := by decide +kernel
theorem dX3_ofBeat_48 : decode cX3_ofBeat 48 = .ok (.ifCond .eq 7, 3) := by decide +kernel
theorem dX3_ofBeat_51 : decode cX3_ofBeat 51 = .ok (.iconst 1, 1) := by decide +kernel
theorem dX3_ofBeat_52 : decode cX3_ofBeat 52 = .ok (.goto 4, 3) := by decide +kernel
theorem dX3_ofBeat_55 : decode cX3_ofBeat 55 = .ok (.iconst 0, 1) := by decide +kernel
theorem dX3_ofBeat_56 : decode cX3_ofBeat 56 = .ok (.ireturn, 1) := by decide +kernel
theorem dX3_isRepeated_0 : decode cX3_isRepeated 0 = .ok (.aload_n 0, 1) := by decide +kernel
theorem dX3_isRepeated_1 : decode cX3_isRepeated 1 = .ok (.getfield 9, 3) := by decide +kernel
theorem dX3_isRepeated_4 : decode cX3_isRepeated 4 = .ok (.getfield 41, 3) := by decide +kernel
theorem dX3_isRepeated_7 : decode cX3_isRepeated 7 = .ok (.iload_n 1, 1) := by decide +kernel
theorem dX3_isRepeated_8 : decode cX3_isRepeated 8 = .ok (.aaload, 1) := by decide +kernel
theorem dX3_isRepeated_9 : decode cX3_isRepeated 9 = .ok (.astore_n 3, 1) := by decide +kernel
theorem dX3_isRepeated_10 : decode cX3_isRepeated 10 = .ok (.iload_n 2, 1) := by decide +kernel
theorem dX3_isRepeated_11 : decode cX3_isRepeated 11 = .ok (.ifCond .le 25, 3) := by decide +kernel
theorem dX3_isRepeated_14 : decode cX3_isRepeated 14 = .ok (.aload_n 3, 1) := by decide +kernel
theorem dX3_isRepeated_15 : decode cX3_isRepeated 15 = .ok (.iload_n 2, 1) := by decide +kernel
theorem dX3_isRepeated_16 : decode cX3_isRepeated 16 = .ok (.iaload, 1) := by decide +kernel
theorem dX3_isRepeated_17 : decode cX3_isRepeated 17 = .ok (.iconst (-1), 1) := by decide +kernel
theorem dX3_isRepeated_18 : decode cX3_isRepeated 18 = .ok (.if_icmp .eq 18, 3) := by decide +kernel
theorem dX3_isRepeated_21 : decode cX3_isRepeated 21 = .ok (.aload_n 3, 1) := by decide +kernel
theorem dX3_isRepeated_22 : decode cX3_isRepeated 22 = .ok (.iload_n 2, 1) := by decide +kernel
theorem dX3_isRepeated_23 : decode cX3_isRepeated 23 = .ok (.iaload, 1) := by decide +kernel
theorem dX3_isRepeated_24 : decode cX3_isRepeated 24 = .ok (.aload_n 3, 1) := by decide +kernel
theorem dX3_isRepeated_25 : decode cX3_isRepeated 25 = .ok (.iload_n 2, 1) := by decide +kernel
theorem dX3_isRepeated_26 : decode cX3_isRepeated 26 = .ok (.iconst 1, 1) := by decide +kernel
theorem dX3_isRepeated_27 : decode cX3_isRepeated 27 = .ok (.isub, 1) := by decide +kernel
theorem dX3_isRepeated_28 : decode cX3_isRepeated 28 = .ok (.iaload, 1) := by decide +kernel
theorem dX3_isRepeated_29 : decode cX3_isRepeated 29 = .ok (.if_icmp .ne 7, 3) := by decide +kernel
theorem dX3_isRepeated_32 : decode cX3_isRepeated 32 = .ok (.iconst 1, 1) := by decide +kernel
theorem dX3_isRepeated_33 : decode cX3_isRepeated 33 = .ok (.goto 4, 3) := by decide +kernel
theorem dX3_isRepeated_36 : decode cX3_isRepeated 36 = .ok (.iconst 0, 1) := by decide +kernel
theorem dX3_isRepeated_37 : decode cX3_isRepeated 37 = .ok (.ireturn, 1) := by decide +kernel
theorem dX3_ofSpeaker_0 : decode cX3_ofSpeaker 0 = .ok (.iload_n 2, 1) := by decide +kernel
theorem dX3_ofSpeaker_1 : decode cX3_ofSpeaker 1 = .ok (.tableswitch 97 0 6 #[43, 53, 59, 65, 71, 85, 91], 43) := by decide +kernel
theorem dX3_ofSpeaker_44 : decode cX3_ofSpeaker 44 = .ok (.aload_n 0, 1) := by decide +kernel
theorem dX3_ofSpeaker_45 : decode cX3_ofSpeaker 45 = .ok (.getfield 9, 3) := by decide +kernel
theorem dX3_ofSpeaker_48 : decode cX3_ofSpeaker 48 = .ok (.getfield 48, 3) := by decide +kernel
theorem dX3_ofSpeaker_51 : decode cX3_ofSpeaker 51 = .ok (.iload_n 1, 1) := by decide +kernel
theorem dX3_ofSpeaker_52 : decode cX3_ofSpeaker 52 = .ok (.iaload, 1) := by decide +kernel
theorem dX3_ofSpeaker_53 : decode cX3_ofSpeaker 53 = .ok (.ireturn, 1) := by decide +kernel
theorem dX3_ofSpeaker_54 : decode cX3_ofSpeaker 54 = .ok (.aload_n 0, 1) := by decide +kernel
theorem dX3_ofSpeaker_55 : decode cX3_ofSpeaker 55 = .ok (.iload_n 1, 1) := by decide +kernel
theorem dX3_ofSpeaker_56 : decode cX3_ofSpeaker 56 = .ok (.invokevirtual 51, 3) := by decide +kernel
theorem dX3_ofSpeaker_59 : decode cX3_ofSpeaker 59 = .ok (.ireturn, 1) := by decide +kernel
theorem dX3_ofSpeaker_60 : decode cX3_ofSpeaker 60 = .ok (.aload_n 0, 1) := by decide +kernel
theorem dX3_ofSpeaker_61 : decode cX3_ofSpeaker 61 = .ok (.iload_n 1, 1) := by decide +kernel
theorem dX3_ofSpeaker_62 : decode cX3_ofSpeaker 62 = .ok (.invokevirtual 55, 3) := by decide +kernel
theorem dX3_ofSpeaker_65 : decode cX3_ofSpeaker 65 = .ok (.ireturn, 1) := by decide +kernel
theorem dX3_ofSpeaker_66 : decode cX3_ofSpeaker 66 = .ok (.aload_n 0, 1) := by decide +kernel
theorem dX3_ofSpeaker_67 : decode cX3_ofSpeaker 67 = .ok (.iload_n 1, 1) := by decide +kernel
theorem dX3_ofSpeaker_68 : decode cX3_ofSpeaker 68 = .ok (.invokevirtual 58, 3) := by decide +kernel
theorem dX3_ofSpeaker_71 : decode cX3_ofSpeaker 71 = .ok (.ireturn, 1) := by decide +kernel
theorem dX3_ofSpeaker_72 : decode cX3_ofSpeaker 72 = .ok (.aload_n 0, 1) := by decide +kernel
theorem dX3_ofSpeaker_73 : decode cX3_ofSpeaker 73 = .ok (.getfield 9, 3) := by decide +kernel
theorem dX3_ofSpeaker_76 : decode cX3_ofSpeaker 76 = .ok (.getfield 61, 3) := by decide +kernel
theorem dX3_ofSpeaker_79 : decode cX3_ofSpeaker 79 = .ok (.aload_n 0, 1) := by decide +kernel
theorem dX3_ofSpeaker_80 : decode cX3_ofSpeaker 80 = .ok (.iload_n 1, 1) := by decide +kernel
theorem dX3_ofSpeaker_81 : decode cX3_ofSpeaker 81 = .ok (.invokevirtual 51, 3) := by decide +kernel
theorem dX3_ofSpeaker_84 : decode cX3_ofSpeaker 84 = .ok (.isub, 1) := by decide +kernel
theorem dX3_ofSpeaker_85 : decode cX3_ofSpeaker 85 = .ok (.ireturn, 1) := by decide +kernel
theorem dX3_ofSpeaker_86 : decode cX3_ofSpeaker 86 = .ok (.aload_n 0, 1) := by decide +kernel
theorem dX3_ofSpeaker_87 : decode cX3_ofSpeaker 87 = .ok (.iload_n 1, 1) := by decide +kernel
theorem dX3_ofSpeaker_88 : decode cX3_ofSpeaker 88 = .ok (.invokevirtual 65, 3) := by decide +kernel
theorem dX3_ofSpeaker_91 : decode cX3_ofSpeaker 91 = .ok (.ireturn, 1) := by decide +kernel
theorem dX3_ofSpeaker_92 : decode cX3_ofSpeaker 92 = .ok (.aload_n 0, 1) := by decide +kernel
theorem dX3_ofSpeaker_93 : decode cX3_ofSpeaker 93 = .ok (.iload_n 1, 1) := by decide +kernel
theorem dX3_ofSpeaker_94 : decode cX3_ofSpeaker 94 = .ok (.invokevirtual 68, 3) := by decide +kernel
theorem dX3_ofSpeaker_97 : decode cX3_ofSpeaker 97 = .ok (.ireturn, 1) := by decide +kernel
theorem dX3_ofSpeaker_98 : decode cX3_ofSpeaker 98 = .ok (.aload_n 0, 1) := by decide +kernel
theorem dX3_ofSpeaker_99 : decode cX3_ofSpeaker 99 = .ok (.iload_n 1, 1) := by decide +kernel
theorem dX3_ofSpeaker_100 : decode cX3_ofSpeaker 100 = .ok (.invokevirtual 71, 3) := by decide +kernel
theorem dX3_ofSpeaker_103 : decode cX3_ofSpeaker 103 = .ok (.ireturn, 1) := by decide +kernel
theorem dX3_heardBeats_0 : decode cX3_heardBeats 0 = .ok (.iconst 0, 1) := by decide +kernel
theorem dX3_heardBeats_1 : decode cX3_heardBeats 1 = .ok (.istore_n 2, 1) := by decide +kernel
theorem dX3_heardBeats_2 : decode cX3_heardBeats 2 = .ok (.iconst 0, 1) := by decide +kernel
theorem dX3_heardBeats_3 : decode cX3_heardBeats 3 = .ok (.istore_n 3, 1) := by decide +kernel
theorem dX3_heardBeats_4 : decode cX3_heardBeats 4 = .ok (.iload_n 3, 1) := by decide +kernel
theorem dX3_heardBeats_5 : decode cX3_heardBeats 5 = .ok (.aload_n 0, 1) := by decide +kernel
theorem dX3_heardBeats_6 : decode cX3_heardBeats 6 = .ok (.getfield 9, 3) := by decide +kernel
theorem dX3_heardBeats_9 : decode cX3_heardBeats 9 = .ok (.getfield 61, 3) := by decide +kernel
theorem dX3_heardBeats_12 : decode cX3_heardBeats 12 = .ok (.if_icmp .ge 27, 3) := by decide +kernel
theorem dX3_heardBeats_15 : decode cX3_heardBeats 15 = .ok (.aload_n 0, 1) := by decide +kernel
theorem dX3_heardBeats_16 : decode cX3_heardBeats 16 = .ok (.getfield 9, 3) := by decide +kernel
theorem dX3_heardBeats_19 : decode cX3_heardBeats 19 = .ok (.getfield 41, 3) := by decide +kernel
theorem dX3_heardBeats_22 : decode cX3_heardBeats 22 = .ok (.iload_n 1, 1) := by decide +kernel
theorem dX3_heardBeats_23 : decode cX3_heardBeats 23 = .ok (.aaload, 1) := by decide +kernel
theorem dX3_heardBeats_24 : decode cX3_heardBeats 24 = .ok (.iload_n 3, 1) := by decide +kernel
theorem dX3_heardBeats_25 : decode cX3_heardBeats 25 = .ok (.iaload, 1) := by decide +kernel
theorem dX3_heardBeats_26 : decode cX3_heardBeats 26 = .ok (.iconst (-1), 1) := by decide +kernel
theorem dX3_heardBeats_27 : decode cX3_heardBeats 27 = .ok (.if_icmp .eq 6, 3) := by decide +kernel
theorem dX3_heardBeats_30 : decode cX3_heardBeats 30 = .ok (.iinc 2 1, 3) := by decide +kernel
theorem dX3_heardBeats_33 : decode cX3_heardBeats 33 = .ok (.iinc 3 1, 3) := by decide +kernel
theorem dX3_heardBeats_36 : decode cX3_heardBeats 36 = .ok (.goto (-32), 3) := by decide +kernel
theorem dX3_heardBeats_39 : decode cX3_heardBeats 39 = .ok (.iload_n 2, 1) := by decide +kernel
theorem dX3_heardBeats_40 : decode cX3_heardBeats 40 = .ok (.ireturn, 1) := by decide +kernel
theorem dX3_heardWordsByBeats_0 : decode cX3_heardWordsByBeats 0 = .ok (.iconst 0, 1) := by decide +kernel
theorem dX3_heardWordsByBeats_1 : decode cX3_heardWordsByBeats 1 = .ok (.istore_n 2, 1) := by decide +kernel
theorem dX3_heardWordsByBeats_2 : decode cX3_heardWordsByBeats 2 = .ok (.iconst 0, 1) := by decide +kernel
theorem dX3_heardWordsByBeats_3 : decode cX3_heardWordsByBeats 3 = .ok (.istore_n 3, 1) := by decide +kernel
theorem dX3_heardWordsByBeats_4 : decode cX3_heardWordsByBeats 4 = .ok (.iload_n 3, 1) := by decide +kernel
theorem dX3_heardWordsByBeats_5 : decode cX3_heardWordsByBeats 5 = .ok (.aload_n 0, 1) := by decide +kernel
theorem dX3_heardWordsByBeats_6 : decode cX3_heardWordsByBeats 6 = .ok (.getfield 9, 3) := by decide +kernel
theorem dX3_heardWordsByBeats_9 : decode cX3_heardWordsByBeats 9 = .ok (.getfield 61, 3) := by decide +kernel
theorem dX3_heardWordsByBeats_12 : decode cX3_heardWordsByBeats 12 = .ok (.if_icmp .ge 47, 3) := by decide +kernel
theorem dX3_heardWordsByBeats_15 : decode cX3_heardWordsByBeats 15 = .ok (.aload_n 0, 1) := by decide +kernel
theorem dX3_heardWordsByBeats_16 : decode cX3_heardWordsByBeats 16 = .ok (.getfield 9, 3) := by decide +kernel
theorem dX3_heardWordsByBeats_19 : decode cX3_heardWordsByBeats 19 = .ok (.getfield 41, 3) := by decide +kernel
theorem dX3_heardWordsByBeats_22 : decode cX3_heardWordsByBeats 22 = .ok (.iload_n 1, 1) := by decide +kernel
theorem dX3_heardWordsByBeats_23 : decode cX3_heardWordsByBeats 23 = .ok (.aaload, 1) := by decide +kernel
theorem dX3_heardWordsByBeats_24 : decode cX3_heardWordsByBeats 24 = .ok (.iload_n 3, 1) := by decide +kernel
theorem dX3_heardWordsByBeats_25 : decode cX3_heardWordsByBeats 25 = .ok (.iaload, 1) := by decide +kernel
theorem dX3_heardWordsByBeats_26 : decode cX3_heardWordsByBeats 26 = .ok (.istore 4, 2) := by decide +kernel
theorem dX3_heardWordsByBeats_28 : decode cX3_heardWordsByBeats 28 = .ok (.iload 4, 2) := by decide +kernel
theorem dX3_heardWordsByBeats_30 : decode cX3_heardWordsByBeats 30 = .ok (.iconst (-1), 1) := by decide +kernel
theorem dX3_heardWordsByBeats_31 : decode cX3_heardWordsByBeats 31 = .ok (.if_icmp .eq 22, 3) := by decide +kernel
theorem dX3_heardWordsByBeats_34 : decode cX3_heardWordsByBeats 34 = .ok (.aload_n 0, 1) := by decide +kernel
theorem dX3_heardWordsByBeats_35 : decode cX3_heardWordsByBeats 35 = .ok (.getfield 9, 3) := by decide +kernel
theorem dX3_heardWordsByBeats_38 : decode cX3_heardWordsByBeats 38 = .ok (.getfield 38, 3) := by decide +kernel
theorem dX3_heardWordsByBeats_41 : decode cX3_heardWordsByBeats 41 = .ok (.iload_n 1, 1) := by decide +kernel
theorem dX3_heardWordsByBeats_42 : decode cX3_heardWordsByBeats 42 = .ok (.aaload, 1) := by decide +kernel
theorem dX3_heardWordsByBeats_43 : decode cX3_heardWordsByBeats 43 = .ok (.iload 4, 2) := by decide +kernel
theorem dX3_heardWordsByBeats_45 : decode cX3_heardWordsByBeats 45 = .ok (.iaload, 1) := by decide +kernel
theorem dX3_heardWordsByBeats_46 : decode cX3_heardWordsByBeats 46 = .ok (.iload_n 3, 1) := by decide +kernel
theorem dX3_heardWordsByBeats_47 : decode cX3_heardWordsByBeats 47 = .ok (.if_icmp .ne 6, 3) := by decide +kernel
theorem dX3_heardWordsByBeats_50 : decode cX3_heardWordsByBeats 50 = .ok (.iinc 2 1, 3) := by decide +kernel
theorem dX3_heardWordsByBeats_53 : decode cX3_heardWordsByBeats 53 = .ok (.iinc 3 1, 3) := by decide +kernel
theorem dX3_heardWordsByBeats_56 : decode cX3_heardWordsByBeats 56 = .ok (.goto (-52), 3) := by decide +kernel
theorem dX3_heardWordsByBeats_59 : decode cX3_heardWordsByBeats 59 = .ok (.iload_n 2, 1) := by decide +kernel
theorem dX3_heardWordsByBeats_60 : decode cX3_heardWordsByBeats 60 = .ok (.ireturn, 1) := by decide +kernel
theorem dX3_heardWordsByWords_0 : decode cX3_heardWordsByWords 0 = .ok (.iconst 0, 1) := by decide +kernel
theorem dX3_heardWordsByWords_1 : decode cX3_heardWordsByWords 1 = .ok (.istore_n 2, 1) := by decide +kernel
theorem dX3_heardWordsByWords_2 : decode cX3_heardWordsByWords 2 = .ok (.iconst 0, 1) := by decide +kernel
theorem dX3_heardWordsByWords_3 : decode cX3_heardWordsByWords 3 = .ok (.istore_n 3, 1) := by decide +kernel
theorem dX3_heardWordsByWords_4 : decode cX3_heardWordsByWords 4 = .ok (.iload_n 3, 1) := by decide +kernel
theorem dX3_heardWordsByWords_5 : decode cX3_heardWordsByWords 5 = .ok (.aload_n 0, 1) := by decide +kernel
theorem dX3_heardWordsByWords_6 : decode cX3_heardWordsByWords 6 = .ok (.getfield 9, 3) := by decide +kernel
theorem dX3_heardWordsByWords_9 : decode cX3_heardWordsByWords 9 = .ok (.getfield 74, 3) := by decide +kernel
theorem dX3_heardWordsByWords_12 : decode cX3_heardWordsByWords 12 = .ok (.if_icmp .ge 27, 3) := by decide +kernel
theorem dX3_heardWordsByWords_15 : decode cX3_heardWordsByWords 15 = .ok (.aload_n 0, 1) := by decide +kernel
theorem dX3_heardWordsByWords_16 : decode cX3_heardWordsByWords 16 = .ok (.getfield 9, 3) := by decide +kernel
theorem dX3_heardWordsByWords_19 : decode cX3_heardWordsByWords 19 = .ok (.getfield 38, 3) := by decide +kernel
theorem dX3_heardWordsByWords_22 : decode cX3_heardWordsByWords 22 = .ok (.iload_n 1, 1) := by decide +kernel
theorem dX3_heardWordsByWords_23 : decode cX3_heardWordsByWords 23 = .ok (.aaload, 1) := by decide +kernel
theorem dX3_heardWordsByWords_24 : decode cX3_heardWordsByWords 24 = .ok (.iload_n 3, 1) := by decide +kernel
theorem dX3_heardWordsByWords_25 : decode cX3_heardWordsByWords 25 = .ok (.iaload, 1) := by decide +kernel
theorem dX3_heardWordsByWords_26 : decode cX3_heardWordsByWords 26 = .ok (.iconst (-1), 1) := by decide +kernel
theorem dX3_heardWordsByWords_27 : decode cX3_heardWordsByWords 27 = .ok (.if_icmp .eq 6, 3) := by decide +kernel
theorem dX3_heardWordsByWords_30 : decode cX3_heardWordsByWords 30 = .ok (.iinc 2 1, 3) := by decide +kernel
theorem dX3_heardWordsByWords_33 : decode cX3_heardWordsByWords 33 = .ok (.iinc 3 1, 3) := by decide +kernel
theorem dX3_heardWordsByWords_36 : decode cX3_heardWordsByWords 36 = .ok (.goto (-32), 3) := by decide +kernel
theorem dX3_heardWordsByWords_39 : decode cX3_heardWordsByWords 39 = .ok (.iload_n 2, 1) := by decide +kernel
theorem dX3_heardWordsByWords_40 : decode cX3_heardWordsByWords 40 = .ok (.ireturn, 1) := by decide +kernel
theorem dX3_repeatedBeats_0 : decode cX3_repeatedBeats 0 = .ok (.iconst 0, 1) := by decide +kernel
theorem dX3_repeatedBeats_1 : decode cX3_repeatedBeats 1 = .ok (.istore_n 2, 1) := by decide +kernel
theorem dX3_repeatedBeats_2 : decode cX3_repeatedBeats 2 = .ok (.iconst 0, 1) := by decide +kernel
theorem dX3_repeatedBeats_3 : decode cX3_repeatedBeats 3 = .ok (.istore_n 3, 1) := by decide +kernel
theorem dX3_repeatedBeats_4 : decode cX3_repeatedBeats 4 = .ok (.iload_n 3, 1) := by decide +kernel
theorem dX3_repeatedBeats_5 : decode cX3_repeatedBeats 5 = .ok (.aload_n 0, 1) := by decide +kernel
theorem dX3_repeatedBeats_6 : decode cX3_repeatedBeats 6 = .ok (.getfield 9, 3) := by decide +kernel
theorem dX3_repeatedBeats_9 : decode cX3_repeatedBeats 9 = .ok (.getfield 61, 3) := by decide +kernel
theorem dX3_repeatedBeats_12 : decode cX3_repeatedBeats 12 = .ok (.if_icmp .ge 21, 3) := by decide +kernel
theorem dX3_repeatedBeats_15 : decode cX3_repeatedBeats 15 = .ok (.aload_n 0, 1) := by decide +kernel
theorem dX3_repeatedBeats_16 : decode cX3_repeatedBeats 16 = .ok (.iload_n 1, 1) := by decide +kernel
theorem dX3_repeatedBeats_17 : decode cX3_repeatedBeats 17 = .ok (.iload_n 3, 1) := by decide +kernel
theorem dX3_repeatedBeats_18 : decode cX3_repeatedBeats 18 = .ok (.invokevirtual 44, 3) := by decide +kernel
theorem dX3_repeatedBeats_21 : decode cX3_repeatedBeats 21 = .ok (.ifCond .eq 6, 3) := by decide +kernel
theorem dX3_repeatedBeats_24 : decode cX3_repeatedBeats 24 = .ok (.iinc 2 1, 3) := by decide +kernel
theorem dX3_repeatedBeats_27 : decode cX3_repeatedBeats 27 = .ok (.iinc 3 1, 3) := by decide +kernel
theorem dX3_repeatedBeats_30 : decode cX3_repeatedBeats 30 = .ok (.goto (-26), 3) := by decide +kernel
theorem dX3_repeatedBeats_33 : decode cX3_repeatedBeats 33 = .ok (.iload_n 2, 1) := by decide +kernel
theorem dX3_repeatedBeats_34 : decode cX3_repeatedBeats 34 = .ok (.ireturn, 1) := by decide +kernel
theorem dX3_gaps_0 : decode cX3_gaps 0 = .ok (.iconst 0, 1) := by decide +kernel
theorem dX3_gaps_1 : decode cX3_gaps 1 = .ok (.istore_n 2, 1) := by decide +kernel
theorem dX3_gaps_2 : decode cX3_gaps 2 = .ok (.iconst 0, 1) := by decide +kernel
theorem dX3_gaps_3 : decode cX3_gaps 3 = .ok (.istore_n 3, 1) := by decide +kernel
theorem dX3_gaps_4 : decode cX3_gaps 4 = .ok (.iconst 0, 1) := by decide +kernel
theorem dX3_gaps_5 : decode cX3_gaps 5 = .ok (.istore 4, 2) := by decide +kernel
theorem dX3_gaps_7 : decode cX3_gaps 7 = .ok (.iconst 0, 1) := by decide +kernel
theorem dX3_gaps_8 : decode cX3_gaps 8 = .ok (.istore 5, 2) := by decide +kernel
theorem dX3_gaps_10 : decode cX3_gaps 10 = .ok (.iload 5, 2) := by decide +kernel
theorem dX3_gaps_12 : decode cX3_gaps 12 = .ok (.aload_n 0, 1) := by decide +kernel
theorem dX3_gaps_13 : decode cX3_gaps 13 = .ok (.getfield 9, 3) := by decide +kernel
theorem dX3_gaps_16 : decode cX3_gaps 16 = .ok (.getfield 61, 3) := by decide +kernel
theorem dX3_gaps_19 : decode cX3_gaps 19 = .ok (.if_icmp .ge 44, 3) := by decide +kernel
theorem dX3_gaps_22 : decode cX3_gaps 22 = .ok (.aload_n 0, 1) := by decide +kernel
theorem dX3_gaps_23 : decode cX3_gaps 23 = .ok (.getfield 9, 3) := by decide +kernel
theorem dX3_gaps_26 : decode cX3_gaps 26 = .ok (.getfield 41, 3) := by decide +kernel
theorem dX3_gaps_29 : decode cX3_gaps 29 = .ok (.iload_n 1, 1) := by decide +kernel
theorem dX3_gaps_30 : decode cX3_gaps 30 = .ok (.aaload, 1) := by decide +kernel
theorem dX3_gaps_31 : decode cX3_gaps 31 = .ok (.iload 5, 2) := by decide +kernel
theorem dX3_gaps_33 : decode cX3_gaps 33 = .ok (.iaload, 1) := by decide +kernel
theorem dX3_gaps_34 : decode cX3_gaps 34 = .ok (.iconst (-1), 1) := by decide +kernel
theorem dX3_gaps_35 : decode cX3_gaps 35 = .ok (.if_icmp .ne 9, 3) := by decide +kernel
theorem dX3_gaps_38 : decode cX3_gaps 38 = .ok (.iload_n 3, 1) := by decide +kernel
theorem dX3_gaps_39 : decode cX3_gaps 39 = .ok (.istore 4, 2) := by decide +kernel
theorem dX3_gaps_41 : decode cX3_gaps 41 = .ok (.goto 16, 3) := by decide +kernel
theorem dX3_gaps_44 : decode cX3_gaps 44 = .ok (.iload 4, 2) := by decide +kernel
theorem dX3_gaps_46 : decode cX3_gaps 46 = .ok (.ifCond .eq 6, 3) := by decide +kernel
theorem dX3_gaps_49 : decode cX3_gaps 49 = .ok (.iinc 2 1, 3) := by decide +kernel
theorem dX3_gaps_52 : decode cX3_gaps 52 = .ok (.iconst 1, 1) := by decide +kernel
theorem dX3_gaps_53 : decode cX3_gaps 53 = .ok (.istore_n 3, 1) := by decide +kernel
theorem dX3_gaps_54 : decode cX3_gaps 54 = .ok (.iconst 0, 1) := by decide +kernel
theorem dX3_gaps_55 : decode cX3_gaps 55 = .ok (.istore 4, 2) := by decide +kernel
theorem dX3_gaps_57 : decode cX3_gaps 57 = .ok (.iinc 5 1, 3) := by decide +kernel
theorem dX3_gaps_60 : decode cX3_gaps 60 = .ok (.goto (-50), 3) := by decide +kernel
theorem dX3_gaps_63 : decode cX3_gaps 63 = .ok (.iload_n 2, 1) := by decide +kernel
theorem dX3_gaps_64 : decode cX3_gaps 64 = .ok (.ireturn, 1) := by decide +kernel
theorem dX3_wordsSaidBy_0 : decode cX3_wordsSaidBy 0 = .ok (.iconst 0, 1) := by decide +kernel
theorem dX3_wordsSaidBy_1 : decode cX3_wordsSaidBy 1 = .ok (.istore_n 2, 1) := by decide +kernel
theorem dX3_wordsSaidBy_2 : decode cX3_wordsSaidBy 2 = .ok (.iconst 0, 1) := by decide +kernel
theorem dX3_wordsSaidBy_3 : decode cX3_wordsSaidBy 3 = .ok (.istore_n 3, 1) := by decide +kernel
theorem dX3_wordsSaidBy_4 : decode cX3_wordsSaidBy 4 = .ok (.iload_n 3, 1) := by decide +kernel
theorem dX3_wordsSaidBy_5 : decode cX3_wordsSaidBy 5 = .ok (.aload_n 0, 1) := by decide +kernel
theorem dX3_wordsSaidBy_6 : decode cX3_wordsSaidBy 6 = .ok (.getfield 9, 3) := by decide +kernel
theorem dX3_wordsSaidBy_9 : decode cX3_wordsSaidBy 9 = .ok (.getfield 74, 3) := by decide +kernel
theorem dX3_wordsSaidBy_12 : decode cX3_wordsSaidBy 12 = .ok (.if_icmp .ge 25, 3) := by decide +kernel
theorem dX3_wordsSaidBy_15 : decode cX3_wordsSaidBy 15 = .ok (.aload_n 0, 1) := by decide +kernel
theorem dX3_wordsSaidBy_16 : decode cX3_wordsSaidBy 16 = .ok (.getfield 9, 3) := by decide +kernel
theorem dX3_wordsSaidBy_19 : decode cX3_wordsSaidBy 19 = .ok (.getfield 15, 3) := by decide +kernel
theorem dX3_wordsSaidBy_22 : decode cX3_wordsSaidBy 22 = .ok (.iload_n 3, 1) := by decide +kernel
theorem dX3_wordsSaidBy_23 : decode cX3_wordsSaidBy 23 = .ok (.iaload, 1) := by decide +kernel
theorem dX3_wordsSaidBy_24 : decode cX3_wordsSaidBy 24 = .ok (.iload_n 1, 1) := by decide +kernel
theorem dX3_wordsSaidBy_25 : decode cX3_wordsSaidBy 25 = .ok (.if_icmp .ne 6, 3) := by decide +kernel
theorem dX3_wordsSaidBy_28 : decode cX3_wordsSaidBy 28 = .ok (.iinc 2 1, 3) := by decide +kernel
theorem dX3_wordsSaidBy_31 : decode cX3_wordsSaidBy 31 = .ok (.iinc 3 1, 3) := by decide +kernel
theorem dX3_wordsSaidBy_34 : decode cX3_wordsSaidBy 34 = .ok (.goto (-30), 3) := by decide +kernel
theorem dX3_wordsSaidBy_37 : decode cX3_wordsSaidBy 37 = .ok (.iload_n 2, 1) := by decide +kernel
theorem dX3_wordsSaidBy_38 : decode cX3_wordsSaidBy 38 = .ok (.ireturn, 1) := by decide +kernel
theorem dX3_hearingOf_0 : decode cX3_hearingOf 0 = .ok (.aload_n 0, 1) := by decide +kernel
theorem dX3_hearingOf_1 : decode cX3_hearingOf 1 = .ok (.getfield 9, 3) := by decide +kernel
theorem dX3_hearingOf_4 : decode cX3_hearingOf 4 = .ok (.getfield 77, 3) := by decide +kernel
theorem dX3_hearingOf_7 : decode cX3_hearingOf 7 = .ok (.iload_n 1, 1) := by decide +kernel
theorem dX3_hearingOf_8 : decode cX3_hearingOf 8 = .ok (.iload_n 2, 1) := by decide +kernel
theorem dX3_hearingOf_9 : decode cX3_hearingOf 9 = .ok (.invokestatic 80, 3) := by decide +kernel
theorem dX3_hearingOf_12 : decode cX3_hearingOf 12 = .ok (.iaload, 1) := by decide +kernel
theorem dX3_hearingOf_13 : decode cX3_hearingOf 13 = .ok (.istore 4, 2) := by decide +kernel
theorem dX3_hearingOf_15 : decode cX3_hearingOf 15 = .ok (.iload 4, 2) := by decide +kernel
theorem dX3_hearingOf_17 : decode cX3_hearingOf 17 = .ok (.ifCond .ne 5, 3) := by decide +kernel
theorem dX3_hearingOf_20 : decode cX3_hearingOf 20 = .ok (.iconst (-1), 1) := by decide +kernel
theorem dX3_hearingOf_21 : decode cX3_hearingOf 21 = .ok (.ireturn, 1) := by decide +kernel
theorem dX3_hearingOf_22 : decode cX3_hearingOf 22 = .ok (.iconst 0, 1) := by decide +kernel
theorem dX3_hearingOf_23 : decode cX3_hearingOf 23 = .ok (.istore 5, 2) := by decide +kernel
theorem dX3_hearingOf_25 : decode cX3_hearingOf 25 = .ok (.iconst (-1), 1) := by decide +kernel
theorem dX3_hearingOf_26 : decode cX3_hearingOf 26 = .ok (.istore 6, 2) := by decide +kernel
theorem dX3_hearingOf_28 : decode cX3_hearingOf 28 = .ok (.iconst 1, 1) := by decide +kernel
theorem dX3_hearingOf_29 : decode cX3_hearingOf 29 = .ok (.istore 7, 2) := by decide +kernel
theorem dX3_hearingOf_31 : decode cX3_hearingOf 31 = .ok (.iconst 0, 1) := by decide +kernel
theorem dX3_hearingOf_32 : decode cX3_hearingOf 32 = .ok (.istore 8, 2) := by decide +kernel
theorem dX3_hearingOf_34 : decode cX3_hearingOf 34 = .ok (.iload 8, 2) := by decide +kernel
theorem dX3_hearingOf_36 : decode cX3_hearingOf 36 = .ok (.aload_n 0, 1) := by decide +kernel
theorem dX3_hearingOf_37 : decode cX3_hearingOf 37 = .ok (.getfield 9, 3) := by decide +kernel
theorem dX3_hearingOf_40 : decode cX3_hearingOf 40 = .ok (.getfield 74, 3) := by decide +kernel
theorem dX3_hearingOf_43 : decode cX3_hearingOf 43 = .ok (.if_icmp .ge 95, 3) := by decide +kernel
theorem dX3_hearingOf_46 : decode cX3_hearingOf 46 = .ok (.aload_n 0, 1) := by decide +kernel
theorem dX3_hearingOf_47 : decode cX3_hearingOf 47 = .ok (.getfield 9, 3) := by decide +kernel
theorem dX3_hearingOf_50 : decode cX3_hearingOf 50 = .ok (.getfield 38, 3) := by decide +kernel
theorem dX3_hearingOf_53 : decode cX3_hearingOf 53 = .ok (.iload_n 3, 1) := by decide +kernel
theorem dX3_hearingOf_54 : decode cX3_hearingOf 54 = .ok (.aaload, 1) := by decide +kernel
theorem dX3_hearingOf_55 : decode cX3_hearingOf 55 = .ok (.iload 8, 2) := by decide +kernel
theorem dX3_hearingOf_57 : decode cX3_hearingOf 57 = .ok (.iaload, 1) := by decide +kernel
theorem dX3_hearingOf_58 : decode cX3_hearingOf 58 = .ok (.istore 9, 2) := by decide +kernel
theorem dX3_hearingOf_60 : decode cX3_hearingOf 60 = .ok (.aload_n 0, 1) := by decide +kernel
theorem dX3_hearingOf_61 : decode cX3_hearingOf 61 = .ok (.getfield 9, 3) := by decide +kernel
theorem dX3_hearingOf_64 : decode cX3_hearingOf 64 = .ok (.getfield 15, 3) := by decide +kernel
theorem dX3_hearingOf_67 : decode cX3_hearingOf 67 = .ok (.iload 8, 2) := by decide +kernel
theorem dX3_hearingOf_69 : decode cX3_hearingOf 69 = .ok (.iaload, 1) := by decide +kernel
theorem dX3_hearingOf_70 : decode cX3_hearingOf 70 = .ok (.iload_n 1, 1) := by decide +kernel
theorem dX3_hearingOf_71 : decode cX3_hearingOf 71 = .ok (.if_icmp .ne 21, 3) := by decide +kernel
theorem dX3_hearingOf_74 : decode cX3_hearingOf 74 = .ok (.aload_n 0, 1) := by decide +kernel
theorem dX3_hearingOf_75 : decode cX3_hearingOf 75 = .ok (.getfield 9, 3) := by decide +kernel
theorem dX3_hearingOf_78 : decode cX3_hearingOf 78 = .ok (.getfield 24, 3) := by decide +kernel
theorem dX3_hearingOf_81 : decode cX3_hearingOf 81 = .ok (.iload 8, 2) := by decide +kernel
theorem dX3_hearingOf_83 : decode cX3_hearingOf 83 = .ok (.iaload, 1) := by decide +kernel
theorem dX3_hearingOf_84 : decode cX3_hearingOf 84 = .ok (.iload_n 2, 1) := by decide +kernel
theorem dX3_hearingOf_85 : decode cX3_hearingOf 85 = .ok (.if_icmp .ne 7, 3) := by decide +kernel
theorem dX3_hearingOf_88 : decode cX3_hearingOf 88 = .ok (.iconst 1, 1) := by decide +kernel
theorem dX3_hearingOf_89 : decode cX3_hearingOf 89 = .ok (.goto 4, 3) := by decide +kernel
theorem dX3_hearingOf_92 : decode cX3_hearingOf 92 = .ok (.iconst 0, 1) := by decide +kernel
theorem dX3_hearingOf_93 : decode cX3_hearingOf 93 = .ok (.istore 10, 2) := by decide +kernel
theorem dX3_hearingOf_95 : decode cX3_hearingOf 95 = .ok (.iload 10, 2) := by decide +kernel
theorem dX3_hearingOf_97 : decode cX3_hearingOf 97 = .ok (.ifCond .eq 35, 3) := by decide +kernel
theorem dX3_hearingOf_100 : decode cX3_hearingOf 100 = .ok (.iload 9, 2) := by decide +kernel
theorem dX3_hearingOf_102 : decode cX3_hearingOf 102 = .ok (.iconst (-1), 1) := by decide +kernel
theorem dX3_hearingOf_103 : decode cX3_hearingOf 103 = .ok (.if_icmp .eq 29, 3) := by decide +kernel
theorem dX3_hearingOf_106 : decode cX3_hearingOf 106 = .ok (.iinc 5 1, 3) := by decide +kernel
theorem dX3_hearingOf_109 : decode cX3_hearingOf 109 = .ok (.iload 7, 2) := by decide +kernel
theorem dX3_hearingOf_111 : decode cX3_hearingOf 111 = .ok (.ifCond .eq 14, 3) := by decide +kernel
theorem dX3_hearingOf_114 : decode cX3_hearingOf 114 = .ok (.iload 9, 2) := by decide +kernel
theorem dX3_hearingOf_116 : decode cX3_hearingOf 116 = .ok (.iload 6, 2) := by decide +kernel
theorem dX3_hearingOf_118 : decode cX3_hearingOf 118 = .ok (.if_icmp .le 7, 3) := by decide +kernel
theorem dX3_hearingOf_121 : decode cX3_hearingOf 121 = .ok (.iconst 1, 1) := by decide +kernel
theorem dX3_hearingOf_122 : decode cX3_hearingOf 122 = .ok (.goto 4, 3) := by decide +kernel
theorem dX3_hearingOf_125 : decode cX3_hearingOf 125 = .ok (.iconst 0, 1) := by decide +kernel
theorem dX3_hearingOf_126 : decode cX3_hearingOf 126 = .ok (.istore 7, 2) := by decide +kernel
theorem dX3_hearingOf_128 : decode cX3_hearingOf 128 = .ok (.iload 9, 2) := by decide +kernel
theorem dX3_hearingOf_130 : decode cX3_hearingOf 130 = .ok (.istore 6, 2) := by decide +kernel
theorem dX3_hearingOf_132 : decode cX3_hearingOf 132 = .ok (.iinc 8 1, 3) := by decide +kernel
theorem dX3_hearingOf_135 : decode cX3_hearingOf 135 = .ok (.goto (-101), 3) := by decide +kernel
theorem dX3_hearingOf_138 : decode cX3_hearingOf 138 = .ok (.iload 5, 2) := by decide +kernel
theorem dX3_hearingOf_140 : decode cX3_hearingOf 140 = .ok (.iload 4, 2) := by decide +kernel
theorem dX3_hearingOf_142 : decode cX3_hearingOf 142 = .ok (.if_icmp .ge 14, 3) := by decide +kernel
theorem dX3_hearingOf_145 : decode cX3_hearingOf 145 = .ok (.iload 5, 2) := by decide +kernel
theorem dX3_hearingOf_147 : decode cX3_hearingOf 147 = .ok (.ifCond .ne 7, 3) := by decide +kernel
theorem dX3_hearingOf_150 : decode cX3_hearingOf 150 = .ok (.iconst 0, 1) := by decide +kernel
theorem dX3_hearingOf_151 : decode cX3_hearingOf 151 = .ok (.goto 4, 3) := by decide +kernel
theorem dX3_hearingOf_154 : decode cX3_hearingOf 154 = .ok (.iconst 1, 1) := by decide +kernel
theorem dX3_hearingOf_155 : decode cX3_hearingOf 155 = .ok (.ireturn, 1) := by decide +kernel
theorem dX3_hearingOf_156 : decode cX3_hearingOf 156 = .ok (.iload 7, 2) := by decide +kernel
theorem dX3_hearingOf_158 : decode cX3_hearingOf 158 = .ok (.ifCond .eq 7, 3) := by decide +kernel
theorem dX3_hearingOf_161 : decode cX3_hearingOf 161 = .ok (.iconst 3, 1) := by decide +kernel
theorem dX3_hearingOf_162 : decode cX3_hearingOf 162 = .ok (.goto 4, 3) := by decide +kernel
theorem dX3_hearingOf_165 : decode cX3_hearingOf 165 = .ok (.iconst 2, 1) := by decide +kernel
theorem dX3_hearingOf_166 : decode cX3_hearingOf 166 = .ok (.ireturn, 1) := by decide +kernel
theorem dX3_ofAll_0 : decode cX3_ofAll 0 = .ok (.iload_n 1, 1) := by decide +kernel
theorem dX3_ofAll_1 : decode cX3_ofAll 1 = .ok (.tableswitch 106 0 7 #[47, 55, 63, 70, 76, 81, 86, 96], 47) := by decide +kernel
theorem dX3_ofAll_48 : decode cX3_ofAll 48 = .ok (.aload_n 0, 1) := by decide +kernel
theorem dX3_ofAll_49 : decode cX3_ofAll 49 = .ok (.getfield 9, 3) := by decide +kernel
theorem dX3_ofAll_52 : decode cX3_ofAll 52 = .ok (.getfield 61, 3) := by decide +kernel
theorem dX3_ofAll_55 : decode cX3_ofAll 55 = .ok (.ireturn, 1) := by decide +kernel
theorem dX3_ofAll_56 : decode cX3_ofAll 56 = .ok (.aload_n 0, 1) := by decide +kernel
theorem dX3_ofAll_57 : decode cX3_ofAll 57 = .ok (.getfield 9, 3) := by decide +kernel
theorem dX3_ofAll_60 : decode cX3_ofAll 60 = .ok (.getfield 74, 3) := by decide +kernel
theorem dX3_ofAll_63 : decode cX3_ofAll 63 = .ok (.ireturn, 1) := by decide +kernel
theorem dX3_ofAll_64 : decode cX3_ofAll 64 = .ok (.aload_n 0, 1) := by decide +kernel
theorem dX3_ofAll_65 : decode cX3_ofAll 65 = .ok (.bipush 63, 2) := by decide +kernel
theorem dX3_ofAll_67 : decode cX3_ofAll 67 = .ok (.invokevirtual 84, 3) := by decide +kernel
theorem dX3_ofAll_70 : decode cX3_ofAll 70 = .ok (.ireturn, 1) := by decide +kernel
theorem dX3_ofAll_71 : decode cX3_ofAll 71 = .ok (.aload_n 0, 1) := by decide +kernel
theorem dX3_ofAll_72 : decode cX3_ofAll 72 = .ok (.iconst 0, 1) := by decide +kernel
theorem dX3_ofAll_73 : decode cX3_ofAll 73 = .ok (.invokevirtual 84, 3) := by decide +kernel
theorem dX3_ofAll_76 : decode cX3_ofAll 76 = .ok (.ireturn, 1) := by decide +kernel
theorem dX3_ofAll_77 : decode cX3_ofAll 77 = .ok (.aload_n 0, 1) := by decide +kernel
theorem dX3_ofAll_78 : decode cX3_ofAll 78 = .ok (.invokevirtual 87, 3) := by decide +kernel
theorem dX3_ofAll_81 : decode cX3_ofAll 81 = .ok (.ireturn, 1) := by decide +kernel
theorem dX3_ofAll_82 : decode cX3_ofAll 82 = .ok (.aload_n 0, 1) := by decide +kernel
theorem dX3_ofAll_83 : decode cX3_ofAll 83 = .ok (.invokevirtual 91, 3) := by decide +kernel
theorem dX3_ofAll_86 : decode cX3_ofAll 86 = .ok (.ireturn, 1) := by decide +kernel
theorem dX3_ofAll_87 : decode cX3_ofAll 87 = .ok (.aload_n 0, 1) := by decide +kernel
theorem dX3_ofAll_88 : decode cX3_ofAll 88 = .ok (.getfield 9, 3) := by decide +kernel
theorem dX3_ofAll_91 : decode cX3_ofAll 91 = .ok (.getfield 94, 3) := by decide +kernel
theorem dX3_ofAll_94 : decode cX3_ofAll 94 = .ok (.iconst 0, 1) := by decide +kernel
theorem dX3_ofAll_95 : decode cX3_ofAll 95 = .ok (.iaload, 1) := by decide +kernel
theorem dX3_ofAll_96 : decode cX3_ofAll 96 = .ok (.ireturn, 1) := by decide +kernel
theorem dX3_ofAll_97 : decode cX3_ofAll 97 = .ok (.aload_n 0, 1) := by decide +kernel
theorem dX3_ofAll_98 : decode cX3_ofAll 98 = .ok (.getfield 9, 3) := by decide +kernel
theorem dX3_ofAll_101 : decode cX3_ofAll 101 = .ok (.getfield 94, 3) := by decide +kernel
theorem dX3_ofAll_104 : decode cX3_ofAll 104 = .ok (.iconst 1, 1) := by decide +kernel
theorem dX3_ofAll_105 : decode cX3_ofAll 105 = .ok (.iaload, 1) := by decide +kernel
theorem dX3_ofAll_106 : decode cX3_ofAll 106 = .ok (.ireturn, 1) := by decide +kernel
theorem dX3_ofAll_107 : decode cX3_ofAll 107 = .ok (.aload_n 0, 1) := by decide +kernel
theorem dX3_ofAll_108 : decode cX3_ofAll 108 = .ok (.getfield 9, 3) := by decide +kernel
theorem dX3_ofAll_111 : decode cX3_ofAll 111 = .ok (.getfield 94, 3) := by decide +kernel
theorem dX3_ofAll_114 : decode cX3_ofAll 114 = .ok (.iconst 2, 1) := by decide +kernel
theorem dX3_ofAll_115 : decode cX3_ofAll 115 = .ok (.iaload, 1) := by decide +kernel
theorem dX3_ofAll_116 : decode cX3_ofAll 116 = .ok (.ireturn, 1) := by decide +kernel
theorem dX3_wordsHeardByMask_0 : decode cX3_wordsHeardByMask 0 = .ok (.iconst 0, 1) := by decide +kernel
theorem dX3_wordsHeardByMask_1 : decode cX3_wordsHeardByMask 1 = .ok (.istore_n 2, 1) := by decide +kernel
theorem dX3_wordsHeardByMask_2 : decode cX3_wordsHeardByMask 2 = .ok (.iconst 0, 1) := by decide +kernel
theorem dX3_wordsHeardByMask_3 : decode cX3_wordsHeardByMask 3 = .ok (.istore_n 3, 1) := by decide +kernel
theorem dX3_wordsHeardByMask_4 : decode cX3_wordsHeardByMask 4 = .ok (.iload_n 3, 1) := by decide +kernel
theorem dX3_wordsHeardByMask_5 : decode cX3_wordsHeardByMask 5 = .ok (.aload_n 0, 1) := by decide +kernel
theorem dX3_wordsHeardByMask_6 : decode cX3_wordsHeardByMask 6 = .ok (.getfield 9, 3) := by decide +kernel
theorem dX3_wordsHeardByMask_9 : decode cX3_wordsHeardByMask 9 = .ok (.getfield 74, 3) := by decide +kernel
theorem dX3_wordsHeardByMask_12 : decode cX3_wordsHeardByMask 12 = .ok (.if_icmp .ge 28, 3) := by decide +kernel
theorem dX3_wordsHeardByMask_15 : decode cX3_wordsHeardByMask 15 = .ok (.aload_n 0, 1) := by decide +kernel
theorem dX3_wordsHeardByMask_16 : decode cX3_wordsHeardByMask 16 = .ok (.aload_n 0, 1) := by decide +kernel
theorem dX3_wordsHeardByMask_17 : decode cX3_wordsHeardByMask 17 = .ok (.getfield 9, 3) := by decide +kernel
theorem dX3_wordsHeardByMask_20 : decode cX3_wordsHeardByMask 20 = .ok (.getfield 38, 3) := by decide +kernel
theorem dX3_wordsHeardByMask_23 : decode cX3_wordsHeardByMask 23 = .ok (.iload_n 3, 1) := by decide +kernel
theorem dX3_wordsHeardByMask_24 : decode cX3_wordsHeardByMask 24 = .ok (.invokevirtual 34, 3) := by decide +kernel
theorem dX3_wordsHeardByMask_27 : decode cX3_wordsHeardByMask 27 = .ok (.iload_n 1, 1) := by decide +kernel
theorem dX3_wordsHeardByMask_28 : decode cX3_wordsHeardByMask 28 = .ok (.if_icmp .ne 6, 3) := by decide +kernel
theorem dX3_wordsHeardByMask_31 : decode cX3_wordsHeardByMask 31 = .ok (.iinc 2 1, 3) := by decide +kernel
theorem dX3_wordsHeardByMask_34 : decode cX3_wordsHeardByMask 34 = .ok (.iinc 3 1, 3) := by decide +kernel
theorem dX3_wordsHeardByMask_37 : decode cX3_wordsHeardByMask 37 = .ok (.goto (-33), 3) := by decide +kernel
theorem dX3_wordsHeardByMask_40 : decode cX3_wordsHeardByMask 40 = .ok (.iload_n 2, 1) := by decide +kernel
theorem dX3_wordsHeardByMask_41 : decode cX3_wordsHeardByMask 41 = .ok (.ireturn, 1) := by decide +kernel
theorem dX3_messages_0 : decode cX3_messages 0 = .ok (.iconst 0, 1) := by decide +kernel
theorem dX3_messages_1 : decode cX3_messages 1 = .ok (.istore_n 1, 1) := by decide +kernel
theorem dX3_messages_2 : decode cX3_messages 2 = .ok (.iconst 0, 1) := by decide +kernel
theorem dX3_messages_3 : decode cX3_messages 3 = .ok (.istore_n 2, 1) := by decide +kernel
theorem dX3_messages_4 : decode cX3_messages 4 = .ok (.iload_n 2, 1) := by decide +kernel
theorem dX3_messages_5 : decode cX3_messages 5 = .ok (.aload_n 0, 1) := by decide +kernel
theorem dX3_messages_6 : decode cX3_messages 6 = .ok (.getfield 9, 3) := by decide +kernel
theorem dX3_messages_9 : decode cX3_messages 9 = .ok (.getfield 77, 3) := by decide +kernel
theorem dX3_messages_12 : decode cX3_messages 12 = .ok (.arraylength, 1) := by decide +kernel
theorem dX3_messages_13 : decode cX3_messages 13 = .ok (.if_icmp .ge 24, 3) := by decide +kernel
theorem dX3_messages_16 : decode cX3_messages 16 = .ok (.aload_n 0, 1) := by decide +kernel
theorem dX3_messages_17 : decode cX3_messages 17 = .ok (.getfield 9, 3) := by decide +kernel
theorem dX3_messages_20 : decode cX3_messages 20 = .ok (.getfield 77, 3) := by decide +kernel
theorem dX3_messages_23 : decode cX3_messages 23 = .ok (.iload_n 2, 1) := by decide +kernel
theorem dX3_messages_24 : decode cX3_messages 24 = .ok (.iaload, 1) := by decide +kernel
theorem dX3_messages_25 : decode cX3_messages 25 = .ok (.ifCond .le 6, 3) := by decide +kernel
theorem dX3_messages_28 : decode cX3_messages 28 = .ok (.iinc 1 1, 3) := by decide +kernel
theorem dX3_messages_31 : decode cX3_messages 31 = .ok (.iinc 2 1, 3) := by decide +kernel
theorem dX3_messages_34 : decode cX3_messages 34 = .ok (.goto (-30), 3) := by decide +kernel
theorem dX3_messages_37 : decode cX3_messages 37 = .ok (.iload_n 1, 1) := by decide +kernel
theorem dX3_messages_38 : decode cX3_messages 38 = .ok (.ireturn, 1) := by decide +kernel
theorem dX3_messagesHeardWhole_0 : decode cX3_messagesHeardWhole 0 = .ok (.iconst 0, 1) := by decide +kernel
theorem dX3_messagesHeardWhole_1 : decode cX3_messagesHeardWhole 1 = .ok (.istore_n 1, 1) := by decide +kernel
theorem dX3_messagesHeardWhole_2 : decode cX3_messagesHeardWhole 2 = .ok (.iconst 0, 1) := by decide +kernel
theorem dX3_messagesHeardWhole_3 : decode cX3_messagesHeardWhole 3 = .ok (.istore_n 2, 1) := by decide +kernel
theorem dX3_messagesHeardWhole_4 : decode cX3_messagesHeardWhole 4 = .ok (.iload_n 2, 1) := by decide +kernel
theorem dX3_messagesHeardWhole_5 : decode cX3_messagesHeardWhole 5 = .ok (.bipush 6, 2) := by decide +kernel
theorem dX3_messagesHeardWhole_7 : decode cX3_messagesHeardWhole 7 = .ok (.if_icmp .ge 35, 3) := by decide +kernel
theorem dX3_messagesHeardWhole_10 : decode cX3_messagesHeardWhole 10 = .ok (.iconst 0, 1) := by decide +kernel
theorem dX3_messagesHeardWhole_11 : decode cX3_messagesHeardWhole 11 = .ok (.istore_n 3, 1) := by decide +kernel
theorem dX3_messagesHeardWhole_12 : decode cX3_messagesHeardWhole 12 = .ok (.iload_n 3, 1) := by decide +kernel
theorem dX3_messagesHeardWhole_13 : decode cX3_messagesHeardWhole 13 = .ok (.bipush 10, 2) := by decide +kernel
theorem dX3_messagesHeardWhole_15 : decode cX3_messagesHeardWhole 15 = .ok (.if_icmp .ge 21, 3) := by decide +kernel
theorem dX3_messagesHeardWhole_18 : decode cX3_messagesHeardWhole 18 = .ok (.aload_n 0, 1) := by decide +kernel
theorem dX3_messagesHeardWhole_19 : decode cX3_messagesHeardWhole 19 = .ok (.iload_n 2, 1) := by decide +kernel
theorem dX3_messagesHeardWhole_20 : decode cX3_messagesHeardWhole 20 = .ok (.iload_n 3, 1) := by decide +kernel
theorem dX3_messagesHeardWhole_21 : decode cX3_messagesHeardWhole 21 = .ok (.invokevirtual 97, 3) := by decide +kernel
theorem dX3_messagesHeardWhole_24 : decode cX3_messagesHeardWhole 24 = .ok (.ifCond .eq 6, 3) := by decide +kernel
theorem dX3_messagesHeardWhole_27 : decode cX3_messagesHeardWhole 27 = .ok (.iinc 1 1, 3) := by decide +kernel
theorem dX3_messagesHeardWhole_30 : decode cX3_messagesHeardWhole 30 = .ok (.iinc 3 1, 3) := by decide +kernel
theorem dX3_messagesHeardWhole_33 : decode cX3_messagesHeardWhole 33 = .ok (.goto (-21), 3) := by decide +kernel
theorem dX3_messagesHeardWhole_36 : decode cX3_messagesHeardWhole 36 = .ok (.iinc 2 1, 3) := by decide +kernel
theorem dX3_messagesHeardWhole_39 : decode cX3_messagesHeardWhole 39 = .ok (.goto (-35), 3) := by decide +kernel
theorem dX3_messagesHeardWhole_42 : decode cX3_messagesHeardWhole 42 = .ok (.iload_n 1, 1) := by decide +kernel
theorem dX3_messagesHeardWhole_43 : decode cX3_messagesHeardWhole 43 = .ok (.ireturn, 1) := by decide +kernel
theorem dX3_allHeardWhole_0 : decode cX3_allHeardWhole 0 = .ok (.iconst 0, 1) := by decide +kernel
theorem dX3_allHeardWhole_1 : decode cX3_allHeardWhole 1 = .ok (.istore_n 3, 1) := by decide +kernel
theorem dX3_allHeardWhole_2 : decode cX3_allHeardWhole 2 = .ok (.iload_n 3, 1) := by decide +kernel
theorem dX3_allHeardWhole_3 : decode cX3_allHeardWhole 3 = .ok (.bipush 6, 2) := by decide +kernel
theorem dX3_allHeardWhole_5 : decode cX3_allHeardWhole 5 = .ok (.if_icmp .ge 22, 3) := by decide +kernel
theorem dX3_allHeardWhole_8 : decode cX3_allHeardWhole 8 = .ok (.aload_n 0, 1) := by decide +kernel
theorem dX3_allHeardWhole_9 : decode cX3_allHeardWhole 9 = .ok (.iload_n 1, 1) := by decide +kernel
theorem dX3_allHeardWhole_10 : decode cX3_allHeardWhole 10 = .ok (.iload_n 2, 1) := by decide +kernel
theorem dX3_allHeardWhole_11 : decode cX3_allHeardWhole 11 = .ok (.iload_n 3, 1) := by decide +kernel
theorem dX3_allHeardWhole_12 : decode cX3_allHeardWhole 12 = .ok (.invokevirtual 100, 3) := by decide +kernel
theorem dX3_allHeardWhole_15 : decode cX3_allHeardWhole 15 = .ok (.iconst 3, 1) := by decide +kernel
theorem dX3_allHeardWhole_16 : decode cX3_allHeardWhole 16 = .ok (.if_icmp .eq 5, 3) := by decide +kernel
theorem dX3_allHeardWhole_19 : decode cX3_allHeardWhole 19 = .ok (.iconst 0, 1) := by decide +kernel
theorem dX3_allHeardWhole_20 : decode cX3_allHeardWhole 20 = .ok (.ireturn, 1) := by decide +kernel
theorem dX3_allHeardWhole_21 : decode cX3_allHeardWhole 21 = .ok (.iinc 3 1, 3) := by decide +kernel
theorem dX3_allHeardWhole_24 : decode cX3_allHeardWhole 24 = .ok (.goto (-22), 3) := by decide +kernel
theorem dX3_allHeardWhole_27 : decode cX3_allHeardWhole 27 = .ok (.iconst 1, 1) := by decide +kernel
theorem dX3_allHeardWhole_28 : decode cX3_allHeardWhole 28 = .ok (.ireturn, 1) := by decide +kernel
theorem dX3_whyUnheard_0 : decode cX3_whyUnheard 0 = .ok (.aload_n 0, 1) := by decide +kernel
theorem dX3_whyUnheard_1 : decode cX3_whyUnheard 1 = .ok (.getfield 9, 3) := by decide +kernel
theorem dX3_whyUnheard_4 : decode cX3_whyUnheard 4 = .ok (.getfield 38, 3) := by decide +kernel
theorem dX3_whyUnheard_7 : decode cX3_whyUnheard 7 = .ok (.iload_n 2, 1) := by decide +kernel
theorem dX3_whyUnheard_8 : decode cX3_whyUnheard 8 = .ok (.aaload, 1) := by decide +kernel
theorem dX3_whyUnheard_9 : decode cX3_whyUnheard 9 = .ok (.iload_n 1, 1) := by decide +kernel
theorem dX3_whyUnheard_10 : decode cX3_whyUnheard 10 = .ok (.iaload, 1) := by decide +kernel
theorem dX3_whyUnheard_11 : decode cX3_whyUnheard 11 = .ok (.iconst (-1), 1) := by decide +kernel
theorem dX3_whyUnheard_12 : decode cX3_whyUnheard 12 = .ok (.if_icmp .eq 5, 3) := by decide +kernel
theorem dX3_whyUnheard_15 : decode cX3_whyUnheard 15 = .ok (.iconst 0, 1) := by decide +kernel
theorem dX3_whyUnheard_16 : decode cX3_whyUnheard 16 = .ok (.ireturn, 1) := by decide +kernel
theorem dX3_whyUnheard_17 : decode cX3_whyUnheard 17 = .ok (.aload_n 0, 1) := by decide +kernel
theorem dX3_whyUnheard_18 : decode cX3_whyUnheard 18 = .ok (.getfield 9, 3) := by decide +kernel
theorem dX3_whyUnheard_21 : decode cX3_whyUnheard 21 = .ok (.getfield 30, 3) := by decide +kernel
theorem dX3_whyUnheard_24 : decode cX3_whyUnheard 24 = .ok (.iload_n 2, 1) := by decide +kernel
theorem dX3_whyUnheard_25 : decode cX3_whyUnheard 25 = .ok (.aaload, 1) := by decide +kernel
theorem dX3_whyUnheard_26 : decode cX3_whyUnheard 26 = .ok (.iload_n 1, 1) := by decide +kernel
theorem dX3_whyUnheard_27 : decode cX3_whyUnheard 27 = .ok (.iaload, 1) := by decide +kernel
theorem dX3_whyUnheard_28 : decode cX3_whyUnheard 28 = .ok (.istore_n 3, 1) := by decide +kernel
theorem dX3_whyUnheard_29 : decode cX3_whyUnheard 29 = .ok (.iload_n 3, 1) := by decide +kernel
theorem dX3_whyUnheard_30 : decode cX3_whyUnheard 30 = .ok (.iconst (-1), 1) := by decide +kernel
theorem dX3_whyUnheard_31 : decode cX3_whyUnheard 31 = .ok (.if_icmp .ne 5, 3) := by decide +kernel
theorem dX3_whyUnheard_34 : decode cX3_whyUnheard 34 = .ok (.iconst 1, 1) := by decide +kernel
theorem dX3_whyUnheard_35 : decode cX3_whyUnheard 35 = .ok (.ireturn, 1) := by decide +kernel
theorem dX3_whyUnheard_36 : decode cX3_whyUnheard 36 = .ok (.iload_n 3, 1) := by decide +kernel
theorem dX3_whyUnheard_37 : decode cX3_whyUnheard 37 = .ok (.aload_n 0, 1) := by decide +kernel
theorem dX3_whyUnheard_38 : decode cX3_whyUnheard 38 = .ok (.getfield 9, 3) := by decide +kernel
theorem dX3_whyUnheard_41 : decode cX3_whyUnheard 41 = .ok (.getfield 61, 3) := by decide +kernel
theorem dX3_whyUnheard_44 : decode cX3_whyUnheard 44 = .ok (.if_icmp .lt 7, 3) := by decide +kernel
theorem dX3_whyUnheard_47 : decode cX3_whyUnheard 47 = .ok (.iconst 2, 1) := by decide +kernel
theorem dX3_whyUnheard_48 : decode cX3_whyUnheard 48 = .ok (.goto 4, 3) := by decide +kernel
theorem dX3_whyUnheard_51 : decode cX3_whyUnheard 51 = .ok (.iconst 3, 1) := by decide +kernel
theorem dX3_whyUnheard_52 : decode cX3_whyUnheard 52 = .ok (.ireturn, 1) := by decide +kernel
theorem dX3_silentBeatsUntilHeard_0 : decode cX3_silentBeatsUntilHeard 0 = .ok (.aload_n 0, 1) := by decide +kernel
theorem dX3_silentBeatsUntilHeard_1 : decode cX3_silentBeatsUntilHeard 1 = .ok (.getfield 9, 3) := by decide +kernel
theorem dX3_silentBeatsUntilHeard_4 : decode cX3_silentBeatsUntilHeard 4 = .ok (.getfield 38, 3) := by decide +kernel
theorem dX3_silentBeatsUntilHeard_7 : decode cX3_silentBeatsUntilHeard 7 = .ok (.iload_n 2, 1) := by decide +kernel
theorem dX3_silentBeatsUntilHeard_8 : decode cX3_silentBeatsUntilHeard 8 = .ok (.aaload, 1) := by decide +kernel
theorem dX3_silentBeatsUntilHeard_9 : decode cX3_silentBeatsUntilHeard 9 = .ok (.iload_n 1, 1) := by decide +kernel
theorem dX3_silentBeatsUntilHeard_10 : decode cX3_silentBeatsUntilHeard 10 = .ok (.iaload, 1) := by decide +kernel
theorem dX3_silentBeatsUntilHeard_11 : decode cX3_silentBeatsUntilHeard 11 = .ok (.iconst (-1), 1) := by decide +kernel
theorem dX3_silentBeatsUntilHeard_12 : decode cX3_silentBeatsUntilHeard 12 = .ok (.if_icmp .eq 5, 3) := by decide +kernel
theorem dX3_silentBeatsUntilHeard_15 : decode cX3_silentBeatsUntilHeard 15 = .ok (.iconst 0, 1) := by decide +kernel
theorem dX3_silentBeatsUntilHeard_16 : decode cX3_silentBeatsUntilHeard 16 = .ok (.ireturn, 1) := by decide +kernel
theorem dX3_silentBeatsUntilHeard_17 : decode cX3_silentBeatsUntilHeard 17 = .ok (.iconst 1, 1) := by decide +kernel
theorem dX3_silentBeatsUntilHeard_18 : decode cX3_silentBeatsUntilHeard 18 = .ok (.istore_n 3, 1) := by decide +kernel
theorem dX3_silentBeatsUntilHeard_19 : decode cX3_silentBeatsUntilHeard 19 = .ok (.iload_n 3, 1) := by decide +kernel
theorem dX3_silentBeatsUntilHeard_20 : decode cX3_silentBeatsUntilHeard 20 = .ok (.bipush 60, 2) := by decide +kernel
theorem dX3_silentBeatsUntilHeard_22 : decode cX3_silentBeatsUntilHeard 22 = .ok (.if_icmp .gt 34, 3) := by decide +kernel
theorem dX3_silentBeatsUntilHeard_25 : decode cX3_silentBeatsUntilHeard 25 = .ok (.aload_n 0, 1) := by decide +kernel
theorem dX3_silentBeatsUntilHeard_26 : decode cX3_silentBeatsUntilHeard 26 = .ok (.getfield 9, 3) := by decide +kernel
theorem dX3_silentBeatsUntilHeard_29 : decode cX3_silentBeatsUntilHeard 29 = .ok (.iload_n 2, 1) := by decide +kernel
theorem dX3_silentBeatsUntilHeard_30 : decode cX3_silentBeatsUntilHeard 30 = .ok (.aload_n 0, 1) := by decide +kernel
theorem dX3_silentBeatsUntilHeard_31 : decode cX3_silentBeatsUntilHeard 31 = .ok (.getfield 9, 3) := by decide +kernel
theorem dX3_silentBeatsUntilHeard_34 : decode cX3_silentBeatsUntilHeard 34 = .ok (.getfield 61, 3) := by decide +kernel
theorem dX3_silentBeatsUntilHeard_37 : decode cX3_silentBeatsUntilHeard 37 = .ok (.iload_n 3, 1) := by decide +kernel
theorem dX3_silentBeatsUntilHeard_38 : decode cX3_silentBeatsUntilHeard 38 = .ok (.iadd, 1) := by decide +kernel
theorem dX3_silentBeatsUntilHeard_39 : decode cX3_silentBeatsUntilHeard 39 = .ok (.iconst 1, 1) := by decide +kernel
theorem dX3_silentBeatsUntilHeard_40 : decode cX3_silentBeatsUntilHeard 40 = .ok (.isub, 1) := by decide +kernel
theorem dX3_silentBeatsUntilHeard_41 : decode cX3_silentBeatsUntilHeard 41 = .ok (.invokevirtual 104, 3) := by decide +kernel
theorem dX3_silentBeatsUntilHeard_44 : decode cX3_silentBeatsUntilHeard 44 = .ok (.iload_n 1, 1) := by decide +kernel
theorem dX3_silentBeatsUntilHeard_45 : decode cX3_silentBeatsUntilHeard 45 = .ok (.if_icmp .ne 5, 3) := by decide +kernel
theorem dX3_silentBeatsUntilHeard_48 : decode cX3_silentBeatsUntilHeard 48 = .ok (.iload_n 3, 1) := by decide +kernel
theorem dX3_silentBeatsUntilHeard_49 : decode cX3_silentBeatsUntilHeard 49 = .ok (.ireturn, 1) := by decide +kernel
theorem dX3_silentBeatsUntilHeard_50 : decode cX3_silentBeatsUntilHeard 50 = .ok (.iinc 3 1, 3) := by decide +kernel
theorem dX3_silentBeatsUntilHeard_53 : decode cX3_silentBeatsUntilHeard 53 = .ok (.goto (-34), 3) := by decide +kernel
theorem dX3_silentBeatsUntilHeard_56 : decode cX3_silentBeatsUntilHeard 56 = .ok (.iconst (-1), 1) := by decide +kernel
theorem dX3_silentBeatsUntilHeard_57 : decode cX3_silentBeatsUntilHeard 57 = .ok (.ireturn, 1) := by decide +kernel
theorem dX3_bestPlace_0 : decode cX3_bestPlace 0 = .ok (.iconst 0, 1) := by decide +kernel
theorem dX3_bestPlace_1 : decode cX3_bestPlace 1 = .ok (.istore_n 1, 1) := by decide +kernel
theorem dX3_bestPlace_2 : decode cX3_bestPlace 2 = .ok (.iconst 0, 1) := by decide +kernel
theorem dX3_bestPlace_3 : decode cX3_bestPlace 3 = .ok (.istore_n 2, 1) := by decide +kernel
theorem dX3_bestPlace_4 : decode cX3_bestPlace 4 = .ok (.iconst 0, 1) := by decide +kernel
theorem dX3_bestPlace_5 : decode cX3_bestPlace 5 = .ok (.istore_n 3, 1) := by decide +kernel
theorem dX3_bestPlace_6 : decode cX3_bestPlace 6 = .ok (.iconst 0, 1) := by decide +kernel
theorem dX3_bestPlace_7 : decode cX3_bestPlace 7 = .ok (.istore 4, 2) := by decide +kernel
theorem dX3_bestPlace_9 : decode cX3_bestPlace 9 = .ok (.iload 4, 2) := by decide +kernel
theorem dX3_bestPlace_11 : decode cX3_bestPlace 11 = .ok (.bipush 6, 2) := by decide +kernel
theorem dX3_bestPlace_13 : decode cX3_bestPlace 13 = .ok (.if_icmp .ge 89, 3) := by decide +kernel
theorem dX3_bestPlace_16 : decode cX3_bestPlace 16 = .ok (.iconst 0, 1) := by decide +kernel
theorem dX3_bestPlace_17 : decode cX3_bestPlace 17 = .ok (.istore 5, 2) := by decide +kernel
theorem dX3_bestPlace_19 : decode cX3_bestPlace 19 = .ok (.iconst 0, 1) := by decide +kernel
theorem dX3_bestPlace_20 : decode cX3_bestPlace 20 = .ok (.istore 6, 2) := by decide +kernel
theorem dX3_bestPlace_22 : decode cX3_bestPlace 22 = .ok (.iconst 0, 1) := by decide +kernel
theorem dX3_bestPlace_23 : decode cX3_bestPlace 23 = .ok (.istore 7, 2) := by decide +kernel
theorem dX3_bestPlace_25 : decode cX3_bestPlace 25 = .ok (.iload 7, 2) := by decide +kernel
theorem dX3_bestPlace_27 : decode cX3_bestPlace 27 = .ok (.bipush 6, 2) := by decide +kernel
theorem dX3_bestPlace_29 : decode cX3_bestPlace 29 = .ok (.if_icmp .ge 40, 3) := by decide +kernel
theorem dX3_bestPlace_32 : decode cX3_bestPlace 32 = .ok (.aload_n 0, 1) := by decide +kernel
theorem dX3_bestPlace_33 : decode cX3_bestPlace 33 = .ok (.getfield 9, 3) := by decide +kernel
theorem dX3_bestPlace_36 : decode cX3_bestPlace 36 = .ok (.iload 4, 2) := by decide +kernel
theorem dX3_bestPlace_38 : decode cX3_bestPlace 38 = .ok (.iload 7, 2) := by decide +kernel
theorem dX3_bestPlace_40 : decode cX3_bestPlace 40 = .ok (.invokevirtual 107, 3) := by decide +kernel
theorem dX3_bestPlace_43 : decode cX3_bestPlace 43 = .ok (.istore 8, 2) := by decide +kernel
theorem dX3_bestPlace_45 : decode cX3_bestPlace 45 = .ok (.iload 8, 2) := by decide +kernel
theorem dX3_bestPlace_47 : decode cX3_bestPlace 47 = .ok (.iconst (-1), 1) := by decide +kernel
theorem dX3_bestPlace_48 : decode cX3_bestPlace 48 = .ok (.if_icmp .eq 15, 3) := by decide +kernel
theorem dX3_bestPlace_51 : decode cX3_bestPlace 51 = .ok (.iinc 5 1, 3) := by decide +kernel
theorem dX3_bestPlace_54 : decode cX3_bestPlace 54 = .ok (.iload 6, 2) := by decide +kernel
theorem dX3_bestPlace_56 : decode cX3_bestPlace 56 = .ok (.iload 8, 2) := by decide +kernel
theorem dX3_bestPlace_58 : decode cX3_bestPlace 58 = .ok (.invokestatic 110, 3) := by decide +kernel
theorem dX3_bestPlace_61 : decode cX3_bestPlace 61 = .ok (.istore 6, 2) := by decide +kernel
theorem dX3_bestPlace_63 : decode cX3_bestPlace 63 = .ok (.iinc 7 1, 3) := by decide +kernel
theorem dX3_bestPlace_66 : decode cX3_bestPlace 66 = .ok (.goto (-41), 3) := by decide +kernel
theorem dX3_bestPlace_69 : decode cX3_bestPlace 69 = .ok (.iload 5, 2) := by decide +kernel
theorem dX3_bestPlace_71 : decode cX3_bestPlace 71 = .ok (.iload_n 2, 1) := by decide +kernel
theorem dX3_bestPlace_72 : decode cX3_bestPlace 72 = .ok (.if_icmp .gt 15, 3) := by decide +kernel
theorem dX3_bestPlace_75 : decode cX3_bestPlace 75 = .ok (.iload 5, 2) := by decide +kernel
theorem dX3_bestPlace_77 : decode cX3_bestPlace 77 = .ok (.iload_n 2, 1) := by decide +kernel
theorem dX3_bestPlace_78 : decode cX3_bestPlace 78 = .ok (.if_icmp .ne 18, 3) := by decide +kernel
theorem dX3_bestPlace_81 : decode cX3_bestPlace 81 = .ok (.iload 6, 2) := by decide +kernel
theorem dX3_bestPlace_83 : decode cX3_bestPlace 83 = .ok (.iload_n 3, 1) := by decide +kernel
theorem dX3_bestPlace_84 : decode cX3_bestPlace 84 = .ok (.if_icmp .ge 12, 3) := by decide +kernel
theorem dX3_bestPlace_87 : decode cX3_bestPlace 87 = .ok (.iload 4, 2) := by decide +kernel
theorem dX3_bestPlace_89 : decode cX3_bestPlace 89 = .ok (.istore_n 1, 1) := by decide +kernel
theorem dX3_bestPlace_90 : decode cX3_bestPlace 90 = .ok (.iload 5, 2) := by decide +kernel
theorem dX3_bestPlace_92 : decode cX3_bestPlace 92 = .ok (.istore_n 2, 1) := by decide +kernel
theorem dX3_bestPlace_93 : decode cX3_bestPlace 93 = .ok (.iload 6, 2) := by decide +kernel
theorem dX3_bestPlace_95 : decode cX3_bestPlace 95 = .ok (.istore_n 3, 1) := by decide +kernel
theorem dX3_bestPlace_96 : decode cX3_bestPlace 96 = .ok (.iinc 4 1, 3) := by decide +kernel
theorem dX3_bestPlace_99 : decode cX3_bestPlace 99 = .ok (.goto (-90), 3) := by decide +kernel
theorem dX3_bestPlace_102 : decode cX3_bestPlace 102 = .ok (.iload_n 1, 1) := by decide +kernel
theorem dX3_bestPlace_103 : decode cX3_bestPlace 103 = .ok (.ireturn, 1) := by decide +kernel
theorem dX3_share_0 : decode cX3_share 0 = .ok (.aload_n 0, 1) := by decide +kernel
theorem dX3_share_1 : decode cX3_share 1 = .ok (.getfield 9, 3) := by decide +kernel
theorem dX3_share_4 : decode cX3_share 4 = .ok (.getfield 61, 3) := by decide +kernel
theorem dX3_share_7 : decode cX3_share 7 = .ok (.ifCond .gt 5, 3) := by decide +kernel
theorem dX3_share_10 : decode cX3_share 10 = .ok (.dconst 0, 1) := by decide +kernel
theorem dX3_share_11 : decode cX3_share 11 = .ok (.dreturn, 1) := by decide +kernel
theorem dX3_share_12 : decode cX3_share 12 = .ok (.iconst 0, 1) := by decide +kernel
theorem dX3_share_13 : decode cX3_share 13 = .ok (.istore_n 1, 1) := by decide +kernel
theorem dX3_share_14 : decode cX3_share 14 = .ok (.iconst 0, 1) := by decide +kernel
theorem dX3_share_15 : decode cX3_share 15 = .ok (.istore_n 2, 1) := by decide +kernel
theorem dX3_share_16 : decode cX3_share 16 = .ok (.iload_n 2, 1) := by decide +kernel
theorem dX3_share_17 : decode cX3_share 17 = .ok (.bipush 6, 2) := by decide +kernel
theorem dX3_share_19 : decode cX3_share 19 = .ok (.if_icmp .ge 17, 3) := by decide +kernel
theorem dX3_share_22 : decode cX3_share 22 = .ok (.iload_n 1, 1) := by decide +kernel
theorem dX3_share_23 : decode cX3_share 23 = .ok (.aload_n 0, 1) := by decide +kernel
theorem dX3_share_24 : decode cX3_share 24 = .ok (.iload_n 2, 1) := by decide +kernel
theorem dX3_share_25 : decode cX3_share 25 = .ok (.invokevirtual 51, 3) := by decide +kernel
theorem dX3_share_28 : decode cX3_share 28 = .ok (.iadd, 1) := by decide +kernel
theorem dX3_share_29 : decode cX3_share 29 = .ok (.istore_n 1, 1) := by decide +kernel
theorem dX3_share_30 : decode cX3_share 30 = .ok (.iinc 2 1, 3) := by decide +kernel
theorem dX3_share_33 : decode cX3_share 33 = .ok (.goto (-17), 3) := by decide +kernel
theorem dX3_share_36 : decode cX3_share 36 = .ok (.iload_n 1, 1) := by decide +kernel
theorem dX3_share_37 : decode cX3_share 37 = .ok (.i2d, 1) := by decide +kernel
theorem dX3_share_38 : decode cX3_share 38 = .ok (.bipush 6, 2) := by decide +kernel
theorem dX3_share_40 : decode cX3_share 40 = .ok (.aload_n 0, 1) := by decide +kernel
theorem dX3_share_41 : decode cX3_share 41 = .ok (.getfield 9, 3) := by decide +kernel
theorem dX3_share_44 : decode cX3_share 44 = .ok (.getfield 61, 3) := by decide +kernel
theorem dX3_share_47 : decode cX3_share 47 = .ok (.imul, 1) := by decide +kernel
theorem dX3_share_48 : decode cX3_share 48 = .ok (.i2d, 1) := by decide +kernel
theorem dX3_share_49 : decode cX3_share 49 = .ok (.ddiv, 1) := by decide +kernel
theorem dX3_share_50 : decode cX3_share 50 = .ok (.dreturn, 1) := by decide +kernel
theorem dX4_init_0 : decode cX4_init 0 = .ok (.aload_n 0, 1) := by decide +kernel
theorem dX4_init_1 : decode cX4_init 1 = .ok (.invokespecial 3, 3) := by decide +kernel
theorem dX4_init_4 : decode cX4_init 4 = .ok (.aload_n 0, 1) := by decide +kernel
theorem dX4_init_5 : decode cX4_init 5 = .ok (.bipush 60, 2) := by decide +kernel
theorem dX4_init_7 : decode cX4_init 7 = .ok (.newarray .char, 2) := by decide +kernel
theorem dX4_init_9 : decode cX4_init 9 = .ok (.putfield 9, 3) := by decide +kernel
theorem dX4_init_12 : decode cX4_init 12 = .ok (.return_, 1) := by decide +kernel
theorem dX4_add_0 : decode cX4_add 0 = .ok (.aload_n 0, 1) := by decide +kernel
theorem dX4_add_1 : decode cX4_add 1 = .ok (.getfield 15, 3) := by decide +kernel
theorem dX4_add_4 : decode cX4_add 4 = .ok (.bipush 60, 2) := by decide +kernel
theorem dX4_add_6 : decode cX4_add 6 = .ok (.if_icmp .ge 23, 3) := by decide +kernel
theorem dX4_add_9 : decode cX4_add 9 = .ok (.aload_n 0, 1) := by decide +kernel
theorem dX4_add_10 : decode cX4_add 10 = .ok (.getfield 9, 3) := by decide +kernel
theorem dX4_add_13 : decode cX4_add 13 = .ok (.aload_n 0, 1) := by decide +kernel
theorem dX4_add_14 : decode cX4_add 14 = .ok (.getfield 15, 3) := by decide +kernel
theorem dX4_add_17 : decode cX4_add 17 = .ok (.iload_n 1, 1) := by decide +kernel
theorem dX4_add_18 : decode cX4_add 18 = .ok (.castore, 1) := by decide +kernel
theorem dX4_add_19 : decode cX4_add 19 = .ok (.aload_n 0, 1) := by decide +kernel
theorem dX4_add_20 : decode cX4_add 20 = .ok (.dup, 1) := by decide +kernel
theorem dX4_add_21 : decode cX4_add 21 = .ok (.getfield 15, 3) := by decide +kernel
theorem dX4_add_24 : decode cX4_add 24 = .ok (.iconst 1, 1) := by decide +kernel
theorem dX4_add_25 : decode cX4_add 25 = .ok (.iadd, 1) := by decide +kernel
theorem dX4_add_26 : decode cX4_add 26 = .ok (.putfield 15, 3) := by decide +kernel
theorem dX4_add_29 : decode cX4_add 29 = .ok (.return_, 1) := by decide +kernel
theorem dX4_errorPlace_0 : decode cX4_errorPlace 0 = .ok (.iconst 0, 1) := by decide +kernel
theorem dX4_errorPlace_1 : decode cX4_errorPlace 1 = .ok (.istore_n 1, 1) := by decide +kernel
theorem dX4_errorPlace_2 : decode cX4_errorPlace 2 = .ok (.iconst 0, 1) := by decide +kernel
theorem dX4_errorPlace_3 : decode cX4_errorPlace 3 = .ok (.istore_n 2, 1) := by decide +kernel
theorem dX4_errorPlace_4 : decode cX4_errorPlace 4 = .ok (.iload_n 2, 1) := by decide +kernel
theorem dX4_errorPlace_5 : decode cX4_errorPlace 5 = .ok (.aload_n 0, 1) := by decide +kernel
theorem dX4_errorPlace_6 : decode cX4_errorPlace 6 = .ok (.getfield 15, 3) := by decide +kernel
theorem dX4_errorPlace_9 : decode cX4_errorPlace 9 = .ok (.if_icmp .ge 27, 3) := by decide +kernel
theorem dX4_errorPlace_12 : decode cX4_errorPlace 12 = .ok (.iload_n 1, 1) := by decide +kernel
theorem dX4_errorPlace_13 : decode cX4_errorPlace 13 = .ok (.aload_n 0, 1) := by decide +kernel
theorem dX4_errorPlace_14 : decode cX4_errorPlace 14 = .ok (.getfield 9, 3) := by decide +kernel
theorem dX4_errorPlace_17 : decode cX4_errorPlace 17 = .ok (.iload_n 2, 1) := by decide +kernel
theorem dX4_errorPlace_18 : decode cX4_errorPlace 18 = .ok (.caload, 1) := by decide +kernel
theorem dX4_errorPlace_19 : decode cX4_errorPlace 19 = .ok (.invokestatic 19, 3) := by decide +kernel
theorem dX4_errorPlace_22 : decode cX4_errorPlace 22 = .ok (.istore_n 1, 1) := by decide +kernel
theorem dX4_errorPlace_23 : decode cX4_errorPlace 23 = .ok (.iload_n 1, 1) := by decide +kernel
theorem dX4_errorPlace_24 : decode cX4_errorPlace 24 = .ok (.iconst (-1), 1) := by decide +kernel
theorem dX4_errorPlace_25 : decode cX4_errorPlace 25 = .ok (.if_icmp .ne 5, 3) := by decide +kernel
theorem dX4_errorPlace_28 : decode cX4_errorPlace 28 = .ok (.iload_n 2, 1) := by decide +kernel
theorem dX4_errorPlace_29 : decode cX4_errorPlace 29 = .ok (.ireturn, 1) := by decide +kernel
theorem dX4_errorPlace_30 : decode cX4_errorPlace 30 = .ok (.iinc 2 1, 3) := by decide +kernel
theorem dX4_errorPlace_33 : decode cX4_errorPlace 33 = .ok (.goto (-29), 3) := by decide +kernel
theorem dX4_errorPlace_36 : decode cX4_errorPlace 36 = .ok (.aload_n 0, 1) := by decide +kernel
theorem dX4_errorPlace_37 : decode cX4_errorPlace 37 = .ok (.getfield 15, 3) := by decide +kernel
theorem dX4_errorPlace_40 : decode cX4_errorPlace 40 = .ok (.ireturn, 1) := by decide +kernel
theorem dX4_isComplete_0 : decode cX4_isComplete 0 = .ok (.iconst 0, 1) := by decide +kernel
theorem dX4_isComplete_1 : decode cX4_isComplete 1 = .ok (.istore_n 1, 1) := by decide +kernel
theorem dX4_isComplete_2 : decode cX4_isComplete 2 = .ok (.iconst 0, 1) := by decide +kernel
theorem dX4_isComplete_3 : decode cX4_isComplete 3 = .ok (.istore_n 2, 1) := by decide +kernel
theorem dX4_isComplete_4 : decode cX4_isComplete 4 = .ok (.iload_n 2, 1) := by decide +kernel
theorem dX4_isComplete_5 : decode cX4_isComplete 5 = .ok (.aload_n 0, 1) := by decide +kernel
theorem dX4_isComplete_6 : decode cX4_isComplete 6 = .ok (.getfield 15, 3) := by decide +kernel
theorem dX4_isComplete_9 : decode cX4_isComplete 9 = .ok (.if_icmp .ge 20, 3) := by decide +kernel
theorem dX4_isComplete_12 : decode cX4_isComplete 12 = .ok (.iload_n 1, 1) := by decide +kernel
theorem dX4_isComplete_13 : decode cX4_isComplete 13 = .ok (.aload_n 0, 1) := by decide +kernel
theorem dX4_isComplete_14 : decode cX4_isComplete 14 = .ok (.getfield 9, 3) := by decide +kernel
theorem dX4_isComplete_17 : decode cX4_isComplete 17 = .ok (.iload_n 2, 1) := by decide +kernel
theorem dX4_isComplete_18 : decode cX4_isComplete 18 = .ok (.caload, 1) := by decide +kernel
theorem dX4_isComplete_19 : decode cX4_isComplete 19 = .ok (.invokestatic 19, 3) := by decide +kernel
theorem dX4_isComplete_22 : decode cX4_isComplete 22 = .ok (.istore_n 1, 1) := by decide +kernel
theorem dX4_isComplete_23 : decode cX4_isComplete 23 = .ok (.iinc 2 1, 3) := by decide +kernel
theorem dX4_isComplete_26 : decode cX4_isComplete 26 = .ok (.goto (-22), 3) := by decide +kernel
theorem dX4_isComplete_29 : decode cX4_isComplete 29 = .ok (.iload_n 1, 1) := by decide +kernel
theorem dX4_isComplete_30 : decode cX4_isComplete 30 = .ok (.tableswitch 44 3 9 #[42, 42, 44, 44, 42, 42, 42], 42) := by decide +kernel
theorem dX4_isComplete_72 : decode cX4_isComplete 72 = .ok (.iconst 1, 1) := by decide +kernel
theorem dX4_isComplete_73 : decode cX4_isComplete 73 = .ok (.ireturn, 1) := by decide +kernel
theorem dX4_isComplete_74 : decode cX4_isComplete 74 = .ok (.iconst 0, 1) := by decide +kernel
theorem dX4_isComplete_75 : decode cX4_isComplete 75 = .ok (.ireturn, 1) := by decide +kernel
theorem dX4_next_0 : decode cX4_next 0 = .ok (.iload_n 0, 1) := by decide +kernel
theorem dX4_next_1 : decode cX4_next 1 = .ok (.tableswitch 190 0 9 #[55, 83, 95, 112, 128, 133, 147, 152, 169, 185], 55) := by decide +kernel
theorem dX4_next_56 : decode cX4_next 56 = .ok (.iload_n 1, 1) := by decide +kernel
theorem dX4_next_57 : decode cX4_next 57 = .ok (.bipush 46, 2) := by decide +kernel
theorem dX4_next_59 : decode cX4_next 59 = .ok (.if_icmp .ne 8, 3) := by decide +kernel
theorem dX4_next_62 : decode cX4_next 62 = .ok (.bipush 6, 2) := by decide +kernel
theorem dX4_next_64 : decode cX4_next 64 = .ok (.goto 19, 3) := by decide +kernel
theorem dX4_next_67 : decode cX4_next 67 = .ok (.iload_n 1, 1) := by decide +kernel
theorem dX4_next_68 : decode cX4_next 68 = .ok (.bipush 48, 2) := by decide +kernel
theorem dX4_next_70 : decode cX4_next 70 = .ok (.bipush 53, 2) := by decide +kernel
theorem dX4_next_72 : decode cX4_next 72 = .ok (.invokestatic 23, 3) := by decide +kernel
theorem dX4_next_75 : decode cX4_next 75 = .ok (.ifCond .eq 7, 3) := by decide +kernel
theorem dX4_next_78 : decode cX4_next 78 = .ok (.iconst 1, 1) := by decide +kernel
theorem dX4_next_79 : decode cX4_next 79 = .ok (.goto 4, 3) := by decide +kernel
theorem dX4_next_82 : decode cX4_next 82 = .ok (.iconst (-1), 1) := by decide +kernel
theorem dX4_next_83 : decode cX4_next 83 = .ok (.ireturn, 1) := by decide +kernel
theorem dX4_next_84 : decode cX4_next 84 = .ok (.iload_n 1, 1) := by decide +kernel
theorem dX4_next_85 : decode cX4_next 85 = .ok (.bipush 58, 2) := by decide +kernel
theorem dX4_next_87 : decode cX4_next 87 = .ok (.if_icmp .ne 7, 3) := by decide +kernel
theorem dX4_next_90 : decode cX4_next 90 = .ok (.iconst 2, 1) := by decide +kernel
theorem dX4_next_91 : decode cX4_next 91 = .ok (.goto 4, 3) := by decide +kernel
theorem dX4_next_94 : decode cX4_next 94 = .ok (.iconst (-1), 1) := by decide +kernel
theorem dX4_next_95 : decode cX4_next 95 = .ok (.ireturn, 1) := by decide +kernel
theorem dX4_next_96 : decode cX4_next 96 = .ok (.iload_n 1, 1) := by decide +kernel
theorem dX4_next_97 : decode cX4_next 97 = .ok (.bipush 49, 2) := by decide +kernel
theorem dX4_next_99 : decode cX4_next 99 = .ok (.bipush 57, 2) := by decide +kernel
theorem dX4_next_101 : decode cX4_next 101 = .ok (.invokestatic 23, 3) := by decide +kernel
theorem dX4_next_104 : decode cX4_next 104 = .ok (.ifCond .eq 7, 3) := by decide +kernel
theorem dX4_next_107 : decode cX4_next 107 = .ok (.iconst 3, 1) := by decide +kernel
theorem dX4_next_108 : decode cX4_next 108 = .ok (.goto 4, 3) := by decide +kernel
theorem dX4_next_111 : decode cX4_next 111 = .ok (.iconst (-1), 1) := by decide +kernel
theorem dX4_next_112 : decode cX4_next 112 = .ok (.ireturn, 1) := by decide +kernel
theorem dX4_next_113 : decode cX4_next 113 = .ok (.iload_n 1, 1) := by decide +kernel
theorem dX4_next_114 : decode cX4_next 114 = .ok (.invokestatic 27, 3) := by decide +kernel
theorem dX4_next_117 : decode cX4_next 117 = .ok (.ifCond .eq 7, 3) := by decide +kernel
theorem dX4_next_120 : decode cX4_next 120 = .ok (.iconst 4, 1) := by decide +kernel
theorem dX4_next_121 : decode cX4_next 121 = .ok (.goto 7, 3) := by decide +kernel
theorem dX4_next_124 : decode cX4_next 124 = .ok (.iload_n 1, 1) := by decide +kernel
theorem dX4_next_125 : decode cX4_next 125 = .ok (.invokestatic 31, 3) := by decide +kernel
theorem dX4_next_128 : decode cX4_next 128 = .ok (.ireturn, 1) := by decide +kernel
theorem dX4_next_129 : decode cX4_next 129 = .ok (.iload_n 1, 1) := by decide +kernel
theorem dX4_next_130 : decode cX4_next 130 = .ok (.invokestatic 31, 3) := by decide +kernel
theorem dX4_next_133 : decode cX4_next 133 = .ok (.ireturn, 1) := by decide +kernel
theorem dX4_next_134 : decode cX4_next 134 = .ok (.iload_n 1, 1) := by decide +kernel
theorem dX4_next_135 : decode cX4_next 135 = .ok (.invokestatic 27, 3) := by decide +kernel
theorem dX4_next_138 : decode cX4_next 138 = .ok (.ifCond .eq 8, 3) := by decide +kernel
theorem dX4_next_141 : decode cX4_next 141 = .ok (.bipush 9, 2) := by decide +kernel
theorem dX4_next_143 : decode cX4_next 143 = .ok (.goto 4, 3) := by decide +kernel
theorem dX4_next_146 : decode cX4_next 146 = .ok (.iconst (-1), 1) := by decide +kernel
theorem dX4_next_147 : decode cX4_next 147 = .ok (.ireturn, 1) := by decide +kernel
theorem dX4_next_148 : decode cX4_next 148 = .ok (.iload_n 1, 1) := by decide +kernel
theorem dX4_next_149 : decode cX4_next 149 = .ok (.invokestatic 35, 3) := by decide +kernel
theorem dX4_next_152 : decode cX4_next 152 = .ok (.ireturn, 1) := by decide +kernel
theorem dX4_next_153 : decode cX4_next 153 = .ok (.iload_n 1, 1) := by decide +kernel
theorem dX4_next_154 : decode cX4_next 154 = .ok (.invokestatic 27, 3) := by decide +kernel
theorem dX4_next_157 : decode cX4_next 157 = .ok (.ifCond .eq 8, 3) := by decide +kernel
theorem dX4_next_160 : decode cX4_next 160 = .ok (.bipush 9, 2) := by decide +kernel
theorem dX4_next_162 : decode cX4_next 162 = .ok (.goto 7, 3) := by decide +kernel
theorem dX4_next_165 : decode cX4_next 165 = .ok (.iload_n 1, 1) := by decide +kernel
theorem dX4_next_166 : decode cX4_next 166 = .ok (.invokestatic 38, 3) := by decide +kernel
theorem dX4_next_169 : decode cX4_next 169 = .ok (.ireturn, 1) := by decide +kernel
theorem dX4_next_170 : decode cX4_next 170 = .ok (.iload_n 1, 1) := by decide +kernel
theorem dX4_next_171 : decode cX4_next 171 = .ok (.bipush 48, 2) := by decide +kernel
theorem dX4_next_173 : decode cX4_next 173 = .ok (.if_icmp .ne 8, 3) := by decide +kernel
theorem dX4_next_176 : decode cX4_next 176 = .ok (.bipush 9, 2) := by decide +kernel
theorem dX4_next_178 : decode cX4_next 178 = .ok (.goto 7, 3) := by decide +kernel
theorem dX4_next_181 : decode cX4_next 181 = .ok (.iload_n 1, 1) := by decide +kernel
theorem dX4_next_182 : decode cX4_next 182 = .ok (.invokestatic 38, 3) := by decide +kernel
theorem dX4_next_185 : decode cX4_next 185 = .ok (.ireturn, 1) := by decide +kernel
theorem dX4_next_186 : decode cX4_next 186 = .ok (.iload_n 1, 1) := by decide +kernel
theorem dX4_next_187 : decode cX4_next 187 = .ok (.invokestatic 38, 3) := by decide +kernel
theorem dX4_next_190 : decode cX4_next 190 = .ok (.ireturn, 1) := by decide +kernel
theorem dX4_next_191 : decode cX4_next 191 = .ok (.iconst (-1), 1) := by decide +kernel
theorem dX4_next_192 : decode cX4_next 192 = .ok (.ireturn, 1) := by decide +kernel
theorem dX4_behindWord_0 : decode cX4_behindWord 0 = .ok (.iload_n 0, 1) := by decide +kernel
theorem dX4_behindWord_1 : decode cX4_behindWord 1 = .ok (.bipush 44, 2) := by decide +kernel
theorem dX4_behindWord_3 : decode cX4_behindWord 3 = .ok (.if_icmp .ne 5, 3) := by decide +kernel
theorem dX4_behindWord_6 : decode cX4_behindWord 6 = .ok (.iconst 2, 1) := by decide +kernel
theorem dX4_behindWord_7 : decode cX4_behindWord 7 = .ok (.ireturn, 1) := by decide +kernel
theorem dX4_behindWord_8 : decode cX4_behindWord 8 = .ok (.iload_n 0, 1) := by decide +kernel
theorem dX4_behindWord_9 : decode cX4_behindWord 9 = .ok (.bipush 35, 2) := by decide +kernel
theorem dX4_behindWord_11 : decode cX4_behindWord 11 = .ok (.if_icmp .ne 7, 3) := by decide +kernel
theorem dX4_behindWord_14 : decode cX4_behindWord 14 = .ok (.iconst 5, 1) := by decide +kernel
theorem dX4_behindWord_15 : decode cX4_behindWord 15 = .ok (.goto 7, 3) := by decide +kernel
theorem dX4_behindWord_18 : decode cX4_behindWord 18 = .ok (.iload_n 0, 1) := by decide +kernel
theorem dX4_behindWord_19 : decode cX4_behindWord 19 = .ok (.invokestatic 38, 3) := by decide +kernel
theorem dX4_behindWord_22 : decode cX4_behindWord 22 = .ok (.ireturn, 1) := by decide +kernel
theorem dX4_behindPart_0 : decode cX4_behindPart 0 = .ok (.iload_n 0, 1) := by decide +kernel
theorem dX4_behindPart_1 : decode cX4_behindPart 1 = .ok (.bipush 59, 2) := by decide +kernel
theorem dX4_behindPart_3 : decode cX4_behindPart 3 = .ok (.if_icmp .ne 7, 3) := by decide +kernel
theorem dX4_behindPart_6 : decode cX4_behindPart 6 = .ok (.iconst 0, 1) := by decide +kernel
theorem dX4_behindPart_7 : decode cX4_behindPart 7 = .ok (.goto 4, 3) := by decide +kernel
theorem dX4_behindPart_10 : decode cX4_behindPart 10 = .ok (.iconst (-1), 1) := by decide +kernel
theorem dX4_behindPart_11 : decode cX4_behindPart 11 = .ok (.ireturn, 1) := by decide +kernel
theorem dX4_pauseDigit_0 : decode cX4_pauseDigit 0 = .ok (.iload_n 0, 1) := by decide +kernel
theorem dX4_pauseDigit_1 : decode cX4_pauseDigit 1 = .ok (.bipush 49, 2) := by decide +kernel
theorem dX4_pauseDigit_3 : decode cX4_pauseDigit 3 = .ok (.bipush 52, 2) := by decide +kernel
theorem dX4_pauseDigit_5 : decode cX4_pauseDigit 5 = .ok (.invokestatic 23, 3) := by decide +kernel
theorem dX4_pauseDigit_8 : decode cX4_pauseDigit 8 = .ok (.ifCond .eq 6, 3) := by decide +kernel
theorem dX4_pauseDigit_11 : decode cX4_pauseDigit 11 = .ok (.bipush 7, 2) := by decide +kernel
theorem dX4_pauseDigit_13 : decode cX4_pauseDigit 13 = .ok (.ireturn, 1) := by decide +kernel
theorem dX4_pauseDigit_14 : decode cX4_pauseDigit 14 = .ok (.iload_n 0, 1) := by decide +kernel
theorem dX4_pauseDigit_15 : decode cX4_pauseDigit 15 = .ok (.bipush 53, 2) := by decide +kernel
theorem dX4_pauseDigit_17 : decode cX4_pauseDigit 17 = .ok (.if_icmp .ne 6, 3) := by decide +kernel
theorem dX4_pauseDigit_20 : decode cX4_pauseDigit 20 = .ok (.bipush 8, 2) := by decide +kernel
theorem dX4_pauseDigit_22 : decode cX4_pauseDigit 22 = .ok (.ireturn, 1) := by decide +kernel
theorem dX4_pauseDigit_23 : decode cX4_pauseDigit 23 = .ok (.iload_n 0, 1) := by decide +kernel
theorem dX4_pauseDigit_24 : decode cX4_pauseDigit 24 = .ok (.bipush 54, 2) := by decide +kernel
theorem dX4_pauseDigit_26 : decode cX4_pauseDigit 26 = .ok (.bipush 57, 2) := by decide +kernel
theorem dX4_pauseDigit_28 : decode cX4_pauseDigit 28 = .ok (.invokestatic 23, 3) := by decide +kernel
theorem dX4_pauseDigit_31 : decode cX4_pauseDigit 31 = .ok (.ifCond .eq 8, 3) := by decide +kernel
theorem dX4_pauseDigit_34 : decode cX4_pauseDigit 34 = .ok (.bipush 9, 2) := by decide +kernel
theorem dX4_pauseDigit_36 : decode cX4_pauseDigit 36 = .ok (.goto 4, 3) := by decide +kernel
theorem dX4_pauseDigit_39 : decode cX4_pauseDigit 39 = .ok (.iconst (-1), 1) := by decide +kernel
theorem dX4_pauseDigit_40 : decode cX4_pauseDigit 40 = .ok (.ireturn, 1) := by decide +kernel
theorem dX4_isDigit_0 : decode cX4_isDigit 0 = .ok (.iload_n 0, 1) := by decide +kernel
theorem dX4_isDigit_1 : decode cX4_isDigit 1 = .ok (.bipush 48, 2) := by decide +kernel
theorem dX4_isDigit_3 : decode cX4_isDigit 3 = .ok (.bipush 57, 2) := by decide +kernel
theorem dX4_isDigit_5 : decode cX4_isDigit 5 = .ok (.invokestatic 23, 3) := by decide +kernel
theorem dX4_isDigit_8 : decode cX4_isDigit 8 = .ok (.ireturn, 1) := by decide +kernel
theorem dX4_happenIn_0 : decode cX4_happenIn 0 = .ok (.iconst 0, 1) := by decide +kernel
theorem dX4_happenIn_1 : decode cX4_happenIn 1 = .ok (.istore_n 3, 1) := by decide +kernel
theorem dX4_happenIn_2 : decode cX4_happenIn 2 = .ok (.iload_n 3, 1) := by decide +kernel
theorem dX4_happenIn_3 : decode cX4_happenIn 3 = .ok (.aload_n 0, 1) := by decide +kernel
theorem dX4_happenIn_4 : decode cX4_happenIn 4 = .ok (.getfield 15, 3) := by decide +kernel
theorem dX4_happenIn_7 : decode cX4_happenIn 7 = .ok (.if_icmp .ge 52, 3) := by decide +kernel
theorem dX4_happenIn_10 : decode cX4_happenIn 10 = .ok (.aload_n 0, 1) := by decide +kernel
theorem dX4_happenIn_11 : decode cX4_happenIn 11 = .ok (.iload_n 3, 1) := by decide +kernel
theorem dX4_happenIn_12 : decode cX4_happenIn 12 = .ok (.invokevirtual 41, 3) := by decide +kernel
theorem dX4_happenIn_15 : decode cX4_happenIn 15 = .ok (.istore_n 2, 1) := by decide +kernel
theorem dX4_happenIn_16 : decode cX4_happenIn 16 = .ok (.aload_n 0, 1) := by decide +kernel
theorem dX4_happenIn_17 : decode cX4_happenIn 17 = .ok (.getfield 9, 3) := by decide +kernel
theorem dX4_happenIn_20 : decode cX4_happenIn 20 = .ok (.iload_n 3, 1) := by decide +kernel
theorem dX4_happenIn_21 : decode cX4_happenIn 21 = .ok (.caload, 1) := by decide +kernel
theorem dX4_happenIn_22 : decode cX4_happenIn 22 = .ok (.bipush 46, 2) := by decide +kernel
theorem dX4_happenIn_24 : decode cX4_happenIn 24 = .ok (.if_icmp .ne 13, 3) := by decide +kernel
theorem dX4_happenIn_27 : decode cX4_happenIn 27 = .ok (.aload_n 0, 1) := by decide +kernel
theorem dX4_happenIn_28 : decode cX4_happenIn 28 = .ok (.aload_n 1, 1) := by decide +kernel
theorem dX4_happenIn_29 : decode cX4_happenIn 29 = .ok (.iload_n 3, 1) := by decide +kernel
theorem dX4_happenIn_30 : decode cX4_happenIn 30 = .ok (.iload_n 2, 1) := by decide +kernel
theorem dX4_happenIn_31 : decode cX4_happenIn 31 = .ok (.invokevirtual 45, 3) := by decide +kernel
theorem dX4_happenIn_34 : decode cX4_happenIn 34 = .ok (.goto 10, 3) := by decide +kernel
theorem dX4_happenIn_37 : decode cX4_happenIn 37 = .ok (.aload_n 0, 1) := by decide +kernel
theorem dX4_happenIn_38 : decode cX4_happenIn 38 = .ok (.aload_n 1, 1) := by decide +kernel
theorem dX4_happenIn_39 : decode cX4_happenIn 39 = .ok (.iload_n 3, 1) := by decide +kernel
theorem dX4_happenIn_40 : decode cX4_happenIn 40 = .ok (.iload_n 2, 1) := by decide +kernel
theorem dX4_happenIn_41 : decode cX4_happenIn 41 = .ok (.invokevirtual 49, 3) := by decide +kernel
theorem dX4_happenIn_44 : decode cX4_happenIn 44 = .ok (.istore 4, 2) := by decide +kernel
theorem dX4_happenIn_46 : decode cX4_happenIn 46 = .ok (.iload 4, 2) := by decide +kernel
theorem dX4_happenIn_48 : decode cX4_happenIn 48 = .ok (.ifCond .ne 4, 3) := by decide +kernel
theorem dX4_happenIn_51 : decode cX4_happenIn 51 = .ok (.return_, 1) := by decide +kernel
theorem dX4_happenIn_52 : decode cX4_happenIn 52 = .ok (.iload_n 2, 1) := by decide +kernel
theorem dX4_happenIn_53 : decode cX4_happenIn 53 = .ok (.iconst 1, 1) := by decide +kernel
theorem dX4_happenIn_54 : decode cX4_happenIn 54 = .ok (.iadd, 1) := by decide +kernel
theorem dX4_happenIn_55 : decode cX4_happenIn 55 = .ok (.istore_n 3, 1) := by decide +kernel
theorem dX4_happenIn_56 : decode cX4_happenIn 56 = .ok (.goto (-54), 3) := by decide +kernel
theorem dX4_happenIn_59 : decode cX4_happenIn 59 = .ok (.return_, 1) := by decide +kernel
theorem dX4_partEnd_0 : decode cX4_partEnd 0 = .ok (.iload_n 1, 1) := by decide +kernel
theorem dX4_partEnd_1 : decode cX4_partEnd 1 = .ok (.istore_n 2, 1) := by decide +kernel
theorem dX4_partEnd_2 : decode cX4_partEnd 2 = .ok (.iload_n 2, 1) := by decide +kernel
theorem dX4_partEnd_3 : decode cX4_partEnd 3 = .ok (.aload_n 0, 1) := by decide +kernel
theorem dX4_partEnd_4 : decode cX4_partEnd 4 = .ok (.getfield 15, 3) := by decide +kernel
theorem dX4_partEnd_7 : decode cX4_partEnd 7 = .ok (.if_icmp .ge 22, 3) := by decide +kernel
theorem dX4_partEnd_10 : decode cX4_partEnd 10 = .ok (.aload_n 0, 1) := by decide +kernel
theorem dX4_partEnd_11 : decode cX4_partEnd 11 = .ok (.getfield 9, 3) := by decide +kernel
theorem dX4_partEnd_14 : decode cX4_partEnd 14 = .ok (.iload_n 2, 1) := by decide +kernel
theorem dX4_partEnd_15 : decode cX4_partEnd 15 = .ok (.caload, 1) := by decide +kernel
theorem dX4_partEnd_16 : decode cX4_partEnd 16 = .ok (.bipush 59, 2) := by decide +kernel
theorem dX4_partEnd_18 : decode cX4_partEnd 18 = .ok (.if_icmp .ne 5, 3) := by decide +kernel
theorem dX4_partEnd_21 : decode cX4_partEnd 21 = .ok (.iload_n 2, 1) := by decide +kernel
theorem dX4_partEnd_22 : decode cX4_partEnd 22 = .ok (.ireturn, 1) := by decide +kernel
theorem dX4_partEnd_23 : decode cX4_partEnd 23 = .ok (.iinc 2 1, 3) := by decide +kernel
theorem dX4_partEnd_26 : decode cX4_partEnd 26 = .ok (.goto (-24), 3) := by decide +kernel
theorem dX4_partEnd_29 : decode cX4_partEnd 29 = .ok (.aload_n 0, 1) := by decide +kernel
theorem dX4_partEnd_30 : decode cX4_partEnd 30 = .ok (.getfield 15, 3) := by decide +kernel
theorem dX4_partEnd_33 : decode cX4_partEnd 33 = .ok (.ireturn, 1) := by decide +kernel
theorem dX4_restIn_0 : decode cX4_restIn 0 = .ok (.iconst 0, 1) := by decide +kernel
theorem dX4_restIn_1 : decode cX4_restIn 1 = .ok (.istore 4, 2) := by decide +kernel
theorem dX4_restIn_3 : decode cX4_restIn 3 = .ok (.iload_n 2, 1) := by decide +kernel
theorem dX4_restIn_4 : decode cX4_restIn 4 = .ok (.iconst 1, 1) := by decide +kernel
theorem dX4_restIn_5 : decode cX4_restIn 5 = .ok (.iadd, 1) := by decide +kernel
theorem dX4_restIn_6 : decode cX4_restIn 6 = .ok (.istore 5, 2) := by decide +kernel
theorem dX4_restIn_8 : decode cX4_restIn 8 = .ok (.iload 5, 2) := by decide +kernel
theorem dX4_restIn_10 : decode cX4_restIn 10 = .ok (.iload_n 3, 1) := by decide +kernel
theorem dX4_restIn_11 : decode cX4_restIn 11 = .ok (.if_icmp .ge 27, 3) := by decide +kernel
theorem dX4_restIn_14 : decode cX4_restIn 14 = .ok (.iload 4, 2) := by decide +kernel
theorem dX4_restIn_16 : decode cX4_restIn 16 = .ok (.bipush 10, 2) := by decide +kernel
theorem dX4_restIn_18 : decode cX4_restIn 18 = .ok (.imul, 1) := by decide +kernel
theorem dX4_restIn_19 : decode cX4_restIn 19 = .ok (.aload_n 0, 1) := by decide +kernel
theorem dX4_restIn_20 : decode cX4_restIn 20 = .ok (.getfield 9, 3) := by decide +kernel
theorem dX4_restIn_23 : decode cX4_restIn 23 = .ok (.iload 5, 2) := by decide +kernel
theorem dX4_restIn_25 : decode cX4_restIn 25 = .ok (.caload, 1) := by decide +kernel
theorem dX4_restIn_26 : decode cX4_restIn 26 = .ok (.bipush 48, 2) := by decide +kernel
theorem dX4_restIn_28 : decode cX4_restIn 28 = .ok (.isub, 1) := by decide +kernel
theorem dX4_restIn_29 : decode cX4_restIn 29 = .ok (.iadd, 1) := by decide +kernel
theorem dX4_restIn_30 : decode cX4_restIn 30 = .ok (.istore 4, 2) := by decide +kernel
theorem dX4_restIn_32 : decode cX4_restIn 32 = .ok (.iinc 5 1, 3) := by decide +kernel
theorem dX4_restIn_35 : decode cX4_restIn 35 = .ok (.goto (-27), 3) := by decide +kernel
theorem dX4_restIn_38 : decode cX4_restIn 38 = .ok (.aload_n 1, 1) := by decide +kernel
theorem dX4_restIn_39 : decode cX4_restIn 39 = .ok (.iload 4, 2) := by decide +kernel
theorem dX4_restIn_41 : decode cX4_restIn 41 = .ok (.invokevirtual 52, 3) := by decide +kernel
theorem dX4_restIn_44 : decode cX4_restIn 44 = .ok (.ifCond .ne 5, 3) := by decide +kernel
theorem dX4_restIn_47 : decode cX4_restIn 47 = .ok (.iconst 0, 1) := by decide +kernel
theorem dX4_restIn_48 : decode cX4_restIn 48 = .ok (.ireturn, 1) := by decide +kernel
theorem dX4_restIn_49 : decode cX4_restIn 49 = .ok (.aload_n 1, 1) := by decide +kernel
theorem dX4_restIn_50 : decode cX4_restIn 50 = .ok (.iload 4, 2) := by decide +kernel
theorem dX4_restIn_52 : decode cX4_restIn 52 = .ok (.invokevirtual 58, 3) := by decide +kernel
theorem dX4_restIn_55 : decode cX4_restIn 55 = .ok (.iconst 1, 1) := by decide +kernel
theorem dX4_restIn_56 : decode cX4_restIn 56 = .ok (.ireturn, 1) := by decide +kernel
theorem dX4_speakIn_0 : decode cX4_speakIn 0 = .ok (.aload_n 0, 1) := by decide +kernel
theorem dX4_speakIn_1 : decode cX4_speakIn 1 = .ok (.getfield 9, 3) := by decide +kernel
theorem dX4_speakIn_4 : decode cX4_speakIn 4 = .ok (.iload_n 2, 1) := by decide +kernel
theorem dX4_speakIn_5 : decode cX4_speakIn 5 = .ok (.caload, 1) := by decide +kernel
theorem dX4_speakIn_6 : decode cX4_speakIn 6 = .ok (.bipush 48, 2) := by decide +kernel
theorem dX4_speakIn_8 : decode cX4_speakIn 8 = .ok (.isub, 1) := by decide +kernel
theorem dX4_speakIn_9 : decode cX4_speakIn 9 = .ok (.istore 4, 2) := by decide +kernel
theorem dX4_speakIn_11 : decode cX4_speakIn 11 = .ok (.iload_n 3, 1) := by decide +kernel
theorem dX4_speakIn_12 : decode cX4_speakIn 12 = .ok (.iconst 2, 1) := by decide +kernel
theorem dX4_speakIn_13 : decode cX4_speakIn 13 = .ok (.isub, 1) := by decide +kernel
theorem dX4_speakIn_14 : decode cX4_speakIn 14 = .ok (.iload_n 2, 1) := by decide +kernel
theorem dX4_speakIn_15 : decode cX4_speakIn 15 = .ok (.if_icmp .le 20, 3) := by decide +kernel
theorem dX4_speakIn_18 : decode cX4_speakIn 18 = .ok (.aload_n 0, 1) := by decide +kernel
theorem dX4_speakIn_19 : decode cX4_speakIn 19 = .ok (.getfield 9, 3) := by decide +kernel
theorem dX4_speakIn_22 : decode cX4_speakIn 22 = .ok (.iload_n 3, 1) := by decide +kernel
theorem dX4_speakIn_23 : decode cX4_speakIn 23 = .ok (.iconst 2, 1) := by decide +kernel
theorem dX4_speakIn_24 : decode cX4_speakIn 24 = .ok (.isub, 1) := by decide +kernel
theorem dX4_speakIn_25 : decode cX4_speakIn 25 = .ok (.caload, 1) := by decide +kernel
theorem dX4_speakIn_26 : decode cX4_speakIn 26 = .ok (.bipush 35, 2) := by decide +kernel
theorem dX4_speakIn_28 : decode cX4_speakIn 28 = .ok (.if_icmp .ne 7, 3) := by decide +kernel
theorem dX4_speakIn_31 : decode cX4_speakIn 31 = .ok (.iconst 1, 1) := by decide +kernel
theorem dX4_speakIn_32 : decode cX4_speakIn 32 = .ok (.goto 4, 3) := by decide +kernel
theorem dX4_speakIn_35 : decode cX4_speakIn 35 = .ok (.iconst 0, 1) := by decide +kernel
theorem dX4_speakIn_36 : decode cX4_speakIn 36 = .ok (.istore 5, 2) := by decide +kernel
theorem dX4_speakIn_38 : decode cX4_speakIn 38 = .ok (.iload 5, 2) := by decide +kernel
theorem dX4_speakIn_40 : decode cX4_speakIn 40 = .ok (.ifCond .eq 17, 3) := by decide +kernel
theorem dX4_speakIn_43 : decode cX4_speakIn 43 = .ok (.aload_n 0, 1) := by decide +kernel
theorem dX4_speakIn_44 : decode cX4_speakIn 44 = .ok (.getfield 9, 3) := by decide +kernel
theorem dX4_speakIn_47 : decode cX4_speakIn 47 = .ok (.iload_n 3, 1) := by decide +kernel
theorem dX4_speakIn_48 : decode cX4_speakIn 48 = .ok (.iconst 1, 1) := by decide +kernel
theorem dX4_speakIn_49 : decode cX4_speakIn 49 = .ok (.isub, 1) := by decide +kernel
theorem dX4_speakIn_50 : decode cX4_speakIn 50 = .ok (.caload, 1) := by decide +kernel
theorem dX4_speakIn_51 : decode cX4_speakIn 51 = .ok (.bipush 48, 2) := by decide +kernel
theorem dX4_speakIn_53 : decode cX4_speakIn 53 = .ok (.isub, 1) := by decide +kernel
theorem dX4_speakIn_54 : decode cX4_speakIn 54 = .ok (.goto 4, 3) := by decide +kernel
theorem dX4_speakIn_57 : decode cX4_speakIn 57 = .ok (.iconst (-1), 1) := by decide +kernel
theorem dX4_speakIn_58 : decode cX4_speakIn 58 = .ok (.istore 6, 2) := by decide +kernel
theorem dX4_speakIn_60 : decode cX4_speakIn 60 = .ok (.iload 5, 2) := by decide +kernel
theorem dX4_speakIn_62 : decode cX4_speakIn 62 = .ok (.ifCond .eq 9, 3) := by decide +kernel
theorem dX4_speakIn_65 : decode cX4_speakIn 65 = .ok (.iload_n 3, 1) := by decide +kernel
theorem dX4_speakIn_66 : decode cX4_speakIn 66 = .ok (.iconst 2, 1) := by decide +kernel
theorem dX4_speakIn_67 : decode cX4_speakIn 67 = .ok (.isub, 1) := by decide +kernel
theorem dX4_speakIn_68 : decode cX4_speakIn 68 = .ok (.goto 4, 3) := by decide +kernel
theorem dX4_speakIn_71 : decode cX4_speakIn 71 = .ok (.iload_n 3, 1) := by decide +kernel
theorem dX4_speakIn_72 : decode cX4_speakIn 72 = .ok (.istore 7, 2) := by decide +kernel
theorem dX4_speakIn_74 : decode cX4_speakIn 74 = .ok (.iconst 0, 1) := by decide +kernel
theorem dX4_speakIn_75 : decode cX4_speakIn 75 = .ok (.istore 8, 2) := by decide +kernel
theorem dX4_speakIn_77 : decode cX4_speakIn 77 = .ok (.iload_n 2, 1) := by decide +kernel
theorem dX4_speakIn_78 : decode cX4_speakIn 78 = .ok (.iconst 2, 1) := by decide +kernel
theorem dX4_speakIn_79 : decode cX4_speakIn 79 = .ok (.iadd, 1) := by decide +kernel
theorem dX4_speakIn_80 : decode cX4_speakIn 80 = .ok (.istore 9, 2) := by decide +kernel
theorem dX4_speakIn_82 : decode cX4_speakIn 82 = .ok (.iload 9, 2) := by decide +kernel
theorem dX4_speakIn_84 : decode cX4_speakIn 84 = .ok (.iload 7, 2) := by decide +kernel
theorem dX4_speakIn_86 : decode cX4_speakIn 86 = .ok (.if_icmp .gt 72, 3) := by decide +kernel
theorem dX4_speakIn_89 : decode cX4_speakIn 89 = .ok (.iload 9, 2) := by decide +kernel
theorem dX4_speakIn_91 : decode cX4_speakIn 91 = .ok (.iload 7, 2) := by decide +kernel
theorem dX4_speakIn_93 : decode cX4_speakIn 93 = .ok (.if_icmp .ge 36, 3) := by decide +kernel
theorem dX4_speakIn_96 : decode cX4_speakIn 96 = .ok (.aload_n 0, 1) := by decide +kernel
theorem dX4_speakIn_97 : decode cX4_speakIn 97 = .ok (.getfield 9, 3) := by decide +kernel
theorem dX4_speakIn_100 : decode cX4_speakIn 100 = .ok (.iload 9, 2) := by decide +kernel
theorem dX4_speakIn_102 : decode cX4_speakIn 102 = .ok (.caload, 1) := by decide +kernel
theorem dX4_speakIn_103 : decode cX4_speakIn 103 = .ok (.bipush 44, 2) := by decide +kernel
theorem dX4_speakIn_105 : decode cX4_speakIn 105 = .ok (.if_icmp .eq 24, 3) := by decide +kernel
theorem dX4_speakIn_108 : decode cX4_speakIn 108 = .ok (.iload 8, 2) := by decide +kernel
theorem dX4_speakIn_110 : decode cX4_speakIn 110 = .ok (.bipush 10, 2) := by decide +kernel
theorem dX4_speakIn_112 : decode cX4_speakIn 112 = .ok (.imul, 1) := by decide +kernel
theorem dX4_speakIn_113 : decode cX4_speakIn 113 = .ok (.aload_n 0, 1) := by decide +kernel
theorem dX4_speakIn_114 : decode cX4_speakIn 114 = .ok (.getfield 9, 3) := by decide +kernel
theorem dX4_speakIn_117 : decode cX4_speakIn 117 = .ok (.iload 9, 2) := by decide +kernel
theorem dX4_speakIn_119 : decode cX4_speakIn 119 = .ok (.caload, 1) := by decide +kernel
theorem dX4_speakIn_120 : decode cX4_speakIn 120 = .ok (.bipush 48, 2) := by decide +kernel
theorem dX4_speakIn_122 : decode cX4_speakIn 122 = .ok (.isub, 1) := by decide +kernel
theorem dX4_speakIn_123 : decode cX4_speakIn 123 = .ok (.iadd, 1) := by decide +kernel
theorem dX4_speakIn_124 : decode cX4_speakIn 124 = .ok (.istore 8, 2) := by decide +kernel
theorem dX4_speakIn_126 : decode cX4_speakIn 126 = .ok (.goto 26, 3) := by decide +kernel
theorem dX4_speakIn_129 : decode cX4_speakIn 129 = .ok (.aload_n 1, 1) := by decide +kernel
theorem dX4_speakIn_130 : decode cX4_speakIn 130 = .ok (.invokevirtual 62, 3) := by decide +kernel
theorem dX4_speakIn_133 : decode cX4_speakIn 133 = .ok (.ifCond .ne 5, 3) := by decide +kernel
theorem dX4_speakIn_136 : decode cX4_speakIn 136 = .ok (.iconst 0, 1) := by decide +kernel
theorem dX4_speakIn_137 : decode cX4_speakIn 137 = .ok (.ireturn, 1) := by decide +kernel
theorem dX4_speakIn_138 : decode cX4_speakIn 138 = .ok (.aload_n 1, 1) := by decide +kernel
theorem dX4_speakIn_139 : decode cX4_speakIn 139 = .ok (.iload 4, 2) := by decide +kernel
theorem dX4_speakIn_141 : decode cX4_speakIn 141 = .ok (.iload 8, 2) := by decide +kernel
theorem dX4_speakIn_143 : decode cX4_speakIn 143 = .ok (.iload 6, 2) := by decide +kernel
theorem dX4_speakIn_145 : decode cX4_speakIn 145 = .ok (.invokevirtual 66, 3) := by decide +kernel
theorem dX4_speakIn_148 : decode cX4_speakIn 148 = .ok (.pop, 1) := by decide +kernel
theorem dX4_speakIn_149 : decode cX4_speakIn 149 = .ok (.iconst 0, 1) := by decide +kernel
theorem dX4_speakIn_150 : decode cX4_speakIn 150 = .ok (.istore 8, 2) := by decide +kernel
theorem dX4_speakIn_152 : decode cX4_speakIn 152 = .ok (.iinc 9 1, 3) := by decide +kernel
theorem dX4_speakIn_155 : decode cX4_speakIn 155 = .ok (.goto (-73), 3) := by decide +kernel
theorem dX4_speakIn_158 : decode cX4_speakIn 158 = .ok (.iconst 1, 1) := by decide +kernel
theorem dX4_speakIn_159 : decode cX4_speakIn 159 = .ok (.ireturn, 1) := by decide +kernel
theorem dX5_init_0 : decode cX5_init 0 = .ok (.aload_n 0, 1) := by decide +kernel
theorem dX5_init_1 : decode cX5_init 1 = .ok (.invokespecial 1, 3) := by decide +kernel
theorem dX5_init_4 : decode cX5_init 4 = .ok (.new 7, 3) := by decide +kernel
theorem dX5_init_7 : decode cX5_init 7 = .ok (.dup, 1) := by decide +kernel
theorem dX5_init_8 : decode cX5_init 8 = .ok (.invokespecial 9, 3) := by decide +kernel
theorem dX5_init_11 : decode cX5_init 11 = .ok (.astore_n 1, 1) := by decide +kernel
theorem dX5_init_12 : decode cX5_init 12 = .ok (.aload_n 0, 1) := by decide +kernel
theorem dX5_init_13 : decode cX5_init 13 = .ok (.aload_n 1, 1) := by decide +kernel
theorem dX5_init_14 : decode cX5_init 14 = .ok (.putfield 10, 3) := by decide +kernel
theorem dX5_init_17 : decode cX5_init 17 = .ok (.aload_n 0, 1) := by decide +kernel
theorem dX5_init_18 : decode cX5_init 18 = .ok (.new 16, 3) := by decide +kernel
theorem dX5_init_21 : decode cX5_init 21 = .ok (.dup, 1) := by decide +kernel
theorem dX5_init_22 : decode cX5_init 22 = .ok (.aload_n 1, 1) := by decide +kernel
theorem dX5_init_23 : decode cX5_init 23 = .ok (.invokespecial 18, 3) := by decide +kernel
theorem dX5_init_26 : decode cX5_init 26 = .ok (.putfield 21, 3) := by decide +kernel
theorem dX5_init_29 : decode cX5_init 29 = .ok (.aload_n 0, 1) := by decide +kernel
theorem dX5_init_30 : decode cX5_init 30 = .ok (.new 25, 3) := by decide +kernel
theorem dX5_init_33 : decode cX5_init 33 = .ok (.dup, 1) := by decide +kernel
theorem dX5_init_34 : decode cX5_init 34 = .ok (.invokespecial 27, 3) := by decide +kernel
theorem dX5_init_37 : decode cX5_init 37 = .ok (.putfield 28, 3) := by decide +kernel
theorem dX5_init_40 : decode cX5_init 40 = .ok (.aload_n 0, 1) := by decide +kernel
theorem dX5_init_41 : decode cX5_init 41 = .ok (.new 32, 3) := by decide +kernel
theorem dX5_init_44 : decode cX5_init 44 = .ok (.dup, 1) := by decide +kernel
theorem dX5_init_45 : decode cX5_init 45 = .ok (.invokespecial 34, 3) := by decide +kernel
theorem dX5_init_48 : decode cX5_init 48 = .ok (.putfield 35, 3) := by decide +kernel
theorem dX5_init_51 : decode cX5_init 51 = .ok (.return_, 1) := by decide +kernel
theorem dX5_say_0 : decode cX5_say 0 = .ok (.iload_n 1, 1) := by decide +kernel
theorem dX5_say_1 : decode cX5_say 1 = .ok (.invokestatic 39, 3) := by decide +kernel
theorem dX5_say_4 : decode cX5_say 4 = .ok (.iload_n 2, 1) := by decide +kernel
theorem dX5_say_5 : decode cX5_say 5 = .ok (.iconst 1, 1) := by decide +kernel
theorem dX5_say_6 : decode cX5_say 6 = .ok (.bipush 99, 2) := by decide +kernel
theorem dX5_say_8 : decode cX5_say 8 = .ok (.invokestatic 43, 3) := by decide +kernel
theorem dX5_say_11 : decode cX5_say 11 = .ok (.ifCond .eq 17, 3) := by decide +kernel
theorem dX5_say_14 : decode cX5_say 14 = .ok (.iload_n 3, 1) := by decide +kernel
theorem dX5_say_15 : decode cX5_say 15 = .ok (.iconst (-1), 1) := by decide +kernel
theorem dX5_say_16 : decode cX5_say 16 = .ok (.bipush 9, 2) := by decide +kernel
theorem dX5_say_18 : decode cX5_say 18 = .ok (.invokestatic 43, 3) := by decide +kernel
theorem dX5_say_21 : decode cX5_say 21 = .ok (.ifCond .eq 7, 3) := by decide +kernel
theorem dX5_say_24 : decode cX5_say 24 = .ok (.iconst 1, 1) := by decide +kernel
theorem dX5_say_25 : decode cX5_say 25 = .ok (.goto 4, 3) := by decide +kernel
theorem dX5_say_28 : decode cX5_say 28 = .ok (.iconst 0, 1) := by decide +kernel
theorem dX5_say_29 : decode cX5_say 29 = .ok (.invokestatic 47, 3) := by decide +kernel
theorem dX5_say_32 : decode cX5_say 32 = .ok (.aload_n 0, 1) := by decide +kernel
theorem dX5_say_33 : decode cX5_say 33 = .ok (.getfield 10, 3) := by decide +kernel
theorem dX5_say_36 : decode cX5_say 36 = .ok (.invokevirtual 51, 3) := by decide +kernel
theorem dX5_say_39 : decode cX5_say 39 = .ok (.ifCond .ne 13, 3) := by decide +kernel
theorem dX5_say_42 : decode cX5_say 42 = .ok (.new 55, 3) := by decide +kernel
theorem dX5_say_45 : decode cX5_say 45 = .ok (.dup, 1) := by decide +kernel
theorem dX5_say_46 : decode cX5_say 46 = .ok (.ldc 57, 2) := by decide +kernel
theorem dX5_say_48 : decode cX5_say 48 = .ok (.invokespecial 59, 3) := by decide +kernel
theorem dX5_say_51 : decode cX5_say 51 = .ok (.athrow, 1) := by decide +kernel
theorem dX5_say_52 : decode cX5_say 52 = .ok (.aload_n 0, 1) := by decide +kernel
theorem dX5_say_53 : decode cX5_say 53 = .ok (.getfield 28, 3) := by decide +kernel
theorem dX5_say_56 : decode cX5_say 56 = .ok (.aload_n 0, 1) := by decide +kernel
theorem dX5_say_57 : decode cX5_say 57 = .ok (.getfield 10, 3) := by decide +kernel
theorem dX5_say_60 : decode cX5_say 60 = .ok (.invokevirtual 62, 3) := by decide +kernel
theorem dX5_say_63 : decode cX5_say 63 = .ok (.aload_n 0, 1) := by decide +kernel
theorem dX5_say_64 : decode cX5_say 64 = .ok (.getfield 10, 3) := by decide +kernel
theorem dX5_say_67 : decode cX5_say 67 = .ok (.iload_n 1, 1) := by decide +kernel
theorem dX5_say_68 : decode cX5_say 68 = .ok (.iload_n 2, 1) := by decide +kernel
theorem dX5_say_69 : decode cX5_say 69 = .ok (.iload_n 3, 1) := by decide +kernel
theorem dX5_say_70 : decode cX5_say 70 = .ok (.invokevirtual 65, 3) := by decide +kernel
theorem dX5_say_73 : decode cX5_say 73 = .ok (.ireturn, 1) := by decide +kernel
theorem dX5_pass_0 : decode cX5_pass 0 = .ok (.iload_n 1, 1) := by decide +kernel
theorem dX5_pass_1 : decode cX5_pass 1 = .ok (.iconst 1, 1) := by decide +kernel
theorem dX5_pass_2 : decode cX5_pass 2 = .ok (.bipush 50, 2) := by decide +kernel
theorem dX5_pass_4 : decode cX5_pass 4 = .ok (.invokestatic 43, 3) := by decide +kernel
theorem dX5_pass_7 : decode cX5_pass 7 = .ok (.invokestatic 47, 3) := by decide +kernel
theorem dX5_pass_10 : decode cX5_pass 10 = .ok (.aload_n 0, 1) := by decide +kernel
theorem dX5_pass_11 : decode cX5_pass 11 = .ok (.getfield 10, 3) := by decide +kernel
theorem dX5_pass_14 : decode cX5_pass 14 = .ok (.iload_n 1, 1) := by decide +kernel
theorem dX5_pass_15 : decode cX5_pass 15 = .ok (.invokevirtual 69, 3) := by decide +kernel
theorem dX5_pass_18 : decode cX5_pass 18 = .ok (.ifCond .ne 13, 3) := by decide +kernel
theorem dX5_pass_21 : decode cX5_pass 21 = .ok (.new 55, 3) := by decide +kernel
theorem dX5_pass_24 : decode cX5_pass 24 = .ok (.dup, 1) := by decide +kernel
theorem dX5_pass_25 : decode cX5_pass 25 = .ok (.ldc 73, 2) := by decide +kernel
theorem dX5_pass_27 : decode cX5_pass 27 = .ok (.invokespecial 59, 3) := by decide +kernel
theorem dX5_pass_30 : decode cX5_pass 30 = .ok (.athrow, 1) := by decide +kernel
theorem dX5_pass_31 : decode cX5_pass 31 = .ok (.aload_n 0, 1) := by decide +kernel
theorem dX5_pass_32 : decode cX5_pass 32 = .ok (.getfield 28, 3) := by decide +kernel
theorem dX5_pass_35 : decode cX5_pass 35 = .ok (.aload_n 0, 1) := by decide +kernel
theorem dX5_pass_36 : decode cX5_pass 36 = .ok (.getfield 10, 3) := by decide +kernel
theorem dX5_pass_39 : decode cX5_pass 39 = .ok (.invokevirtual 62, 3) := by decide +kernel
theorem dX5_pass_42 : decode cX5_pass 42 = .ok (.aload_n 0, 1) := by decide +kernel
theorem dX5_pass_43 : decode cX5_pass 43 = .ok (.getfield 10, 3) := by decide +kernel
theorem dX5_pass_46 : decode cX5_pass 46 = .ok (.iload_n 1, 1) := by decide +kernel
theorem dX5_pass_47 : decode cX5_pass 47 = .ok (.invokevirtual 75, 3) := by decide +kernel
theorem dX5_pass_50 : decode cX5_pass 50 = .ok (.aload_n 0, 1) := by decide +kernel
theorem dX5_pass_51 : decode cX5_pass 51 = .ok (.getfield 10, 3) := by decide +kernel
theorem dX5_pass_54 : decode cX5_pass 54 = .ok (.getfield 78, 3) := by decide +kernel
theorem dX5_pass_57 : decode cX5_pass 57 = .ok (.ireturn, 1) := by decide +kernel
theorem dX5_wall_0 : decode cX5_wall 0 = .ok (.iload_n 1, 1) := by decide +kernel
theorem dX5_wall_1 : decode cX5_wall 1 = .ok (.invokestatic 39, 3) := by decide +kernel
theorem dX5_wall_4 : decode cX5_wall 4 = .ok (.iload_n 2, 1) := by decide +kernel
theorem dX5_wall_5 : decode cX5_wall 5 = .ok (.iconst 0, 1) := by decide +kernel
theorem dX5_wall_6 : decode cX5_wall 6 = .ok (.iconst 3, 1) := by decide +kernel
theorem dX5_wall_7 : decode cX5_wall 7 = .ok (.invokestatic 43, 3) := by decide +kernel
theorem dX5_wall_10 : decode cX5_wall 10 = .ok (.invokestatic 47, 3) := by decide +kernel
theorem dX5_wall_13 : decode cX5_wall 13 = .ok (.aload_n 0, 1) := by decide +kernel
theorem dX5_wall_14 : decode cX5_wall 14 = .ok (.getfield 28, 3) := by decide +kernel
theorem dX5_wall_17 : decode cX5_wall 17 = .ok (.aload_n 0, 1) := by decide +kernel
theorem dX5_wall_18 : decode cX5_wall 18 = .ok (.getfield 10, 3) := by decide +kernel
theorem dX5_wall_21 : decode cX5_wall 21 = .ok (.invokevirtual 62, 3) := by decide +kernel
theorem dX5_wall_24 : decode cX5_wall 24 = .ok (.aload_n 0, 1) := by decide +kernel
theorem dX5_wall_25 : decode cX5_wall 25 = .ok (.getfield 10, 3) := by decide +kernel
theorem dX5_wall_28 : decode cX5_wall 28 = .ok (.getfield 82, 3) := by decide +kernel
theorem dX5_wall_31 : decode cX5_wall 31 = .ok (.iload_n 1, 1) := by decide +kernel
theorem dX5_wall_32 : decode cX5_wall 32 = .ok (.iaload, 1) := by decide +kernel
theorem dX5_wall_33 : decode cX5_wall 33 = .ok (.istore_n 3, 1) := by decide +kernel
theorem dX5_wall_34 : decode cX5_wall 34 = .ok (.aload_n 0, 1) := by decide +kernel
theorem dX5_wall_35 : decode cX5_wall 35 = .ok (.getfield 10, 3) := by decide +kernel
theorem dX5_wall_38 : decode cX5_wall 38 = .ok (.getfield 82, 3) := by decide +kernel
theorem dX5_wall_41 : decode cX5_wall 41 = .ok (.iload_n 1, 1) := by decide +kernel
theorem dX5_wall_42 : decode cX5_wall 42 = .ok (.iload_n 2, 1) := by decide +kernel
theorem dX5_wall_43 : decode cX5_wall 43 = .ok (.iastore, 1) := by decide +kernel
theorem dX5_wall_44 : decode cX5_wall 44 = .ok (.iload_n 3, 1) := by decide +kernel
theorem dX5_wall_45 : decode cX5_wall 45 = .ok (.ireturn, 1) := by decide +kernel
theorem dX5_set_0 : decode cX5_set 0 = .ok (.iload_n 1, 1) := by decide +kernel
theorem dX5_set_1 : decode cX5_set 1 = .ok (.iconst 0, 1) := by decide +kernel
theorem dX5_set_2 : decode cX5_set 2 = .ok (.iconst 2, 1) := by decide +kernel
theorem dX5_set_3 : decode cX5_set 3 = .ok (.invokestatic 43, 3) := by decide +kernel
theorem dX5_set_6 : decode cX5_set 6 = .ok (.ifCond .ne 13, 3) := by decide +kernel
theorem dX5_set_9 : decode cX5_set 9 = .ok (.new 86, 3) := by decide +kernel
theorem dX5_set_12 : decode cX5_set 12 = .ok (.dup, 1) := by decide +kernel
theorem dX5_set_13 : decode cX5_set 13 = .ok (.ldc 88, 2) := by decide +kernel
theorem dX5_set_15 : decode cX5_set 15 = .ok (.invokespecial 90, 3) := by decide +kernel
theorem dX5_set_18 : decode cX5_set 18 = .ok (.athrow, 1) := by decide +kernel
theorem dX5_set_19 : decode cX5_set 19 = .ok (.iload_n 2, 1) := by decide +kernel
theorem dX5_set_20 : decode cX5_set 20 = .ok (.getstatic 91, 3) := by decide +kernel
theorem dX5_set_23 : decode cX5_set 23 = .ok (.iload_n 1, 1) := by decide +kernel
theorem dX5_set_24 : decode cX5_set 24 = .ok (.iaload, 1) := by decide +kernel
theorem dX5_set_25 : decode cX5_set 25 = .ok (.getstatic 94, 3) := by decide +kernel
theorem dX5_set_28 : decode cX5_set 28 = .ok (.iload_n 1, 1) := by decide +kernel
theorem dX5_set_29 : decode cX5_set 29 = .ok (.iaload, 1) := by decide +kernel
theorem dX5_set_30 : decode cX5_set 30 = .ok (.invokestatic 43, 3) := by decide +kernel
theorem dX5_set_33 : decode cX5_set 33 = .ok (.invokestatic 47, 3) := by decide +kernel
theorem dX5_set_36 : decode cX5_set 36 = .ok (.aload_n 0, 1) := by decide +kernel
theorem dX5_set_37 : decode cX5_set 37 = .ok (.getfield 28, 3) := by decide +kernel
theorem dX5_set_40 : decode cX5_set 40 = .ok (.aload_n 0, 1) := by decide +kernel
theorem dX5_set_41 : decode cX5_set 41 = .ok (.getfield 10, 3) := by decide +kernel
theorem dX5_set_44 : decode cX5_set 44 = .ok (.invokevirtual 62, 3) := by decide +kernel
theorem dX5_set_47 : decode cX5_set 47 = .ok (.aload_n 0, 1) := by decide +kernel
theorem dX5_set_48 : decode cX5_set 48 = .ok (.getfield 10, 3) := by decide +kernel
theorem dX5_set_51 : decode cX5_set 51 = .ok (.getfield 97, 3) := by decide +kernel
theorem dX5_set_54 : decode cX5_set 54 = .ok (.iload_n 1, 1) := by decide +kernel
theorem dX5_set_55 : decode cX5_set 55 = .ok (.iaload, 1) := by decide +kernel
theorem dX5_set_56 : decode cX5_set 56 = .ok (.istore_n 3, 1) := by decide +kernel
theorem dX5_set_57 : decode cX5_set 57 = .ok (.aload_n 0, 1) := by decide +kernel
theorem dX5_set_58 : decode cX5_set 58 = .ok (.getfield 10, 3) := by decide +kernel
theorem dX5_set_61 : decode cX5_set 61 = .ok (.getfield 97, 3) := by decide +kernel
theorem dX5_set_64 : decode cX5_set 64 = .ok (.iload_n 1, 1) := by decide +kernel
theorem dX5_set_65 : decode cX5_set 65 = .ok (.iload_n 2, 1) := by decide +kernel
theorem dX5_set_66 : decode cX5_set 66 = .ok (.iastore, 1) := by decide +kernel
theorem dX5_set_67 : decode cX5_set 67 = .ok (.iload_n 3, 1) := by decide +kernel
theorem dX5_set_68 : decode cX5_set 68 = .ok (.ireturn, 1) := by decide +kernel
theorem dX5_append_0 : decode cX5_append 0 = .ok (.iload_n 1, 1) := by decide +kernel
theorem dX5_append_1 : decode cX5_append 1 = .ok (.bipush 33, 2) := by decide +kernel
theorem dX5_append_3 : decode cX5_append 3 = .ok (.bipush 126, 2) := by decide +kernel
theorem dX5_append_5 : decode cX5_append 5 = .ok (.invokestatic 43, 3) := by decide +kernel
theorem dX5_append_8 : decode cX5_append 8 = .ok (.invokestatic 47, 3) := by decide +kernel
theorem dX5_append_11 : decode cX5_append 11 = .ok (.aload_n 0, 1) := by decide +kernel
theorem dX5_append_12 : decode cX5_append 12 = .ok (.getfield 35, 3) := by decide +kernel
theorem dX5_append_15 : decode cX5_append 15 = .ok (.getfield 100, 3) := by decide +kernel
theorem dX5_append_18 : decode cX5_append 18 = .ok (.bipush 60, 2) := by decide +kernel
theorem dX5_append_20 : decode cX5_append 20 = .ok (.if_icmp .lt 13, 3) := by decide +kernel
theorem dX5_append_23 : decode cX5_append 23 = .ok (.new 55, 3) := by decide +kernel
theorem dX5_append_26 : decode cX5_append 26 = .ok (.dup, 1) := by decide +kernel
theorem dX5_append_27 : decode cX5_append 27 = .ok (.ldc 103, 2) := by decide +kernel
theorem dX5_append_29 : decode cX5_append 29 = .ok (.invokespecial 59, 3) := by decide +kernel
theorem dX5_append_32 : decode cX5_append 32 = .ok (.athrow, 1) := by decide +kernel
theorem dX5_append_33 : decode cX5_append 33 = .ok (.aload_n 0, 1) := by decide +kernel
theorem dX5_append_34 : decode cX5_append 34 = .ok (.getfield 35, 3) := by decide +kernel
theorem dX5_append_37 : decode cX5_append 37 = .ok (.iload_n 1, 1) := by decide +kernel
theorem dX5_append_38 : decode cX5_append 38 = .ok (.i2c, 1) := by decide +kernel
theorem dX5_append_39 : decode cX5_append 39 = .ok (.invokevirtual 105, 3) := by decide +kernel
theorem dX5_append_42 : decode cX5_append 42 = .ok (.aload_n 0, 1) := by decide +kernel
theorem dX5_append_43 : decode cX5_append 43 = .ok (.getfield 35, 3) := by decide +kernel
theorem dX5_append_46 : decode cX5_append 46 = .ok (.getfield 100, 3) := by decide +kernel
theorem dX5_append_49 : decode cX5_append 49 = .ok (.ireturn, 1) := by decide +kernel
theorem dX5_clearBuffer_0 : decode cX5_clearBuffer 0 = .ok (.aload_n 0, 1) := by decide +kernel
theorem dX5_clearBuffer_1 : decode cX5_clearBuffer 1 = .ok (.getfield 35, 3) := by decide +kernel
theorem dX5_clearBuffer_4 : decode cX5_clearBuffer 4 = .ok (.getfield 100, 3) := by decide +kernel
theorem dX5_clearBuffer_7 : decode cX5_clearBuffer 7 = .ok (.istore_n 1, 1) := by decide +kernel
theorem dX5_clearBuffer_8 : decode cX5_clearBuffer 8 = .ok (.aload_n 0, 1) := by decide +kernel
theorem dX5_clearBuffer_9 : decode cX5_clearBuffer 9 = .ok (.getfield 35, 3) := by decide +kernel
theorem dX5_clearBuffer_12 : decode cX5_clearBuffer 12 = .ok (.iconst 0, 1) := by decide +kernel
theorem dX5_clearBuffer_13 : decode cX5_clearBuffer 13 = .ok (.putfield 100, 3) := by decide +kernel
theorem dX5_clearBuffer_16 : decode cX5_clearBuffer 16 = .ok (.iload_n 1, 1) := by decide +kernel
theorem dX5_clearBuffer_17 : decode cX5_clearBuffer 17 = .ok (.ireturn, 1) := by decide +kernel
theorem dX5_firstError_0 : decode cX5_firstError 0 = .ok (.aload_n 0, 1) := by decide +kernel
theorem dX5_firstError_1 : decode cX5_firstError 1 = .ok (.getfield 35, 3) := by decide +kernel
theorem dX5_firstError_4 : decode cX5_firstError 4 = .ok (.invokevirtual 109, 3) := by decide +kernel
theorem dX5_firstError_7 : decode cX5_firstError 7 = .ok (.ireturn, 1) := by decide +kernel
theorem dX5_talk_0 : decode cX5_talk 0 = .ok (.aload_n 0, 1) := by decide +kernel
theorem dX5_talk_1 : decode cX5_talk 1 = .ok (.getfield 35, 3) := by decide +kernel
theorem dX5_talk_4 : decode cX5_talk 4 = .ok (.invokevirtual 113, 3) := by decide +kernel
theorem dX5_talk_7 : decode cX5_talk 7 = .ok (.invokestatic 47, 3) := by decide +kernel
theorem dX5_talk_10 : decode cX5_talk 10 = .ok (.aload_n 0, 1) := by decide +kernel
theorem dX5_talk_11 : decode cX5_talk 11 = .ok (.getfield 28, 3) := by decide +kernel
theorem dX5_talk_14 : decode cX5_talk 14 = .ok (.aload_n 0, 1) := by decide +kernel
theorem dX5_talk_15 : decode cX5_talk 15 = .ok (.getfield 10, 3) := by decide +kernel
theorem dX5_talk_18 : decode cX5_talk 18 = .ok (.invokevirtual 62, 3) := by decide +kernel
theorem dX5_talk_21 : decode cX5_talk 21 = .ok (.aload_n 0, 1) := by decide +kernel
theorem dX5_talk_22 : decode cX5_talk 22 = .ok (.getfield 10, 3) := by decide +kernel
theorem dX5_talk_25 : decode cX5_talk 25 = .ok (.getfield 116, 3) := by decide +kernel
theorem dX5_talk_28 : decode cX5_talk 28 = .ok (.istore_n 1, 1) := by decide +kernel
theorem dX5_talk_29 : decode cX5_talk 29 = .ok (.aload_n 0, 1) := by decide +kernel
theorem dX5_talk_30 : decode cX5_talk 30 = .ok (.getfield 35, 3) := by decide +kernel
theorem dX5_talk_33 : decode cX5_talk 33 = .ok (.aload_n 0, 1) := by decide +kernel
theorem dX5_talk_34 : decode cX5_talk 34 = .ok (.getfield 10, 3) := by decide +kernel
theorem dX5_talk_37 : decode cX5_talk 37 = .ok (.invokevirtual 119, 3) := by decide +kernel
theorem dX5_talk_40 : decode cX5_talk 40 = .ok (.aload_n 0, 1) := by decide +kernel
theorem dX5_talk_41 : decode cX5_talk 41 = .ok (.getfield 35, 3) := by decide +kernel
theorem dX5_talk_44 : decode cX5_talk 44 = .ok (.iconst 0, 1) := by decide +kernel
theorem dX5_talk_45 : decode cX5_talk 45 = .ok (.putfield 100, 3) := by decide +kernel
theorem dX5_talk_48 : decode cX5_talk 48 = .ok (.aload_n 0, 1) := by decide +kernel
theorem dX5_talk_49 : decode cX5_talk 49 = .ok (.getfield 10, 3) := by decide +kernel
theorem dX5_talk_52 : decode cX5_talk 52 = .ok (.getfield 116, 3) := by decide +kernel
theorem dX5_talk_55 : decode cX5_talk 55 = .ok (.iload_n 1, 1) := by decide +kernel
theorem dX5_talk_56 : decode cX5_talk 56 = .ok (.isub, 1) := by decide +kernel
theorem dX5_talk_57 : decode cX5_talk 57 = .ok (.ireturn, 1) := by decide +kernel
theorem dX5_undo_0 : decode cX5_undo 0 = .ok (.aload_n 0, 1) := by decide +kernel
theorem dX5_undo_1 : decode cX5_undo 1 = .ok (.getfield 28, 3) := by decide +kernel
theorem dX5_undo_4 : decode cX5_undo 4 = .ok (.invokevirtual 122, 3) := by decide +kernel
theorem dX5_undo_7 : decode cX5_undo 7 = .ok (.astore_n 1, 1) := by decide +kernel
theorem dX5_undo_8 : decode cX5_undo 8 = .ok (.aload_n 1, 1) := by decide +kernel
theorem dX5_undo_9 : decode cX5_undo 9 = .ok (.ifnonnull 13, 3) := by decide +kernel
theorem dX5_undo_12 : decode cX5_undo 12 = .ok (.new 55, 3) := by decide +kernel
theorem dX5_undo_15 : decode cX5_undo 15 = .ok (.dup, 1) := by decide +kernel
theorem dX5_undo_16 : decode cX5_undo 16 = .ok (.ldc 126, 2) := by decide +kernel
theorem dX5_undo_18 : decode cX5_undo 18 = .ok (.invokespecial 59, 3) := by decide +kernel
theorem dX5_undo_21 : decode cX5_undo 21 = .ok (.athrow, 1) := by decide +kernel
theorem dX5_undo_22 : decode cX5_undo 22 = .ok (.aload_n 0, 1) := by decide +kernel
theorem dX5_undo_23 : decode cX5_undo 23 = .ok (.getfield 10, 3) := by decide +kernel
theorem dX5_undo_26 : decode cX5_undo 26 = .ok (.aload_n 1, 1) := by decide +kernel
theorem dX5_undo_27 : decode cX5_undo 27 = .ok (.invokevirtual 128, 3) := by decide +kernel
theorem dX5_undo_30 : decode cX5_undo 30 = .ok (.aload_n 0, 1) := by decide +kernel
theorem dX5_undo_31 : decode cX5_undo 31 = .ok (.getfield 28, 3) := by decide +kernel
theorem dX5_undo_34 : decode cX5_undo 34 = .ok (.invokevirtual 131, 3) := by decide +kernel
theorem dX5_undo_37 : decode cX5_undo 37 = .ok (.aload_n 0, 1) := by decide +kernel
theorem dX5_undo_38 : decode cX5_undo 38 = .ok (.getfield 28, 3) := by decide +kernel
theorem dX5_undo_41 : decode cX5_undo 41 = .ok (.getfield 134, 3) := by decide +kernel
theorem dX5_undo_44 : decode cX5_undo 44 = .ok (.ireturn, 1) := by decide +kernel
theorem dX5_keep_0 : decode cX5_keep 0 = .ok (.aload_n 0, 1) := by decide +kernel
theorem dX5_keep_1 : decode cX5_keep 1 = .ok (.getfield 137, 3) := by decide +kernel
theorem dX5_keep_4 : decode cX5_keep 4 = .ok (.ifnonnull 14, 3) := by decide +kernel
theorem dX5_keep_7 : decode cX5_keep 7 = .ok (.aload_n 0, 1) := by decide +kernel
theorem dX5_keep_8 : decode cX5_keep 8 = .ok (.new 7, 3) := by decide +kernel
theorem dX5_keep_11 : decode cX5_keep 11 = .ok (.dup, 1) := by decide +kernel
theorem dX5_keep_12 : decode cX5_keep 12 = .ok (.invokespecial 9, 3) := by decide +kernel
theorem dX5_keep_15 : decode cX5_keep 15 = .ok (.putfield 137, 3) := by decide +kernel
theorem dX5_keep_18 : decode cX5_keep 18 = .ok (.aload_n 0, 1) := by decide +kernel
theorem dX5_keep_19 : decode cX5_keep 19 = .ok (.getfield 137, 3) := by decide +kernel
theorem dX5_keep_22 : decode cX5_keep 22 = .ok (.aload_n 0, 1) := by decide +kernel
theorem dX5_keep_23 : decode cX5_keep 23 = .ok (.getfield 10, 3) := by decide +kernel
theorem dX5_keep_26 : decode cX5_keep 26 = .ok (.invokevirtual 128, 3) := by decide +kernel
theorem dX5_keep_29 : decode cX5_keep 29 = .ok (.aload_n 0, 1) := by decide +kernel
theorem dX5_keep_30 : decode cX5_keep 30 = .ok (.getfield 10, 3) := by decide +kernel
theorem dX5_keep_33 : decode cX5_keep 33 = .ok (.getfield 78, 3) := by decide +kernel
theorem dX5_keep_36 : decode cX5_keep 36 = .ok (.ireturn, 1) := by decide +kernel
theorem dX5_restore_0 : decode cX5_restore 0 = .ok (.aload_n 0, 1) := by decide +kernel
theorem dX5_restore_1 : decode cX5_restore 1 = .ok (.getfield 137, 3) := by decide +kernel
theorem dX5_restore_4 : decode cX5_restore 4 = .ok (.ifnonnull 13, 3) := by decide +kernel
theorem dX5_restore_7 : decode cX5_restore 7 = .ok (.new 55, 3) := by decide +kernel
theorem dX5_restore_10 : decode cX5_restore 10 = .ok (.dup, 1) := by decide +kernel
theorem dX5_restore_11 : decode cX5_restore 11 = .ok (.ldc 140, 2) := by decide +kernel
theorem dX5_restore_13 : decode cX5_restore 13 = .ok (.invokespecial 59, 3) := by decide +kernel
theorem dX5_restore_16 : decode cX5_restore 16 = .ok (.athrow, 1) := by decide +kernel
theorem dX5_restore_17 : decode cX5_restore 17 = .ok (.aload_n 0, 1) := by decide +kernel
theorem dX5_restore_18 : decode cX5_restore 18 = .ok (.getfield 28, 3) := by decide +kernel
theorem dX5_restore_21 : decode cX5_restore 21 = .ok (.aload_n 0, 1) := by decide +kernel
theorem dX5_restore_22 : decode cX5_restore 22 = .ok (.getfield 10, 3) := by decide +kernel
theorem dX5_restore_25 : decode cX5_restore 25 = .ok (.invokevirtual 62, 3) := by decide +kernel
theorem dX5_restore_28 : decode cX5_restore 28 = .ok (.aload_n 0, 1) := by decide +kernel
theorem dX5_restore_29 : decode cX5_restore 29 = .ok (.getfield 10, 3) := by decide +kernel
theorem dX5_restore_32 : decode cX5_restore 32 = .ok (.aload_n 0, 1) := by decide +kernel
theorem dX5_restore_33 : decode cX5_restore 33 = .ok (.getfield 137, 3) := by decide +kernel
theorem dX5_restore_36 : decode cX5_restore 36 = .ok (.invokevirtual 128, 3) := by decide +kernel
theorem dX5_restore_39 : decode cX5_restore 39 = .ok (.aload_n 0, 1) := by decide +kernel
theorem dX5_restore_40 : decode cX5_restore 40 = .ok (.getfield 10, 3) := by decide +kernel
theorem dX5_restore_43 : decode cX5_restore 43 = .ok (.getfield 78, 3) := by decide +kernel
theorem dX5_restore_46 : decode cX5_restore 46 = .ok (.ireturn, 1) := by decide +kernel
theorem dX5_said_0 : decode cX5_said 0 = .ok (.iload_n 1, 1) := by decide +kernel
theorem dX5_said_1 : decode cX5_said 1 = .ok (.ifCond .lt 16, 3) := by decide +kernel
theorem dX5_said_4 : decode cX5_said 4 = .ok (.iload_n 2, 1) := by decide +kernel
theorem dX5_said_5 : decode cX5_said 5 = .ok (.iconst 0, 1) := by decide +kernel
theorem dX5_said_6 : decode cX5_said 6 = .ok (.iconst 5, 1) := by decide +kernel
theorem dX5_said_7 : decode cX5_said 7 = .ok (.invokestatic 43, 3) := by decide +kernel
theorem dX5_said_10 : decode cX5_said 10 = .ok (.ifCond .eq 7, 3) := by decide +kernel
theorem dX5_said_13 : decode cX5_said 13 = .ok (.iconst 1, 1) := by decide +kernel
theorem dX5_said_14 : decode cX5_said 14 = .ok (.goto 4, 3) := by decide +kernel
theorem dX5_said_17 : decode cX5_said 17 = .ok (.iconst 0, 1) := by decide +kernel
theorem dX5_said_18 : decode cX5_said 18 = .ok (.invokestatic 47, 3) := by decide +kernel
theorem dX5_said_21 : decode cX5_said 21 = .ok (.iload_n 1, 1) := by decide +kernel
theorem dX5_said_22 : decode cX5_said 22 = .ok (.aload_n 0, 1) := by decide +kernel
theorem dX5_said_23 : decode cX5_said 23 = .ok (.getfield 10, 3) := by decide +kernel
theorem dX5_said_26 : decode cX5_said 26 = .ok (.getfield 116, 3) := by decide +kernel
theorem dX5_said_29 : decode cX5_said 29 = .ok (.if_icmp .ge 15, 3) := by decide +kernel
theorem dX5_said_32 : decode cX5_said 32 = .ok (.aload_n 0, 1) := by decide +kernel
theorem dX5_said_33 : decode cX5_said 33 = .ok (.getfield 21, 3) := by decide +kernel
theorem dX5_said_36 : decode cX5_said 36 = .ok (.iload_n 1, 1) := by decide +kernel
theorem dX5_said_37 : decode cX5_said 37 = .ok (.iload_n 2, 1) := by decide +kernel
theorem dX5_said_38 : decode cX5_said 38 = .ok (.invokevirtual 142, 3) := by decide +kernel
theorem dX5_said_41 : decode cX5_said 41 = .ok (.goto 4, 3) := by decide +kernel
theorem dX5_said_44 : decode cX5_said 44 = .ok (.iconst (-1), 1) := by decide +kernel
theorem dX5_said_45 : decode cX5_said 45 = .ok (.ireturn, 1) := by decide +kernel
theorem dX5_comes_0 : decode cX5_comes 0 = .ok (.iload_n 2, 1) := by decide +kernel
theorem dX5_comes_1 : decode cX5_comes 1 = .ok (.invokestatic 39, 3) := by decide +kernel
theorem dX5_comes_4 : decode cX5_comes 4 = .ok (.iload_n 1, 1) := by decide +kernel
theorem dX5_comes_5 : decode cX5_comes 5 = .ok (.ifCond .lt 7, 3) := by decide +kernel
theorem dX5_comes_8 : decode cX5_comes 8 = .ok (.iconst 1, 1) := by decide +kernel
theorem dX5_comes_9 : decode cX5_comes 9 = .ok (.goto 4, 3) := by decide +kernel
theorem dX5_comes_12 : decode cX5_comes 12 = .ok (.iconst 0, 1) := by decide +kernel
theorem dX5_comes_13 : decode cX5_comes 13 = .ok (.invokestatic 47, 3) := by decide +kernel
theorem dX5_comes_16 : decode cX5_comes 16 = .ok (.iload_n 1, 1) := by decide +kernel
theorem dX5_comes_17 : decode cX5_comes 17 = .ok (.aload_n 0, 1) := by decide +kernel
theorem dX5_comes_18 : decode cX5_comes 18 = .ok (.getfield 10, 3) := by decide +kernel
theorem dX5_comes_21 : decode cX5_comes 21 = .ok (.getfield 116, 3) := by decide +kernel
theorem dX5_comes_24 : decode cX5_comes 24 = .ok (.if_icmp .ge 17, 3) := by decide +kernel
theorem dX5_comes_27 : decode cX5_comes 27 = .ok (.aload_n 0, 1) := by decide +kernel
theorem dX5_comes_28 : decode cX5_comes 28 = .ok (.getfield 10, 3) := by decide +kernel
theorem dX5_comes_31 : decode cX5_comes 31 = .ok (.getfield 146, 3) := by decide +kernel
theorem dX5_comes_34 : decode cX5_comes 34 = .ok (.iload_n 2, 1) := by decide +kernel
theorem dX5_comes_35 : decode cX5_comes 35 = .ok (.aaload, 1) := by decide +kernel
theorem dX5_comes_36 : decode cX5_comes 36 = .ok (.iload_n 1, 1) := by decide +kernel
theorem dX5_comes_37 : decode cX5_comes 37 = .ok (.iaload, 1) := by decide +kernel
theorem dX5_comes_38 : decode cX5_comes 38 = .ok (.goto 4, 3) := by decide +kernel
theorem dX5_comes_41 : decode cX5_comes 41 = .ok (.iconst (-1), 1) := by decide +kernel
theorem dX5_comes_42 : decode cX5_comes 42 = .ok (.ireturn, 1) := by decide +kernel
theorem dX5_heard_0 : decode cX5_heard 0 = .ok (.iload_n 1, 1) := by decide +kernel
theorem dX5_heard_1 : decode cX5_heard 1 = .ok (.invokestatic 39, 3) := by decide +kernel
theorem dX5_heard_4 : decode cX5_heard 4 = .ok (.iload_n 2, 1) := by decide +kernel
theorem dX5_heard_5 : decode cX5_heard 5 = .ok (.ifCond .lt 16, 3) := by decide +kernel
theorem dX5_heard_8 : decode cX5_heard 8 = .ok (.iload_n 3, 1) := by decide +kernel
theorem dX5_heard_9 : decode cX5_heard 9 = .ok (.iconst 0, 1) := by decide +kernel
theorem dX5_heard_10 : decode cX5_heard 10 = .ok (.iconst 2, 1) := by decide +kernel
theorem dX5_heard_11 : decode cX5_heard 11 = .ok (.invokestatic 43, 3) := by decide +kernel
theorem dX5_heard_14 : decode cX5_heard 14 = .ok (.ifCond .eq 7, 3) := by decide +kernel
theorem dX5_heard_17 : decode cX5_heard 17 = .ok (.iconst 1, 1) := by decide +kernel
theorem dX5_heard_18 : decode cX5_heard 18 = .ok (.goto 4, 3) := by decide +kernel
theorem dX5_heard_21 : decode cX5_heard 21 = .ok (.iconst 0, 1) := by decide +kernel
theorem dX5_heard_22 : decode cX5_heard 22 = .ok (.invokestatic 47, 3) := by decide +kernel
theorem dX5_heard_25 : decode cX5_heard 25 = .ok (.iload_n 2, 1) := by decide +kernel
theorem dX5_heard_26 : decode cX5_heard 26 = .ok (.aload_n 0, 1) := by decide +kernel
theorem dX5_heard_27 : decode cX5_heard 27 = .ok (.getfield 10, 3) := by decide +kernel
theorem dX5_heard_30 : decode cX5_heard 30 = .ok (.getfield 78, 3) := by decide +kernel
theorem dX5_heard_33 : decode cX5_heard 33 = .ok (.if_icmp .ge 16, 3) := by decide +kernel
theorem dX5_heard_36 : decode cX5_heard 36 = .ok (.aload_n 0, 1) := by decide +kernel
theorem dX5_heard_37 : decode cX5_heard 37 = .ok (.getfield 21, 3) := by decide +kernel
theorem dX5_heard_40 : decode cX5_heard 40 = .ok (.iload_n 1, 1) := by decide +kernel
theorem dX5_heard_41 : decode cX5_heard 41 = .ok (.iload_n 2, 1) := by decide +kernel
theorem dX5_heard_42 : decode cX5_heard 42 = .ok (.iload_n 3, 1) := by decide +kernel
theorem dX5_heard_43 : decode cX5_heard 43 = .ok (.invokevirtual 150, 3) := by decide +kernel
theorem dX5_heard_46 : decode cX5_heard 46 = .ok (.goto 4, 3) := by decide +kernel
theorem dX5_heard_49 : decode cX5_heard 49 = .ok (.iconst (-1), 1) := by decide +kernel
theorem dX5_heard_50 : decode cX5_heard 50 = .ok (.ireturn, 1) := by decide +kernel
theorem dX5_speaker_0 : decode cX5_speaker 0 = .ok (.iload_n 1, 1) := by decide +kernel
theorem dX5_speaker_1 : decode cX5_speaker 1 = .ok (.invokestatic 39, 3) := by decide +kernel
theorem dX5_speaker_4 : decode cX5_speaker 4 = .ok (.iload_n 2, 1) := by decide +kernel
theorem dX5_speaker_5 : decode cX5_speaker 5 = .ok (.iconst 0, 1) := by decide +kernel
theorem dX5_speaker_6 : decode cX5_speaker 6 = .ok (.bipush 7, 2) := by decide +kernel
theorem dX5_speaker_8 : decode cX5_speaker 8 = .ok (.invokestatic 43, 3) := by decide +kernel
theorem dX5_speaker_11 : decode cX5_speaker 11 = .ok (.invokestatic 47, 3) := by decide +kernel
theorem dX5_speaker_14 : decode cX5_speaker 14 = .ok (.aload_n 0, 1) := by decide +kernel
theorem dX5_speaker_15 : decode cX5_speaker 15 = .ok (.getfield 21, 3) := by decide +kernel
theorem dX5_speaker_18 : decode cX5_speaker 18 = .ok (.iload_n 1, 1) := by decide +kernel
theorem dX5_speaker_19 : decode cX5_speaker 19 = .ok (.iload_n 2, 1) := by decide +kernel
theorem dX5_speaker_20 : decode cX5_speaker 20 = .ok (.invokevirtual 153, 3) := by decide +kernel
theorem dX5_speaker_23 : decode cX5_speaker 23 = .ok (.ireturn, 1) := by decide +kernel
theorem dX5_message_0 : decode cX5_message 0 = .ok (.iload_n 1, 1) := by decide +kernel
theorem dX5_message_1 : decode cX5_message 1 = .ok (.invokestatic 39, 3) := by decide +kernel
theorem dX5_message_4 : decode cX5_message 4 = .ok (.iload_n 3, 1) := by decide +kernel
theorem dX5_message_5 : decode cX5_message 5 = .ok (.invokestatic 39, 3) := by decide +kernel
theorem dX5_message_8 : decode cX5_message 8 = .ok (.iload_n 2, 1) := by decide +kernel
theorem dX5_message_9 : decode cX5_message 9 = .ok (.iconst 0, 1) := by decide +kernel
theorem dX5_message_10 : decode cX5_message 10 = .ok (.bipush 9, 2) := by decide +kernel
theorem dX5_message_12 : decode cX5_message 12 = .ok (.invokestatic 43, 3) := by decide +kernel
theorem dX5_message_15 : decode cX5_message 15 = .ok (.invokestatic 47, 3) := by decide +kernel
theorem dX5_message_18 : decode cX5_message 18 = .ok (.aload_n 0, 1) := by decide +kernel
theorem dX5_message_19 : decode cX5_message 19 = .ok (.getfield 21, 3) := by decide +kernel
theorem dX5_message_22 : decode cX5_message 22 = .ok (.iload_n 1, 1) := by decide +kernel
theorem dX5_message_23 : decode cX5_message 23 = .ok (.iload_n 2, 1) := by decide +kernel
theorem dX5_message_24 : decode cX5_message 24 = .ok (.iload_n 3, 1) := by decide +kernel
theorem dX5_message_25 : decode cX5_message 25 = .ok (.invokevirtual 156, 3) := by decide +kernel
theorem dX5_message_28 : decode cX5_message 28 = .ok (.ireturn, 1) := by decide +kernel
theorem dX5_count_0 : decode cX5_count 0 = .ok (.iload_n 1, 1) := by decide +kernel
theorem dX5_count_1 : decode cX5_count 1 = .ok (.iconst 0, 1) := by decide +kernel
theorem dX5_count_2 : decode cX5_count 2 = .ok (.bipush 9, 2) := by decide +kernel
theorem dX5_count_4 : decode cX5_count 4 = .ok (.invokestatic 43, 3) := by decide +kernel
theorem dX5_count_7 : decode cX5_count 7 = .ok (.invokestatic 47, 3) := by decide +kernel
theorem dX5_count_10 : decode cX5_count 10 = .ok (.aload_n 0, 1) := by decide +kernel
theorem dX5_count_11 : decode cX5_count 11 = .ok (.iload_n 1, 1) := by decide +kernel
theorem dX5_count_12 : decode cX5_count 12 = .ok (.invokevirtual 159, 3) := by decide +kernel
theorem dX5_count_15 : decode cX5_count 15 = .ok (.ireturn, 1) := by decide +kernel
theorem dX5_whyNot_0 : decode cX5_whyNot 0 = .ok (.iload_n 2, 1) := by decide +kernel
theorem dX5_whyNot_1 : decode cX5_whyNot 1 = .ok (.invokestatic 39, 3) := by decide +kernel
theorem dX5_whyNot_4 : decode cX5_whyNot 4 = .ok (.iload_n 1, 1) := by decide +kernel
theorem dX5_whyNot_5 : decode cX5_whyNot 5 = .ok (.ifCond .lt 7, 3) := by decide +kernel
theorem dX5_whyNot_8 : decode cX5_whyNot 8 = .ok (.iconst 1, 1) := by decide +kernel
theorem dX5_whyNot_9 : decode cX5_whyNot 9 = .ok (.goto 4, 3) := by decide +kernel
theorem dX5_whyNot_12 : decode cX5_whyNot 12 = .ok (.iconst 0, 1) := by decide +kernel
theorem dX5_whyNot_13 : decode cX5_whyNot 13 = .ok (.invokestatic 47, 3) := by decide +kernel
theorem dX5_whyNot_16 : decode cX5_whyNot 16 = .ok (.iload_n 1, 1) := by decide +kernel
theorem dX5_whyNot_17 : decode cX5_whyNot 17 = .ok (.aload_n 0, 1) := by decide +kernel
theorem dX5_whyNot_18 : decode cX5_whyNot 18 = .ok (.getfield 10, 3) := by decide +kernel
theorem dX5_whyNot_21 : decode cX5_whyNot 21 = .ok (.getfield 116, 3) := by decide +kernel
theorem dX5_whyNot_24 : decode cX5_whyNot 24 = .ok (.if_icmp .ge 15, 3) := by decide +kernel
theorem dX5_whyNot_27 : decode cX5_whyNot 27 = .ok (.aload_n 0, 1) := by decide +kernel
theorem dX5_whyNot_28 : decode cX5_whyNot 28 = .ok (.getfield 21, 3) := by decide +kernel
theorem dX5_whyNot_31 : decode cX5_whyNot 31 = .ok (.iload_n 1, 1) := by decide +kernel
theorem dX5_whyNot_32 : decode cX5_whyNot 32 = .ok (.iload_n 2, 1) := by decide +kernel
theorem dX5_whyNot_33 : decode cX5_whyNot 33 = .ok (.invokevirtual 163, 3) := by decide +kernel
theorem dX5_whyNot_36 : decode cX5_whyNot 36 = .ok (.goto 4, 3) := by decide +kernel
theorem dX5_whyNot_39 : decode cX5_whyNot 39 = .ok (.iconst (-1), 1) := by decide +kernel
theorem dX5_whyNot_40 : decode cX5_whyNot 40 = .ok (.ireturn, 1) := by decide +kernel
theorem dX5_ifSilent_0 : decode cX5_ifSilent 0 = .ok (.iload_n 1, 1) := by decide +kernel
theorem dX5_ifSilent_1 : decode cX5_ifSilent 1 = .ok (.invokestatic 39, 3) := by decide +kernel
theorem dX5_ifSilent_4 : decode cX5_ifSilent 4 = .ok (.aload_n 0, 1) := by decide +kernel
theorem dX5_ifSilent_5 : decode cX5_ifSilent 5 = .ok (.getfield 10, 3) := by decide +kernel
theorem dX5_ifSilent_8 : decode cX5_ifSilent 8 = .ok (.iload_n 1, 1) := by decide +kernel
theorem dX5_ifSilent_9 : decode cX5_ifSilent 9 = .ok (.aload_n 0, 1) := by decide +kernel
theorem dX5_ifSilent_10 : decode cX5_ifSilent 10 = .ok (.getfield 10, 3) := by decide +kernel
theorem dX5_ifSilent_13 : decode cX5_ifSilent 13 = .ok (.getfield 78, 3) := by decide +kernel
theorem dX5_ifSilent_16 : decode cX5_ifSilent 16 = .ok (.invokevirtual 166, 3) := by decide +kernel
theorem dX5_ifSilent_19 : decode cX5_ifSilent 19 = .ok (.ireturn, 1) := by decide +kernel
theorem dX5_heardIn_0 : decode cX5_heardIn 0 = .ok (.iload_n 2, 1) := by decide +kernel
theorem dX5_heardIn_1 : decode cX5_heardIn 1 = .ok (.invokestatic 39, 3) := by decide +kernel
theorem dX5_heardIn_4 : decode cX5_heardIn 4 = .ok (.iload_n 1, 1) := by decide +kernel
theorem dX5_heardIn_5 : decode cX5_heardIn 5 = .ok (.ifCond .lt 7, 3) := by decide +kernel
theorem dX5_heardIn_8 : decode cX5_heardIn 8 = .ok (.iconst 1, 1) := by decide +kernel
theorem dX5_heardIn_9 : decode cX5_heardIn 9 = .ok (.goto 4, 3) := by decide +kernel
theorem dX5_heardIn_12 : decode cX5_heardIn 12 = .ok (.iconst 0, 1) := by decide +kernel
theorem dX5_heardIn_13 : decode cX5_heardIn 13 = .ok (.invokestatic 47, 3) := by decide +kernel
theorem dX5_heardIn_16 : decode cX5_heardIn 16 = .ok (.iload_n 1, 1) := by decide +kernel
theorem dX5_heardIn_17 : decode cX5_heardIn 17 = .ok (.aload_n 0, 1) := by decide +kernel
theorem dX5_heardIn_18 : decode cX5_heardIn 18 = .ok (.getfield 10, 3) := by decide +kernel
theorem dX5_heardIn_21 : decode cX5_heardIn 21 = .ok (.getfield 116, 3) := by decide +kernel
theorem dX5_heardIn_24 : decode cX5_heardIn 24 = .ok (.if_icmp .ge 15, 3) := by decide +kernel
theorem dX5_heardIn_27 : decode cX5_heardIn 27 = .ok (.aload_n 0, 1) := by decide +kernel
theorem dX5_heardIn_28 : decode cX5_heardIn 28 = .ok (.getfield 21, 3) := by decide +kernel
theorem dX5_heardIn_31 : decode cX5_heardIn 31 = .ok (.iload_n 1, 1) := by decide +kernel
theorem dX5_heardIn_32 : decode cX5_heardIn 32 = .ok (.iload_n 2, 1) := by decide +kernel
theorem dX5_heardIn_33 : decode cX5_heardIn 33 = .ok (.invokevirtual 169, 3) := by decide +kernel
theorem dX5_heardIn_36 : decode cX5_heardIn 36 = .ok (.goto 4, 3) := by decide +kernel
theorem dX5_heardIn_39 : decode cX5_heardIn 39 = .ok (.iconst (-1), 1) := by decide +kernel
theorem dX5_heardIn_40 : decode cX5_heardIn 40 = .ok (.ireturn, 1) := by decide +kernel
theorem dX5_bestSeat_0 : decode cX5_bestSeat 0 = .ok (.aload_n 0, 1) := by decide +kernel
theorem dX5_bestSeat_1 : decode cX5_bestSeat 1 = .ok (.getfield 21, 3) := by decide +kernel
theorem dX5_bestSeat_4 : decode cX5_bestSeat 4 = .ok (.invokevirtual 172, 3) := by decide +kernel
theorem dX5_bestSeat_7 : decode cX5_bestSeat 7 = .ok (.ireturn, 1) := by decide +kernel
theorem dX5_heardShare_0 : decode cX5_heardShare 0 = .ok (.aload_n 0, 1) := by decide +kernel
theorem dX5_heardShare_1 : decode cX5_heardShare 1 = .ok (.getfield 21, 3) := by decide +kernel
theorem dX5_heardShare_4 : decode cX5_heardShare 4 = .ok (.invokevirtual 175, 3) := by decide +kernel
theorem dX5_heardShare_7 : decode cX5_heardShare 7 = .ok (.dreturn, 1) := by decide +kernel
theorem dX5_digest_0 : decode cX5_digest 0 = .ok (.new 179, 3) := by decide +kernel
theorem dX5_digest_3 : decode cX5_digest 3 = .ok (.dup, 1) := by decide +kernel
theorem dX5_digest_4 : decode cX5_digest 4 = .ok (.invokespecial 181, 3) := by decide +kernel
theorem dX5_digest_7 : decode cX5_digest 7 = .ok (.astore_n 1, 1) := by decide +kernel
theorem dX5_digest_8 : decode cX5_digest 8 = .ok (.iconst 0, 1) := by decide +kernel
theorem dX5_digest_9 : decode cX5_digest 9 = .ok (.istore_n 2, 1) := by decide +kernel
theorem dX5_digest_10 : decode cX5_digest 10 = .ok (.iload_n 2, 1) := by decide +kernel
theorem dX5_digest_11 : decode cX5_digest 11 = .ok (.bipush 9, 2) := by decide +kernel
theorem dX5_digest_13 : decode cX5_digest 13 = .ok (.if_icmp .gt 19, 3) := by decide +kernel
theorem dX5_digest_16 : decode cX5_digest 16 = .ok (.aload_n 1, 1) := by decide +kernel
theorem dX5_digest_17 : decode cX5_digest 17 = .ok (.aload_n 0, 1) := by decide +kernel
theorem dX5_digest_18 : decode cX5_digest 18 = .ok (.iload_n 2, 1) := by decide +kernel
theorem dX5_digest_19 : decode cX5_digest 19 = .ok (.invokevirtual 159, 3) := by decide +kernel
theorem dX5_digest_22 : decode cX5_digest 22 = .ok (.i2l, 1) := by decide +kernel
theorem dX5_digest_23 : decode cX5_digest 23 = .ok (.invokevirtual 182, 3) := by decide +kernel
theorem dX5_digest_26 : decode cX5_digest 26 = .ok (.iinc 2 1, 3) := by decide +kernel
theorem dX5_digest_29 : decode cX5_digest 29 = .ok (.goto (-19), 3) := by decide +kernel
theorem dX5_digest_32 : decode cX5_digest 32 = .ok (.aload_n 0, 1) := by decide +kernel
theorem dX5_digest_33 : decode cX5_digest 33 = .ok (.aload_n 1, 1) := by decide +kernel
theorem dX5_digest_34 : decode cX5_digest 34 = .ok (.invokevirtual 186, 3) := by decide +kernel
theorem dX5_digest_37 : decode cX5_digest 37 = .ok (.aload_n 0, 1) := by decide +kernel
theorem dX5_digest_38 : decode cX5_digest 38 = .ok (.aload_n 1, 1) := by decide +kernel
theorem dX5_digest_39 : decode cX5_digest 39 = .ok (.invokevirtual 190, 3) := by decide +kernel
theorem dX5_digest_42 : decode cX5_digest 42 = .ok (.aload_n 0, 1) := by decide +kernel
theorem dX5_digest_43 : decode cX5_digest 43 = .ok (.aload_n 1, 1) := by decide +kernel
theorem dX5_digest_44 : decode cX5_digest 44 = .ok (.invokevirtual 193, 3) := by decide +kernel
theorem dX5_digest_47 : decode cX5_digest 47 = .ok (.aload_n 0, 1) := by decide +kernel
theorem dX5_digest_48 : decode cX5_digest 48 = .ok (.aload_n 1, 1) := by decide +kernel
theorem dX5_digest_49 : decode cX5_digest 49 = .ok (.invokevirtual 196, 3) := by decide +kernel
theorem dX5_digest_52 : decode cX5_digest 52 = .ok (.iconst 0, 1) := by decide +kernel
theorem dX5_digest_53 : decode cX5_digest 53 = .ok (.istore_n 2, 1) := by decide +kernel
theorem dX5_digest_54 : decode cX5_digest 54 = .ok (.iload_n 2, 1) := by decide +kernel
theorem dX5_digest_55 : decode cX5_digest 55 = .ok (.bipush 6, 2) := by decide +kernel
theorem dX5_digest_57 : decode cX5_digest 57 = .ok (.if_icmp .ge 47, 3) := by decide +kernel
theorem dX5_digest_60 : decode cX5_digest 60 = .ok (.aload_n 1, 1) := by decide +kernel
theorem dX5_digest_61 : decode cX5_digest 61 = .ok (.aload_n 0, 1) := by decide +kernel
theorem dX5_digest_62 : decode cX5_digest 62 = .ok (.getfield 10, 3) := by decide +kernel
theorem dX5_digest_65 : decode cX5_digest 65 = .ok (.getfield 116, 3) := by decide +kernel
theorem dX5_digest_68 : decode cX5_digest 68 = .ok (.ifCond .le 24, 3) := by decide +kernel
theorem dX5_digest_71 : decode cX5_digest 71 = .ok (.aload_n 0, 1) := by decide +kernel
theorem dX5_digest_72 : decode cX5_digest 72 = .ok (.getfield 21, 3) := by decide +kernel
theorem dX5_digest_75 : decode cX5_digest 75 = .ok (.aload_n 0, 1) := by decide +kernel
theorem dX5_digest_76 : decode cX5_digest 76 = .ok (.getfield 10, 3) := by decide +kernel
theorem dX5_digest_79 : decode cX5_digest 79 = .ok (.getfield 116, 3) := by decide +kernel
theorem dX5_digest_82 : decode cX5_digest 82 = .ok (.iconst 1, 1) := by decide +kernel
theorem dX5_digest_83 : decode cX5_digest 83 = .ok (.isub, 1) := by decide +kernel
theorem dX5_digest_84 : decode cX5_digest 84 = .ok (.iload_n 2, 1) := by decide +kernel
theorem dX5_digest_85 : decode cX5_digest 85 = .ok (.invokevirtual 169, 3) := by decide +kernel
theorem dX5_digest_88 : decode cX5_digest 88 = .ok (.i2l, 1) := by decide +kernel
theorem dX5_digest_89 : decode cX5_digest 89 = .ok (.goto 6, 3) := by decide +kernel
theorem dX5_digest_92 : decode cX5_digest 92 = .ok (.ldc2_w 199, 3) := by decide +kernel
theorem dX5_digest_95 : decode cX5_digest 95 = .ok (.invokevirtual 182, 3) := by decide +kernel
theorem dX5_digest_98 : decode cX5_digest 98 = .ok (.iinc 2 1, 3) := by decide +kernel
theorem dX5_digest_101 : decode cX5_digest 101 = .ok (.goto (-47), 3) := by decide +kernel
theorem dX5_digest_104 : decode cX5_digest 104 = .ok (.aload_n 1, 1) := by decide +kernel
theorem dX5_digest_105 : decode cX5_digest 105 = .ok (.aload_n 0, 1) := by decide +kernel
theorem dX5_digest_106 : decode cX5_digest 106 = .ok (.getfield 21, 3) := by decide +kernel
theorem dX5_digest_109 : decode cX5_digest 109 = .ok (.invokevirtual 172, 3) := by decide +kernel
theorem dX5_digest_112 : decode cX5_digest 112 = .ok (.i2l, 1) := by decide +kernel
theorem dX5_digest_113 : decode cX5_digest 113 = .ok (.invokevirtual 182, 3) := by decide +kernel
theorem dX5_digest_116 : decode cX5_digest 116 = .ok (.aload_n 1, 1) := by decide +kernel
theorem dX5_digest_117 : decode cX5_digest 117 = .ok (.aload_n 0, 1) := by decide +kernel
theorem dX5_digest_118 : decode cX5_digest 118 = .ok (.getfield 21, 3) := by decide +kernel
theorem dX5_digest_121 : decode cX5_digest 121 = .ok (.invokevirtual 175, 3) := by decide +kernel
theorem dX5_digest_124 : decode cX5_digest 124 = .ok (.invokestatic 201, 3) := by decide +kernel
theorem dX5_digest_127 : decode cX5_digest 127 = .ok (.invokevirtual 182, 3) := by decide +kernel
theorem dX5_digest_130 : decode cX5_digest 130 = .ok (.aload_n 1, 1) := by decide +kernel
theorem dX5_digest_131 : decode cX5_digest 131 = .ok (.aload_n 0, 1) := by decide +kernel
theorem dX5_digest_132 : decode cX5_digest 132 = .ok (.getfield 35, 3) := by decide +kernel
theorem dX5_digest_135 : decode cX5_digest 135 = .ok (.getfield 100, 3) := by decide +kernel
theorem dX5_digest_138 : decode cX5_digest 138 = .ok (.i2l, 1) := by decide +kernel
theorem dX5_digest_139 : decode cX5_digest 139 = .ok (.invokevirtual 182, 3) := by decide +kernel
theorem dX5_digest_142 : decode cX5_digest 142 = .ok (.iconst 0, 1) := by decide +kernel
theorem dX5_digest_143 : decode cX5_digest 143 = .ok (.istore_n 2, 1) := by decide +kernel
theorem dX5_digest_144 : decode cX5_digest 144 = .ok (.iload_n 2, 1) := by decide +kernel
theorem dX5_digest_145 : decode cX5_digest 145 = .ok (.aload_n 0, 1) := by decide +kernel
theorem dX5_digest_146 : decode cX5_digest 146 = .ok (.getfield 35, 3) := by decide +kernel
theorem dX5_digest_149 : decode cX5_digest 149 = .ok (.getfield 100, 3) := by decide +kernel
theorem dX5_digest_152 : decode cX5_digest 152 = .ok (.if_icmp .ge 23, 3) := by decide +kernel
theorem dX5_digest_155 : decode cX5_digest 155 = .ok (.aload_n 1, 1) := by decide +kernel
theorem dX5_digest_156 : decode cX5_digest 156 = .ok (.aload_n 0, 1) := by decide +kernel
theorem dX5_digest_157 : decode cX5_digest 157 = .ok (.getfield 35, 3) := by decide +kernel
theorem dX5_digest_160 : decode cX5_digest 160 = .ok (.getfield 205, 3) := by decide +kernel
theorem dX5_digest_163 : decode cX5_digest 163 = .ok (.iload_n 2, 1) := by decide +kernel
theorem dX5_digest_164 : decode cX5_digest 164 = .ok (.caload, 1) := by decide +kernel
theorem dX5_digest_165 : decode cX5_digest 165 = .ok (.i2l, 1) := by decide +kernel
theorem dX5_digest_166 : decode cX5_digest 166 = .ok (.invokevirtual 182, 3) := by decide +kernel
theorem dX5_digest_169 : decode cX5_digest 169 = .ok (.iinc 2 1, 3) := by decide +kernel
theorem dX5_digest_172 : decode cX5_digest 172 = .ok (.goto (-28), 3) := by decide +kernel
theorem dX5_digest_175 : decode cX5_digest 175 = .ok (.aload_n 1, 1) := by decide +kernel
theorem dX5_digest_176 : decode cX5_digest 176 = .ok (.getfield 209, 3) := by decide +kernel
theorem dX5_digest_179 : decode cX5_digest 179 = .ok (.lreturn, 1) := by decide +kernel
theorem dX5_takeSpeakers_0 : decode cX5_takeSpeakers 0 = .ok (.iconst 0, 1) := by decide +kernel
theorem dX5_takeSpeakers_1 : decode cX5_takeSpeakers 1 = .ok (.istore_n 2, 1) := by decide +kernel
theorem dX5_takeSpeakers_2 : decode cX5_takeSpeakers 2 = .ok (.iload_n 2, 1) := by decide +kernel
theorem dX5_takeSpeakers_3 : decode cX5_takeSpeakers 3 = .ok (.bipush 6, 2) := by decide +kernel
theorem dX5_takeSpeakers_5 : decode cX5_takeSpeakers 5 = .ok (.if_icmp .ge 57, 3) := by decide +kernel
theorem dX5_takeSpeakers_8 : decode cX5_takeSpeakers 8 = .ok (.iconst 0, 1) := by decide +kernel
theorem dX5_takeSpeakers_9 : decode cX5_takeSpeakers 9 = .ok (.istore_n 3, 1) := by decide +kernel
theorem dX5_takeSpeakers_10 : decode cX5_takeSpeakers 10 = .ok (.iload_n 3, 1) := by decide +kernel
theorem dX5_takeSpeakers_11 : decode cX5_takeSpeakers 11 = .ok (.bipush 7, 2) := by decide +kernel
theorem dX5_takeSpeakers_13 : decode cX5_takeSpeakers 13 = .ok (.if_icmp .gt 23, 3) := by decide +kernel
theorem dX5_takeSpeakers_16 : decode cX5_takeSpeakers 16 = .ok (.aload_n 1, 1) := by decide +kernel
theorem dX5_takeSpeakers_17 : decode cX5_takeSpeakers 17 = .ok (.aload_n 0, 1) := by decide +kernel
theorem dX5_takeSpeakers_18 : decode cX5_takeSpeakers 18 = .ok (.getfield 21, 3) := by decide +kernel
theorem dX5_takeSpeakers_21 : decode cX5_takeSpeakers 21 = .ok (.iload_n 2, 1) := by decide +kernel
theorem dX5_takeSpeakers_22 : decode cX5_takeSpeakers 22 = .ok (.iload_n 3, 1) := by decide +kernel
theorem dX5_takeSpeakers_23 : decode cX5_takeSpeakers 23 = .ok (.invokevirtual 153, 3) := by decide +kernel
theorem dX5_takeSpeakers_26 : decode cX5_takeSpeakers 26 = .ok (.i2l, 1) := by decide +kernel
theorem dX5_takeSpeakers_27 : decode cX5_takeSpeakers 27 = .ok (.invokevirtual 182, 3) := by decide +kernel
theorem dX5_takeSpeakers_30 : decode cX5_takeSpeakers 30 = .ok (.iinc 3 1, 3) := by decide +kernel
theorem dX5_takeSpeakers_33 : decode cX5_takeSpeakers 33 = .ok (.goto (-23), 3) := by decide +kernel
theorem dX5_takeSpeakers_36 : decode cX5_takeSpeakers 36 = .ok (.aload_n 1, 1) := by decide +kernel
theorem dX5_takeSpeakers_37 : decode cX5_takeSpeakers 37 = .ok (.aload_n 0, 1) := by decide +kernel
theorem dX5_takeSpeakers_38 : decode cX5_takeSpeakers 38 = .ok (.getfield 10, 3) := by decide +kernel
theorem dX5_takeSpeakers_41 : decode cX5_takeSpeakers 41 = .ok (.iload_n 2, 1) := by decide +kernel
theorem dX5_takeSpeakers_42 : decode cX5_takeSpeakers 42 = .ok (.aload_n 0, 1) := by decide +kernel
theorem dX5_takeSpeakers_43 : decode cX5_takeSpeakers 43 = .ok (.getfield 10, 3) := by decide +kernel
theorem dX5_takeSpeakers_46 : decode cX5_takeSpeakers 46 = .ok (.getfield 78, 3) := by decide +kernel
theorem dX5_takeSpeakers_49 : decode cX5_takeSpeakers 49 = .ok (.invokevirtual 166, 3) := by decide +kernel
theorem dX5_takeSpeakers_52 : decode cX5_takeSpeakers 52 = .ok (.i2l, 1) := by decide +kernel
theorem dX5_takeSpeakers_53 : decode cX5_takeSpeakers 53 = .ok (.invokevirtual 182, 3) := by decide +kernel
theorem dX5_takeSpeakers_56 : decode cX5_takeSpeakers 56 = .ok (.iinc 2 1, 3) := by decide +kernel
theorem dX5_takeSpeakers_59 : decode cX5_takeSpeakers 59 = .ok (.goto (-57), 3) := by decide +kernel
theorem dX5_takeSpeakers_62 : decode cX5_takeSpeakers 62 = .ok (.return_, 1) := by decide +kernel
theorem dX5_takeLatestWords_0 : decode cX5_takeLatestWords 0 = .ok (.iconst 0, 1) := by decide +kernel
theorem dX5_takeLatestWords_1 : decode cX5_takeLatestWords 1 = .ok (.aload_n 0, 1) := by decide +kernel
theorem dX5_takeLatestWords_2 : decode cX5_takeLatestWords 2 = .ok (.getfield 10, 3) := by decide +kernel
theorem dX5_takeLatestWords_5 : decode cX5_takeLatestWords 5 = .ok (.getfield 116, 3) := by decide +kernel
theorem dX5_takeLatestWords_8 : decode cX5_takeLatestWords 8 = .ok (.bipush 12, 2) := by decide +kernel
theorem dX5_takeLatestWords_10 : decode cX5_takeLatestWords 10 = .ok (.isub, 1) := by decide +kernel
theorem dX5_takeLatestWords_11 : decode cX5_takeLatestWords 11 = .ok (.invokestatic 213, 3) := by decide +kernel
theorem dX5_takeLatestWords_14 : decode cX5_takeLatestWords 14 = .ok (.istore_n 2, 1) := by decide +kernel
theorem dX5_takeLatestWords_15 : decode cX5_takeLatestWords 15 = .ok (.aload_n 0, 1) := by decide +kernel
theorem dX5_takeLatestWords_16 : decode cX5_takeLatestWords 16 = .ok (.getfield 10, 3) := by decide +kernel
theorem dX5_takeLatestWords_19 : decode cX5_takeLatestWords 19 = .ok (.getfield 116, 3) := by decide +kernel
theorem dX5_takeLatestWords_22 : decode cX5_takeLatestWords 22 = .ok (.iconst 1, 1) := by decide +kernel
theorem dX5_takeLatestWords_23 : decode cX5_takeLatestWords 23 = .ok (.isub, 1) := by decide +kernel
theorem dX5_takeLatestWords_24 : decode cX5_takeLatestWords 24 = .ok (.istore_n 3, 1) := by decide +kernel
theorem dX5_takeLatestWords_25 : decode cX5_takeLatestWords 25 = .ok (.iload_n 3, 1) := by decide +kernel
theorem dX5_takeLatestWords_26 : decode cX5_takeLatestWords 26 = .ok (.iload_n 2, 1) := by decide +kernel
theorem dX5_takeLatestWords_27 : decode cX5_takeLatestWords 27 = .ok (.if_icmp .lt 87, 3) := by decide +kernel
theorem dX5_takeLatestWords_30 : decode cX5_takeLatestWords 30 = .ok (.iconst 0, 1) := by decide +kernel
theorem dX5_takeLatestWords_31 : decode cX5_takeLatestWords 31 = .ok (.istore 4, 2) := by decide +kernel
theorem dX5_takeLatestWords_33 : decode cX5_takeLatestWords 33 = .ok (.iload 4, 2) := by decide +kernel
theorem dX5_takeLatestWords_35 : decode cX5_takeLatestWords 35 = .ok (.iconst 5, 1) := by decide +kernel
theorem dX5_takeLatestWords_36 : decode cX5_takeLatestWords 36 = .ok (.if_icmp .gt 24, 3) := by decide +kernel
theorem dX5_takeLatestWords_39 : decode cX5_takeLatestWords 39 = .ok (.aload_n 1, 1) := by decide +kernel
theorem dX5_takeLatestWords_40 : decode cX5_takeLatestWords 40 = .ok (.aload_n 0, 1) := by decide +kernel
theorem dX5_takeLatestWords_41 : decode cX5_takeLatestWords 41 = .ok (.getfield 21, 3) := by decide +kernel
theorem dX5_takeLatestWords_44 : decode cX5_takeLatestWords 44 = .ok (.iload_n 3, 1) := by decide +kernel
theorem dX5_takeLatestWords_45 : decode cX5_takeLatestWords 45 = .ok (.iload 4, 2) := by decide +kernel
theorem dX5_takeLatestWords_47 : decode cX5_takeLatestWords 47 = .ok (.invokevirtual 142, 3) := by decide +kernel
theorem dX5_takeLatestWords_50 : decode cX5_takeLatestWords 50 = .ok (.i2l, 1) := by decide +kernel
theorem dX5_takeLatestWords_51 : decode cX5_takeLatestWords 51 = .ok (.invokevirtual 182, 3) := by decide +kernel
theorem dX5_takeLatestWords_54 : decode cX5_takeLatestWords 54 = .ok (.iinc 4 1, 3) := by decide +kernel
theorem dX5_takeLatestWords_57 : decode cX5_takeLatestWords 57 = .ok (.goto (-24), 3) := by decide +kernel
theorem dX5_takeLatestWords_60 : decode cX5_takeLatestWords 60 = .ok (.iconst 0, 1) := by decide +kernel
theorem dX5_takeLatestWords_61 : decode cX5_takeLatestWords 61 = .ok (.istore 4, 2) := by decide +kernel
theorem dX5_takeLatestWords_63 : decode cX5_takeLatestWords 63 = .ok (.iload 4, 2) := by decide +kernel
theorem dX5_takeLatestWords_65 : decode cX5_takeLatestWords 65 = .ok (.bipush 6, 2) := by decide +kernel
theorem dX5_takeLatestWords_67 : decode cX5_takeLatestWords 67 = .ok (.if_icmp .ge 41, 3) := by decide +kernel
theorem dX5_takeLatestWords_70 : decode cX5_takeLatestWords 70 = .ok (.aload_n 1, 1) := by decide +kernel
theorem dX5_takeLatestWords_71 : decode cX5_takeLatestWords 71 = .ok (.aload_n 0, 1) := by decide +kernel
theorem dX5_takeLatestWords_72 : decode cX5_takeLatestWords 72 = .ok (.getfield 10, 3) := by decide +kernel
theorem dX5_takeLatestWords_75 : decode cX5_takeLatestWords 75 = .ok (.getfield 146, 3) := by decide +kernel
theorem dX5_takeLatestWords_78 : decode cX5_takeLatestWords 78 = .ok (.iload 4, 2) := by decide +kernel
theorem dX5_takeLatestWords_80 : decode cX5_takeLatestWords 80 = .ok (.aaload, 1) := by decide +kernel
theorem dX5_takeLatestWords_81 : decode cX5_takeLatestWords 81 = .ok (.iload_n 3, 1) := by decide +kernel
theorem dX5_takeLatestWords_82 : decode cX5_takeLatestWords 82 = .ok (.iaload, 1) := by decide +kernel
theorem dX5_takeLatestWords_83 : decode cX5_takeLatestWords 83 = .ok (.i2l, 1) := by decide +kernel
theorem dX5_takeLatestWords_84 : decode cX5_takeLatestWords 84 = .ok (.invokevirtual 182, 3) := by decide +kernel
theorem dX5_takeLatestWords_87 : decode cX5_takeLatestWords 87 = .ok (.aload_n 1, 1) := by decide +kernel
theorem dX5_takeLatestWords_88 : decode cX5_takeLatestWords 88 = .ok (.aload_n 0, 1) := by decide +kernel
theorem dX5_takeLatestWords_89 : decode cX5_takeLatestWords 89 = .ok (.getfield 21, 3) := by decide +kernel
theorem dX5_takeLatestWords_92 : decode cX5_takeLatestWords 92 = .ok (.iload_n 3, 1) := by decide +kernel
theorem dX5_takeLatestWords_93 : decode cX5_takeLatestWords 93 = .ok (.iload 4, 2) := by decide +kernel
theorem dX5_takeLatestWords_95 : decode cX5_takeLatestWords 95 = .ok (.invokevirtual 163, 3) := by decide +kernel
theorem dX5_takeLatestWords_98 : decode cX5_takeLatestWords 98 = .ok (.i2l, 1) := by decide +kernel
theorem dX5_takeLatestWords_99 : decode cX5_takeLatestWords 99 = .ok (.invokevirtual 182, 3) := by decide +kernel
theorem dX5_takeLatestWords_102 : decode cX5_takeLatestWords 102 = .ok (.iinc 4 1, 3) := by decide +kernel
theorem dX5_takeLatestWords_105 : decode cX5_takeLatestWords 105 = .ok (.goto (-42), 3) := by decide +kernel
theorem dX5_takeLatestWords_108 : decode cX5_takeLatestWords 108 = .ok (.iinc 3 (-1), 3) := by decide +kernel
theorem dX5_takeLatestWords_111 : decode cX5_takeLatestWords 111 = .ok (.goto (-86), 3) := by decide +kernel
theorem dX5_takeLatestWords_114 : decode cX5_takeLatestWords 114 = .ok (.return_, 1) := by decide +kernel
theorem dX5_takeLatestBeats_0 : decode cX5_takeLatestBeats 0 = .ok (.iconst 0, 1) := by decide +kernel
theorem dX5_takeLatestBeats_1 : decode cX5_takeLatestBeats 1 = .ok (.aload_n 0, 1) := by decide +kernel
theorem dX5_takeLatestBeats_2 : decode cX5_takeLatestBeats 2 = .ok (.getfield 10, 3) := by decide +kernel
theorem dX5_takeLatestBeats_5 : decode cX5_takeLatestBeats 5 = .ok (.getfield 78, 3) := by decide +kernel
theorem dX5_takeLatestBeats_8 : decode cX5_takeLatestBeats 8 = .ok (.bipush 8, 2) := by decide +kernel
theorem dX5_takeLatestBeats_10 : decode cX5_takeLatestBeats 10 = .ok (.isub, 1) := by decide +kernel
theorem dX5_takeLatestBeats_11 : decode cX5_takeLatestBeats 11 = .ok (.invokestatic 213, 3) := by decide +kernel
theorem dX5_takeLatestBeats_14 : decode cX5_takeLatestBeats 14 = .ok (.istore_n 2, 1) := by decide +kernel
theorem dX5_takeLatestBeats_15 : decode cX5_takeLatestBeats 15 = .ok (.aload_n 0, 1) := by decide +kernel
theorem dX5_takeLatestBeats_16 : decode cX5_takeLatestBeats 16 = .ok (.getfield 10, 3) := by decide +kernel
theorem dX5_takeLatestBeats_19 : decode cX5_takeLatestBeats 19 = .ok (.getfield 78, 3) := by decide +kernel
theorem dX5_takeLatestBeats_22 : decode cX5_takeLatestBeats 22 = .ok (.iconst 1, 1) := by decide +kernel
theorem dX5_takeLatestBeats_23 : decode cX5_takeLatestBeats 23 = .ok (.isub, 1) := by decide +kernel
theorem dX5_takeLatestBeats_24 : decode cX5_takeLatestBeats 24 = .ok (.istore_n 3, 1) := by decide +kernel
theorem dX5_takeLatestBeats_25 : decode cX5_takeLatestBeats 25 = .ok (.iload_n 3, 1) := by decide +kernel
theorem dX5_takeLatestBeats_26 : decode cX5_takeLatestBeats 26 = .ok (.iload_n 2, 1) := by decide +kernel
theorem dX5_takeLatestBeats_27 : decode cX5_takeLatestBeats 27 = .ok (.if_icmp .lt 57, 3) := by decide +kernel
theorem dX5_takeLatestBeats_30 : decode cX5_takeLatestBeats 30 = .ok (.iconst 0, 1) := by decide +kernel
theorem dX5_takeLatestBeats_31 : decode cX5_takeLatestBeats 31 = .ok (.istore 4, 2) := by decide +kernel
theorem dX5_takeLatestBeats_33 : decode cX5_takeLatestBeats 33 = .ok (.iload 4, 2) := by decide +kernel
theorem dX5_takeLatestBeats_35 : decode cX5_takeLatestBeats 35 = .ok (.bipush 6, 2) := by decide +kernel
theorem dX5_takeLatestBeats_37 : decode cX5_takeLatestBeats 37 = .ok (.if_icmp .ge 41, 3) := by decide +kernel
theorem dX5_takeLatestBeats_40 : decode cX5_takeLatestBeats 40 = .ok (.iconst 0, 1) := by decide +kernel
theorem dX5_takeLatestBeats_41 : decode cX5_takeLatestBeats 41 = .ok (.istore 5, 2) := by decide +kernel
theorem dX5_takeLatestBeats_43 : decode cX5_takeLatestBeats 43 = .ok (.iload 5, 2) := by decide +kernel
theorem dX5_takeLatestBeats_45 : decode cX5_takeLatestBeats 45 = .ok (.iconst 2, 1) := by decide +kernel
theorem dX5_takeLatestBeats_46 : decode cX5_takeLatestBeats 46 = .ok (.if_icmp .gt 26, 3) := by decide +kernel
theorem dX5_takeLatestBeats_49 : decode cX5_takeLatestBeats 49 = .ok (.aload_n 1, 1) := by decide +kernel
theorem dX5_takeLatestBeats_50 : decode cX5_takeLatestBeats 50 = .ok (.aload_n 0, 1) := by decide +kernel
theorem dX5_takeLatestBeats_51 : decode cX5_takeLatestBeats 51 = .ok (.getfield 21, 3) := by decide +kernel
theorem dX5_takeLatestBeats_54 : decode cX5_takeLatestBeats 54 = .ok (.iload 4, 2) := by decide +kernel
theorem dX5_takeLatestBeats_56 : decode cX5_takeLatestBeats 56 = .ok (.iload_n 3, 1) := by decide +kernel
theorem dX5_takeLatestBeats_57 : decode cX5_takeLatestBeats 57 = .ok (.iload 5, 2) := by decide +kernel
theorem dX5_takeLatestBeats_59 : decode cX5_takeLatestBeats 59 = .ok (.invokevirtual 150, 3) := by decide +kernel
theorem dX5_takeLatestBeats_62 : decode cX5_takeLatestBeats 62 = .ok (.i2l, 1) := by decide +kernel
theorem dX5_takeLatestBeats_63 : decode cX5_takeLatestBeats 63 = .ok (.invokevirtual 182, 3) := by decide +kernel
theorem dX5_takeLatestBeats_66 : decode cX5_takeLatestBeats 66 = .ok (.iinc 5 1, 3) := by decide +kernel
theorem dX5_takeLatestBeats_69 : decode cX5_takeLatestBeats 69 = .ok (.goto (-26), 3) := by decide +kernel
theorem dX5_takeLatestBeats_72 : decode cX5_takeLatestBeats 72 = .ok (.iinc 4 1, 3) := by decide +kernel
theorem dX5_takeLatestBeats_75 : decode cX5_takeLatestBeats 75 = .ok (.goto (-42), 3) := by decide +kernel
theorem dX5_takeLatestBeats_78 : decode cX5_takeLatestBeats 78 = .ok (.iinc 3 (-1), 3) := by decide +kernel
theorem dX5_takeLatestBeats_81 : decode cX5_takeLatestBeats 81 = .ok (.goto (-56), 3) := by decide +kernel
theorem dX5_takeLatestBeats_84 : decode cX5_takeLatestBeats 84 = .ok (.return_, 1) := by decide +kernel
theorem dX5_takeMessages_0 : decode cX5_takeMessages 0 = .ok (.iconst 0, 1) := by decide +kernel
theorem dX5_takeMessages_1 : decode cX5_takeMessages 1 = .ok (.istore_n 2, 1) := by decide +kernel
theorem dX5_takeMessages_2 : decode cX5_takeMessages 2 = .ok (.iload_n 2, 1) := by decide +kernel
theorem dX5_takeMessages_3 : decode cX5_takeMessages 3 = .ok (.bipush 6, 2) := by decide +kernel
theorem dX5_takeMessages_5 : decode cX5_takeMessages 5 = .ok (.if_icmp .ge 65, 3) := by decide +kernel
theorem dX5_takeMessages_8 : decode cX5_takeMessages 8 = .ok (.iconst 0, 1) := by decide +kernel
theorem dX5_takeMessages_9 : decode cX5_takeMessages 9 = .ok (.istore_n 3, 1) := by decide +kernel
theorem dX5_takeMessages_10 : decode cX5_takeMessages 10 = .ok (.iload_n 3, 1) := by decide +kernel
theorem dX5_takeMessages_11 : decode cX5_takeMessages 11 = .ok (.bipush 10, 2) := by decide +kernel
theorem dX5_takeMessages_13 : decode cX5_takeMessages 13 = .ok (.if_icmp .ge 51, 3) := by decide +kernel
theorem dX5_takeMessages_16 : decode cX5_takeMessages 16 = .ok (.iconst 0, 1) := by decide +kernel
theorem dX5_takeMessages_17 : decode cX5_takeMessages 17 = .ok (.istore 4, 2) := by decide +kernel
theorem dX5_takeMessages_19 : decode cX5_takeMessages 19 = .ok (.iconst 0, 1) := by decide +kernel
theorem dX5_takeMessages_20 : decode cX5_takeMessages 20 = .ok (.istore 5, 2) := by decide +kernel
theorem dX5_takeMessages_22 : decode cX5_takeMessages 22 = .ok (.iload 5, 2) := by decide +kernel
theorem dX5_takeMessages_24 : decode cX5_takeMessages 24 = .ok (.bipush 6, 2) := by decide +kernel
theorem dX5_takeMessages_26 : decode cX5_takeMessages 26 = .ok (.if_icmp .ge 25, 3) := by decide +kernel
theorem dX5_takeMessages_29 : decode cX5_takeMessages 29 = .ok (.iload 4, 2) := by decide +kernel
theorem dX5_takeMessages_31 : decode cX5_takeMessages 31 = .ok (.aload_n 0, 1) := by decide +kernel
theorem dX5_takeMessages_32 : decode cX5_takeMessages 32 = .ok (.getfield 21, 3) := by decide +kernel
theorem dX5_takeMessages_35 : decode cX5_takeMessages 35 = .ok (.iload_n 2, 1) := by decide +kernel
theorem dX5_takeMessages_36 : decode cX5_takeMessages 36 = .ok (.iload_n 3, 1) := by decide +kernel
theorem dX5_takeMessages_37 : decode cX5_takeMessages 37 = .ok (.iload 5, 2) := by decide +kernel
theorem dX5_takeMessages_39 : decode cX5_takeMessages 39 = .ok (.invokevirtual 156, 3) := by decide +kernel
theorem dX5_takeMessages_42 : decode cX5_takeMessages 42 = .ok (.iadd, 1) := by decide +kernel
theorem dX5_takeMessages_43 : decode cX5_takeMessages 43 = .ok (.istore 4, 2) := by decide +kernel
theorem dX5_takeMessages_45 : decode cX5_takeMessages 45 = .ok (.iinc 5 1, 3) := by decide +kernel
theorem dX5_takeMessages_48 : decode cX5_takeMessages 48 = .ok (.goto (-26), 3) := by decide +kernel
theorem dX5_takeMessages_51 : decode cX5_takeMessages 51 = .ok (.aload_n 1, 1) := by decide +kernel
theorem dX5_takeMessages_52 : decode cX5_takeMessages 52 = .ok (.iload 4, 2) := by decide +kernel
theorem dX5_takeMessages_54 : decode cX5_takeMessages 54 = .ok (.i2l, 1) := by decide +kernel
theorem dX5_takeMessages_55 : decode cX5_takeMessages 55 = .ok (.invokevirtual 182, 3) := by decide +kernel
theorem dX5_takeMessages_58 : decode cX5_takeMessages 58 = .ok (.iinc 3 1, 3) := by decide +kernel
theorem dX5_takeMessages_61 : decode cX5_takeMessages 61 = .ok (.goto (-51), 3) := by decide +kernel
theorem dX5_takeMessages_64 : decode cX5_takeMessages 64 = .ok (.iinc 2 1, 3) := by decide +kernel
theorem dX5_takeMessages_67 : decode cX5_takeMessages 67 = .ok (.goto (-65), 3) := by decide +kernel
theorem dX5_takeMessages_70 : decode cX5_takeMessages 70 = .ok (.return_, 1) := by decide +kernel
theorem dX5_total_0 : decode cX5_total 0 = .ok (.iload_n 1, 1) := by decide +kernel
theorem dX5_total_1 : decode cX5_total 1 = .ok (.bipush 9, 2) := by decide +kernel
theorem dX5_total_3 : decode cX5_total 3 = .ok (.if_icmp .ne 13, 3) := by decide +kernel
theorem dX5_total_6 : decode cX5_total 6 = .ok (.aload_n 0, 1) := by decide +kernel
theorem dX5_total_7 : decode cX5_total 7 = .ok (.getfield 28, 3) := by decide +kernel
theorem dX5_total_10 : decode cX5_total 10 = .ok (.getfield 134, 3) := by decide +kernel
theorem dX5_total_13 : decode cX5_total 13 = .ok (.goto 11, 3) := by decide +kernel
theorem dX5_total_16 : decode cX5_total 16 = .ok (.aload_n 0, 1) := by decide +kernel
theorem dX5_total_17 : decode cX5_total 17 = .ok (.getfield 21, 3) := by decide +kernel
theorem dX5_total_20 : decode cX5_total 20 = .ok (.iload_n 1, 1) := by decide +kernel
theorem dX5_total_21 : decode cX5_total 21 = .ok (.invokevirtual 218, 3) := by decide +kernel
theorem dX5_total_24 : decode cX5_total 24 = .ok (.ireturn, 1) := by decide +kernel
theorem dX5_isWithin_0 : decode cX5_isWithin 0 = .ok (.iload_n 0, 1) := by decide +kernel
theorem dX5_isWithin_1 : decode cX5_isWithin 1 = .ok (.iload_n 1, 1) := by decide +kernel
theorem dX5_isWithin_2 : decode cX5_isWithin 2 = .ok (.if_icmp .lt 12, 3) := by decide +kernel
theorem dX5_isWithin_5 : decode cX5_isWithin 5 = .ok (.iload_n 0, 1) := by decide +kernel
theorem dX5_isWithin_6 : decode cX5_isWithin 6 = .ok (.iload_n 2, 1) := by decide +kernel
theorem dX5_isWithin_7 : decode cX5_isWithin 7 = .ok (.if_icmp .gt 7, 3) := by decide +kernel
theorem dX5_isWithin_10 : decode cX5_isWithin 10 = .ok (.iconst 1, 1) := by decide +kernel
theorem dX5_isWithin_11 : decode cX5_isWithin 11 = .ok (.goto 4, 3) := by decide +kernel
theorem dX5_isWithin_14 : decode cX5_isWithin 14 = .ok (.iconst 0, 1) := by decide +kernel
theorem dX5_isWithin_15 : decode cX5_isWithin 15 = .ok (.ireturn, 1) := by decide +kernel
theorem dX5_requireSeat_0 : decode cX5_requireSeat 0 = .ok (.iload_n 0, 1) := by decide +kernel
theorem dX5_requireSeat_1 : decode cX5_requireSeat 1 = .ok (.iconst 0, 1) := by decide +kernel
theorem dX5_requireSeat_2 : decode cX5_requireSeat 2 = .ok (.iconst 5, 1) := by decide +kernel
theorem dX5_requireSeat_3 : decode cX5_requireSeat 3 = .ok (.invokestatic 43, 3) := by decide +kernel
theorem dX5_requireSeat_6 : decode cX5_requireSeat 6 = .ok (.ifCond .ne 13, 3) := by decide +kernel
theorem dX5_requireSeat_9 : decode cX5_requireSeat 9 = .ok (.new 86, 3) := by decide +kernel
theorem dX5_requireSeat_12 : decode cX5_requireSeat 12 = .ok (.dup, 1) := by decide +kernel
theorem dX5_requireSeat_13 : decode cX5_requireSeat 13 = .ok (.ldc 221, 2) := by decide +kernel
theorem dX5_requireSeat_15 : decode cX5_requireSeat 15 = .ok (.invokespecial 90, 3) := by decide +kernel
theorem dX5_requireSeat_18 : decode cX5_requireSeat 18 = .ok (.athrow, 1) := by decide +kernel
theorem dX5_requireSeat_19 : decode cX5_requireSeat 19 = .ok (.return_, 1) := by decide +kernel
theorem dX5_require_0 : decode cX5_require 0 = .ok (.iload_n 0, 1) := by decide +kernel
theorem dX5_require_1 : decode cX5_require 1 = .ok (.ifCond .ne 13, 3) := by decide +kernel
theorem dX5_require_4 : decode cX5_require 4 = .ok (.new 223, 3) := by decide +kernel
theorem dX5_require_7 : decode cX5_require 7 = .ok (.dup, 1) := by decide +kernel
theorem dX5_require_8 : decode cX5_require 8 = .ok (.ldc 225, 2) := by decide +kernel
theorem dX5_require_10 : decode cX5_require 10 = .ok (.invokespecial 227, 3) := by decide +kernel
theorem dX5_require_13 : decode cX5_require 13 = .ok (.athrow, 1) := by decide +kernel
theorem dX5_require_14 : decode cX5_require 14 = .ok (.return_, 1) := by decide +kernel
theorem dX6_init_0 : decode cX6_init 0 = .ok (.aload_n 0, 1) := by decide +kernel
theorem dX6_init_1 : decode cX6_init 1 = .ok (.invokespecial 1, 3) := by decide +kernel
theorem dX6_init_4 : decode cX6_init 4 = .ok (.aload_n 0, 1) := by decide +kernel
theorem dX6_init_5 : decode cX6_init 5 = .ok (.ldc 7, 2) := by decide +kernel
theorem dX6_init_7 : decode cX6_init 7 = .ok (.newarray .int, 2) := by decide +kernel
theorem dX6_init_9 : decode cX6_init 9 = .ok (.putfield 8, 3) := by decide +kernel
theorem dX6_init_12 : decode cX6_init 12 = .ok (.aload_n 0, 1) := by decide +kernel
theorem dX6_init_13 : decode cX6_init 13 = .ok (.bipush 60, 2) := by decide +kernel
theorem dX6_init_15 : decode cX6_init 15 = .ok (.newarray .char, 2) := by decide +kernel
theorem dX6_init_17 : decode cX6_init 17 = .ok (.putfield 14, 3) := by decide +kernel
theorem dX6_init_20 : decode cX6_init 20 = .ok (.aload_n 0, 1) := by decide +kernel
theorem dX6_init_21 : decode cX6_init 21 = .ok (.bipush 60, 2) := by decide +kernel
theorem dX6_init_23 : decode cX6_init 23 = .ok (.newarray .int, 2) := by decide +kernel
theorem dX6_init_25 : decode cX6_init 25 = .ok (.putfield 18, 3) := by decide +kernel
theorem dX6_init_28 : decode cX6_init 28 = .ok (.aload_n 0, 1) := by decide +kernel
theorem dX6_init_29 : decode cX6_init 29 = .ok (.getfield 8, 3) := by decide +kernel
theorem dX6_init_32 : decode cX6_init 32 = .ok (.iconst 0, 1) := by decide +kernel
theorem dX6_init_33 : decode cX6_init 33 = .ok (.iconst 1, 1) := by decide +kernel
theorem dX6_init_34 : decode cX6_init 34 = .ok (.iastore, 1) := by decide +kernel
theorem dX6_init_35 : decode cX6_init 35 = .ok (.aload_n 0, 1) := by decide +kernel
theorem dX6_init_36 : decode cX6_init 36 = .ok (.getfield 8, 3) := by decide +kernel
theorem dX6_init_39 : decode cX6_init 39 = .ok (.iconst 1, 1) := by decide +kernel
theorem dX6_init_40 : decode cX6_init 40 = .ok (.iconst 1, 1) := by decide +kernel
theorem dX6_init_41 : decode cX6_init 41 = .ok (.iastore, 1) := by decide +kernel
theorem dX6_init_42 : decode cX6_init 42 = .ok (.aload_n 0, 1) := by decide +kernel
theorem dX6_init_43 : decode cX6_init 43 = .ok (.getfield 8, 3) := by decide +kernel
theorem dX6_init_46 : decode cX6_init 46 = .ok (.iconst 2, 1) := by decide +kernel
theorem dX6_init_47 : decode cX6_init 47 = .ok (.bipush 8, 2) := by decide +kernel
theorem dX6_init_49 : decode cX6_init 49 = .ok (.iastore, 1) := by decide +kernel
theorem dX6_init_50 : decode cX6_init 50 = .ok (.return_, 1) := by decide +kernel
theorem dX6_thrown_0 : decode cX6_thrown 0 = .ok (.aload_n 0, 1) := by decide +kernel
theorem dX6_thrown_1 : decode cX6_thrown 1 = .ok (.getfield 21, 3) := by decide +kernel
theorem dX6_thrown_4 : decode cX6_thrown 4 = .ok (.ireturn, 1) := by decide +kernel
theorem dX6_in_0 : decode cX6_in 0 = .ok (.iload_n 0, 1) := by decide +kernel
theorem dX6_in_1 : decode cX6_in 1 = .ok (.iload_n 1, 1) := by decide +kernel
theorem dX6_in_2 : decode cX6_in 2 = .ok (.if_icmp .lt 12, 3) := by decide +kernel
theorem dX6_in_5 : decode cX6_in 5 = .ok (.iload_n 0, 1) := by decide +kernel
theorem dX6_in_6 : decode cX6_in 6 = .ok (.iload_n 2, 1) := by decide +kernel
theorem dX6_in_7 : decode cX6_in 7 = .ok (.if_icmp .gt 7, 3) := by decide +kernel
theorem dX6_in_10 : decode cX6_in 10 = .ok (.iconst 1, 1) := by decide +kernel
theorem dX6_in_11 : decode cX6_in 11 = .ok (.goto 4, 3) := by decide +kernel
theorem dX6_in_14 : decode cX6_in 14 = .ok (.iconst 0, 1) := by decide +kernel
theorem dX6_in_15 : decode cX6_in 15 = .ok (.ireturn, 1) := by decide +kernel
theorem dX6_goes_0 : decode cX6_goes 0 = .ok (.aload_n 0, 1) := by decide +kernel
theorem dX6_goes_1 : decode cX6_goes 1 = .ok (.iload_n 1, 1) := by decide +kernel
theorem dX6_goes_2 : decode cX6_goes 2 = .ok (.ifCond .ne 7, 3) := by decide +kernel
theorem dX6_goes_5 : decode cX6_goes 5 = .ok (.iconst 1, 1) := by decide +kernel
theorem dX6_goes_6 : decode cX6_goes 6 = .ok (.goto 20, 3) := by decide +kernel
theorem dX6_goes_9 : decode cX6_goes 9 = .ok (.iload_n 2, 1) := by decide +kernel
theorem dX6_goes_10 : decode cX6_goes 10 = .ok (.ifCond .ne 7, 3) := by decide +kernel
theorem dX6_goes_13 : decode cX6_goes 13 = .ok (.iconst 2, 1) := by decide +kernel
theorem dX6_goes_14 : decode cX6_goes 14 = .ok (.goto 12, 3) := by decide +kernel
theorem dX6_goes_17 : decode cX6_goes 17 = .ok (.iload_n 3, 1) := by decide +kernel
theorem dX6_goes_18 : decode cX6_goes 18 = .ok (.ifCond .ne 7, 3) := by decide +kernel
theorem dX6_goes_21 : decode cX6_goes 21 = .ok (.iconst 3, 1) := by decide +kernel
theorem dX6_goes_22 : decode cX6_goes 22 = .ok (.goto 4, 3) := by decide +kernel
theorem dX6_goes_25 : decode cX6_goes 25 = .ok (.iconst 0, 1) := by decide +kernel
theorem dX6_goes_26 : decode cX6_goes 26 = .ok (.putfield 21, 3) := by decide +kernel
theorem dX6_goes_29 : decode cX6_goes 29 = .ok (.aload_n 0, 1) := by decide +kernel
theorem dX6_goes_30 : decode cX6_goes 30 = .ok (.getfield 21, 3) := by decide +kernel
theorem dX6_goes_33 : decode cX6_goes 33 = .ok (.ifCond .ne 7, 3) := by decide +kernel
theorem dX6_goes_36 : decode cX6_goes 36 = .ok (.iconst 1, 1) := by decide +kernel
theorem dX6_goes_37 : decode cX6_goes 37 = .ok (.goto 4, 3) := by decide +kernel
theorem dX6_goes_40 : decode cX6_goes 40 = .ok (.iconst 0, 1) := by decide +kernel
theorem dX6_goes_41 : decode cX6_goes 41 = .ok (.ireturn, 1) := by decide +kernel
theorem dX6_copies_0 : decode cX6_copies 0 = .ok (.iconst 0, 1) := by decide +kernel
theorem dX6_copies_1 : decode cX6_copies 1 = .ok (.istore_n 3, 1) := by decide +kernel
theorem dX6_copies_2 : decode cX6_copies 2 = .ok (.iload_n 3, 1) := by decide +kernel
theorem dX6_copies_3 : decode cX6_copies 3 = .ok (.sipush 4411, 3) := by decide +kernel
theorem dX6_copies_6 : decode cX6_copies 6 = .ok (.if_icmp .ge 33, 3) := by decide +kernel
theorem dX6_copies_9 : decode cX6_copies 9 = .ok (.aload_n 0, 1) := by decide +kernel
theorem dX6_copies_10 : decode cX6_copies 10 = .ok (.getfield 8, 3) := by decide +kernel
theorem dX6_copies_13 : decode cX6_copies 13 = .ok (.sipush 4411, 3) := by decide +kernel
theorem dX6_copies_16 : decode cX6_copies 16 = .ok (.iload_n 2, 1) := by decide +kernel
theorem dX6_copies_17 : decode cX6_copies 17 = .ok (.imul, 1) := by decide +kernel
theorem dX6_copies_18 : decode cX6_copies 18 = .ok (.iload_n 3, 1) := by decide +kernel
theorem dX6_copies_19 : decode cX6_copies 19 = .ok (.iadd, 1) := by decide +kernel
theorem dX6_copies_20 : decode cX6_copies 20 = .ok (.aload_n 0, 1) := by decide +kernel
theorem dX6_copies_21 : decode cX6_copies 21 = .ok (.getfield 8, 3) := by decide +kernel
theorem dX6_copies_24 : decode cX6_copies 24 = .ok (.sipush 4411, 3) := by decide +kernel
theorem dX6_copies_27 : decode cX6_copies 27 = .ok (.iload_n 1, 1) := by decide +kernel
theorem dX6_copies_28 : decode cX6_copies 28 = .ok (.imul, 1) := by decide +kernel
theorem dX6_copies_29 : decode cX6_copies 29 = .ok (.iload_n 3, 1) := by decide +kernel
theorem dX6_copies_30 : decode cX6_copies 30 = .ok (.iadd, 1) := by decide +kernel
theorem dX6_copies_31 : decode cX6_copies 31 = .ok (.iaload, 1) := by decide +kernel
theorem dX6_copies_32 : decode cX6_copies 32 = .ok (.iastore, 1) := by decide +kernel
theorem dX6_copies_33 : decode cX6_copies 33 = .ok (.iinc 3 1, 3) := by decide +kernel
theorem dX6_copies_36 : decode cX6_copies 36 = .ok (.goto (-34), 3) := by decide +kernel
theorem dX6_copies_39 : decode cX6_copies 39 = .ok (.return_, 1) := by decide +kernel
theorem dX6_saves_0 : decode cX6_saves 0 = .ok (.aload_n 0, 1) := by decide +kernel
theorem dX6_saves_1 : decode cX6_saves 1 = .ok (.getfield 25, 3) := by decide +kernel
theorem dX6_saves_4 : decode cX6_saves 4 = .ok (.bipush 6, 2) := by decide +kernel
theorem dX6_saves_6 : decode cX6_saves 6 = .ok (.if_icmp .ne 35, 3) := by decide +kernel
theorem dX6_saves_9 : decode cX6_saves 9 = .ok (.iconst 1, 1) := by decide +kernel
theorem dX6_saves_10 : decode cX6_saves 10 = .ok (.istore_n 1, 1) := by decide +kernel
theorem dX6_saves_11 : decode cX6_saves 11 = .ok (.iload_n 1, 1) := by decide +kernel
theorem dX6_saves_12 : decode cX6_saves 12 = .ok (.bipush 6, 2) := by decide +kernel
theorem dX6_saves_14 : decode cX6_saves 14 = .ok (.if_icmp .ge 17, 3) := by decide +kernel
theorem dX6_saves_17 : decode cX6_saves 17 = .ok (.aload_n 0, 1) := by decide +kernel
theorem dX6_saves_18 : decode cX6_saves 18 = .ok (.iload_n 1, 1) := by decide +kernel
theorem dX6_saves_19 : decode cX6_saves 19 = .ok (.iconst 1, 1) := by decide +kernel
theorem dX6_saves_20 : decode cX6_saves 20 = .ok (.iadd, 1) := by decide +kernel
theorem dX6_saves_21 : decode cX6_saves 21 = .ok (.iload_n 1, 1) := by decide +kernel
theorem dX6_saves_22 : decode cX6_saves 22 = .ok (.invokevirtual 28, 3) := by decide +kernel
theorem dX6_saves_25 : decode cX6_saves 25 = .ok (.iinc 1 1, 3) := by decide +kernel
theorem dX6_saves_28 : decode cX6_saves 28 = .ok (.goto (-17), 3) := by decide +kernel
theorem dX6_saves_31 : decode cX6_saves 31 = .ok (.aload_n 0, 1) := by decide +kernel
theorem dX6_saves_32 : decode cX6_saves 32 = .ok (.dup, 1) := by decide +kernel
theorem dX6_saves_33 : decode cX6_saves 33 = .ok (.getfield 25, 3) := by decide +kernel
theorem dX6_saves_36 : decode cX6_saves 36 = .ok (.iconst 1, 1) := by decide +kernel
theorem dX6_saves_37 : decode cX6_saves 37 = .ok (.isub, 1) := by decide +kernel
theorem dX6_saves_38 : decode cX6_saves 38 = .ok (.putfield 25, 3) := by decide +kernel
theorem dX6_saves_41 : decode cX6_saves 41 = .ok (.aload_n 0, 1) := by decide +kernel
theorem dX6_saves_42 : decode cX6_saves 42 = .ok (.dup, 1) := by decide +kernel
theorem dX6_saves_43 : decode cX6_saves 43 = .ok (.getfield 25, 3) := by decide +kernel
theorem dX6_saves_46 : decode cX6_saves 46 = .ok (.iconst 1, 1) := by decide +kernel
theorem dX6_saves_47 : decode cX6_saves 47 = .ok (.iadd, 1) := by decide +kernel
theorem dX6_saves_48 : decode cX6_saves 48 = .ok (.putfield 25, 3) := by decide +kernel
theorem dX6_saves_51 : decode cX6_saves 51 = .ok (.aload_n 0, 1) := by decide +kernel
theorem dX6_saves_52 : decode cX6_saves 52 = .ok (.iconst 0, 1) := by decide +kernel
theorem dX6_saves_53 : decode cX6_saves 53 = .ok (.aload_n 0, 1) := by decide +kernel
theorem dX6_saves_54 : decode cX6_saves 54 = .ok (.getfield 25, 3) := by decide +kernel
theorem dX6_saves_57 : decode cX6_saves 57 = .ok (.invokevirtual 28, 3) := by decide +kernel
theorem dX6_saves_60 : decode cX6_saves 60 = .ok (.return_, 1) := by decide +kernel
theorem dX6_part_0 : decode cX6_part 0 = .ok (.aload_n 0, 1) := by decide +kernel
theorem dX6_part_1 : decode cX6_part 1 = .ok (.getfield 8, 3) := by decide +kernel
theorem dX6_part_4 : decode cX6_part 4 = .ok (.bipush 11, 2) := by decide +kernel
theorem dX6_part_6 : decode cX6_part 6 = .ok (.bipush 10, 2) := by decide +kernel
theorem dX6_part_8 : decode cX6_part 8 = .ok (.iload_n 1, 1) := by decide +kernel
theorem dX6_part_9 : decode cX6_part 9 = .ok (.imul, 1) := by decide +kernel
theorem dX6_part_10 : decode cX6_part 10 = .ok (.iadd, 1) := by decide +kernel
theorem dX6_part_11 : decode cX6_part 11 = .ok (.iload_n 2, 1) := by decide +kernel
theorem dX6_part_12 : decode cX6_part 12 = .ok (.iadd, 1) := by decide +kernel
theorem dX6_part_13 : decode cX6_part 13 = .ok (.iaload, 1) := by decide +kernel
theorem dX6_part_14 : decode cX6_part 14 = .ok (.ireturn, 1) := by decide +kernel
theorem dX6_isSeat_0 : decode cX6_isSeat 0 = .ok (.iload_n 0, 1) := by decide +kernel
theorem dX6_isSeat_1 : decode cX6_isSeat 1 = .ok (.iconst 0, 1) := by decide +kernel
theorem dX6_isSeat_2 : decode cX6_isSeat 2 = .ok (.iconst 5, 1) := by decide +kernel
theorem dX6_isSeat_3 : decode cX6_isSeat 3 = .ok (.invokestatic 32, 3) := by decide +kernel
theorem dX6_isSeat_6 : decode cX6_isSeat 6 = .ok (.ireturn, 1) := by decide +kernel
theorem dX6_apart_0 : decode cX6_apart 0 = .ok (.iload_n 0, 1) := by decide +kernel
theorem dX6_apart_1 : decode cX6_apart 1 = .ok (.iload_n 1, 1) := by decide +kernel
theorem dX6_apart_2 : decode cX6_apart 2 = .ok (.if_icmp .le 9, 3) := by decide +kernel
theorem dX6_apart_5 : decode cX6_apart 5 = .ok (.iload_n 0, 1) := by decide +kernel
theorem dX6_apart_6 : decode cX6_apart 6 = .ok (.iload_n 1, 1) := by decide +kernel
theorem dX6_apart_7 : decode cX6_apart 7 = .ok (.isub, 1) := by decide +kernel
theorem dX6_apart_8 : decode cX6_apart 8 = .ok (.goto 6, 3) := by decide +kernel
theorem dX6_apart_11 : decode cX6_apart 11 = .ok (.iload_n 1, 1) := by decide +kernel
theorem dX6_apart_12 : decode cX6_apart 12 = .ok (.iload_n 0, 1) := by decide +kernel
theorem dX6_apart_13 : decode cX6_apart 13 = .ok (.isub, 1) := by decide +kernel
theorem dX6_apart_14 : decode cX6_apart 14 = .ok (.istore_n 2, 1) := by decide +kernel
theorem dX6_apart_15 : decode cX6_apart 15 = .ok (.iload_n 2, 1) := by decide +kernel
theorem dX6_apart_16 : decode cX6_apart 16 = .ok (.iconst 3, 1) := by decide +kernel
theorem dX6_apart_17 : decode cX6_apart 17 = .ok (.if_icmp .le 10, 3) := by decide +kernel
theorem dX6_apart_20 : decode cX6_apart 20 = .ok (.bipush 6, 2) := by decide +kernel
theorem dX6_apart_22 : decode cX6_apart 22 = .ok (.iload_n 2, 1) := by decide +kernel
theorem dX6_apart_23 : decode cX6_apart 23 = .ok (.isub, 1) := by decide +kernel
theorem dX6_apart_24 : decode cX6_apart 24 = .ok (.goto 4, 3) := by decide +kernel
theorem dX6_apart_27 : decode cX6_apart 27 = .ok (.iload_n 2, 1) := by decide +kernel
theorem dX6_apart_28 : decode cX6_apart 28 = .ok (.ireturn, 1) := by decide +kernel
theorem dX6_delay_0 : decode cX6_delay 0 = .ok (.iload_n 1, 1) := by decide +kernel
theorem dX6_delay_1 : decode cX6_delay 1 = .ok (.iload_n 2, 1) := by decide +kernel
theorem dX6_delay_2 : decode cX6_delay 2 = .ok (.invokestatic 36, 3) := by decide +kernel
theorem dX6_delay_5 : decode cX6_delay 5 = .ok (.istore_n 3, 1) := by decide +kernel
theorem dX6_delay_6 : decode cX6_delay 6 = .ok (.aload_n 0, 1) := by decide +kernel
theorem dX6_delay_7 : decode cX6_delay 7 = .ok (.getfield 8, 3) := by decide +kernel
theorem dX6_delay_10 : decode cX6_delay 10 = .ok (.iconst 5, 1) := by decide +kernel
theorem dX6_delay_11 : decode cX6_delay 11 = .ok (.iload_n 2, 1) := by decide +kernel
theorem dX6_delay_12 : decode cX6_delay 12 = .ok (.iadd, 1) := by decide +kernel
theorem dX6_delay_13 : decode cX6_delay 13 = .ok (.iaload, 1) := by decide +kernel
theorem dX6_delay_14 : decode cX6_delay 14 = .ok (.istore 4, 2) := by decide +kernel
theorem dX6_delay_16 : decode cX6_delay 16 = .ok (.aload_n 0, 1) := by decide +kernel
theorem dX6_delay_17 : decode cX6_delay 17 = .ok (.getfield 8, 3) := by decide +kernel
theorem dX6_delay_20 : decode cX6_delay 20 = .ok (.iconst 0, 1) := by decide +kernel
theorem dX6_delay_21 : decode cX6_delay 21 = .ok (.iaload, 1) := by decide +kernel
theorem dX6_delay_22 : decode cX6_delay 22 = .ok (.aload_n 0, 1) := by decide +kernel
theorem dX6_delay_23 : decode cX6_delay 23 = .ok (.getfield 8, 3) := by decide +kernel
theorem dX6_delay_26 : decode cX6_delay 26 = .ok (.iconst 1, 1) := by decide +kernel
theorem dX6_delay_27 : decode cX6_delay 27 = .ok (.iaload, 1) := by decide +kernel
theorem dX6_delay_28 : decode cX6_delay 28 = .ok (.iload_n 3, 1) := by decide +kernel
theorem dX6_delay_29 : decode cX6_delay 29 = .ok (.imul, 1) := by decide +kernel
theorem dX6_delay_30 : decode cX6_delay 30 = .ok (.iadd, 1) := by decide +kernel
theorem dX6_delay_31 : decode cX6_delay 31 = .ok (.istore 5, 2) := by decide +kernel
theorem dX6_delay_33 : decode cX6_delay 33 = .ok (.iload 4, 2) := by decide +kernel
theorem dX6_delay_35 : decode cX6_delay 35 = .ok (.iconst 1, 1) := by decide +kernel
theorem dX6_delay_36 : decode cX6_delay 36 = .ok (.if_icmp .ne 8, 3) := by decide +kernel
theorem dX6_delay_39 : decode cX6_delay 39 = .ok (.iload_n 3, 1) := by decide +kernel
theorem dX6_delay_40 : decode cX6_delay 40 = .ok (.iconst 3, 1) := by decide +kernel
theorem dX6_delay_41 : decode cX6_delay 41 = .ok (.if_icmp .eq 14, 3) := by decide +kernel
theorem dX6_delay_44 : decode cX6_delay 44 = .ok (.iload 4, 2) := by decide +kernel
theorem dX6_delay_46 : decode cX6_delay 46 = .ok (.iconst 3, 1) := by decide +kernel
theorem dX6_delay_47 : decode cX6_delay 47 = .ok (.if_icmp .ne 12, 3) := by decide +kernel
theorem dX6_delay_50 : decode cX6_delay 50 = .ok (.iload_n 3, 1) := by decide +kernel
theorem dX6_delay_51 : decode cX6_delay 51 = .ok (.iconst 1, 1) := by decide +kernel
theorem dX6_delay_52 : decode cX6_delay 52 = .ok (.if_icmp .ne 7, 3) := by decide +kernel
theorem dX6_delay_55 : decode cX6_delay 55 = .ok (.iconst (-1), 1) := by decide +kernel
theorem dX6_delay_56 : decode cX6_delay 56 = .ok (.goto 18, 3) := by decide +kernel
theorem dX6_delay_59 : decode cX6_delay 59 = .ok (.iload 4, 2) := by decide +kernel
theorem dX6_delay_61 : decode cX6_delay 61 = .ok (.iconst 2, 1) := by decide +kernel
theorem dX6_delay_62 : decode cX6_delay 62 = .ok (.if_icmp .ne 10, 3) := by decide +kernel
theorem dX6_delay_65 : decode cX6_delay 65 = .ok (.iload 5, 2) := by decide +kernel
theorem dX6_delay_67 : decode cX6_delay 67 = .ok (.iconst 2, 1) := by decide +kernel
theorem dX6_delay_68 : decode cX6_delay 68 = .ok (.iadd, 1) := by decide +kernel
theorem dX6_delay_69 : decode cX6_delay 69 = .ok (.goto 5, 3) := by decide +kernel
theorem dX6_delay_72 : decode cX6_delay 72 = .ok (.iload 5, 2) := by decide +kernel
theorem dX6_delay_74 : decode cX6_delay 74 = .ok (.ireturn, 1) := by decide +kernel
theorem dX6_voice_0 : decode cX6_voice 0 = .ok (.iconst (-1), 1) := by decide +kernel
theorem dX6_voice_1 : decode cX6_voice 1 = .ok (.istore_n 3, 1) := by decide +kernel
theorem dX6_voice_2 : decode cX6_voice 2 = .ok (.iconst (-1), 1) := by decide +kernel
theorem dX6_voice_3 : decode cX6_voice 3 = .ok (.istore 4, 2) := by decide +kernel
theorem dX6_voice_5 : decode cX6_voice 5 = .ok (.iconst (-1), 1) := by decide +kernel
theorem dX6_voice_6 : decode cX6_voice 6 = .ok (.istore 5, 2) := by decide +kernel
theorem dX6_voice_8 : decode cX6_voice 8 = .ok (.iconst (-1), 1) := by decide +kernel
theorem dX6_voice_9 : decode cX6_voice 9 = .ok (.istore 6, 2) := by decide +kernel
theorem dX6_voice_11 : decode cX6_voice 11 = .ok (.iconst 0, 1) := by decide +kernel
theorem dX6_voice_12 : decode cX6_voice 12 = .ok (.istore 7, 2) := by decide +kernel
theorem dX6_voice_14 : decode cX6_voice 14 = .ok (.iload 7, 2) := by decide +kernel
theorem dX6_voice_16 : decode cX6_voice 16 = .ok (.aload_n 0, 1) := by decide +kernel
theorem dX6_voice_17 : decode cX6_voice 17 = .ok (.getfield 8, 3) := by decide +kernel
theorem dX6_voice_20 : decode cX6_voice 20 = .ok (.iconst 4, 1) := by decide +kernel
theorem dX6_voice_21 : decode cX6_voice 21 = .ok (.iaload, 1) := by decide +kernel
theorem dX6_voice_22 : decode cX6_voice 22 = .ok (.if_icmp .ge 92, 3) := by decide +kernel
theorem dX6_voice_25 : decode cX6_voice 25 = .ok (.aload_n 0, 1) := by decide +kernel
theorem dX6_voice_26 : decode cX6_voice 26 = .ok (.iload 7, 2) := by decide +kernel
theorem dX6_voice_28 : decode cX6_voice 28 = .ok (.iconst 4, 1) := by decide +kernel
theorem dX6_voice_29 : decode cX6_voice 29 = .ok (.iload_n 1, 1) := by decide +kernel
theorem dX6_voice_30 : decode cX6_voice 30 = .ok (.iadd, 1) := by decide +kernel
theorem dX6_voice_31 : decode cX6_voice 31 = .ok (.invokevirtual 40, 3) := by decide +kernel
theorem dX6_voice_34 : decode cX6_voice 34 = .ok (.istore 8, 2) := by decide +kernel
theorem dX6_voice_36 : decode cX6_voice 36 = .ok (.iload 8, 2) := by decide +kernel
theorem dX6_voice_38 : decode cX6_voice 38 = .ok (.ifCond .lt 70, 3) := by decide +kernel
theorem dX6_voice_41 : decode cX6_voice 41 = .ok (.iload 8, 2) := by decide +kernel
theorem dX6_voice_43 : decode cX6_voice 43 = .ok (.iload_n 2, 1) := by decide +kernel
theorem dX6_voice_44 : decode cX6_voice 44 = .ok (.if_icmp .gt 64, 3) := by decide +kernel
theorem dX6_voice_47 : decode cX6_voice 47 = .ok (.iload_n 2, 1) := by decide +kernel
theorem dX6_voice_48 : decode cX6_voice 48 = .ok (.iload 8, 2) := by decide +kernel
theorem dX6_voice_50 : decode cX6_voice 50 = .ok (.isub, 1) := by decide +kernel
theorem dX6_voice_51 : decode cX6_voice 51 = .ok (.aload_n 0, 1) := by decide +kernel
theorem dX6_voice_52 : decode cX6_voice 52 = .ok (.getfield 8, 3) := by decide +kernel
theorem dX6_voice_55 : decode cX6_voice 55 = .ok (.iconst 2, 1) := by decide +kernel
theorem dX6_voice_56 : decode cX6_voice 56 = .ok (.iaload, 1) := by decide +kernel
theorem dX6_voice_57 : decode cX6_voice 57 = .ok (.if_icmp .gt 51, 3) := by decide +kernel
theorem dX6_voice_60 : decode cX6_voice 60 = .ok (.iload_n 3, 1) := by decide +kernel
theorem dX6_voice_61 : decode cX6_voice 61 = .ok (.ifCond .lt 10, 3) := by decide +kernel
theorem dX6_voice_64 : decode cX6_voice 64 = .ok (.iload 8, 2) := by decide +kernel
theorem dX6_voice_66 : decode cX6_voice 66 = .ok (.iload 5, 2) := by decide +kernel
theorem dX6_voice_68 : decode cX6_voice 68 = .ok (.if_icmp .lt 20, 3) := by decide +kernel
theorem dX6_voice_71 : decode cX6_voice 71 = .ok (.iload_n 3, 1) := by decide +kernel
theorem dX6_voice_72 : decode cX6_voice 72 = .ok (.istore 4, 2) := by decide +kernel
theorem dX6_voice_74 : decode cX6_voice 74 = .ok (.iload 5, 2) := by decide +kernel
theorem dX6_voice_76 : decode cX6_voice 76 = .ok (.istore 6, 2) := by decide +kernel
theorem dX6_voice_78 : decode cX6_voice 78 = .ok (.iload 7, 2) := by decide +kernel
theorem dX6_voice_80 : decode cX6_voice 80 = .ok (.istore_n 3, 1) := by decide +kernel
theorem dX6_voice_81 : decode cX6_voice 81 = .ok (.iload 8, 2) := by decide +kernel
theorem dX6_voice_83 : decode cX6_voice 83 = .ok (.istore 5, 2) := by decide +kernel
theorem dX6_voice_85 : decode cX6_voice 85 = .ok (.goto 23, 3) := by decide +kernel
theorem dX6_voice_88 : decode cX6_voice 88 = .ok (.iload 4, 2) := by decide +kernel
theorem dX6_voice_90 : decode cX6_voice 90 = .ok (.ifCond .lt 10, 3) := by decide +kernel
theorem dX6_voice_93 : decode cX6_voice 93 = .ok (.iload 8, 2) := by decide +kernel
theorem dX6_voice_95 : decode cX6_voice 95 = .ok (.iload 6, 2) := by decide +kernel
theorem dX6_voice_97 : decode cX6_voice 97 = .ok (.if_icmp .lt 11, 3) := by decide +kernel
theorem dX6_voice_100 : decode cX6_voice 100 = .ok (.iload 7, 2) := by decide +kernel
theorem dX6_voice_102 : decode cX6_voice 102 = .ok (.istore 4, 2) := by decide +kernel
theorem dX6_voice_104 : decode cX6_voice 104 = .ok (.iload 8, 2) := by decide +kernel
theorem dX6_voice_106 : decode cX6_voice 106 = .ok (.istore 6, 2) := by decide +kernel
theorem dX6_voice_108 : decode cX6_voice 108 = .ok (.iinc 7 1, 3) := by decide +kernel
theorem dX6_voice_111 : decode cX6_voice 111 = .ok (.goto (-97), 3) := by decide +kernel
theorem dX6_voice_114 : decode cX6_voice 114 = .ok (.iload 4, 2) := by decide +kernel
theorem dX6_voice_116 : decode cX6_voice 116 = .ok (.ireturn, 1) := by decide +kernel
theorem dX6_ends_0 : decode cX6_ends 0 = .ok (.iconst 0, 1) := by decide +kernel
theorem dX6_ends_1 : decode cX6_ends 1 = .ok (.istore_n 1, 1) := by decide +kernel
theorem dX6_ends_2 : decode cX6_ends 2 = .ok (.iload_n 1, 1) := by decide +kernel
theorem dX6_ends_3 : decode cX6_ends 3 = .ok (.bipush 6, 2) := by decide +kernel
theorem dX6_ends_5 : decode cX6_ends 5 = .ok (.if_icmp .ge 41, 3) := by decide +kernel
theorem dX6_ends_8 : decode cX6_ends 8 = .ok (.aload_n 0, 1) := by decide +kernel
theorem dX6_ends_9 : decode cX6_ends 9 = .ok (.getfield 8, 3) := by decide +kernel
theorem dX6_ends_12 : decode cX6_ends 12 = .ok (.sipush 2011, 3) := by decide +kernel
theorem dX6_ends_15 : decode cX6_ends 15 = .ok (.sipush 400, 3) := by decide +kernel
theorem dX6_ends_18 : decode cX6_ends 18 = .ok (.iload_n 1, 1) := by decide +kernel
theorem dX6_ends_19 : decode cX6_ends 19 = .ok (.imul, 1) := by decide +kernel
theorem dX6_ends_20 : decode cX6_ends 20 = .ok (.iadd, 1) := by decide +kernel
theorem dX6_ends_21 : decode cX6_ends 21 = .ok (.aload_n 0, 1) := by decide +kernel
theorem dX6_ends_22 : decode cX6_ends 22 = .ok (.getfield 8, 3) := by decide +kernel
theorem dX6_ends_25 : decode cX6_ends 25 = .ok (.iconst 3, 1) := by decide +kernel
theorem dX6_ends_26 : decode cX6_ends 26 = .ok (.iaload, 1) := by decide +kernel
theorem dX6_ends_27 : decode cX6_ends 27 = .ok (.iadd, 1) := by decide +kernel
theorem dX6_ends_28 : decode cX6_ends 28 = .ok (.aload_n 0, 1) := by decide +kernel
theorem dX6_ends_29 : decode cX6_ends 29 = .ok (.iload_n 1, 1) := by decide +kernel
theorem dX6_ends_30 : decode cX6_ends 30 = .ok (.aload_n 0, 1) := by decide +kernel
theorem dX6_ends_31 : decode cX6_ends 31 = .ok (.getfield 8, 3) := by decide +kernel
theorem dX6_ends_34 : decode cX6_ends 34 = .ok (.iconst 3, 1) := by decide +kernel
theorem dX6_ends_35 : decode cX6_ends 35 = .ok (.iaload, 1) := by decide +kernel
theorem dX6_ends_36 : decode cX6_ends 36 = .ok (.invokevirtual 43, 3) := by decide +kernel
theorem dX6_ends_39 : decode cX6_ends 39 = .ok (.iastore, 1) := by decide +kernel
theorem dX6_ends_40 : decode cX6_ends 40 = .ok (.iinc 1 1, 3) := by decide +kernel
theorem dX6_ends_43 : decode cX6_ends 43 = .ok (.goto (-41), 3) := by decide +kernel
theorem dX6_ends_46 : decode cX6_ends 46 = .ok (.aload_n 0, 1) := by decide +kernel
theorem dX6_ends_47 : decode cX6_ends 47 = .ok (.getfield 8, 3) := by decide +kernel
theorem dX6_ends_50 : decode cX6_ends 50 = .ok (.iconst 3, 1) := by decide +kernel
theorem dX6_ends_51 : decode cX6_ends 51 = .ok (.dup2, 1) := by decide +kernel
theorem dX6_ends_52 : decode cX6_ends 52 = .ok (.iaload, 1) := by decide +kernel
theorem dX6_ends_53 : decode cX6_ends 53 = .ok (.iconst 1, 1) := by decide +kernel
theorem dX6_ends_54 : decode cX6_ends 54 = .ok (.iadd, 1) := by decide +kernel
theorem dX6_ends_55 : decode cX6_ends 55 = .ok (.iastore, 1) := by decide +kernel
theorem dX6_ends_56 : decode cX6_ends 56 = .ok (.return_, 1) := by decide +kernel
theorem dX6_speaks_0 : decode cX6_speaks 0 = .ok (.aload_n 0, 1) := by decide +kernel
theorem dX6_speaks_1 : decode cX6_speaks 1 = .ok (.getfield 8, 3) := by decide +kernel
theorem dX6_speaks_4 : decode cX6_speaks 4 = .ok (.iconst 4, 1) := by decide +kernel
theorem dX6_speaks_5 : decode cX6_speaks 5 = .ok (.iaload, 1) := by decide +kernel
theorem dX6_speaks_6 : decode cX6_speaks 6 = .ok (.istore 4, 2) := by decide +kernel
theorem dX6_speaks_8 : decode cX6_speaks 8 = .ok (.bipush 11, 2) := by decide +kernel
theorem dX6_speaks_10 : decode cX6_speaks 10 = .ok (.bipush 10, 2) := by decide +kernel
theorem dX6_speaks_12 : decode cX6_speaks 12 = .ok (.iload 4, 2) := by decide +kernel
theorem dX6_speaks_14 : decode cX6_speaks 14 = .ok (.imul, 1) := by decide +kernel
theorem dX6_speaks_15 : decode cX6_speaks 15 = .ok (.iadd, 1) := by decide +kernel
theorem dX6_speaks_16 : decode cX6_speaks 16 = .ok (.istore 5, 2) := by decide +kernel
theorem dX6_speaks_18 : decode cX6_speaks 18 = .ok (.aload_n 0, 1) := by decide +kernel
theorem dX6_speaks_19 : decode cX6_speaks 19 = .ok (.getfield 8, 3) := by decide +kernel
theorem dX6_speaks_22 : decode cX6_speaks 22 = .ok (.iload 5, 2) := by decide +kernel
theorem dX6_speaks_24 : decode cX6_speaks 24 = .ok (.iload_n 1, 1) := by decide +kernel
theorem dX6_speaks_25 : decode cX6_speaks 25 = .ok (.iastore, 1) := by decide +kernel
theorem dX6_speaks_26 : decode cX6_speaks 26 = .ok (.aload_n 0, 1) := by decide +kernel
theorem dX6_speaks_27 : decode cX6_speaks 27 = .ok (.getfield 8, 3) := by decide +kernel
theorem dX6_speaks_30 : decode cX6_speaks 30 = .ok (.iload 5, 2) := by decide +kernel
theorem dX6_speaks_32 : decode cX6_speaks 32 = .ok (.iconst 1, 1) := by decide +kernel
theorem dX6_speaks_33 : decode cX6_speaks 33 = .ok (.iadd, 1) := by decide +kernel
theorem dX6_speaks_34 : decode cX6_speaks 34 = .ok (.iload_n 2, 1) := by decide +kernel
theorem dX6_speaks_35 : decode cX6_speaks 35 = .ok (.iastore, 1) := by decide +kernel
theorem dX6_speaks_36 : decode cX6_speaks 36 = .ok (.aload_n 0, 1) := by decide +kernel
theorem dX6_speaks_37 : decode cX6_speaks 37 = .ok (.getfield 8, 3) := by decide +kernel
theorem dX6_speaks_40 : decode cX6_speaks 40 = .ok (.iload 5, 2) := by decide +kernel
theorem dX6_speaks_42 : decode cX6_speaks 42 = .ok (.iconst 2, 1) := by decide +kernel
theorem dX6_speaks_43 : decode cX6_speaks 43 = .ok (.iadd, 1) := by decide +kernel
theorem dX6_speaks_44 : decode cX6_speaks 44 = .ok (.iload_n 3, 1) := by decide +kernel
theorem dX6_speaks_45 : decode cX6_speaks 45 = .ok (.iastore, 1) := by decide +kernel
theorem dX6_speaks_46 : decode cX6_speaks 46 = .ok (.aload_n 0, 1) := by decide +kernel
theorem dX6_speaks_47 : decode cX6_speaks 47 = .ok (.getfield 8, 3) := by decide +kernel
theorem dX6_speaks_50 : decode cX6_speaks 50 = .ok (.iload 5, 2) := by decide +kernel
theorem dX6_speaks_52 : decode cX6_speaks 52 = .ok (.iconst 3, 1) := by decide +kernel
theorem dX6_speaks_53 : decode cX6_speaks 53 = .ok (.iadd, 1) := by decide +kernel
theorem dX6_speaks_54 : decode cX6_speaks 54 = .ok (.aload_n 0, 1) := by decide +kernel
theorem dX6_speaks_55 : decode cX6_speaks 55 = .ok (.getfield 8, 3) := by decide +kernel
theorem dX6_speaks_58 : decode cX6_speaks 58 = .ok (.iconst 3, 1) := by decide +kernel
theorem dX6_speaks_59 : decode cX6_speaks 59 = .ok (.iaload, 1) := by decide +kernel
theorem dX6_speaks_60 : decode cX6_speaks 60 = .ok (.iastore, 1) := by decide +kernel
theorem dX6_speaks_61 : decode cX6_speaks 61 = .ok (.iconst 0, 1) := by decide +kernel
theorem dX6_speaks_62 : decode cX6_speaks 62 = .ok (.istore 6, 2) := by decide +kernel
theorem dX6_speaks_64 : decode cX6_speaks 64 = .ok (.iload 6, 2) := by decide +kernel
theorem dX6_speaks_66 : decode cX6_speaks 66 = .ok (.bipush 6, 2) := by decide +kernel
theorem dX6_speaks_68 : decode cX6_speaks 68 = .ok (.if_icmp .ge 48, 3) := by decide +kernel
theorem dX6_speaks_71 : decode cX6_speaks 71 = .ok (.aload_n 0, 1) := by decide +kernel
theorem dX6_speaks_72 : decode cX6_speaks 72 = .ok (.iload_n 1, 1) := by decide +kernel
theorem dX6_speaks_73 : decode cX6_speaks 73 = .ok (.iload 6, 2) := by decide +kernel
theorem dX6_speaks_75 : decode cX6_speaks 75 = .ok (.invokevirtual 46, 3) := by decide +kernel
theorem dX6_speaks_78 : decode cX6_speaks 78 = .ok (.istore 7, 2) := by decide +kernel
theorem dX6_speaks_80 : decode cX6_speaks 80 = .ok (.aload_n 0, 1) := by decide +kernel
theorem dX6_speaks_81 : decode cX6_speaks 81 = .ok (.getfield 8, 3) := by decide +kernel
theorem dX6_speaks_84 : decode cX6_speaks 84 = .ok (.iload 5, 2) := by decide +kernel
theorem dX6_speaks_86 : decode cX6_speaks 86 = .ok (.iconst 4, 1) := by decide +kernel
theorem dX6_speaks_87 : decode cX6_speaks 87 = .ok (.iadd, 1) := by decide +kernel
theorem dX6_speaks_88 : decode cX6_speaks 88 = .ok (.iload 6, 2) := by decide +kernel
theorem dX6_speaks_90 : decode cX6_speaks 90 = .ok (.iadd, 1) := by decide +kernel
theorem dX6_speaks_91 : decode cX6_speaks 91 = .ok (.iload 7, 2) := by decide +kernel
theorem dX6_speaks_93 : decode cX6_speaks 93 = .ok (.ifCond .ge 7, 3) := by decide +kernel
theorem dX6_speaks_96 : decode cX6_speaks 96 = .ok (.iconst (-1), 1) := by decide +kernel
theorem dX6_speaks_97 : decode cX6_speaks 97 = .ok (.goto 12, 3) := by decide +kernel
theorem dX6_speaks_100 : decode cX6_speaks 100 = .ok (.aload_n 0, 1) := by decide +kernel
theorem dX6_speaks_101 : decode cX6_speaks 101 = .ok (.getfield 8, 3) := by decide +kernel
theorem dX6_speaks_104 : decode cX6_speaks 104 = .ok (.iconst 3, 1) := by decide +kernel
theorem dX6_speaks_105 : decode cX6_speaks 105 = .ok (.iaload, 1) := by decide +kernel
theorem dX6_speaks_106 : decode cX6_speaks 106 = .ok (.iload 7, 2) := by decide +kernel
theorem dX6_speaks_108 : decode cX6_speaks 108 = .ok (.iadd, 1) := by decide +kernel
theorem dX6_speaks_109 : decode cX6_speaks 109 = .ok (.iastore, 1) := by decide +kernel
theorem dX6_speaks_110 : decode cX6_speaks 110 = .ok (.iinc 6 1, 3) := by decide +kernel
theorem dX6_speaks_113 : decode cX6_speaks 113 = .ok (.goto (-49), 3) := by decide +kernel
theorem dX6_speaks_116 : decode cX6_speaks 116 = .ok (.aload_n 0, 1) := by decide +kernel
theorem dX6_speaks_117 : decode cX6_speaks 117 = .ok (.getfield 8, 3) := by decide +kernel
theorem dX6_speaks_120 : decode cX6_speaks 120 = .ok (.iconst 4, 1) := by decide +kernel
theorem dX6_speaks_121 : decode cX6_speaks 121 = .ok (.dup2, 1) := by decide +kernel
theorem dX6_speaks_122 : decode cX6_speaks 122 = .ok (.iaload, 1) := by decide +kernel
theorem dX6_speaks_123 : decode cX6_speaks 123 = .ok (.iconst 1, 1) := by decide +kernel
theorem dX6_speaks_124 : decode cX6_speaks 124 = .ok (.iadd, 1) := by decide +kernel
theorem dX6_speaks_125 : decode cX6_speaks 125 = .ok (.iastore, 1) := by decide +kernel
theorem dX6_speaks_126 : decode cX6_speaks 126 = .ok (.aload_n 0, 1) := by decide +kernel
theorem dX6_speaks_127 : decode cX6_speaks 127 = .ok (.invokevirtual 49, 3) := by decide +kernel
theorem dX6_speaks_130 : decode cX6_speaks 130 = .ok (.iload 4, 2) := by decide +kernel
theorem dX6_speaks_132 : decode cX6_speaks 132 = .ok (.ireturn, 1) := by decide +kernel
theorem dX6_canSpeak_0 : decode cX6_canSpeak 0 = .ok (.aload_n 0, 1) := by decide +kernel
theorem dX6_canSpeak_1 : decode cX6_canSpeak 1 = .ok (.getfield 8, 3) := by decide +kernel
theorem dX6_canSpeak_4 : decode cX6_canSpeak 4 = .ok (.iconst 4, 1) := by decide +kernel
theorem dX6_canSpeak_5 : decode cX6_canSpeak 5 = .ok (.iaload, 1) := by decide +kernel
theorem dX6_canSpeak_6 : decode cX6_canSpeak 6 = .ok (.sipush 200, 3) := by decide +kernel
theorem dX6_canSpeak_9 : decode cX6_canSpeak 9 = .ok (.if_icmp .ge 19, 3) := by decide +kernel
theorem dX6_canSpeak_12 : decode cX6_canSpeak 12 = .ok (.aload_n 0, 1) := by decide +kernel
theorem dX6_canSpeak_13 : decode cX6_canSpeak 13 = .ok (.getfield 8, 3) := by decide +kernel
theorem dX6_canSpeak_16 : decode cX6_canSpeak 16 = .ok (.iconst 3, 1) := by decide +kernel
theorem dX6_canSpeak_17 : decode cX6_canSpeak 17 = .ok (.iaload, 1) := by decide +kernel
theorem dX6_canSpeak_18 : decode cX6_canSpeak 18 = .ok (.sipush 400, 3) := by decide +kernel
theorem dX6_canSpeak_21 : decode cX6_canSpeak 21 = .ok (.if_icmp .ge 7, 3) := by decide +kernel
theorem dX6_canSpeak_24 : decode cX6_canSpeak 24 = .ok (.iconst 1, 1) := by decide +kernel
theorem dX6_canSpeak_25 : decode cX6_canSpeak 25 = .ok (.goto 4, 3) := by decide +kernel
theorem dX6_canSpeak_28 : decode cX6_canSpeak 28 = .ok (.iconst 0, 1) := by decide +kernel
theorem dX6_canSpeak_29 : decode cX6_canSpeak 29 = .ok (.ireturn, 1) := by decide +kernel
theorem dX6_passes_0 : decode cX6_passes 0 = .ok (.iconst 0, 1) := by decide +kernel
theorem dX6_passes_1 : decode cX6_passes 1 = .ok (.istore_n 2, 1) := by decide +kernel
theorem dX6_passes_2 : decode cX6_passes 2 = .ok (.iload_n 2, 1) := by decide +kernel
theorem dX6_passes_3 : decode cX6_passes 3 = .ok (.iload_n 1, 1) := by decide +kernel
theorem dX6_passes_4 : decode cX6_passes 4 = .ok (.if_icmp .ge 13, 3) := by decide +kernel
theorem dX6_passes_7 : decode cX6_passes 7 = .ok (.aload_n 0, 1) := by decide +kernel
theorem dX6_passes_8 : decode cX6_passes 8 = .ok (.invokevirtual 49, 3) := by decide +kernel
theorem dX6_passes_11 : decode cX6_passes 11 = .ok (.iinc 2 1, 3) := by decide +kernel
theorem dX6_passes_14 : decode cX6_passes 14 = .ok (.goto (-12), 3) := by decide +kernel
theorem dX6_passes_17 : decode cX6_passes 17 = .ok (.return_, 1) := by decide +kernel
theorem dX6_say_0 : decode cX6_say 0 = .ok (.aload_n 0, 1) := by decide +kernel
theorem dX6_say_1 : decode cX6_say 1 = .ok (.iload_n 1, 1) := by decide +kernel
theorem dX6_say_2 : decode cX6_say 2 = .ok (.invokestatic 52, 3) := by decide +kernel
theorem dX6_say_5 : decode cX6_say 5 = .ok (.iload_n 2, 1) := by decide +kernel
theorem dX6_say_6 : decode cX6_say 6 = .ok (.iconst 1, 1) := by decide +kernel
theorem dX6_say_7 : decode cX6_say 7 = .ok (.bipush 99, 2) := by decide +kernel
theorem dX6_say_9 : decode cX6_say 9 = .ok (.invokestatic 32, 3) := by decide +kernel
theorem dX6_say_12 : decode cX6_say 12 = .ok (.ifCond .eq 17, 3) := by decide +kernel
theorem dX6_say_15 : decode cX6_say 15 = .ok (.iload_n 3, 1) := by decide +kernel
theorem dX6_say_16 : decode cX6_say 16 = .ok (.iconst (-1), 1) := by decide +kernel
theorem dX6_say_17 : decode cX6_say 17 = .ok (.bipush 9, 2) := by decide +kernel
theorem dX6_say_19 : decode cX6_say 19 = .ok (.invokestatic 32, 3) := by decide +kernel
theorem dX6_say_22 : decode cX6_say 22 = .ok (.ifCond .eq 7, 3) := by decide +kernel
theorem dX6_say_25 : decode cX6_say 25 = .ok (.iconst 1, 1) := by decide +kernel
theorem dX6_say_26 : decode cX6_say 26 = .ok (.goto 4, 3) := by decide +kernel
theorem dX6_say_29 : decode cX6_say 29 = .ok (.iconst 0, 1) := by decide +kernel
theorem dX6_say_30 : decode cX6_say 30 = .ok (.aload_n 0, 1) := by decide +kernel
theorem dX6_say_31 : decode cX6_say 31 = .ok (.invokevirtual 56, 3) := by decide +kernel
theorem dX6_say_34 : decode cX6_say 34 = .ok (.invokevirtual 60, 3) := by decide +kernel
theorem dX6_say_37 : decode cX6_say 37 = .ok (.ifCond .ne 5, 3) := by decide +kernel
theorem dX6_say_40 : decode cX6_say 40 = .ok (.iconst 0, 1) := by decide +kernel
theorem dX6_say_41 : decode cX6_say 41 = .ok (.ireturn, 1) := by decide +kernel
theorem dX6_say_42 : decode cX6_say 42 = .ok (.aload_n 0, 1) := by decide +kernel
theorem dX6_say_43 : decode cX6_say 43 = .ok (.invokevirtual 64, 3) := by decide +kernel
theorem dX6_say_46 : decode cX6_say 46 = .ok (.aload_n 0, 1) := by decide +kernel
theorem dX6_say_47 : decode cX6_say 47 = .ok (.iload_n 1, 1) := by decide +kernel
theorem dX6_say_48 : decode cX6_say 48 = .ok (.iload_n 2, 1) := by decide +kernel
theorem dX6_say_49 : decode cX6_say 49 = .ok (.iload_n 3, 1) := by decide +kernel
theorem dX6_say_50 : decode cX6_say 50 = .ok (.invokevirtual 67, 3) := by decide +kernel
theorem dX6_say_53 : decode cX6_say 53 = .ok (.ireturn, 1) := by decide +kernel
theorem dX6_pass_0 : decode cX6_pass 0 = .ok (.aload_n 0, 1) := by decide +kernel
theorem dX6_pass_1 : decode cX6_pass 1 = .ok (.iload_n 1, 1) := by decide +kernel
theorem dX6_pass_2 : decode cX6_pass 2 = .ok (.iconst 1, 1) := by decide +kernel
theorem dX6_pass_3 : decode cX6_pass 3 = .ok (.bipush 50, 2) := by decide +kernel
theorem dX6_pass_5 : decode cX6_pass 5 = .ok (.invokestatic 32, 3) := by decide +kernel
theorem dX6_pass_8 : decode cX6_pass 8 = .ok (.iload_n 1, 1) := by decide +kernel
theorem dX6_pass_9 : decode cX6_pass 9 = .ok (.iconst 1, 1) := by decide +kernel
theorem dX6_pass_10 : decode cX6_pass 10 = .ok (.bipush 50, 2) := by decide +kernel
theorem dX6_pass_12 : decode cX6_pass 12 = .ok (.invokestatic 32, 3) := by decide +kernel
theorem dX6_pass_15 : decode cX6_pass 15 = .ok (.ifCond .eq 17, 3) := by decide +kernel
theorem dX6_pass_18 : decode cX6_pass 18 = .ok (.aload_n 0, 1) := by decide +kernel
theorem dX6_pass_19 : decode cX6_pass 19 = .ok (.getfield 8, 3) := by decide +kernel
theorem dX6_pass_22 : decode cX6_pass 22 = .ok (.iconst 3, 1) := by decide +kernel
theorem dX6_pass_23 : decode cX6_pass 23 = .ok (.iaload, 1) := by decide +kernel
theorem dX6_pass_24 : decode cX6_pass 24 = .ok (.iload_n 1, 1) := by decide +kernel
theorem dX6_pass_25 : decode cX6_pass 25 = .ok (.iadd, 1) := by decide +kernel
theorem dX6_pass_26 : decode cX6_pass 26 = .ok (.sipush 400, 3) := by decide +kernel
theorem dX6_pass_29 : decode cX6_pass 29 = .ok (.if_icmp .gt 7, 3) := by decide +kernel
theorem dX6_pass_32 : decode cX6_pass 32 = .ok (.iconst 1, 1) := by decide +kernel
theorem dX6_pass_33 : decode cX6_pass 33 = .ok (.goto 4, 3) := by decide +kernel
theorem dX6_pass_36 : decode cX6_pass 36 = .ok (.iconst 0, 1) := by decide +kernel
theorem dX6_pass_37 : decode cX6_pass 37 = .ok (.iconst 1, 1) := by decide +kernel
theorem dX6_pass_38 : decode cX6_pass 38 = .ok (.invokevirtual 60, 3) := by decide +kernel
theorem dX6_pass_41 : decode cX6_pass 41 = .ok (.ifCond .ne 5, 3) := by decide +kernel
theorem dX6_pass_44 : decode cX6_pass 44 = .ok (.iconst 0, 1) := by decide +kernel
theorem dX6_pass_45 : decode cX6_pass 45 = .ok (.ireturn, 1) := by decide +kernel
theorem dX6_pass_46 : decode cX6_pass 46 = .ok (.aload_n 0, 1) := by decide +kernel
theorem dX6_pass_47 : decode cX6_pass 47 = .ok (.invokevirtual 64, 3) := by decide +kernel
theorem dX6_pass_50 : decode cX6_pass 50 = .ok (.aload_n 0, 1) := by decide +kernel
theorem dX6_pass_51 : decode cX6_pass 51 = .ok (.iload_n 1, 1) := by decide +kernel
theorem dX6_pass_52 : decode cX6_pass 52 = .ok (.invokevirtual 71, 3) := by decide +kernel
theorem dX6_pass_55 : decode cX6_pass 55 = .ok (.aload_n 0, 1) := by decide +kernel
theorem dX6_pass_56 : decode cX6_pass 56 = .ok (.getfield 8, 3) := by decide +kernel
theorem dX6_pass_59 : decode cX6_pass 59 = .ok (.iconst 3, 1) := by decide +kernel
theorem dX6_pass_60 : decode cX6_pass 60 = .ok (.iaload, 1) := by decide +kernel
theorem dX6_pass_61 : decode cX6_pass 61 = .ok (.ireturn, 1) := by decide +kernel
theorem dX6_wall_0 : decode cX6_wall 0 = .ok (.aload_n 0, 1) := by decide +kernel
theorem dX6_wall_1 : decode cX6_wall 1 = .ok (.iload_n 1, 1) := by decide +kernel
theorem dX6_wall_2 : decode cX6_wall 2 = .ok (.invokestatic 52, 3) := by decide +kernel
theorem dX6_wall_5 : decode cX6_wall 5 = .ok (.iload_n 2, 1) := by decide +kernel
theorem dX6_wall_6 : decode cX6_wall 6 = .ok (.iconst 0, 1) := by decide +kernel
theorem dX6_wall_7 : decode cX6_wall 7 = .ok (.iconst 3, 1) := by decide +kernel
theorem dX6_wall_8 : decode cX6_wall 8 = .ok (.invokestatic 32, 3) := by decide +kernel
theorem dX6_wall_11 : decode cX6_wall 11 = .ok (.iconst 1, 1) := by decide +kernel
theorem dX6_wall_12 : decode cX6_wall 12 = .ok (.invokevirtual 60, 3) := by decide +kernel
theorem dX6_wall_15 : decode cX6_wall 15 = .ok (.ifCond .ne 5, 3) := by decide +kernel
theorem dX6_wall_18 : decode cX6_wall 18 = .ok (.iconst 0, 1) := by decide +kernel
theorem dX6_wall_19 : decode cX6_wall 19 = .ok (.ireturn, 1) := by decide +kernel
theorem dX6_wall_20 : decode cX6_wall 20 = .ok (.aload_n 0, 1) := by decide +kernel
theorem dX6_wall_21 : decode cX6_wall 21 = .ok (.invokevirtual 64, 3) := by decide +kernel
theorem dX6_wall_24 : decode cX6_wall 24 = .ok (.aload_n 0, 1) := by decide +kernel
theorem dX6_wall_25 : decode cX6_wall 25 = .ok (.getfield 8, 3) := by decide +kernel
theorem dX6_wall_28 : decode cX6_wall 28 = .ok (.iconst 5, 1) := by decide +kernel
theorem dX6_wall_29 : decode cX6_wall 29 = .ok (.iload_n 1, 1) := by decide +kernel
theorem dX6_wall_30 : decode cX6_wall 30 = .ok (.iadd, 1) := by decide +kernel
theorem dX6_wall_31 : decode cX6_wall 31 = .ok (.iaload, 1) := by decide +kernel
theorem dX6_wall_32 : decode cX6_wall 32 = .ok (.istore_n 3, 1) := by decide +kernel
theorem dX6_wall_33 : decode cX6_wall 33 = .ok (.aload_n 0, 1) := by decide +kernel
theorem dX6_wall_34 : decode cX6_wall 34 = .ok (.getfield 8, 3) := by decide +kernel
theorem dX6_wall_37 : decode cX6_wall 37 = .ok (.iconst 5, 1) := by decide +kernel
theorem dX6_wall_38 : decode cX6_wall 38 = .ok (.iload_n 1, 1) := by decide +kernel
theorem dX6_wall_39 : decode cX6_wall 39 = .ok (.iadd, 1) := by decide +kernel
theorem dX6_wall_40 : decode cX6_wall 40 = .ok (.iload_n 2, 1) := by decide +kernel
theorem dX6_wall_41 : decode cX6_wall 41 = .ok (.iastore, 1) := by decide +kernel
theorem dX6_wall_42 : decode cX6_wall 42 = .ok (.iload_n 3, 1) := by decide +kernel
theorem dX6_wall_43 : decode cX6_wall 43 = .ok (.ireturn, 1) := by decide +kernel
theorem dX6_set_0 : decode cX6_set 0 = .ok (.iload_n 1, 1) := by decide +kernel
theorem dX6_set_1 : decode cX6_set 1 = .ok (.iconst 0, 1) := by decide +kernel
theorem dX6_set_2 : decode cX6_set 2 = .ok (.iconst 2, 1) := by decide +kernel
theorem dX6_set_3 : decode cX6_set 3 = .ok (.invokestatic 32, 3) := by decide +kernel
theorem dX6_set_6 : decode cX6_set 6 = .ok (.istore_n 3, 1) := by decide +kernel
theorem dX6_set_7 : decode cX6_set 7 = .ok (.aload_n 0, 1) := by decide +kernel
theorem dX6_set_8 : decode cX6_set 8 = .ok (.iload_n 3, 1) := by decide +kernel
theorem dX6_set_9 : decode cX6_set 9 = .ok (.iload_n 3, 1) := by decide +kernel
theorem dX6_set_10 : decode cX6_set 10 = .ok (.ifCond .eq 39, 3) := by decide +kernel
theorem dX6_set_13 : decode cX6_set 13 = .ok (.iload_n 2, 1) := by decide +kernel
theorem dX6_set_14 : decode cX6_set 14 = .ok (.iload_n 1, 1) := by decide +kernel
theorem dX6_set_15 : decode cX6_set 15 = .ok (.iconst 2, 1) := by decide +kernel
theorem dX6_set_16 : decode cX6_set 16 = .ok (.if_icmp .ne 7, 3) := by decide +kernel
theorem dX6_set_19 : decode cX6_set 19 = .ok (.iconst 1, 1) := by decide +kernel
theorem dX6_set_20 : decode cX6_set 20 = .ok (.goto 4, 3) := by decide +kernel
theorem dX6_set_23 : decode cX6_set 23 = .ok (.iconst 0, 1) := by decide +kernel
theorem dX6_set_24 : decode cX6_set 24 = .ok (.iload_n 1, 1) := by decide +kernel
theorem dX6_set_25 : decode cX6_set 25 = .ok (.ifCond .ne 7, 3) := by decide +kernel
theorem dX6_set_28 : decode cX6_set 28 = .ok (.iconst 5, 1) := by decide +kernel
theorem dX6_set_29 : decode cX6_set 29 = .ok (.goto 14, 3) := by decide +kernel
theorem dX6_set_32 : decode cX6_set 32 = .ok (.iload_n 1, 1) := by decide +kernel
theorem dX6_set_33 : decode cX6_set 33 = .ok (.iconst 1, 1) := by decide +kernel
theorem dX6_set_34 : decode cX6_set 34 = .ok (.if_icmp .ne 7, 3) := by decide +kernel
theorem dX6_set_37 : decode cX6_set 37 = .ok (.iconst 4, 1) := by decide +kernel
theorem dX6_set_38 : decode cX6_set 38 = .ok (.goto 5, 3) := by decide +kernel
theorem dX6_set_41 : decode cX6_set 41 = .ok (.bipush 50, 2) := by decide +kernel
theorem dX6_set_43 : decode cX6_set 43 = .ok (.invokestatic 32, 3) := by decide +kernel
theorem dX6_set_46 : decode cX6_set 46 = .ok (.ifCond .eq 7, 3) := by decide +kernel
theorem dX6_set_49 : decode cX6_set 49 = .ok (.iconst 1, 1) := by decide +kernel
theorem dX6_set_50 : decode cX6_set 50 = .ok (.goto 4, 3) := by decide +kernel
theorem dX6_set_53 : decode cX6_set 53 = .ok (.iconst 0, 1) := by decide +kernel
theorem dX6_set_54 : decode cX6_set 54 = .ok (.iconst 1, 1) := by decide +kernel
theorem dX6_set_55 : decode cX6_set 55 = .ok (.invokevirtual 60, 3) := by decide +kernel
theorem dX6_set_58 : decode cX6_set 58 = .ok (.ifCond .ne 5, 3) := by decide +kernel
theorem dX6_set_61 : decode cX6_set 61 = .ok (.iconst 0, 1) := by decide +kernel
theorem dX6_set_62 : decode cX6_set 62 = .ok (.ireturn, 1) := by decide +kernel
theorem dX6_set_63 : decode cX6_set 63 = .ok (.aload_n 0, 1) := by decide +kernel
theorem dX6_set_64 : decode cX6_set 64 = .ok (.invokevirtual 64, 3) := by decide +kernel
theorem dX6_set_67 : decode cX6_set 67 = .ok (.aload_n 0, 1) := by decide +kernel
theorem dX6_set_68 : decode cX6_set 68 = .ok (.getfield 8, 3) := by decide +kernel
theorem dX6_set_71 : decode cX6_set 71 = .ok (.iload_n 1, 1) := by decide +kernel
theorem dX6_set_72 : decode cX6_set 72 = .ok (.iaload, 1) := by decide +kernel
theorem dX6_set_73 : decode cX6_set 73 = .ok (.istore 4, 2) := by decide +kernel
theorem dX6_set_75 : decode cX6_set 75 = .ok (.aload_n 0, 1) := by decide +kernel
theorem dX6_set_76 : decode cX6_set 76 = .ok (.getfield 8, 3) := by decide +kernel
theorem dX6_set_79 : decode cX6_set 79 = .ok (.iload_n 1, 1) := by decide +kernel
theorem dX6_set_80 : decode cX6_set 80 = .ok (.iload_n 2, 1) := by decide +kernel
theorem dX6_set_81 : decode cX6_set 81 = .ok (.iastore, 1) := by decide +kernel
theorem dX6_set_82 : decode cX6_set 82 = .ok (.iload 4, 2) := by decide +kernel
theorem dX6_set_84 : decode cX6_set 84 = .ok (.ireturn, 1) := by decide +kernel
theorem dX6_append_0 : decode cX6_append 0 = .ok (.aload_n 0, 1) := by decide +kernel
theorem dX6_append_1 : decode cX6_append 1 = .ok (.iload_n 1, 1) := by decide +kernel
theorem dX6_append_2 : decode cX6_append 2 = .ok (.bipush 33, 2) := by decide +kernel
theorem dX6_append_4 : decode cX6_append 4 = .ok (.bipush 126, 2) := by decide +kernel
theorem dX6_append_6 : decode cX6_append 6 = .ok (.invokestatic 32, 3) := by decide +kernel
theorem dX6_append_9 : decode cX6_append 9 = .ok (.aload_n 0, 1) := by decide +kernel
theorem dX6_append_10 : decode cX6_append 10 = .ok (.getfield 75, 3) := by decide +kernel
theorem dX6_append_13 : decode cX6_append 13 = .ok (.bipush 60, 2) := by decide +kernel
theorem dX6_append_15 : decode cX6_append 15 = .ok (.if_icmp .ge 7, 3) := by decide +kernel
theorem dX6_append_18 : decode cX6_append 18 = .ok (.iconst 1, 1) := by decide +kernel
theorem dX6_append_19 : decode cX6_append 19 = .ok (.goto 4, 3) := by decide +kernel
theorem dX6_append_22 : decode cX6_append 22 = .ok (.iconst 0, 1) := by decide +kernel
theorem dX6_append_23 : decode cX6_append 23 = .ok (.iconst 1, 1) := by decide +kernel
theorem dX6_append_24 : decode cX6_append 24 = .ok (.invokevirtual 60, 3) := by decide +kernel
theorem dX6_append_27 : decode cX6_append 27 = .ok (.ifCond .ne 5, 3) := by decide +kernel
theorem dX6_append_30 : decode cX6_append 30 = .ok (.iconst 0, 1) := by decide +kernel
theorem dX6_append_31 : decode cX6_append 31 = .ok (.ireturn, 1) := by decide +kernel
theorem dX6_append_32 : decode cX6_append 32 = .ok (.aload_n 0, 1) := by decide +kernel
theorem dX6_append_33 : decode cX6_append 33 = .ok (.getfield 14, 3) := by decide +kernel
theorem dX6_append_36 : decode cX6_append 36 = .ok (.aload_n 0, 1) := by decide +kernel
theorem dX6_append_37 : decode cX6_append 37 = .ok (.getfield 75, 3) := by decide +kernel
theorem dX6_append_40 : decode cX6_append 40 = .ok (.iload_n 1, 1) := by decide +kernel
theorem dX6_append_41 : decode cX6_append 41 = .ok (.i2c, 1) := by decide +kernel
theorem dX6_append_42 : decode cX6_append 42 = .ok (.castore, 1) := by decide +kernel
theorem dX6_append_43 : decode cX6_append 43 = .ok (.aload_n 0, 1) := by decide +kernel
theorem dX6_append_44 : decode cX6_append 44 = .ok (.dup, 1) := by decide +kernel
theorem dX6_append_45 : decode cX6_append 45 = .ok (.getfield 75, 3) := by decide +kernel
theorem dX6_append_48 : decode cX6_append 48 = .ok (.iconst 1, 1) := by decide +kernel
theorem dX6_append_49 : decode cX6_append 49 = .ok (.iadd, 1) := by decide +kernel
theorem dX6_append_50 : decode cX6_append 50 = .ok (.putfield 75, 3) := by decide +kernel
theorem dX6_append_53 : decode cX6_append 53 = .ok (.aload_n 0, 1) := by decide +kernel
theorem dX6_append_54 : decode cX6_append 54 = .ok (.getfield 75, 3) := by decide +kernel
theorem dX6_append_57 : decode cX6_append 57 = .ok (.ireturn, 1) := by decide +kernel
theorem dX6_clearBuffer_0 : decode cX6_clearBuffer 0 = .ok (.aload_n 0, 1) := by decide +kernel
theorem dX6_clearBuffer_1 : decode cX6_clearBuffer 1 = .ok (.iconst 0, 1) := by decide +kernel
theorem dX6_clearBuffer_2 : decode cX6_clearBuffer 2 = .ok (.putfield 21, 3) := by decide +kernel
theorem dX6_clearBuffer_5 : decode cX6_clearBuffer 5 = .ok (.aload_n 0, 1) := by decide +kernel
theorem dX6_clearBuffer_6 : decode cX6_clearBuffer 6 = .ok (.getfield 75, 3) := by decide +kernel
theorem dX6_clearBuffer_9 : decode cX6_clearBuffer 9 = .ok (.istore_n 1, 1) := by decide +kernel
theorem dX6_clearBuffer_10 : decode cX6_clearBuffer 10 = .ok (.aload_n 0, 1) := by decide +kernel
theorem dX6_clearBuffer_11 : decode cX6_clearBuffer 11 = .ok (.iconst 0, 1) := by decide +kernel
theorem dX6_clearBuffer_12 : decode cX6_clearBuffer 12 = .ok (.putfield 75, 3) := by decide +kernel
theorem dX6_clearBuffer_15 : decode cX6_clearBuffer 15 = .ok (.iload_n 1, 1) := by decide +kernel
theorem dX6_clearBuffer_16 : decode cX6_clearBuffer 16 = .ok (.ireturn, 1) := by decide +kernel
theorem dX6_isNow_0 : decode cX6_isNow 0 = .ok (.aload_n 0, 1) := by decide +kernel
theorem dX6_isNow_1 : decode cX6_isNow 1 = .ok (.getfield 78, 3) := by decide +kernel
theorem dX6_isNow_4 : decode cX6_isNow 4 = .ok (.ifCond .ne 35, 3) := by decide +kernel
theorem dX6_isNow_7 : decode cX6_isNow 7 = .ok (.aload_n 0, 1) := by decide +kernel
theorem dX6_isNow_8 : decode cX6_isNow 8 = .ok (.getfield 82, 3) := by decide +kernel
theorem dX6_isNow_11 : decode cX6_isNow 11 = .ok (.aload_n 0, 1) := by decide +kernel
theorem dX6_isNow_12 : decode cX6_isNow 12 = .ok (.getfield 75, 3) := by decide +kernel
theorem dX6_isNow_15 : decode cX6_isNow 15 = .ok (.if_icmp .ge 24, 3) := by decide +kernel
theorem dX6_isNow_18 : decode cX6_isNow 18 = .ok (.aload_n 0, 1) := by decide +kernel
theorem dX6_isNow_19 : decode cX6_isNow 19 = .ok (.getfield 14, 3) := by decide +kernel
theorem dX6_isNow_22 : decode cX6_isNow 22 = .ok (.aload_n 0, 1) := by decide +kernel
theorem dX6_isNow_23 : decode cX6_isNow 23 = .ok (.getfield 82, 3) := by decide +kernel
theorem dX6_isNow_26 : decode cX6_isNow 26 = .ok (.caload, 1) := by decide +kernel
theorem dX6_isNow_27 : decode cX6_isNow 27 = .ok (.iload_n 1, 1) := by decide +kernel
theorem dX6_isNow_28 : decode cX6_isNow 28 = .ok (.iload_n 2, 1) := by decide +kernel
theorem dX6_isNow_29 : decode cX6_isNow 29 = .ok (.invokestatic 32, 3) := by decide +kernel
theorem dX6_isNow_32 : decode cX6_isNow 32 = .ok (.ifCond .eq 7, 3) := by decide +kernel
theorem dX6_isNow_35 : decode cX6_isNow 35 = .ok (.iconst 1, 1) := by decide +kernel
theorem dX6_isNow_36 : decode cX6_isNow 36 = .ok (.goto 4, 3) := by decide +kernel
theorem dX6_isNow_39 : decode cX6_isNow 39 = .ok (.iconst 0, 1) := by decide +kernel
theorem dX6_isNow_40 : decode cX6_isNow 40 = .ok (.ireturn, 1) := by decide +kernel
theorem dX6_sign_0 : decode cX6_sign 0 = .ok (.aload_n 0, 1) := by decide +kernel
theorem dX6_sign_1 : decode cX6_sign 1 = .ok (.aload_n 0, 1) := by decide +kernel
theorem dX6_sign_2 : decode cX6_sign 2 = .ok (.getfield 78, 3) := by decide +kernel
theorem dX6_sign_5 : decode cX6_sign 5 = .ok (.ifCond .ne 12, 3) := by decide +kernel
theorem dX6_sign_8 : decode cX6_sign 8 = .ok (.aload_n 0, 1) := by decide +kernel
theorem dX6_sign_9 : decode cX6_sign 9 = .ok (.iload_n 1, 1) := by decide +kernel
theorem dX6_sign_10 : decode cX6_sign 10 = .ok (.iload_n 1, 1) := by decide +kernel
theorem dX6_sign_11 : decode cX6_sign 11 = .ok (.invokevirtual 85, 3) := by decide +kernel
theorem dX6_sign_14 : decode cX6_sign 14 = .ok (.ifCond .ne 7, 3) := by decide +kernel
theorem dX6_sign_17 : decode cX6_sign 17 = .ok (.iconst 1, 1) := by decide +kernel
theorem dX6_sign_18 : decode cX6_sign 18 = .ok (.goto 4, 3) := by decide +kernel
theorem dX6_sign_21 : decode cX6_sign 21 = .ok (.iconst 0, 1) := by decide +kernel
theorem dX6_sign_22 : decode cX6_sign 22 = .ok (.putfield 78, 3) := by decide +kernel
theorem dX6_sign_25 : decode cX6_sign 25 = .ok (.aload_n 0, 1) := by decide +kernel
theorem dX6_sign_26 : decode cX6_sign 26 = .ok (.dup, 1) := by decide +kernel
theorem dX6_sign_27 : decode cX6_sign 27 = .ok (.getfield 82, 3) := by decide +kernel
theorem dX6_sign_30 : decode cX6_sign 30 = .ok (.aload_n 0, 1) := by decide +kernel
theorem dX6_sign_31 : decode cX6_sign 31 = .ok (.getfield 78, 3) := by decide +kernel
theorem dX6_sign_34 : decode cX6_sign 34 = .ok (.ifCond .eq 7, 3) := by decide +kernel
theorem dX6_sign_37 : decode cX6_sign 37 = .ok (.iconst 0, 1) := by decide +kernel
theorem dX6_sign_38 : decode cX6_sign 38 = .ok (.goto 4, 3) := by decide +kernel
theorem dX6_sign_41 : decode cX6_sign 41 = .ok (.iconst 1, 1) := by decide +kernel
theorem dX6_sign_42 : decode cX6_sign 42 = .ok (.iadd, 1) := by decide +kernel
theorem dX6_sign_43 : decode cX6_sign 43 = .ok (.putfield 82, 3) := by decide +kernel
theorem dX6_sign_46 : decode cX6_sign 46 = .ok (.return_, 1) := by decide +kernel
theorem dX6_digit_0 : decode cX6_digit 0 = .ok (.aload_n 0, 1) := by decide +kernel
theorem dX6_digit_1 : decode cX6_digit 1 = .ok (.aload_n 0, 1) := by decide +kernel
theorem dX6_digit_2 : decode cX6_digit 2 = .ok (.getfield 78, 3) := by decide +kernel
theorem dX6_digit_5 : decode cX6_digit 5 = .ok (.ifCond .ne 16, 3) := by decide +kernel
theorem dX6_digit_8 : decode cX6_digit 8 = .ok (.aload_n 0, 1) := by decide +kernel
theorem dX6_digit_9 : decode cX6_digit 9 = .ok (.bipush 48, 2) := by decide +kernel
theorem dX6_digit_11 : decode cX6_digit 11 = .ok (.bipush 48, 2) := by decide +kernel
theorem dX6_digit_13 : decode cX6_digit 13 = .ok (.iload_n 1, 1) := by decide +kernel
theorem dX6_digit_14 : decode cX6_digit 14 = .ok (.iadd, 1) := by decide +kernel
theorem dX6_digit_15 : decode cX6_digit 15 = .ok (.invokevirtual 85, 3) := by decide +kernel
theorem dX6_digit_18 : decode cX6_digit 18 = .ok (.ifCond .ne 7, 3) := by decide +kernel
theorem dX6_digit_21 : decode cX6_digit 21 = .ok (.iconst 1, 1) := by decide +kernel
theorem dX6_digit_22 : decode cX6_digit 22 = .ok (.goto 4, 3) := by decide +kernel
theorem dX6_digit_25 : decode cX6_digit 25 = .ok (.iconst 0, 1) := by decide +kernel
theorem dX6_digit_26 : decode cX6_digit 26 = .ok (.putfield 78, 3) := by decide +kernel
theorem dX6_digit_29 : decode cX6_digit 29 = .ok (.aload_n 0, 1) := by decide +kernel
theorem dX6_digit_30 : decode cX6_digit 30 = .ok (.dup, 1) := by decide +kernel
theorem dX6_digit_31 : decode cX6_digit 31 = .ok (.getfield 82, 3) := by decide +kernel
theorem dX6_digit_34 : decode cX6_digit 34 = .ok (.aload_n 0, 1) := by decide +kernel
theorem dX6_digit_35 : decode cX6_digit 35 = .ok (.getfield 78, 3) := by decide +kernel
theorem dX6_digit_38 : decode cX6_digit 38 = .ok (.ifCond .eq 7, 3) := by decide +kernel
theorem dX6_digit_41 : decode cX6_digit 41 = .ok (.iconst 0, 1) := by decide +kernel
theorem dX6_digit_42 : decode cX6_digit 42 = .ok (.goto 4, 3) := by decide +kernel
theorem dX6_digit_45 : decode cX6_digit 45 = .ok (.iconst 1, 1) := by decide +kernel
theorem dX6_digit_46 : decode cX6_digit 46 = .ok (.iadd, 1) := by decide +kernel
theorem dX6_digit_47 : decode cX6_digit 47 = .ok (.putfield 82, 3) := by decide +kernel
theorem dX6_digit_50 : decode cX6_digit 50 = .ok (.aload_n 0, 1) := by decide +kernel
theorem dX6_digit_51 : decode cX6_digit 51 = .ok (.getfield 78, 3) := by decide +kernel
theorem dX6_digit_54 : decode cX6_digit 54 = .ok (.ifCond .eq 7, 3) := by decide +kernel
theorem dX6_digit_57 : decode cX6_digit 57 = .ok (.iconst 0, 1) := by decide +kernel
theorem dX6_digit_58 : decode cX6_digit 58 = .ok (.goto 17, 3) := by decide +kernel
theorem dX6_digit_61 : decode cX6_digit 61 = .ok (.aload_n 0, 1) := by decide +kernel
theorem dX6_digit_62 : decode cX6_digit 62 = .ok (.getfield 14, 3) := by decide +kernel
theorem dX6_digit_65 : decode cX6_digit 65 = .ok (.aload_n 0, 1) := by decide +kernel
theorem dX6_digit_66 : decode cX6_digit 66 = .ok (.getfield 82, 3) := by decide +kernel
theorem dX6_digit_69 : decode cX6_digit 69 = .ok (.iconst 1, 1) := by decide +kernel
theorem dX6_digit_70 : decode cX6_digit 70 = .ok (.isub, 1) := by decide +kernel
theorem dX6_digit_71 : decode cX6_digit 71 = .ok (.caload, 1) := by decide +kernel
theorem dX6_digit_72 : decode cX6_digit 72 = .ok (.bipush 48, 2) := by decide +kernel
theorem dX6_digit_74 : decode cX6_digit 74 = .ok (.isub, 1) := by decide +kernel
theorem dX6_digit_75 : decode cX6_digit 75 = .ok (.ireturn, 1) := by decide +kernel
theorem dX6_number_0 : decode cX6_number 0 = .ok (.aload_n 0, 1) := by decide +kernel
theorem dX6_number_1 : decode cX6_number 1 = .ok (.aload_n 0, 1) := by decide +kernel
theorem dX6_number_2 : decode cX6_number 2 = .ok (.getfield 78, 3) := by decide +kernel
theorem dX6_number_5 : decode cX6_number 5 = .ok (.ifCond .ne 14, 3) := by decide +kernel
theorem dX6_number_8 : decode cX6_number 8 = .ok (.aload_n 0, 1) := by decide +kernel
theorem dX6_number_9 : decode cX6_number 9 = .ok (.bipush 49, 2) := by decide +kernel
theorem dX6_number_11 : decode cX6_number 11 = .ok (.bipush 57, 2) := by decide +kernel
theorem dX6_number_13 : decode cX6_number 13 = .ok (.invokevirtual 85, 3) := by decide +kernel
theorem dX6_number_16 : decode cX6_number 16 = .ok (.ifCond .ne 7, 3) := by decide +kernel
theorem dX6_number_19 : decode cX6_number 19 = .ok (.iconst 1, 1) := by decide +kernel
theorem dX6_number_20 : decode cX6_number 20 = .ok (.goto 4, 3) := by decide +kernel
theorem dX6_number_23 : decode cX6_number 23 = .ok (.iconst 0, 1) := by decide +kernel
theorem dX6_number_24 : decode cX6_number 24 = .ok (.putfield 78, 3) := by decide +kernel
theorem dX6_number_27 : decode cX6_number 27 = .ok (.aload_n 0, 1) := by decide +kernel
theorem dX6_number_28 : decode cX6_number 28 = .ok (.getfield 78, 3) := by decide +kernel
theorem dX6_number_31 : decode cX6_number 31 = .ok (.ifCond .eq 5, 3) := by decide +kernel
theorem dX6_number_34 : decode cX6_number 34 = .ok (.iconst 0, 1) := by decide +kernel
theorem dX6_number_35 : decode cX6_number 35 = .ok (.ireturn, 1) := by decide +kernel
theorem dX6_number_36 : decode cX6_number 36 = .ok (.aload_n 0, 1) := by decide +kernel
theorem dX6_number_37 : decode cX6_number 37 = .ok (.getfield 14, 3) := by decide +kernel
theorem dX6_number_40 : decode cX6_number 40 = .ok (.aload_n 0, 1) := by decide +kernel
theorem dX6_number_41 : decode cX6_number 41 = .ok (.getfield 82, 3) := by decide +kernel
theorem dX6_number_44 : decode cX6_number 44 = .ok (.caload, 1) := by decide +kernel
theorem dX6_number_45 : decode cX6_number 45 = .ok (.bipush 48, 2) := by decide +kernel
theorem dX6_number_47 : decode cX6_number 47 = .ok (.isub, 1) := by decide +kernel
theorem dX6_number_48 : decode cX6_number 48 = .ok (.istore_n 2, 1) := by decide +kernel
theorem dX6_number_49 : decode cX6_number 49 = .ok (.aload_n 0, 1) := by decide +kernel
theorem dX6_number_50 : decode cX6_number 50 = .ok (.dup, 1) := by decide +kernel
theorem dX6_number_51 : decode cX6_number 51 = .ok (.getfield 82, 3) := by decide +kernel
theorem dX6_number_54 : decode cX6_number 54 = .ok (.iconst 1, 1) := by decide +kernel
theorem dX6_number_55 : decode cX6_number 55 = .ok (.iadd, 1) := by decide +kernel
theorem dX6_number_56 : decode cX6_number 56 = .ok (.putfield 82, 3) := by decide +kernel
theorem dX6_number_59 : decode cX6_number 59 = .ok (.aload_n 0, 1) := by decide +kernel
theorem dX6_number_60 : decode cX6_number 60 = .ok (.bipush 48, 2) := by decide +kernel
theorem dX6_number_62 : decode cX6_number 62 = .ok (.bipush 57, 2) := by decide +kernel
theorem dX6_number_64 : decode cX6_number 64 = .ok (.invokevirtual 85, 3) := by decide +kernel
theorem dX6_number_67 : decode cX6_number 67 = .ok (.ifCond .eq 52, 3) := by decide +kernel
theorem dX6_number_70 : decode cX6_number 70 = .ok (.bipush 10, 2) := by decide +kernel
theorem dX6_number_72 : decode cX6_number 72 = .ok (.iload_n 2, 1) := by decide +kernel
theorem dX6_number_73 : decode cX6_number 73 = .ok (.imul, 1) := by decide +kernel
theorem dX6_number_74 : decode cX6_number 74 = .ok (.aload_n 0, 1) := by decide +kernel
theorem dX6_number_75 : decode cX6_number 75 = .ok (.getfield 14, 3) := by decide +kernel
theorem dX6_number_78 : decode cX6_number 78 = .ok (.aload_n 0, 1) := by decide +kernel
theorem dX6_number_79 : decode cX6_number 79 = .ok (.getfield 82, 3) := by decide +kernel
theorem dX6_number_82 : decode cX6_number 82 = .ok (.caload, 1) := by decide +kernel
theorem dX6_number_83 : decode cX6_number 83 = .ok (.iadd, 1) := by decide +kernel
theorem dX6_number_84 : decode cX6_number 84 = .ok (.bipush 48, 2) := by decide +kernel
theorem dX6_number_86 : decode cX6_number 86 = .ok (.isub, 1) := by decide +kernel
theorem dX6_number_87 : decode cX6_number 87 = .ok (.iload_n 1, 1) := by decide +kernel
theorem dX6_number_88 : decode cX6_number 88 = .ok (.if_icmp .gt 31, 3) := by decide +kernel
theorem dX6_number_91 : decode cX6_number 91 = .ok (.bipush 10, 2) := by decide +kernel
theorem dX6_number_93 : decode cX6_number 93 = .ok (.iload_n 2, 1) := by decide +kernel
theorem dX6_number_94 : decode cX6_number 94 = .ok (.imul, 1) := by decide +kernel
theorem dX6_number_95 : decode cX6_number 95 = .ok (.aload_n 0, 1) := by decide +kernel
theorem dX6_number_96 : decode cX6_number 96 = .ok (.getfield 14, 3) := by decide +kernel
theorem dX6_number_99 : decode cX6_number 99 = .ok (.aload_n 0, 1) := by decide +kernel
theorem dX6_number_100 : decode cX6_number 100 = .ok (.getfield 82, 3) := by decide +kernel
theorem dX6_number_103 : decode cX6_number 103 = .ok (.caload, 1) := by decide +kernel
theorem dX6_number_104 : decode cX6_number 104 = .ok (.iadd, 1) := by decide +kernel
theorem dX6_number_105 : decode cX6_number 105 = .ok (.bipush 48, 2) := by decide +kernel
theorem dX6_number_107 : decode cX6_number 107 = .ok (.isub, 1) := by decide +kernel
theorem dX6_number_108 : decode cX6_number 108 = .ok (.istore_n 2, 1) := by decide +kernel
theorem dX6_number_109 : decode cX6_number 109 = .ok (.aload_n 0, 1) := by decide +kernel
theorem dX6_number_110 : decode cX6_number 110 = .ok (.dup, 1) := by decide +kernel
theorem dX6_number_111 : decode cX6_number 111 = .ok (.getfield 82, 3) := by decide +kernel
theorem dX6_number_114 : decode cX6_number 114 = .ok (.iconst 1, 1) := by decide +kernel
theorem dX6_number_115 : decode cX6_number 115 = .ok (.iadd, 1) := by decide +kernel
theorem dX6_number_116 : decode cX6_number 116 = .ok (.putfield 82, 3) := by decide +kernel
theorem dX6_number_119 : decode cX6_number 119 = .ok (.iload_n 2, 1) := by decide +kernel
theorem dX6_number_120 : decode cX6_number 120 = .ok (.ireturn, 1) := by decide +kernel
theorem dX6_reads_0 : decode cX6_reads 0 = .ok (.aload_n 0, 1) := by decide +kernel
theorem dX6_reads_1 : decode cX6_reads 1 = .ok (.iconst 0, 1) := by decide +kernel
theorem dX6_reads_2 : decode cX6_reads 2 = .ok (.putfield 89, 3) := by decide +kernel
theorem dX6_reads_5 : decode cX6_reads 5 = .ok (.aload_n 0, 1) := by decide +kernel
theorem dX6_reads_6 : decode cX6_reads 6 = .ok (.iconst 0, 1) := by decide +kernel
theorem dX6_reads_7 : decode cX6_reads 7 = .ok (.putfield 92, 3) := by decide +kernel
theorem dX6_reads_10 : decode cX6_reads 10 = .ok (.aload_n 0, 1) := by decide +kernel
theorem dX6_reads_11 : decode cX6_reads 11 = .ok (.iconst (-1), 1) := by decide +kernel
theorem dX6_reads_12 : decode cX6_reads 12 = .ok (.putfield 95, 3) := by decide +kernel
theorem dX6_reads_15 : decode cX6_reads 15 = .ok (.aload_n 0, 1) := by decide +kernel
theorem dX6_reads_16 : decode cX6_reads 16 = .ok (.bipush 46, 2) := by decide +kernel
theorem dX6_reads_18 : decode cX6_reads 18 = .ok (.bipush 46, 2) := by decide +kernel
theorem dX6_reads_20 : decode cX6_reads 20 = .ok (.invokevirtual 85, 3) := by decide +kernel
theorem dX6_reads_23 : decode cX6_reads 23 = .ok (.ifCond .eq 26, 3) := by decide +kernel
theorem dX6_reads_26 : decode cX6_reads 26 = .ok (.aload_n 0, 1) := by decide +kernel
theorem dX6_reads_27 : decode cX6_reads 27 = .ok (.dup, 1) := by decide +kernel
theorem dX6_reads_28 : decode cX6_reads 28 = .ok (.getfield 82, 3) := by decide +kernel
theorem dX6_reads_31 : decode cX6_reads 31 = .ok (.iconst 1, 1) := by decide +kernel
theorem dX6_reads_32 : decode cX6_reads 32 = .ok (.iadd, 1) := by decide +kernel
theorem dX6_reads_33 : decode cX6_reads 33 = .ok (.putfield 82, 3) := by decide +kernel
theorem dX6_reads_36 : decode cX6_reads 36 = .ok (.aload_n 0, 1) := by decide +kernel
theorem dX6_reads_37 : decode cX6_reads 37 = .ok (.aload_n 0, 1) := by decide +kernel
theorem dX6_reads_38 : decode cX6_reads 38 = .ok (.bipush 50, 2) := by decide +kernel
theorem dX6_reads_40 : decode cX6_reads 40 = .ok (.invokevirtual 98, 3) := by decide +kernel
theorem dX6_reads_43 : decode cX6_reads 43 = .ok (.putfield 92, 3) := by decide +kernel
theorem dX6_reads_46 : decode cX6_reads 46 = .ok (.goto 110, 3) := by decide +kernel
theorem dX6_reads_49 : decode cX6_reads 49 = .ok (.aload_n 0, 1) := by decide +kernel
theorem dX6_reads_50 : decode cX6_reads 50 = .ok (.aload_n 0, 1) := by decide +kernel
theorem dX6_reads_51 : decode cX6_reads 51 = .ok (.iconst 5, 1) := by decide +kernel
theorem dX6_reads_52 : decode cX6_reads 52 = .ok (.invokevirtual 102, 3) := by decide +kernel
theorem dX6_reads_55 : decode cX6_reads 55 = .ok (.putfield 105, 3) := by decide +kernel
theorem dX6_reads_58 : decode cX6_reads 58 = .ok (.aload_n 0, 1) := by decide +kernel
theorem dX6_reads_59 : decode cX6_reads 59 = .ok (.bipush 58, 2) := by decide +kernel
theorem dX6_reads_61 : decode cX6_reads 61 = .ok (.invokevirtual 108, 3) := by decide +kernel
theorem dX6_reads_64 : decode cX6_reads 64 = .ok (.iconst 1, 1) := by decide +kernel
theorem dX6_reads_65 : decode cX6_reads 65 = .ok (.istore_n 1, 1) := by decide +kernel
theorem dX6_reads_66 : decode cX6_reads 66 = .ok (.iload_n 1, 1) := by decide +kernel
theorem dX6_reads_67 : decode cX6_reads 67 = .ok (.ifCond .eq 58, 3) := by decide +kernel
theorem dX6_reads_70 : decode cX6_reads 70 = .ok (.aload_n 0, 1) := by decide +kernel
theorem dX6_reads_71 : decode cX6_reads 71 = .ok (.getfield 18, 3) := by decide +kernel
theorem dX6_reads_74 : decode cX6_reads 74 = .ok (.aload_n 0, 1) := by decide +kernel
theorem dX6_reads_75 : decode cX6_reads 75 = .ok (.getfield 89, 3) := by decide +kernel
theorem dX6_reads_78 : decode cX6_reads 78 = .ok (.aload_n 0, 1) := by decide +kernel
theorem dX6_reads_79 : decode cX6_reads 79 = .ok (.bipush 99, 2) := by decide +kernel
theorem dX6_reads_81 : decode cX6_reads 81 = .ok (.invokevirtual 98, 3) := by decide +kernel
theorem dX6_reads_84 : decode cX6_reads 84 = .ok (.iastore, 1) := by decide +kernel
theorem dX6_reads_85 : decode cX6_reads 85 = .ok (.aload_n 0, 1) := by decide +kernel
theorem dX6_reads_86 : decode cX6_reads 86 = .ok (.dup, 1) := by decide +kernel
theorem dX6_reads_87 : decode cX6_reads 87 = .ok (.getfield 89, 3) := by decide +kernel
theorem dX6_reads_90 : decode cX6_reads 90 = .ok (.iconst 1, 1) := by decide +kernel
theorem dX6_reads_91 : decode cX6_reads 91 = .ok (.iadd, 1) := by decide +kernel
theorem dX6_reads_92 : decode cX6_reads 92 = .ok (.putfield 89, 3) := by decide +kernel
theorem dX6_reads_95 : decode cX6_reads 95 = .ok (.aload_n 0, 1) := by decide +kernel
theorem dX6_reads_96 : decode cX6_reads 96 = .ok (.bipush 44, 2) := by decide +kernel
theorem dX6_reads_98 : decode cX6_reads 98 = .ok (.bipush 44, 2) := by decide +kernel
theorem dX6_reads_100 : decode cX6_reads 100 = .ok (.invokevirtual 85, 3) := by decide +kernel
theorem dX6_reads_103 : decode cX6_reads 103 = .ok (.istore_n 1, 1) := by decide +kernel
theorem dX6_reads_104 : decode cX6_reads 104 = .ok (.aload_n 0, 1) := by decide +kernel
theorem dX6_reads_105 : decode cX6_reads 105 = .ok (.dup, 1) := by decide +kernel
theorem dX6_reads_106 : decode cX6_reads 106 = .ok (.getfield 82, 3) := by decide +kernel
theorem dX6_reads_109 : decode cX6_reads 109 = .ok (.iload_n 1, 1) := by decide +kernel
theorem dX6_reads_110 : decode cX6_reads 110 = .ok (.ifCond .eq 7, 3) := by decide +kernel
theorem dX6_reads_113 : decode cX6_reads 113 = .ok (.iconst 1, 1) := by decide +kernel
theorem dX6_reads_114 : decode cX6_reads 114 = .ok (.goto 4, 3) := by decide +kernel
theorem dX6_reads_117 : decode cX6_reads 117 = .ok (.iconst 0, 1) := by decide +kernel
theorem dX6_reads_118 : decode cX6_reads 118 = .ok (.iadd, 1) := by decide +kernel
theorem dX6_reads_119 : decode cX6_reads 119 = .ok (.putfield 82, 3) := by decide +kernel
theorem dX6_reads_122 : decode cX6_reads 122 = .ok (.goto (-56), 3) := by decide +kernel
theorem dX6_reads_125 : decode cX6_reads 125 = .ok (.aload_n 0, 1) := by decide +kernel
theorem dX6_reads_126 : decode cX6_reads 126 = .ok (.bipush 35, 2) := by decide +kernel
theorem dX6_reads_128 : decode cX6_reads 128 = .ok (.bipush 35, 2) := by decide +kernel
theorem dX6_reads_130 : decode cX6_reads 130 = .ok (.invokevirtual 85, 3) := by decide +kernel
theorem dX6_reads_133 : decode cX6_reads 133 = .ok (.ifCond .eq 23, 3) := by decide +kernel
theorem dX6_reads_136 : decode cX6_reads 136 = .ok (.aload_n 0, 1) := by decide +kernel
theorem dX6_reads_137 : decode cX6_reads 137 = .ok (.dup, 1) := by decide +kernel
theorem dX6_reads_138 : decode cX6_reads 138 = .ok (.getfield 82, 3) := by decide +kernel
theorem dX6_reads_141 : decode cX6_reads 141 = .ok (.iconst 1, 1) := by decide +kernel
theorem dX6_reads_142 : decode cX6_reads 142 = .ok (.iadd, 1) := by decide +kernel
theorem dX6_reads_143 : decode cX6_reads 143 = .ok (.putfield 82, 3) := by decide +kernel
theorem dX6_reads_146 : decode cX6_reads 146 = .ok (.aload_n 0, 1) := by decide +kernel
theorem dX6_reads_147 : decode cX6_reads 147 = .ok (.aload_n 0, 1) := by decide +kernel
theorem dX6_reads_148 : decode cX6_reads 148 = .ok (.bipush 9, 2) := by decide +kernel
theorem dX6_reads_150 : decode cX6_reads 150 = .ok (.invokevirtual 102, 3) := by decide +kernel
theorem dX6_reads_153 : decode cX6_reads 153 = .ok (.putfield 95, 3) := by decide +kernel
theorem dX6_reads_156 : decode cX6_reads 156 = .ok (.return_, 1) := by decide +kernel
theorem dX6_readsAll_0 : decode cX6_readsAll 0 = .ok (.aload_n 0, 1) := by decide +kernel
theorem dX6_readsAll_1 : decode cX6_readsAll 1 = .ok (.iconst 0, 1) := by decide +kernel
theorem dX6_readsAll_2 : decode cX6_readsAll 2 = .ok (.putfield 82, 3) := by decide +kernel
theorem dX6_readsAll_5 : decode cX6_readsAll 5 = .ok (.aload_n 0, 1) := by decide +kernel
theorem dX6_readsAll_6 : decode cX6_readsAll 6 = .ok (.iconst 0, 1) := by decide +kernel
theorem dX6_readsAll_7 : decode cX6_readsAll 7 = .ok (.putfield 78, 3) := by decide +kernel
theorem dX6_readsAll_10 : decode cX6_readsAll 10 = .ok (.iconst 1, 1) := by decide +kernel
theorem dX6_readsAll_11 : decode cX6_readsAll 11 = .ok (.istore_n 1, 1) := by decide +kernel
theorem dX6_readsAll_12 : decode cX6_readsAll 12 = .ok (.iload_n 1, 1) := by decide +kernel
theorem dX6_readsAll_13 : decode cX6_readsAll 13 = .ok (.ifCond .eq 37, 3) := by decide +kernel
theorem dX6_readsAll_16 : decode cX6_readsAll 16 = .ok (.aload_n 0, 1) := by decide +kernel
theorem dX6_readsAll_17 : decode cX6_readsAll 17 = .ok (.invokevirtual 111, 3) := by decide +kernel
theorem dX6_readsAll_20 : decode cX6_readsAll 20 = .ok (.aload_n 0, 1) := by decide +kernel
theorem dX6_readsAll_21 : decode cX6_readsAll 21 = .ok (.bipush 59, 2) := by decide +kernel
theorem dX6_readsAll_23 : decode cX6_readsAll 23 = .ok (.bipush 59, 2) := by decide +kernel
theorem dX6_readsAll_25 : decode cX6_readsAll 25 = .ok (.invokevirtual 85, 3) := by decide +kernel
theorem dX6_readsAll_28 : decode cX6_readsAll 28 = .ok (.istore_n 1, 1) := by decide +kernel
theorem dX6_readsAll_29 : decode cX6_readsAll 29 = .ok (.aload_n 0, 1) := by decide +kernel
theorem dX6_readsAll_30 : decode cX6_readsAll 30 = .ok (.dup, 1) := by decide +kernel
theorem dX6_readsAll_31 : decode cX6_readsAll 31 = .ok (.getfield 82, 3) := by decide +kernel
theorem dX6_readsAll_34 : decode cX6_readsAll 34 = .ok (.iload_n 1, 1) := by decide +kernel
theorem dX6_readsAll_35 : decode cX6_readsAll 35 = .ok (.ifCond .eq 7, 3) := by decide +kernel
theorem dX6_readsAll_38 : decode cX6_readsAll 38 = .ok (.iconst 1, 1) := by decide +kernel
theorem dX6_readsAll_39 : decode cX6_readsAll 39 = .ok (.goto 4, 3) := by decide +kernel
theorem dX6_readsAll_42 : decode cX6_readsAll 42 = .ok (.iconst 0, 1) := by decide +kernel
theorem dX6_readsAll_43 : decode cX6_readsAll 43 = .ok (.iadd, 1) := by decide +kernel
theorem dX6_readsAll_44 : decode cX6_readsAll 44 = .ok (.putfield 82, 3) := by decide +kernel
theorem dX6_readsAll_47 : decode cX6_readsAll 47 = .ok (.goto (-35), 3) := by decide +kernel
theorem dX6_readsAll_50 : decode cX6_readsAll 50 = .ok (.aload_n 0, 1) := by decide +kernel
theorem dX6_readsAll_51 : decode cX6_readsAll 51 = .ok (.aload_n 0, 1) := by decide +kernel
theorem dX6_readsAll_52 : decode cX6_readsAll 52 = .ok (.getfield 78, 3) := by decide +kernel
theorem dX6_readsAll_55 : decode cX6_readsAll 55 = .ok (.ifCond .ne 14, 3) := by decide +kernel
theorem dX6_readsAll_58 : decode cX6_readsAll 58 = .ok (.aload_n 0, 1) := by decide +kernel
theorem dX6_readsAll_59 : decode cX6_readsAll 59 = .ok (.getfield 82, 3) := by decide +kernel
theorem dX6_readsAll_62 : decode cX6_readsAll 62 = .ok (.aload_n 0, 1) := by decide +kernel
theorem dX6_readsAll_63 : decode cX6_readsAll 63 = .ok (.getfield 75, 3) := by decide +kernel
theorem dX6_readsAll_66 : decode cX6_readsAll 66 = .ok (.if_icmp .ge 7, 3) := by decide +kernel
theorem dX6_readsAll_69 : decode cX6_readsAll 69 = .ok (.iconst 1, 1) := by decide +kernel
theorem dX6_readsAll_70 : decode cX6_readsAll 70 = .ok (.goto 4, 3) := by decide +kernel
theorem dX6_readsAll_73 : decode cX6_readsAll 73 = .ok (.iconst 0, 1) := by decide +kernel
theorem dX6_readsAll_74 : decode cX6_readsAll 74 = .ok (.putfield 78, 3) := by decide +kernel
theorem dX6_readsAll_77 : decode cX6_readsAll 77 = .ok (.return_, 1) := by decide +kernel
theorem dX6_firstError_0 : decode cX6_firstError 0 = .ok (.aload_n 0, 1) := by decide +kernel
theorem dX6_firstError_1 : decode cX6_firstError 1 = .ok (.iconst 0, 1) := by decide +kernel
theorem dX6_firstError_2 : decode cX6_firstError 2 = .ok (.putfield 21, 3) := by decide +kernel
theorem dX6_firstError_5 : decode cX6_firstError 5 = .ok (.aload_n 0, 1) := by decide +kernel
theorem dX6_firstError_6 : decode cX6_firstError 6 = .ok (.invokevirtual 114, 3) := by decide +kernel
theorem dX6_firstError_9 : decode cX6_firstError 9 = .ok (.aload_n 0, 1) := by decide +kernel
theorem dX6_firstError_10 : decode cX6_firstError 10 = .ok (.getfield 78, 3) := by decide +kernel
theorem dX6_firstError_13 : decode cX6_firstError 13 = .ok (.ifCond .eq 10, 3) := by decide +kernel
theorem dX6_firstError_16 : decode cX6_firstError 16 = .ok (.aload_n 0, 1) := by decide +kernel
theorem dX6_firstError_17 : decode cX6_firstError 17 = .ok (.getfield 82, 3) := by decide +kernel
theorem dX6_firstError_20 : decode cX6_firstError 20 = .ok (.goto 7, 3) := by decide +kernel
theorem dX6_firstError_23 : decode cX6_firstError 23 = .ok (.aload_n 0, 1) := by decide +kernel
theorem dX6_firstError_24 : decode cX6_firstError 24 = .ok (.getfield 75, 3) := by decide +kernel
theorem dX6_firstError_27 : decode cX6_firstError 27 = .ok (.ireturn, 1) := by decide +kernel
theorem dX6_talk_0 : decode cX6_talk 0 = .ok (.aload_n 0, 1) := by decide +kernel
theorem dX6_talk_1 : decode cX6_talk 1 = .ok (.invokevirtual 114, 3) := by decide +kernel
theorem dX6_talk_4 : decode cX6_talk 4 = .ok (.aload_n 0, 1) := by decide +kernel
theorem dX6_talk_5 : decode cX6_talk 5 = .ok (.aload_n 0, 1) := by decide +kernel
theorem dX6_talk_6 : decode cX6_talk 6 = .ok (.getfield 78, 3) := by decide +kernel
theorem dX6_talk_9 : decode cX6_talk 9 = .ok (.ifCond .ne 7, 3) := by decide +kernel
theorem dX6_talk_12 : decode cX6_talk 12 = .ok (.iconst 1, 1) := by decide +kernel
theorem dX6_talk_13 : decode cX6_talk 13 = .ok (.goto 4, 3) := by decide +kernel
theorem dX6_talk_16 : decode cX6_talk 16 = .ok (.iconst 0, 1) := by decide +kernel
theorem dX6_talk_17 : decode cX6_talk 17 = .ok (.iconst 1, 1) := by decide +kernel
theorem dX6_talk_18 : decode cX6_talk 18 = .ok (.iconst 1, 1) := by decide +kernel
theorem dX6_talk_19 : decode cX6_talk 19 = .ok (.invokevirtual 60, 3) := by decide +kernel
theorem dX6_talk_22 : decode cX6_talk 22 = .ok (.ifCond .ne 5, 3) := by decide +kernel
theorem dX6_talk_25 : decode cX6_talk 25 = .ok (.iconst 0, 1) := by decide +kernel
theorem dX6_talk_26 : decode cX6_talk 26 = .ok (.ireturn, 1) := by decide +kernel
theorem dX6_talk_27 : decode cX6_talk 27 = .ok (.aload_n 0, 1) := by decide +kernel
theorem dX6_talk_28 : decode cX6_talk 28 = .ok (.invokevirtual 64, 3) := by decide +kernel
theorem dX6_talk_31 : decode cX6_talk 31 = .ok (.aload_n 0, 1) := by decide +kernel
theorem dX6_talk_32 : decode cX6_talk 32 = .ok (.iconst 0, 1) := by decide +kernel
theorem dX6_talk_33 : decode cX6_talk 33 = .ok (.putfield 82, 3) := by decide +kernel
theorem dX6_talk_36 : decode cX6_talk 36 = .ok (.iconst 0, 1) := by decide +kernel
theorem dX6_talk_37 : decode cX6_talk 37 = .ok (.istore_n 1, 1) := by decide +kernel
theorem dX6_talk_38 : decode cX6_talk 38 = .ok (.iconst 1, 1) := by decide +kernel
theorem dX6_talk_39 : decode cX6_talk 39 = .ok (.istore_n 2, 1) := by decide +kernel
theorem dX6_talk_40 : decode cX6_talk 40 = .ok (.iload_n 2, 1) := by decide +kernel
theorem dX6_talk_41 : decode cX6_talk 41 = .ok (.ifCond .eq 138, 3) := by decide +kernel
theorem dX6_talk_44 : decode cX6_talk 44 = .ok (.aload_n 0, 1) := by decide +kernel
theorem dX6_talk_45 : decode cX6_talk 45 = .ok (.invokevirtual 111, 3) := by decide +kernel
theorem dX6_talk_48 : decode cX6_talk 48 = .ok (.aload_n 0, 1) := by decide +kernel
theorem dX6_talk_49 : decode cX6_talk 49 = .ok (.getfield 89, 3) := by decide +kernel
theorem dX6_talk_52 : decode cX6_talk 52 = .ok (.ifCond .ne 42, 3) := by decide +kernel
theorem dX6_talk_55 : decode cX6_talk 55 = .ok (.aload_n 0, 1) := by decide +kernel
theorem dX6_talk_56 : decode cX6_talk 56 = .ok (.getfield 8, 3) := by decide +kernel
theorem dX6_talk_59 : decode cX6_talk 59 = .ok (.iconst 3, 1) := by decide +kernel
theorem dX6_talk_60 : decode cX6_talk 60 = .ok (.iaload, 1) := by decide +kernel
theorem dX6_talk_61 : decode cX6_talk 61 = .ok (.aload_n 0, 1) := by decide +kernel
theorem dX6_talk_62 : decode cX6_talk 62 = .ok (.getfield 92, 3) := by decide +kernel
theorem dX6_talk_65 : decode cX6_talk 65 = .ok (.iadd, 1) := by decide +kernel
theorem dX6_talk_66 : decode cX6_talk 66 = .ok (.sipush 400, 3) := by decide +kernel
theorem dX6_talk_69 : decode cX6_talk 69 = .ok (.if_icmp .gt 7, 3) := by decide +kernel
theorem dX6_talk_72 : decode cX6_talk 72 = .ok (.iconst 1, 1) := by decide +kernel
theorem dX6_talk_73 : decode cX6_talk 73 = .ok (.goto 4, 3) := by decide +kernel
theorem dX6_talk_76 : decode cX6_talk 76 = .ok (.iconst 0, 1) := by decide +kernel
theorem dX6_talk_77 : decode cX6_talk 77 = .ok (.istore_n 2, 1) := by decide +kernel
theorem dX6_talk_78 : decode cX6_talk 78 = .ok (.aload_n 0, 1) := by decide +kernel
theorem dX6_talk_79 : decode cX6_talk 79 = .ok (.iload_n 2, 1) := by decide +kernel
theorem dX6_talk_80 : decode cX6_talk 80 = .ok (.ifCond .eq 10, 3) := by decide +kernel
theorem dX6_talk_83 : decode cX6_talk 83 = .ok (.aload_n 0, 1) := by decide +kernel
theorem dX6_talk_84 : decode cX6_talk 84 = .ok (.getfield 92, 3) := by decide +kernel
theorem dX6_talk_87 : decode cX6_talk 87 = .ok (.goto 4, 3) := by decide +kernel
theorem dX6_talk_90 : decode cX6_talk 90 = .ok (.iconst 0, 1) := by decide +kernel
theorem dX6_talk_91 : decode cX6_talk 91 = .ok (.invokevirtual 71, 3) := by decide +kernel
theorem dX6_talk_94 : decode cX6_talk 94 = .ok (.iconst 0, 1) := by decide +kernel
theorem dX6_talk_95 : decode cX6_talk 95 = .ok (.istore_n 3, 1) := by decide +kernel
theorem dX6_talk_96 : decode cX6_talk 96 = .ok (.iload_n 3, 1) := by decide +kernel
theorem dX6_talk_97 : decode cX6_talk 97 = .ok (.aload_n 0, 1) := by decide +kernel
theorem dX6_talk_98 : decode cX6_talk 98 = .ok (.getfield 89, 3) := by decide +kernel
theorem dX6_talk_101 : decode cX6_talk 101 = .ok (.if_icmp .ge 44, 3) := by decide +kernel
theorem dX6_talk_104 : decode cX6_talk 104 = .ok (.iload_n 2, 1) := by decide +kernel
theorem dX6_talk_105 : decode cX6_talk 105 = .ok (.ifCond .eq 40, 3) := by decide +kernel
theorem dX6_talk_108 : decode cX6_talk 108 = .ok (.aload_n 0, 1) := by decide +kernel
theorem dX6_talk_109 : decode cX6_talk 109 = .ok (.invokevirtual 56, 3) := by decide +kernel
theorem dX6_talk_112 : decode cX6_talk 112 = .ok (.istore_n 2, 1) := by decide +kernel
theorem dX6_talk_113 : decode cX6_talk 113 = .ok (.iload_n 2, 1) := by decide +kernel
theorem dX6_talk_114 : decode cX6_talk 114 = .ok (.ifCond .eq 25, 3) := by decide +kernel
theorem dX6_talk_117 : decode cX6_talk 117 = .ok (.aload_n 0, 1) := by decide +kernel
theorem dX6_talk_118 : decode cX6_talk 118 = .ok (.aload_n 0, 1) := by decide +kernel
theorem dX6_talk_119 : decode cX6_talk 119 = .ok (.getfield 105, 3) := by decide +kernel
theorem dX6_talk_122 : decode cX6_talk 122 = .ok (.aload_n 0, 1) := by decide +kernel
theorem dX6_talk_123 : decode cX6_talk 123 = .ok (.getfield 18, 3) := by decide +kernel
theorem dX6_talk_126 : decode cX6_talk 126 = .ok (.iload_n 3, 1) := by decide +kernel
theorem dX6_talk_127 : decode cX6_talk 127 = .ok (.iaload, 1) := by decide +kernel
theorem dX6_talk_128 : decode cX6_talk 128 = .ok (.aload_n 0, 1) := by decide +kernel
theorem dX6_talk_129 : decode cX6_talk 129 = .ok (.getfield 95, 3) := by decide +kernel
theorem dX6_talk_132 : decode cX6_talk 132 = .ok (.invokevirtual 67, 3) := by decide +kernel
theorem dX6_talk_135 : decode cX6_talk 135 = .ok (.pop, 1) := by decide +kernel
theorem dX6_talk_136 : decode cX6_talk 136 = .ok (.iinc 1 1, 3) := by decide +kernel
theorem dX6_talk_139 : decode cX6_talk 139 = .ok (.iinc 3 1, 3) := by decide +kernel
theorem dX6_talk_142 : decode cX6_talk 142 = .ok (.goto (-46), 3) := by decide +kernel
theorem dX6_talk_145 : decode cX6_talk 145 = .ok (.iload_n 2, 1) := by decide +kernel
theorem dX6_talk_146 : decode cX6_talk 146 = .ok (.ifCond .eq 18, 3) := by decide +kernel
theorem dX6_talk_149 : decode cX6_talk 149 = .ok (.aload_n 0, 1) := by decide +kernel
theorem dX6_talk_150 : decode cX6_talk 150 = .ok (.getfield 82, 3) := by decide +kernel
theorem dX6_talk_153 : decode cX6_talk 153 = .ok (.aload_n 0, 1) := by decide +kernel
theorem dX6_talk_154 : decode cX6_talk 154 = .ok (.getfield 75, 3) := by decide +kernel
theorem dX6_talk_157 : decode cX6_talk 157 = .ok (.if_icmp .ge 7, 3) := by decide +kernel
theorem dX6_talk_160 : decode cX6_talk 160 = .ok (.iconst 1, 1) := by decide +kernel
theorem dX6_talk_161 : decode cX6_talk 161 = .ok (.goto 4, 3) := by decide +kernel
theorem dX6_talk_164 : decode cX6_talk 164 = .ok (.iconst 0, 1) := by decide +kernel
theorem dX6_talk_165 : decode cX6_talk 165 = .ok (.istore_n 2, 1) := by decide +kernel
theorem dX6_talk_166 : decode cX6_talk 166 = .ok (.aload_n 0, 1) := by decide +kernel
theorem dX6_talk_167 : decode cX6_talk 167 = .ok (.dup, 1) := by decide +kernel
theorem dX6_talk_168 : decode cX6_talk 168 = .ok (.getfield 82, 3) := by decide +kernel
theorem dX6_talk_171 : decode cX6_talk 171 = .ok (.iconst 1, 1) := by decide +kernel
theorem dX6_talk_172 : decode cX6_talk 172 = .ok (.iadd, 1) := by decide +kernel
theorem dX6_talk_173 : decode cX6_talk 173 = .ok (.putfield 82, 3) := by decide +kernel
theorem dX6_talk_176 : decode cX6_talk 176 = .ok (.goto (-136), 3) := by decide +kernel
theorem dX6_talk_179 : decode cX6_talk 179 = .ok (.aload_n 0, 1) := by decide +kernel
theorem dX6_talk_180 : decode cX6_talk 180 = .ok (.iconst 0, 1) := by decide +kernel
theorem dX6_talk_181 : decode cX6_talk 181 = .ok (.putfield 75, 3) := by decide +kernel
theorem dX6_talk_184 : decode cX6_talk 184 = .ok (.iload_n 1, 1) := by decide +kernel
theorem dX6_talk_185 : decode cX6_talk 185 = .ok (.ireturn, 1) := by decide +kernel
theorem dX6_undo_0 : decode cX6_undo 0 = .ok (.aload_n 0, 1) := by decide +kernel
theorem dX6_undo_1 : decode cX6_undo 1 = .ok (.aload_n 0, 1) := by decide +kernel
theorem dX6_undo_2 : decode cX6_undo 2 = .ok (.getfield 25, 3) := by decide +kernel
theorem dX6_undo_5 : decode cX6_undo 5 = .ok (.ifCond .le 7, 3) := by decide +kernel
theorem dX6_undo_8 : decode cX6_undo 8 = .ok (.iconst 1, 1) := by decide +kernel
theorem dX6_undo_9 : decode cX6_undo 9 = .ok (.goto 4, 3) := by decide +kernel
theorem dX6_undo_12 : decode cX6_undo 12 = .ok (.iconst 0, 1) := by decide +kernel
theorem dX6_undo_13 : decode cX6_undo 13 = .ok (.iconst 1, 1) := by decide +kernel
theorem dX6_undo_14 : decode cX6_undo 14 = .ok (.iconst 1, 1) := by decide +kernel
theorem dX6_undo_15 : decode cX6_undo 15 = .ok (.invokevirtual 60, 3) := by decide +kernel
theorem dX6_undo_18 : decode cX6_undo 18 = .ok (.ifCond .ne 5, 3) := by decide +kernel
theorem dX6_undo_21 : decode cX6_undo 21 = .ok (.iconst 0, 1) := by decide +kernel
theorem dX6_undo_22 : decode cX6_undo 22 = .ok (.ireturn, 1) := by decide +kernel
theorem dX6_undo_23 : decode cX6_undo 23 = .ok (.aload_n 0, 1) := by decide +kernel
theorem dX6_undo_24 : decode cX6_undo 24 = .ok (.aload_n 0, 1) := by decide +kernel
theorem dX6_undo_25 : decode cX6_undo 25 = .ok (.getfield 25, 3) := by decide +kernel
theorem dX6_undo_28 : decode cX6_undo 28 = .ok (.iconst 0, 1) := by decide +kernel
theorem dX6_undo_29 : decode cX6_undo 29 = .ok (.invokevirtual 28, 3) := by decide +kernel
theorem dX6_undo_32 : decode cX6_undo 32 = .ok (.aload_n 0, 1) := by decide +kernel
theorem dX6_undo_33 : decode cX6_undo 33 = .ok (.dup, 1) := by decide +kernel
theorem dX6_undo_34 : decode cX6_undo 34 = .ok (.getfield 25, 3) := by decide +kernel
theorem dX6_undo_37 : decode cX6_undo 37 = .ok (.iconst 1, 1) := by decide +kernel
theorem dX6_undo_38 : decode cX6_undo 38 = .ok (.isub, 1) := by decide +kernel
theorem dX6_undo_39 : decode cX6_undo 39 = .ok (.putfield 25, 3) := by decide +kernel
theorem dX6_undo_42 : decode cX6_undo 42 = .ok (.aload_n 0, 1) := by decide +kernel
theorem dX6_undo_43 : decode cX6_undo 43 = .ok (.getfield 25, 3) := by decide +kernel
theorem dX6_undo_46 : decode cX6_undo 46 = .ok (.ireturn, 1) := by decide +kernel
theorem dX6_keep_0 : decode cX6_keep 0 = .ok (.aload_n 0, 1) := by decide +kernel
theorem dX6_keep_1 : decode cX6_keep 1 = .ok (.iconst 0, 1) := by decide +kernel
theorem dX6_keep_2 : decode cX6_keep 2 = .ok (.putfield 21, 3) := by decide +kernel
theorem dX6_keep_5 : decode cX6_keep 5 = .ok (.aload_n 0, 1) := by decide +kernel
theorem dX6_keep_6 : decode cX6_keep 6 = .ok (.iconst 0, 1) := by decide +kernel
theorem dX6_keep_7 : decode cX6_keep 7 = .ok (.bipush 7, 2) := by decide +kernel
theorem dX6_keep_9 : decode cX6_keep 9 = .ok (.invokevirtual 28, 3) := by decide +kernel
theorem dX6_keep_12 : decode cX6_keep 12 = .ok (.aload_n 0, 1) := by decide +kernel
theorem dX6_keep_13 : decode cX6_keep 13 = .ok (.iconst 1, 1) := by decide +kernel
theorem dX6_keep_14 : decode cX6_keep 14 = .ok (.putfield 117, 3) := by decide +kernel
theorem dX6_keep_17 : decode cX6_keep 17 = .ok (.aload_n 0, 1) := by decide +kernel
theorem dX6_keep_18 : decode cX6_keep 18 = .ok (.getfield 8, 3) := by decide +kernel
theorem dX6_keep_21 : decode cX6_keep 21 = .ok (.iconst 3, 1) := by decide +kernel
theorem dX6_keep_22 : decode cX6_keep 22 = .ok (.iaload, 1) := by decide +kernel
theorem dX6_keep_23 : decode cX6_keep 23 = .ok (.ireturn, 1) := by decide +kernel
theorem dX6_restore_0 : decode cX6_restore 0 = .ok (.aload_n 0, 1) := by decide +kernel
theorem dX6_restore_1 : decode cX6_restore 1 = .ok (.aload_n 0, 1) := by decide +kernel
theorem dX6_restore_2 : decode cX6_restore 2 = .ok (.getfield 117, 3) := by decide +kernel
theorem dX6_restore_5 : decode cX6_restore 5 = .ok (.iconst 1, 1) := by decide +kernel
theorem dX6_restore_6 : decode cX6_restore 6 = .ok (.iconst 1, 1) := by decide +kernel
theorem dX6_restore_7 : decode cX6_restore 7 = .ok (.invokevirtual 60, 3) := by decide +kernel
theorem dX6_restore_10 : decode cX6_restore 10 = .ok (.ifCond .ne 5, 3) := by decide +kernel
theorem dX6_restore_13 : decode cX6_restore 13 = .ok (.iconst 0, 1) := by decide +kernel
theorem dX6_restore_14 : decode cX6_restore 14 = .ok (.ireturn, 1) := by decide +kernel
theorem dX6_restore_15 : decode cX6_restore 15 = .ok (.aload_n 0, 1) := by decide +kernel
theorem dX6_restore_16 : decode cX6_restore 16 = .ok (.invokevirtual 64, 3) := by decide +kernel
theorem dX6_restore_19 : decode cX6_restore 19 = .ok (.aload_n 0, 1) := by decide +kernel
theorem dX6_restore_20 : decode cX6_restore 20 = .ok (.bipush 7, 2) := by decide +kernel
theorem dX6_restore_22 : decode cX6_restore 22 = .ok (.iconst 0, 1) := by decide +kernel
theorem dX6_restore_23 : decode cX6_restore 23 = .ok (.invokevirtual 28, 3) := by decide +kernel
theorem dX6_restore_26 : decode cX6_restore 26 = .ok (.aload_n 0, 1) := by decide +kernel
theorem dX6_restore_27 : decode cX6_restore 27 = .ok (.getfield 8, 3) := by decide +kernel
theorem dX6_restore_30 : decode cX6_restore 30 = .ok (.iconst 3, 1) := by decide +kernel
theorem dX6_restore_31 : decode cX6_restore 31 = .ok (.iaload, 1) := by decide +kernel
theorem dX6_restore_32 : decode cX6_restore 32 = .ok (.ireturn, 1) := by decide +kernel
theorem dX6_heardAt_0 : decode cX6_heardAt 0 = .ok (.iload_n 2, 1) := by decide +kernel
theorem dX6_heardAt_1 : decode cX6_heardAt 1 = .ok (.iconst 0, 1) := by decide +kernel
theorem dX6_heardAt_2 : decode cX6_heardAt 2 = .ok (.aload_n 0, 1) := by decide +kernel
theorem dX6_heardAt_3 : decode cX6_heardAt 3 = .ok (.getfield 8, 3) := by decide +kernel
theorem dX6_heardAt_6 : decode cX6_heardAt 6 = .ok (.iconst 3, 1) := by decide +kernel
theorem dX6_heardAt_7 : decode cX6_heardAt 7 = .ok (.iaload, 1) := by decide +kernel
theorem dX6_heardAt_8 : decode cX6_heardAt 8 = .ok (.iconst 1, 1) := by decide +kernel
theorem dX6_heardAt_9 : decode cX6_heardAt 9 = .ok (.isub, 1) := by decide +kernel
theorem dX6_heardAt_10 : decode cX6_heardAt 10 = .ok (.invokestatic 32, 3) := by decide +kernel
theorem dX6_heardAt_13 : decode cX6_heardAt 13 = .ok (.ifCond .eq 22, 3) := by decide +kernel
theorem dX6_heardAt_16 : decode cX6_heardAt 16 = .ok (.aload_n 0, 1) := by decide +kernel
theorem dX6_heardAt_17 : decode cX6_heardAt 17 = .ok (.getfield 8, 3) := by decide +kernel
theorem dX6_heardAt_20 : decode cX6_heardAt 20 = .ok (.sipush 2011, 3) := by decide +kernel
theorem dX6_heardAt_23 : decode cX6_heardAt 23 = .ok (.sipush 400, 3) := by decide +kernel
theorem dX6_heardAt_26 : decode cX6_heardAt 26 = .ok (.iload_n 1, 1) := by decide +kernel
theorem dX6_heardAt_27 : decode cX6_heardAt 27 = .ok (.imul, 1) := by decide +kernel
theorem dX6_heardAt_28 : decode cX6_heardAt 28 = .ok (.iadd, 1) := by decide +kernel
theorem dX6_heardAt_29 : decode cX6_heardAt 29 = .ok (.iload_n 2, 1) := by decide +kernel
theorem dX6_heardAt_30 : decode cX6_heardAt 30 = .ok (.iadd, 1) := by decide +kernel
theorem dX6_heardAt_31 : decode cX6_heardAt 31 = .ok (.iaload, 1) := by decide +kernel
theorem dX6_heardAt_32 : decode cX6_heardAt 32 = .ok (.goto 4, 3) := by decide +kernel
theorem dX6_heardAt_35 : decode cX6_heardAt 35 = .ok (.iconst (-1), 1) := by decide +kernel
theorem dX6_heardAt_36 : decode cX6_heardAt 36 = .ok (.ireturn, 1) := by decide +kernel
theorem dX6_firstHeard_0 : decode cX6_firstHeard 0 = .ok (.iconst (-1), 1) := by decide +kernel
theorem dX6_firstHeard_1 : decode cX6_firstHeard 1 = .ok (.istore_n 3, 1) := by decide +kernel
theorem dX6_firstHeard_2 : decode cX6_firstHeard 2 = .ok (.aload_n 0, 1) := by decide +kernel
theorem dX6_firstHeard_3 : decode cX6_firstHeard 3 = .ok (.getfield 8, 3) := by decide +kernel
theorem dX6_firstHeard_6 : decode cX6_firstHeard 6 = .ok (.iconst 3, 1) := by decide +kernel
theorem dX6_firstHeard_7 : decode cX6_firstHeard 7 = .ok (.iaload, 1) := by decide +kernel
theorem dX6_firstHeard_8 : decode cX6_firstHeard 8 = .ok (.iconst 1, 1) := by decide +kernel
theorem dX6_firstHeard_9 : decode cX6_firstHeard 9 = .ok (.isub, 1) := by decide +kernel
theorem dX6_firstHeard_10 : decode cX6_firstHeard 10 = .ok (.istore 4, 2) := by decide +kernel
theorem dX6_firstHeard_12 : decode cX6_firstHeard 12 = .ok (.iload 4, 2) := by decide +kernel
theorem dX6_firstHeard_14 : decode cX6_firstHeard 14 = .ok (.aload_n 0, 1) := by decide +kernel
theorem dX6_firstHeard_15 : decode cX6_firstHeard 15 = .ok (.iload_n 1, 1) := by decide +kernel
theorem dX6_firstHeard_16 : decode cX6_firstHeard 16 = .ok (.iconst 3, 1) := by decide +kernel
theorem dX6_firstHeard_17 : decode cX6_firstHeard 17 = .ok (.invokevirtual 40, 3) := by decide +kernel
theorem dX6_firstHeard_20 : decode cX6_firstHeard 20 = .ok (.if_icmp .lt 37, 3) := by decide +kernel
theorem dX6_firstHeard_23 : decode cX6_firstHeard 23 = .ok (.aload_n 0, 1) := by decide +kernel
theorem dX6_firstHeard_24 : decode cX6_firstHeard 24 = .ok (.getfield 8, 3) := by decide +kernel
theorem dX6_firstHeard_27 : decode cX6_firstHeard 27 = .ok (.sipush 2011, 3) := by decide +kernel
theorem dX6_firstHeard_30 : decode cX6_firstHeard 30 = .ok (.sipush 400, 3) := by decide +kernel
theorem dX6_firstHeard_33 : decode cX6_firstHeard 33 = .ok (.iload_n 2, 1) := by decide +kernel
theorem dX6_firstHeard_34 : decode cX6_firstHeard 34 = .ok (.imul, 1) := by decide +kernel
theorem dX6_firstHeard_35 : decode cX6_firstHeard 35 = .ok (.iadd, 1) := by decide +kernel
theorem dX6_firstHeard_36 : decode cX6_firstHeard 36 = .ok (.iload 4, 2) := by decide +kernel
theorem dX6_firstHeard_38 : decode cX6_firstHeard 38 = .ok (.iadd, 1) := by decide +kernel
theorem dX6_firstHeard_39 : decode cX6_firstHeard 39 = .ok (.iaload, 1) := by decide +kernel
theorem dX6_firstHeard_40 : decode cX6_firstHeard 40 = .ok (.iload_n 1, 1) := by decide +kernel
theorem dX6_firstHeard_41 : decode cX6_firstHeard 41 = .ok (.if_icmp .ne 8, 3) := by decide +kernel
theorem dX6_firstHeard_44 : decode cX6_firstHeard 44 = .ok (.iload 4, 2) := by decide +kernel
theorem dX6_firstHeard_46 : decode cX6_firstHeard 46 = .ok (.goto 4, 3) := by decide +kernel
theorem dX6_firstHeard_49 : decode cX6_firstHeard 49 = .ok (.iload_n 3, 1) := by decide +kernel
theorem dX6_firstHeard_50 : decode cX6_firstHeard 50 = .ok (.istore_n 3, 1) := by decide +kernel
theorem dX6_firstHeard_51 : decode cX6_firstHeard 51 = .ok (.iinc 4 (-1), 3) := by decide +kernel
theorem dX6_firstHeard_54 : decode cX6_firstHeard 54 = .ok (.goto (-42), 3) := by decide +kernel
theorem dX6_firstHeard_57 : decode cX6_firstHeard 57 = .ok (.iload_n 3, 1) := by decide +kernel
theorem dX6_firstHeard_58 : decode cX6_firstHeard 58 = .ok (.ireturn, 1) := by decide +kernel
theorem dX6_hearers_0 : decode cX6_hearers 0 = .ok (.iconst 0, 1) := by decide +kernel
theorem dX6_hearers_1 : decode cX6_hearers 1 = .ok (.istore_n 2, 1) := by decide +kernel
theorem dX6_hearers_2 : decode cX6_hearers 2 = .ok (.iconst 0, 1) := by decide +kernel
theorem dX6_hearers_3 : decode cX6_hearers 3 = .ok (.istore_n 3, 1) := by decide +kernel
theorem dX6_hearers_4 : decode cX6_hearers 4 = .ok (.iload_n 3, 1) := by decide +kernel
theorem dX6_hearers_5 : decode cX6_hearers 5 = .ok (.bipush 6, 2) := by decide +kernel
theorem dX6_hearers_7 : decode cX6_hearers 7 = .ok (.if_icmp .ge 28, 3) := by decide +kernel
theorem dX6_hearers_10 : decode cX6_hearers 10 = .ok (.iload_n 2, 1) := by decide +kernel
theorem dX6_hearers_11 : decode cX6_hearers 11 = .ok (.aload_n 0, 1) := by decide +kernel
theorem dX6_hearers_12 : decode cX6_hearers 12 = .ok (.iload_n 1, 1) := by decide +kernel
theorem dX6_hearers_13 : decode cX6_hearers 13 = .ok (.iload_n 3, 1) := by decide +kernel
theorem dX6_hearers_14 : decode cX6_hearers 14 = .ok (.invokevirtual 120, 3) := by decide +kernel
theorem dX6_hearers_17 : decode cX6_hearers 17 = .ok (.ifCond .lt 9, 3) := by decide +kernel
theorem dX6_hearers_20 : decode cX6_hearers 20 = .ok (.iconst 1, 1) := by decide +kernel
theorem dX6_hearers_21 : decode cX6_hearers 21 = .ok (.iload_n 3, 1) := by decide +kernel
theorem dX6_hearers_22 : decode cX6_hearers 22 = .ok (.ishl, 1) := by decide +kernel
theorem dX6_hearers_23 : decode cX6_hearers 23 = .ok (.goto 4, 3) := by decide +kernel
theorem dX6_hearers_26 : decode cX6_hearers 26 = .ok (.iconst 0, 1) := by decide +kernel
theorem dX6_hearers_27 : decode cX6_hearers 27 = .ok (.ior, 1) := by decide +kernel
theorem dX6_hearers_28 : decode cX6_hearers 28 = .ok (.istore_n 2, 1) := by decide +kernel
theorem dX6_hearers_29 : decode cX6_hearers 29 = .ok (.iinc 3 1, 3) := by decide +kernel
theorem dX6_hearers_32 : decode cX6_hearers 32 = .ok (.goto (-28), 3) := by decide +kernel
theorem dX6_hearers_35 : decode cX6_hearers 35 = .ok (.iload_n 2, 1) := by decide +kernel
theorem dX6_hearers_36 : decode cX6_hearers 36 = .ok (.ireturn, 1) := by decide +kernel
theorem dX6_reached_0 : decode cX6_reached 0 = .ok (.iconst 0, 1) := by decide +kernel
theorem dX6_reached_1 : decode cX6_reached 1 = .ok (.istore_n 2, 1) := by decide +kernel
theorem dX6_reached_2 : decode cX6_reached 2 = .ok (.iconst 0, 1) := by decide +kernel
theorem dX6_reached_3 : decode cX6_reached 3 = .ok (.istore_n 3, 1) := by decide +kernel
theorem dX6_reached_4 : decode cX6_reached 4 = .ok (.iload_n 3, 1) := by decide +kernel
theorem dX6_reached_5 : decode cX6_reached 5 = .ok (.bipush 6, 2) := by decide +kernel
theorem dX6_reached_7 : decode cX6_reached 7 = .ok (.if_icmp .ge 30, 3) := by decide +kernel
theorem dX6_reached_10 : decode cX6_reached 10 = .ok (.iload_n 2, 1) := by decide +kernel
theorem dX6_reached_11 : decode cX6_reached 11 = .ok (.aload_n 0, 1) := by decide +kernel
theorem dX6_reached_12 : decode cX6_reached 12 = .ok (.iload_n 1, 1) := by decide +kernel
theorem dX6_reached_13 : decode cX6_reached 13 = .ok (.iconst 4, 1) := by decide +kernel
theorem dX6_reached_14 : decode cX6_reached 14 = .ok (.iload_n 3, 1) := by decide +kernel
theorem dX6_reached_15 : decode cX6_reached 15 = .ok (.iadd, 1) := by decide +kernel
theorem dX6_reached_16 : decode cX6_reached 16 = .ok (.invokevirtual 40, 3) := by decide +kernel
theorem dX6_reached_19 : decode cX6_reached 19 = .ok (.ifCond .lt 9, 3) := by decide +kernel
theorem dX6_reached_22 : decode cX6_reached 22 = .ok (.iconst 1, 1) := by decide +kernel
theorem dX6_reached_23 : decode cX6_reached 23 = .ok (.iload_n 3, 1) := by decide +kernel
theorem dX6_reached_24 : decode cX6_reached 24 = .ok (.ishl, 1) := by decide +kernel
theorem dX6_reached_25 : decode cX6_reached 25 = .ok (.goto 4, 3) := by decide +kernel
theorem dX6_reached_28 : decode cX6_reached 28 = .ok (.iconst 0, 1) := by decide +kernel
theorem dX6_reached_29 : decode cX6_reached 29 = .ok (.ior, 1) := by decide +kernel
theorem dX6_reached_30 : decode cX6_reached 30 = .ok (.istore_n 2, 1) := by decide +kernel
theorem dX6_reached_31 : decode cX6_reached 31 = .ok (.iinc 3 1, 3) := by decide +kernel
theorem dX6_reached_34 : decode cX6_reached 34 = .ok (.goto (-30), 3) := by decide +kernel
theorem dX6_reached_37 : decode cX6_reached 37 = .ok (.iload_n 2, 1) := by decide +kernel
theorem dX6_reached_38 : decode cX6_reached 38 = .ok (.ireturn, 1) := by decide +kernel
theorem dX6_ofWord_0 : decode cX6_ofWord 0 = .ok (.iload_n 1, 1) := by decide +kernel
theorem dX6_ofWord_1 : decode cX6_ofWord 1 = .ok (.aload_n 0, 1) := by decide +kernel
theorem dX6_ofWord_2 : decode cX6_ofWord 2 = .ok (.getfield 8, 3) := by decide +kernel
theorem dX6_ofWord_5 : decode cX6_ofWord 5 = .ok (.iconst 4, 1) := by decide +kernel
theorem dX6_ofWord_6 : decode cX6_ofWord 6 = .ok (.iaload, 1) := by decide +kernel
theorem dX6_ofWord_7 : decode cX6_ofWord 7 = .ok (.if_icmp .lt 5, 3) := by decide +kernel
theorem dX6_ofWord_10 : decode cX6_ofWord 10 = .ok (.iconst (-1), 1) := by decide +kernel
theorem dX6_ofWord_11 : decode cX6_ofWord 11 = .ok (.ireturn, 1) := by decide +kernel
theorem dX6_ofWord_12 : decode cX6_ofWord 12 = .ok (.iload_n 2, 1) := by decide +kernel
theorem dX6_ofWord_13 : decode cX6_ofWord 13 = .ok (.iconst 4, 1) := by decide +kernel
theorem dX6_ofWord_14 : decode cX6_ofWord 14 = .ok (.if_icmp .ne 11, 3) := by decide +kernel
theorem dX6_ofWord_17 : decode cX6_ofWord 17 = .ok (.aload_n 0, 1) := by decide +kernel
theorem dX6_ofWord_18 : decode cX6_ofWord 18 = .ok (.iload_n 1, 1) := by decide +kernel
theorem dX6_ofWord_19 : decode cX6_ofWord 19 = .ok (.invokevirtual 123, 3) := by decide +kernel
theorem dX6_ofWord_22 : decode cX6_ofWord 22 = .ok (.goto 22, 3) := by decide +kernel
theorem dX6_ofWord_25 : decode cX6_ofWord 25 = .ok (.iload_n 2, 1) := by decide +kernel
theorem dX6_ofWord_26 : decode cX6_ofWord 26 = .ok (.iconst 5, 1) := by decide +kernel
theorem dX6_ofWord_27 : decode cX6_ofWord 27 = .ok (.if_icmp .ne 11, 3) := by decide +kernel
theorem dX6_ofWord_30 : decode cX6_ofWord 30 = .ok (.aload_n 0, 1) := by decide +kernel
theorem dX6_ofWord_31 : decode cX6_ofWord 31 = .ok (.iload_n 1, 1) := by decide +kernel
theorem dX6_ofWord_32 : decode cX6_ofWord 32 = .ok (.invokevirtual 126, 3) := by decide +kernel
theorem dX6_ofWord_35 : decode cX6_ofWord 35 = .ok (.goto 9, 3) := by decide +kernel
theorem dX6_ofWord_38 : decode cX6_ofWord 38 = .ok (.aload_n 0, 1) := by decide +kernel
theorem dX6_ofWord_39 : decode cX6_ofWord 39 = .ok (.iload_n 1, 1) := by decide +kernel
theorem dX6_ofWord_40 : decode cX6_ofWord 40 = .ok (.iload_n 2, 1) := by decide +kernel
theorem dX6_ofWord_41 : decode cX6_ofWord 41 = .ok (.invokevirtual 40, 3) := by decide +kernel
theorem dX6_ofWord_44 : decode cX6_ofWord 44 = .ok (.ireturn, 1) := by decide +kernel
theorem dX6_said_0 : decode cX6_said 0 = .ok (.aload_n 0, 1) := by decide +kernel
theorem dX6_said_1 : decode cX6_said 1 = .ok (.iload_n 1, 1) := by decide +kernel
theorem dX6_said_2 : decode cX6_said 2 = .ok (.ifCond .lt 16, 3) := by decide +kernel
theorem dX6_said_5 : decode cX6_said 5 = .ok (.iload_n 2, 1) := by decide +kernel
theorem dX6_said_6 : decode cX6_said 6 = .ok (.iconst 0, 1) := by decide +kernel
theorem dX6_said_7 : decode cX6_said 7 = .ok (.iconst 5, 1) := by decide +kernel
theorem dX6_said_8 : decode cX6_said 8 = .ok (.invokestatic 32, 3) := by decide +kernel
theorem dX6_said_11 : decode cX6_said 11 = .ok (.ifCond .eq 7, 3) := by decide +kernel
theorem dX6_said_14 : decode cX6_said 14 = .ok (.iconst 1, 1) := by decide +kernel
theorem dX6_said_15 : decode cX6_said 15 = .ok (.goto 4, 3) := by decide +kernel
theorem dX6_said_18 : decode cX6_said 18 = .ok (.iconst 0, 1) := by decide +kernel
theorem dX6_said_19 : decode cX6_said 19 = .ok (.iconst 1, 1) := by decide +kernel
theorem dX6_said_20 : decode cX6_said 20 = .ok (.iconst 1, 1) := by decide +kernel
theorem dX6_said_21 : decode cX6_said 21 = .ok (.invokevirtual 60, 3) := by decide +kernel
theorem dX6_said_24 : decode cX6_said 24 = .ok (.ifCond .ne 5, 3) := by decide +kernel
theorem dX6_said_27 : decode cX6_said 27 = .ok (.iconst 0, 1) := by decide +kernel
theorem dX6_said_28 : decode cX6_said 28 = .ok (.ireturn, 1) := by decide +kernel
theorem dX6_said_29 : decode cX6_said 29 = .ok (.aload_n 0, 1) := by decide +kernel
theorem dX6_said_30 : decode cX6_said 30 = .ok (.iload_n 1, 1) := by decide +kernel
theorem dX6_said_31 : decode cX6_said 31 = .ok (.iload_n 2, 1) := by decide +kernel
theorem dX6_said_32 : decode cX6_said 32 = .ok (.invokevirtual 129, 3) := by decide +kernel
theorem dX6_said_35 : decode cX6_said 35 = .ok (.ireturn, 1) := by decide +kernel
theorem dX6_comesTo_0 : decode cX6_comesTo 0 = .ok (.iload_n 1, 1) := by decide +kernel
theorem dX6_comesTo_1 : decode cX6_comesTo 1 = .ok (.aload_n 0, 1) := by decide +kernel
theorem dX6_comesTo_2 : decode cX6_comesTo 2 = .ok (.getfield 8, 3) := by decide +kernel
theorem dX6_comesTo_5 : decode cX6_comesTo 5 = .ok (.iconst 4, 1) := by decide +kernel
theorem dX6_comesTo_6 : decode cX6_comesTo 6 = .ok (.iaload, 1) := by decide +kernel
theorem dX6_comesTo_7 : decode cX6_comesTo 7 = .ok (.if_icmp .lt 7, 3) := by decide +kernel
theorem dX6_comesTo_10 : decode cX6_comesTo 10 = .ok (.iconst (-1), 1) := by decide +kernel
theorem dX6_comesTo_11 : decode cX6_comesTo 11 = .ok (.goto 11, 3) := by decide +kernel
theorem dX6_comesTo_14 : decode cX6_comesTo 14 = .ok (.aload_n 0, 1) := by decide +kernel
theorem dX6_comesTo_15 : decode cX6_comesTo 15 = .ok (.iload_n 1, 1) := by decide +kernel
theorem dX6_comesTo_16 : decode cX6_comesTo 16 = .ok (.iconst 4, 1) := by decide +kernel
theorem dX6_comesTo_17 : decode cX6_comesTo 17 = .ok (.iload_n 2, 1) := by decide +kernel
theorem dX6_comesTo_18 : decode cX6_comesTo 18 = .ok (.iadd, 1) := by decide +kernel
theorem dX6_comesTo_19 : decode cX6_comesTo 19 = .ok (.invokevirtual 40, 3) := by decide +kernel
theorem dX6_comesTo_22 : decode cX6_comesTo 22 = .ok (.ireturn, 1) := by decide +kernel
theorem dX6_comes_0 : decode cX6_comes 0 = .ok (.aload_n 0, 1) := by decide +kernel
theorem dX6_comes_1 : decode cX6_comes 1 = .ok (.iload_n 2, 1) := by decide +kernel
theorem dX6_comes_2 : decode cX6_comes 2 = .ok (.invokestatic 52, 3) := by decide +kernel
theorem dX6_comes_5 : decode cX6_comes 5 = .ok (.iload_n 1, 1) := by decide +kernel
theorem dX6_comes_6 : decode cX6_comes 6 = .ok (.ifCond .lt 7, 3) := by decide +kernel
theorem dX6_comes_9 : decode cX6_comes 9 = .ok (.iconst 1, 1) := by decide +kernel
theorem dX6_comes_10 : decode cX6_comes 10 = .ok (.goto 4, 3) := by decide +kernel
theorem dX6_comes_13 : decode cX6_comes 13 = .ok (.iconst 0, 1) := by decide +kernel
theorem dX6_comes_14 : decode cX6_comes 14 = .ok (.iconst 1, 1) := by decide +kernel
theorem dX6_comes_15 : decode cX6_comes 15 = .ok (.invokevirtual 60, 3) := by decide +kernel
theorem dX6_comes_18 : decode cX6_comes 18 = .ok (.ifCond .ne 5, 3) := by decide +kernel
theorem dX6_comes_21 : decode cX6_comes 21 = .ok (.iconst 0, 1) := by decide +kernel
theorem dX6_comes_22 : decode cX6_comes 22 = .ok (.ireturn, 1) := by decide +kernel
theorem dX6_comes_23 : decode cX6_comes 23 = .ok (.aload_n 0, 1) := by decide +kernel
theorem dX6_comes_24 : decode cX6_comes 24 = .ok (.iload_n 1, 1) := by decide +kernel
theorem dX6_comes_25 : decode cX6_comes 25 = .ok (.iload_n 2, 1) := by decide +kernel
theorem dX6_comes_26 : decode cX6_comes 26 = .ok (.invokevirtual 132, 3) := by decide +kernel
theorem dX6_comes_29 : decode cX6_comes 29 = .ok (.ireturn, 1) := by decide +kernel
theorem dX6_ofHeard_0 : decode cX6_ofHeard 0 = .ok (.aload_n 0, 1) := by decide +kernel
theorem dX6_ofHeard_1 : decode cX6_ofHeard 1 = .ok (.iload_n 1, 1) := by decide +kernel
theorem dX6_ofHeard_2 : decode cX6_ofHeard 2 = .ok (.iload_n 2, 1) := by decide +kernel
theorem dX6_ofHeard_3 : decode cX6_ofHeard 3 = .ok (.invokevirtual 135, 3) := by decide +kernel
theorem dX6_ofHeard_6 : decode cX6_ofHeard 6 = .ok (.istore 4, 2) := by decide +kernel
theorem dX6_ofHeard_8 : decode cX6_ofHeard 8 = .ok (.iload 4, 2) := by decide +kernel
theorem dX6_ofHeard_10 : decode cX6_ofHeard 10 = .ok (.ifCond .ge 5, 3) := by decide +kernel
theorem dX6_ofHeard_13 : decode cX6_ofHeard 13 = .ok (.iconst (-1), 1) := by decide +kernel
theorem dX6_ofHeard_14 : decode cX6_ofHeard 14 = .ok (.ireturn, 1) := by decide +kernel
theorem dX6_ofHeard_15 : decode cX6_ofHeard 15 = .ok (.iload_n 3, 1) := by decide +kernel
theorem dX6_ofHeard_16 : decode cX6_ofHeard 16 = .ok (.ifCond .ne 8, 3) := by decide +kernel
theorem dX6_ofHeard_19 : decode cX6_ofHeard 19 = .ok (.iload 4, 2) := by decide +kernel
theorem dX6_ofHeard_21 : decode cX6_ofHeard 21 = .ok (.goto 36, 3) := by decide +kernel
theorem dX6_ofHeard_24 : decode cX6_ofHeard 24 = .ok (.iload_n 3, 1) := by decide +kernel
theorem dX6_ofHeard_25 : decode cX6_ofHeard 25 = .ok (.iconst 1, 1) := by decide +kernel
theorem dX6_ofHeard_26 : decode cX6_ofHeard 26 = .ok (.if_icmp .ne 13, 3) := by decide +kernel
theorem dX6_ofHeard_29 : decode cX6_ofHeard 29 = .ok (.aload_n 0, 1) := by decide +kernel
theorem dX6_ofHeard_30 : decode cX6_ofHeard 30 = .ok (.iload 4, 2) := by decide +kernel
theorem dX6_ofHeard_32 : decode cX6_ofHeard 32 = .ok (.iconst 1, 1) := by decide +kernel
theorem dX6_ofHeard_33 : decode cX6_ofHeard 33 = .ok (.invokevirtual 40, 3) := by decide +kernel
theorem dX6_ofHeard_36 : decode cX6_ofHeard 36 = .ok (.goto 21, 3) := by decide +kernel
theorem dX6_ofHeard_39 : decode cX6_ofHeard 39 = .ok (.aload_n 0, 1) := by decide +kernel
theorem dX6_ofHeard_40 : decode cX6_ofHeard 40 = .ok (.iload_n 1, 1) := by decide +kernel
theorem dX6_ofHeard_41 : decode cX6_ofHeard 41 = .ok (.iload_n 2, 1) := by decide +kernel
theorem dX6_ofHeard_42 : decode cX6_ofHeard 42 = .ok (.iconst 1, 1) := by decide +kernel
theorem dX6_ofHeard_43 : decode cX6_ofHeard 43 = .ok (.isub, 1) := by decide +kernel
theorem dX6_ofHeard_44 : decode cX6_ofHeard 44 = .ok (.invokevirtual 135, 3) := by decide +kernel
theorem dX6_ofHeard_47 : decode cX6_ofHeard 47 = .ok (.iload 4, 2) := by decide +kernel
theorem dX6_ofHeard_49 : decode cX6_ofHeard 49 = .ok (.if_icmp .ne 7, 3) := by decide +kernel
theorem dX6_ofHeard_52 : decode cX6_ofHeard 52 = .ok (.iconst 1, 1) := by decide +kernel
theorem dX6_ofHeard_53 : decode cX6_ofHeard 53 = .ok (.goto 4, 3) := by decide +kernel
theorem dX6_ofHeard_56 : decode cX6_ofHeard 56 = .ok (.iconst 0, 1) := by decide +kernel
theorem dX6_ofHeard_57 : decode cX6_ofHeard 57 = .ok (.ireturn, 1) := by decide +kernel
theorem dX6_heard_0 : decode cX6_heard 0 = .ok (.aload_n 0, 1) := by decide +kernel
theorem dX6_heard_1 : decode cX6_heard 1 = .ok (.iload_n 1, 1) := by decide +kernel
theorem dX6_heard_2 : decode cX6_heard 2 = .ok (.invokestatic 52, 3) := by decide +kernel
theorem dX6_heard_5 : decode cX6_heard 5 = .ok (.iload_n 2, 1) := by decide +kernel
theorem dX6_heard_6 : decode cX6_heard 6 = .ok (.ifCond .lt 16, 3) := by decide +kernel
theorem dX6_heard_9 : decode cX6_heard 9 = .ok (.iload_n 3, 1) := by decide +kernel
theorem dX6_heard_10 : decode cX6_heard 10 = .ok (.iconst 0, 1) := by decide +kernel
theorem dX6_heard_11 : decode cX6_heard 11 = .ok (.iconst 2, 1) := by decide +kernel
theorem dX6_heard_12 : decode cX6_heard 12 = .ok (.invokestatic 32, 3) := by decide +kernel
theorem dX6_heard_15 : decode cX6_heard 15 = .ok (.ifCond .eq 7, 3) := by decide +kernel
theorem dX6_heard_18 : decode cX6_heard 18 = .ok (.iconst 1, 1) := by decide +kernel
theorem dX6_heard_19 : decode cX6_heard 19 = .ok (.goto 4, 3) := by decide +kernel
theorem dX6_heard_22 : decode cX6_heard 22 = .ok (.iconst 0, 1) := by decide +kernel
theorem dX6_heard_23 : decode cX6_heard 23 = .ok (.iconst 1, 1) := by decide +kernel
theorem dX6_heard_24 : decode cX6_heard 24 = .ok (.invokevirtual 60, 3) := by decide +kernel
theorem dX6_heard_27 : decode cX6_heard 27 = .ok (.ifCond .ne 5, 3) := by decide +kernel
theorem dX6_heard_30 : decode cX6_heard 30 = .ok (.iconst 0, 1) := by decide +kernel
theorem dX6_heard_31 : decode cX6_heard 31 = .ok (.ireturn, 1) := by decide +kernel
theorem dX6_heard_32 : decode cX6_heard 32 = .ok (.aload_n 0, 1) := by decide +kernel
theorem dX6_heard_33 : decode cX6_heard 33 = .ok (.iload_n 1, 1) := by decide +kernel
theorem dX6_heard_34 : decode cX6_heard 34 = .ok (.iload_n 2, 1) := by decide +kernel
theorem dX6_heard_35 : decode cX6_heard 35 = .ok (.iload_n 3, 1) := by decide +kernel
theorem dX6_heard_36 : decode cX6_heard 36 = .ok (.invokevirtual 138, 3) := by decide +kernel
theorem dX6_heard_39 : decode cX6_heard 39 = .ok (.ireturn, 1) := by decide +kernel
theorem dX6_distinct_0 : decode cX6_distinct 0 = .ok (.iconst 0, 1) := by decide +kernel
theorem dX6_distinct_1 : decode cX6_distinct 1 = .ok (.istore_n 2, 1) := by decide +kernel
theorem dX6_distinct_2 : decode cX6_distinct 2 = .ok (.iconst 0, 1) := by decide +kernel
theorem dX6_distinct_3 : decode cX6_distinct 3 = .ok (.istore_n 3, 1) := by decide +kernel
theorem dX6_distinct_4 : decode cX6_distinct 4 = .ok (.iload_n 3, 1) := by decide +kernel
theorem dX6_distinct_5 : decode cX6_distinct 5 = .ok (.aload_n 0, 1) := by decide +kernel
theorem dX6_distinct_6 : decode cX6_distinct 6 = .ok (.getfield 8, 3) := by decide +kernel
theorem dX6_distinct_9 : decode cX6_distinct 9 = .ok (.iconst 4, 1) := by decide +kernel
theorem dX6_distinct_10 : decode cX6_distinct 10 = .ok (.iaload, 1) := by decide +kernel
theorem dX6_distinct_11 : decode cX6_distinct 11 = .ok (.if_icmp .ge 26, 3) := by decide +kernel
theorem dX6_distinct_14 : decode cX6_distinct 14 = .ok (.iload_n 2, 1) := by decide +kernel
theorem dX6_distinct_15 : decode cX6_distinct 15 = .ok (.aload_n 0, 1) := by decide +kernel
theorem dX6_distinct_16 : decode cX6_distinct 16 = .ok (.iload_n 3, 1) := by decide +kernel
theorem dX6_distinct_17 : decode cX6_distinct 17 = .ok (.iload_n 1, 1) := by decide +kernel
theorem dX6_distinct_18 : decode cX6_distinct 18 = .ok (.invokevirtual 120, 3) := by decide +kernel
theorem dX6_distinct_21 : decode cX6_distinct 21 = .ok (.ifCond .lt 7, 3) := by decide +kernel
theorem dX6_distinct_24 : decode cX6_distinct 24 = .ok (.iconst 1, 1) := by decide +kernel
theorem dX6_distinct_25 : decode cX6_distinct 25 = .ok (.goto 4, 3) := by decide +kernel
theorem dX6_distinct_28 : decode cX6_distinct 28 = .ok (.iconst 0, 1) := by decide +kernel
theorem dX6_distinct_29 : decode cX6_distinct 29 = .ok (.iadd, 1) := by decide +kernel
theorem dX6_distinct_30 : decode cX6_distinct 30 = .ok (.istore_n 2, 1) := by decide +kernel
theorem dX6_distinct_31 : decode cX6_distinct 31 = .ok (.iinc 3 1, 3) := by decide +kernel
theorem dX6_distinct_34 : decode cX6_distinct 34 = .ok (.goto (-30), 3) := by decide +kernel
theorem dX6_distinct_37 : decode cX6_distinct 37 = .ok (.iload_n 2, 1) := by decide +kernel
theorem dX6_distinct_38 : decode cX6_distinct 38 = .ok (.ireturn, 1) := by decide +kernel
theorem dX6_wordsOf_0 : decode cX6_wordsOf 0 = .ok (.iconst 0, 1) := by decide +kernel
theorem dX6_wordsOf_1 : decode cX6_wordsOf 1 = .ok (.istore_n 2, 1) := by decide +kernel
theorem dX6_wordsOf_2 : decode cX6_wordsOf 2 = .ok (.iconst 0, 1) := by decide +kernel
theorem dX6_wordsOf_3 : decode cX6_wordsOf 3 = .ok (.istore_n 3, 1) := by decide +kernel
theorem dX6_wordsOf_4 : decode cX6_wordsOf 4 = .ok (.iload_n 3, 1) := by decide +kernel
theorem dX6_wordsOf_5 : decode cX6_wordsOf 5 = .ok (.aload_n 0, 1) := by decide +kernel
theorem dX6_wordsOf_6 : decode cX6_wordsOf 6 = .ok (.getfield 8, 3) := by decide +kernel
theorem dX6_wordsOf_9 : decode cX6_wordsOf 9 = .ok (.iconst 4, 1) := by decide +kernel
theorem dX6_wordsOf_10 : decode cX6_wordsOf 10 = .ok (.iaload, 1) := by decide +kernel
theorem dX6_wordsOf_11 : decode cX6_wordsOf 11 = .ok (.if_icmp .ge 27, 3) := by decide +kernel
theorem dX6_wordsOf_14 : decode cX6_wordsOf 14 = .ok (.iload_n 2, 1) := by decide +kernel
theorem dX6_wordsOf_15 : decode cX6_wordsOf 15 = .ok (.aload_n 0, 1) := by decide +kernel
theorem dX6_wordsOf_16 : decode cX6_wordsOf 16 = .ok (.iload_n 3, 1) := by decide +kernel
theorem dX6_wordsOf_17 : decode cX6_wordsOf 17 = .ok (.iconst 0, 1) := by decide +kernel
theorem dX6_wordsOf_18 : decode cX6_wordsOf 18 = .ok (.invokevirtual 40, 3) := by decide +kernel
theorem dX6_wordsOf_21 : decode cX6_wordsOf 21 = .ok (.iload_n 1, 1) := by decide +kernel
theorem dX6_wordsOf_22 : decode cX6_wordsOf 22 = .ok (.if_icmp .ne 7, 3) := by decide +kernel
theorem dX6_wordsOf_25 : decode cX6_wordsOf 25 = .ok (.iconst 1, 1) := by decide +kernel
theorem dX6_wordsOf_26 : decode cX6_wordsOf 26 = .ok (.goto 4, 3) := by decide +kernel
theorem dX6_wordsOf_29 : decode cX6_wordsOf 29 = .ok (.iconst 0, 1) := by decide +kernel
theorem dX6_wordsOf_30 : decode cX6_wordsOf 30 = .ok (.iadd, 1) := by decide +kernel
theorem dX6_wordsOf_31 : decode cX6_wordsOf 31 = .ok (.istore_n 2, 1) := by decide +kernel
theorem dX6_wordsOf_32 : decode cX6_wordsOf 32 = .ok (.iinc 3 1, 3) := by decide +kernel
theorem dX6_wordsOf_35 : decode cX6_wordsOf 35 = .ok (.goto (-31), 3) := by decide +kernel
theorem dX6_wordsOf_38 : decode cX6_wordsOf 38 = .ok (.iload_n 2, 1) := by decide +kernel
theorem dX6_wordsOf_39 : decode cX6_wordsOf 39 = .ok (.ireturn, 1) := by decide +kernel
theorem dX6_gaps_0 : decode cX6_gaps 0 = .ok (.iconst 0, 1) := by decide +kernel
theorem dX6_gaps_1 : decode cX6_gaps 1 = .ok (.istore_n 2, 1) := by decide +kernel
theorem dX6_gaps_2 : decode cX6_gaps 2 = .ok (.iconst 0, 1) := by decide +kernel
theorem dX6_gaps_3 : decode cX6_gaps 3 = .ok (.istore_n 3, 1) := by decide +kernel
theorem dX6_gaps_4 : decode cX6_gaps 4 = .ok (.iconst 0, 1) := by decide +kernel
theorem dX6_gaps_5 : decode cX6_gaps 5 = .ok (.istore 4, 2) := by decide +kernel
theorem dX6_gaps_7 : decode cX6_gaps 7 = .ok (.iconst 0, 1) := by decide +kernel
theorem dX6_gaps_8 : decode cX6_gaps 8 = .ok (.istore 5, 2) := by decide +kernel
theorem dX6_gaps_10 : decode cX6_gaps 10 = .ok (.iload 5, 2) := by decide +kernel
theorem dX6_gaps_12 : decode cX6_gaps 12 = .ok (.aload_n 0, 1) := by decide +kernel
theorem dX6_gaps_13 : decode cX6_gaps 13 = .ok (.getfield 8, 3) := by decide +kernel
theorem dX6_gaps_16 : decode cX6_gaps 16 = .ok (.iconst 3, 1) := by decide +kernel
theorem dX6_gaps_17 : decode cX6_gaps 17 = .ok (.iaload, 1) := by decide +kernel
theorem dX6_gaps_18 : decode cX6_gaps 18 = .ok (.if_icmp .ge 75, 3) := by decide +kernel
theorem dX6_gaps_21 : decode cX6_gaps 21 = .ok (.aload_n 0, 1) := by decide +kernel
theorem dX6_gaps_22 : decode cX6_gaps 22 = .ok (.iload_n 1, 1) := by decide +kernel
theorem dX6_gaps_23 : decode cX6_gaps 23 = .ok (.iload 5, 2) := by decide +kernel
theorem dX6_gaps_25 : decode cX6_gaps 25 = .ok (.invokevirtual 135, 3) := by decide +kernel
theorem dX6_gaps_28 : decode cX6_gaps 28 = .ok (.ifCond .lt 7, 3) := by decide +kernel
theorem dX6_gaps_31 : decode cX6_gaps 31 = .ok (.iconst 1, 1) := by decide +kernel
theorem dX6_gaps_32 : decode cX6_gaps 32 = .ok (.goto 4, 3) := by decide +kernel
theorem dX6_gaps_35 : decode cX6_gaps 35 = .ok (.iconst 0, 1) := by decide +kernel
theorem dX6_gaps_36 : decode cX6_gaps 36 = .ok (.istore 6, 2) := by decide +kernel
theorem dX6_gaps_38 : decode cX6_gaps 38 = .ok (.iload_n 2, 1) := by decide +kernel
theorem dX6_gaps_39 : decode cX6_gaps 39 = .ok (.iload 6, 2) := by decide +kernel
theorem dX6_gaps_41 : decode cX6_gaps 41 = .ok (.ifCond .eq 16, 3) := by decide +kernel
theorem dX6_gaps_44 : decode cX6_gaps 44 = .ok (.iload_n 3, 1) := by decide +kernel
theorem dX6_gaps_45 : decode cX6_gaps 45 = .ok (.ifCond .eq 12, 3) := by decide +kernel
theorem dX6_gaps_48 : decode cX6_gaps 48 = .ok (.iload 4, 2) := by decide +kernel
theorem dX6_gaps_50 : decode cX6_gaps 50 = .ok (.ifCond .eq 7, 3) := by decide +kernel
theorem dX6_gaps_53 : decode cX6_gaps 53 = .ok (.iconst 1, 1) := by decide +kernel
theorem dX6_gaps_54 : decode cX6_gaps 54 = .ok (.goto 4, 3) := by decide +kernel
theorem dX6_gaps_57 : decode cX6_gaps 57 = .ok (.iconst 0, 1) := by decide +kernel
theorem dX6_gaps_58 : decode cX6_gaps 58 = .ok (.iadd, 1) := by decide +kernel
theorem dX6_gaps_59 : decode cX6_gaps 59 = .ok (.istore_n 2, 1) := by decide +kernel
theorem dX6_gaps_60 : decode cX6_gaps 60 = .ok (.iload_n 3, 1) := by decide +kernel
theorem dX6_gaps_61 : decode cX6_gaps 61 = .ok (.ifCond .ne 8, 3) := by decide +kernel
theorem dX6_gaps_64 : decode cX6_gaps 64 = .ok (.iload 6, 2) := by decide +kernel
theorem dX6_gaps_66 : decode cX6_gaps 66 = .ok (.ifCond .eq 7, 3) := by decide +kernel
theorem dX6_gaps_69 : decode cX6_gaps 69 = .ok (.iconst 1, 1) := by decide +kernel
theorem dX6_gaps_70 : decode cX6_gaps 70 = .ok (.goto 4, 3) := by decide +kernel
theorem dX6_gaps_73 : decode cX6_gaps 73 = .ok (.iconst 0, 1) := by decide +kernel
theorem dX6_gaps_74 : decode cX6_gaps 74 = .ok (.istore_n 3, 1) := by decide +kernel
theorem dX6_gaps_75 : decode cX6_gaps 75 = .ok (.iload 6, 2) := by decide +kernel
theorem dX6_gaps_77 : decode cX6_gaps 77 = .ok (.ifCond .ne 7, 3) := by decide +kernel
theorem dX6_gaps_80 : decode cX6_gaps 80 = .ok (.iconst 1, 1) := by decide +kernel
theorem dX6_gaps_81 : decode cX6_gaps 81 = .ok (.goto 4, 3) := by decide +kernel
theorem dX6_gaps_84 : decode cX6_gaps 84 = .ok (.iconst 0, 1) := by decide +kernel
theorem dX6_gaps_85 : decode cX6_gaps 85 = .ok (.istore 4, 2) := by decide +kernel
theorem dX6_gaps_87 : decode cX6_gaps 87 = .ok (.iinc 5 1, 3) := by decide +kernel
theorem dX6_gaps_90 : decode cX6_gaps 90 = .ok (.goto (-80), 3) := by decide +kernel
theorem dX6_gaps_93 : decode cX6_gaps 93 = .ok (.iload_n 2, 1) := by decide +kernel
theorem dX6_gaps_94 : decode cX6_gaps 94 = .ok (.ireturn, 1) := by decide +kernel
theorem dX6_beatsOf_0 : decode cX6_beatsOf 0 = .ok (.iconst 0, 1) := by decide +kernel
theorem dX6_beatsOf_1 : decode cX6_beatsOf 1 = .ok (.istore_n 3, 1) := by decide +kernel
theorem dX6_beatsOf_2 : decode cX6_beatsOf 2 = .ok (.iconst 0, 1) := by decide +kernel
theorem dX6_beatsOf_3 : decode cX6_beatsOf 3 = .ok (.istore 4, 2) := by decide +kernel
theorem dX6_beatsOf_5 : decode cX6_beatsOf 5 = .ok (.iload 4, 2) := by decide +kernel
theorem dX6_beatsOf_7 : decode cX6_beatsOf 7 = .ok (.aload_n 0, 1) := by decide +kernel
theorem dX6_beatsOf_8 : decode cX6_beatsOf 8 = .ok (.getfield 8, 3) := by decide +kernel
theorem dX6_beatsOf_11 : decode cX6_beatsOf 11 = .ok (.iconst 3, 1) := by decide +kernel
theorem dX6_beatsOf_12 : decode cX6_beatsOf 12 = .ok (.iaload, 1) := by decide +kernel
theorem dX6_beatsOf_13 : decode cX6_beatsOf 13 = .ok (.if_icmp .ge 46, 3) := by decide +kernel
theorem dX6_beatsOf_16 : decode cX6_beatsOf 16 = .ok (.iload_n 3, 1) := by decide +kernel
theorem dX6_beatsOf_17 : decode cX6_beatsOf 17 = .ok (.iload_n 2, 1) := by decide +kernel
theorem dX6_beatsOf_18 : decode cX6_beatsOf 18 = .ok (.ifCond .eq 18, 3) := by decide +kernel
theorem dX6_beatsOf_21 : decode cX6_beatsOf 21 = .ok (.aload_n 0, 1) := by decide +kernel
theorem dX6_beatsOf_22 : decode cX6_beatsOf 22 = .ok (.iload_n 1, 1) := by decide +kernel
theorem dX6_beatsOf_23 : decode cX6_beatsOf 23 = .ok (.iload 4, 2) := by decide +kernel
theorem dX6_beatsOf_25 : decode cX6_beatsOf 25 = .ok (.iconst 2, 1) := by decide +kernel
theorem dX6_beatsOf_26 : decode cX6_beatsOf 26 = .ok (.invokevirtual 138, 3) := by decide +kernel
theorem dX6_beatsOf_29 : decode cX6_beatsOf 29 = .ok (.iconst 1, 1) := by decide +kernel
theorem dX6_beatsOf_30 : decode cX6_beatsOf 30 = .ok (.if_icmp .ne 20, 3) := by decide +kernel
theorem dX6_beatsOf_33 : decode cX6_beatsOf 33 = .ok (.goto 13, 3) := by decide +kernel
theorem dX6_beatsOf_36 : decode cX6_beatsOf 36 = .ok (.aload_n 0, 1) := by decide +kernel
theorem dX6_beatsOf_37 : decode cX6_beatsOf 37 = .ok (.iload_n 1, 1) := by decide +kernel
theorem dX6_beatsOf_38 : decode cX6_beatsOf 38 = .ok (.iload 4, 2) := by decide +kernel
theorem dX6_beatsOf_40 : decode cX6_beatsOf 40 = .ok (.invokevirtual 135, 3) := by decide +kernel
theorem dX6_beatsOf_43 : decode cX6_beatsOf 43 = .ok (.ifCond .lt 7, 3) := by decide +kernel
theorem dX6_beatsOf_46 : decode cX6_beatsOf 46 = .ok (.iconst 1, 1) := by decide +kernel
theorem dX6_beatsOf_47 : decode cX6_beatsOf 47 = .ok (.goto 4, 3) := by decide +kernel
theorem dX6_beatsOf_50 : decode cX6_beatsOf 50 = .ok (.iconst 0, 1) := by decide +kernel
theorem dX6_beatsOf_51 : decode cX6_beatsOf 51 = .ok (.iadd, 1) := by decide +kernel
theorem dX6_beatsOf_52 : decode cX6_beatsOf 52 = .ok (.istore_n 3, 1) := by decide +kernel
theorem dX6_beatsOf_53 : decode cX6_beatsOf 53 = .ok (.iinc 4 1, 3) := by decide +kernel
theorem dX6_beatsOf_56 : decode cX6_beatsOf 56 = .ok (.goto (-51), 3) := by decide +kernel
theorem dX6_beatsOf_59 : decode cX6_beatsOf 59 = .ok (.iload_n 3, 1) := by decide +kernel
theorem dX6_beatsOf_60 : decode cX6_beatsOf 60 = .ok (.ireturn, 1) := by decide +kernel
theorem dX6_ofSpeaker_0 : decode cX6_ofSpeaker 0 = .ok (.iload_n 2, 1) := by decide +kernel
theorem dX6_ofSpeaker_1 : decode cX6_ofSpeaker 1 = .ok (.tableswitch 92 0 6 #[43, 52, 92, 59, 66, 80, 86], 43) := by decide +kernel
theorem dX6_ofSpeaker_44 : decode cX6_ofSpeaker 44 = .ok (.aload_n 0, 1) := by decide +kernel
theorem dX6_ofSpeaker_45 : decode cX6_ofSpeaker 45 = .ok (.getfield 8, 3) := by decide +kernel
theorem dX6_ofSpeaker_48 : decode cX6_ofSpeaker 48 = .ok (.iconst 5, 1) := by decide +kernel
theorem dX6_ofSpeaker_49 : decode cX6_ofSpeaker 49 = .ok (.iload_n 1, 1) := by decide +kernel
theorem dX6_ofSpeaker_50 : decode cX6_ofSpeaker 50 = .ok (.iadd, 1) := by decide +kernel
theorem dX6_ofSpeaker_51 : decode cX6_ofSpeaker 51 = .ok (.iaload, 1) := by decide +kernel
theorem dX6_ofSpeaker_52 : decode cX6_ofSpeaker 52 = .ok (.ireturn, 1) := by decide +kernel
theorem dX6_ofSpeaker_53 : decode cX6_ofSpeaker 53 = .ok (.aload_n 0, 1) := by decide +kernel
theorem dX6_ofSpeaker_54 : decode cX6_ofSpeaker 54 = .ok (.iload_n 1, 1) := by decide +kernel
theorem dX6_ofSpeaker_55 : decode cX6_ofSpeaker 55 = .ok (.iconst 0, 1) := by decide +kernel
theorem dX6_ofSpeaker_56 : decode cX6_ofSpeaker 56 = .ok (.invokevirtual 141, 3) := by decide +kernel
theorem dX6_ofSpeaker_59 : decode cX6_ofSpeaker 59 = .ok (.ireturn, 1) := by decide +kernel
theorem dX6_ofSpeaker_60 : decode cX6_ofSpeaker 60 = .ok (.aload_n 0, 1) := by decide +kernel
theorem dX6_ofSpeaker_61 : decode cX6_ofSpeaker 61 = .ok (.iload_n 1, 1) := by decide +kernel
theorem dX6_ofSpeaker_62 : decode cX6_ofSpeaker 62 = .ok (.iconst 1, 1) := by decide +kernel
theorem dX6_ofSpeaker_63 : decode cX6_ofSpeaker 63 = .ok (.invokevirtual 141, 3) := by decide +kernel
theorem dX6_ofSpeaker_66 : decode cX6_ofSpeaker 66 = .ok (.ireturn, 1) := by decide +kernel
theorem dX6_ofSpeaker_67 : decode cX6_ofSpeaker 67 = .ok (.aload_n 0, 1) := by decide +kernel
theorem dX6_ofSpeaker_68 : decode cX6_ofSpeaker 68 = .ok (.getfield 8, 3) := by decide +kernel
theorem dX6_ofSpeaker_71 : decode cX6_ofSpeaker 71 = .ok (.iconst 3, 1) := by decide +kernel
theorem dX6_ofSpeaker_72 : decode cX6_ofSpeaker 72 = .ok (.iaload, 1) := by decide +kernel
theorem dX6_ofSpeaker_73 : decode cX6_ofSpeaker 73 = .ok (.aload_n 0, 1) := by decide +kernel
theorem dX6_ofSpeaker_74 : decode cX6_ofSpeaker 74 = .ok (.iload_n 1, 1) := by decide +kernel
theorem dX6_ofSpeaker_75 : decode cX6_ofSpeaker 75 = .ok (.iconst 0, 1) := by decide +kernel
theorem dX6_ofSpeaker_76 : decode cX6_ofSpeaker 76 = .ok (.invokevirtual 141, 3) := by decide +kernel
theorem dX6_ofSpeaker_79 : decode cX6_ofSpeaker 79 = .ok (.isub, 1) := by decide +kernel
theorem dX6_ofSpeaker_80 : decode cX6_ofSpeaker 80 = .ok (.ireturn, 1) := by decide +kernel
theorem dX6_ofSpeaker_81 : decode cX6_ofSpeaker 81 = .ok (.aload_n 0, 1) := by decide +kernel
theorem dX6_ofSpeaker_82 : decode cX6_ofSpeaker 82 = .ok (.iload_n 1, 1) := by decide +kernel
theorem dX6_ofSpeaker_83 : decode cX6_ofSpeaker 83 = .ok (.invokevirtual 145, 3) := by decide +kernel
theorem dX6_ofSpeaker_86 : decode cX6_ofSpeaker 86 = .ok (.ireturn, 1) := by decide +kernel
theorem dX6_ofSpeaker_87 : decode cX6_ofSpeaker 87 = .ok (.aload_n 0, 1) := by decide +kernel
theorem dX6_ofSpeaker_88 : decode cX6_ofSpeaker 88 = .ok (.iload_n 1, 1) := by decide +kernel
theorem dX6_ofSpeaker_89 : decode cX6_ofSpeaker 89 = .ok (.invokevirtual 148, 3) := by decide +kernel
theorem dX6_ofSpeaker_92 : decode cX6_ofSpeaker 92 = .ok (.ireturn, 1) := by decide +kernel
theorem dX6_ofSpeaker_93 : decode cX6_ofSpeaker 93 = .ok (.aload_n 0, 1) := by decide +kernel
theorem dX6_ofSpeaker_94 : decode cX6_ofSpeaker 94 = .ok (.iload_n 1, 1) := by decide +kernel
theorem dX6_ofSpeaker_95 : decode cX6_ofSpeaker 95 = .ok (.invokevirtual 151, 3) := by decide +kernel
theorem dX6_ofSpeaker_98 : decode cX6_ofSpeaker 98 = .ok (.ireturn, 1) := by decide +kernel
theorem dX6_speaker_0 : decode cX6_speaker 0 = .ok (.aload_n 0, 1) := by decide +kernel
theorem dX6_speaker_1 : decode cX6_speaker 1 = .ok (.iload_n 1, 1) := by decide +kernel
theorem dX6_speaker_2 : decode cX6_speaker 2 = .ok (.invokestatic 52, 3) := by decide +kernel
theorem dX6_speaker_5 : decode cX6_speaker 5 = .ok (.iload_n 2, 1) := by decide +kernel
theorem dX6_speaker_6 : decode cX6_speaker 6 = .ok (.iconst 0, 1) := by decide +kernel
theorem dX6_speaker_7 : decode cX6_speaker 7 = .ok (.bipush 7, 2) := by decide +kernel
theorem dX6_speaker_9 : decode cX6_speaker 9 = .ok (.invokestatic 32, 3) := by decide +kernel
theorem dX6_speaker_12 : decode cX6_speaker 12 = .ok (.iconst 1, 1) := by decide +kernel
theorem dX6_speaker_13 : decode cX6_speaker 13 = .ok (.invokevirtual 60, 3) := by decide +kernel
theorem dX6_speaker_16 : decode cX6_speaker 16 = .ok (.ifCond .ne 5, 3) := by decide +kernel
theorem dX6_speaker_19 : decode cX6_speaker 19 = .ok (.iconst 0, 1) := by decide +kernel
theorem dX6_speaker_20 : decode cX6_speaker 20 = .ok (.ireturn, 1) := by decide +kernel
theorem dX6_speaker_21 : decode cX6_speaker 21 = .ok (.aload_n 0, 1) := by decide +kernel
theorem dX6_speaker_22 : decode cX6_speaker 22 = .ok (.iload_n 1, 1) := by decide +kernel
theorem dX6_speaker_23 : decode cX6_speaker 23 = .ok (.iload_n 2, 1) := by decide +kernel
theorem dX6_speaker_24 : decode cX6_speaker 24 = .ok (.invokevirtual 154, 3) := by decide +kernel
theorem dX6_speaker_27 : decode cX6_speaker 27 = .ok (.ireturn, 1) := by decide +kernel
theorem dX6_how_0 : decode cX6_how 0 = .ok (.iconst 0, 1) := by decide +kernel
theorem dX6_how_1 : decode cX6_how 1 = .ok (.istore 4, 2) := by decide +kernel
theorem dX6_how_3 : decode cX6_how 3 = .ok (.iconst 0, 1) := by decide +kernel
theorem dX6_how_4 : decode cX6_how 4 = .ok (.istore 5, 2) := by decide +kernel
theorem dX6_how_6 : decode cX6_how 6 = .ok (.iconst (-1), 1) := by decide +kernel
theorem dX6_how_7 : decode cX6_how 7 = .ok (.istore 6, 2) := by decide +kernel
theorem dX6_how_9 : decode cX6_how 9 = .ok (.iconst 1, 1) := by decide +kernel
theorem dX6_how_10 : decode cX6_how 10 = .ok (.istore 7, 2) := by decide +kernel
theorem dX6_how_12 : decode cX6_how 12 = .ok (.iconst 0, 1) := by decide +kernel
theorem dX6_how_13 : decode cX6_how 13 = .ok (.istore 8, 2) := by decide +kernel
theorem dX6_how_15 : decode cX6_how 15 = .ok (.iload 8, 2) := by decide +kernel
theorem dX6_how_17 : decode cX6_how 17 = .ok (.aload_n 0, 1) := by decide +kernel
theorem dX6_how_18 : decode cX6_how 18 = .ok (.getfield 8, 3) := by decide +kernel
theorem dX6_how_21 : decode cX6_how 21 = .ok (.iconst 4, 1) := by decide +kernel
theorem dX6_how_22 : decode cX6_how 22 = .ok (.iaload, 1) := by decide +kernel
theorem dX6_how_23 : decode cX6_how 23 = .ok (.if_icmp .ge 93, 3) := by decide +kernel
theorem dX6_how_26 : decode cX6_how 26 = .ok (.aload_n 0, 1) := by decide +kernel
theorem dX6_how_27 : decode cX6_how 27 = .ok (.iload 8, 2) := by decide +kernel
theorem dX6_how_29 : decode cX6_how 29 = .ok (.iconst 0, 1) := by decide +kernel
theorem dX6_how_30 : decode cX6_how 30 = .ok (.invokevirtual 40, 3) := by decide +kernel
theorem dX6_how_33 : decode cX6_how 33 = .ok (.iload_n 1, 1) := by decide +kernel
theorem dX6_how_34 : decode cX6_how 34 = .ok (.if_icmp .ne 76, 3) := by decide +kernel
theorem dX6_how_37 : decode cX6_how 37 = .ok (.aload_n 0, 1) := by decide +kernel
theorem dX6_how_38 : decode cX6_how 38 = .ok (.iload 8, 2) := by decide +kernel
theorem dX6_how_40 : decode cX6_how 40 = .ok (.iconst 2, 1) := by decide +kernel
theorem dX6_how_41 : decode cX6_how 41 = .ok (.invokevirtual 40, 3) := by decide +kernel
theorem dX6_how_44 : decode cX6_how 44 = .ok (.iload_n 2, 1) := by decide +kernel
theorem dX6_how_45 : decode cX6_how 45 = .ok (.if_icmp .ne 65, 3) := by decide +kernel
theorem dX6_how_48 : decode cX6_how 48 = .ok (.aload_n 0, 1) := by decide +kernel
theorem dX6_how_49 : decode cX6_how 49 = .ok (.iload 8, 2) := by decide +kernel
theorem dX6_how_51 : decode cX6_how 51 = .ok (.iload_n 3, 1) := by decide +kernel
theorem dX6_how_52 : decode cX6_how 52 = .ok (.invokevirtual 120, 3) := by decide +kernel
theorem dX6_how_55 : decode cX6_how 55 = .ok (.istore 9, 2) := by decide +kernel
theorem dX6_how_57 : decode cX6_how 57 = .ok (.iinc 4 1, 3) := by decide +kernel
theorem dX6_how_60 : decode cX6_how 60 = .ok (.iload 5, 2) := by decide +kernel
theorem dX6_how_62 : decode cX6_how 62 = .ok (.iload 9, 2) := by decide +kernel
theorem dX6_how_64 : decode cX6_how 64 = .ok (.ifCond .lt 7, 3) := by decide +kernel
theorem dX6_how_67 : decode cX6_how 67 = .ok (.iconst 1, 1) := by decide +kernel
theorem dX6_how_68 : decode cX6_how 68 = .ok (.goto 4, 3) := by decide +kernel
theorem dX6_how_71 : decode cX6_how 71 = .ok (.iconst 0, 1) := by decide +kernel
theorem dX6_how_72 : decode cX6_how 72 = .ok (.iadd, 1) := by decide +kernel
theorem dX6_how_73 : decode cX6_how 73 = .ok (.istore 5, 2) := by decide +kernel
theorem dX6_how_75 : decode cX6_how 75 = .ok (.iload 7, 2) := by decide +kernel
theorem dX6_how_77 : decode cX6_how 77 = .ok (.ifCond .eq 14, 3) := by decide +kernel
theorem dX6_how_80 : decode cX6_how 80 = .ok (.iload 9, 2) := by decide +kernel
theorem dX6_how_82 : decode cX6_how 82 = .ok (.iload 6, 2) := by decide +kernel
theorem dX6_how_84 : decode cX6_how 84 = .ok (.if_icmp .le 7, 3) := by decide +kernel
theorem dX6_how_87 : decode cX6_how 87 = .ok (.iconst 1, 1) := by decide +kernel
theorem dX6_how_88 : decode cX6_how 88 = .ok (.goto 4, 3) := by decide +kernel
theorem dX6_how_91 : decode cX6_how 91 = .ok (.iconst 0, 1) := by decide +kernel
theorem dX6_how_92 : decode cX6_how 92 = .ok (.istore 7, 2) := by decide +kernel
theorem dX6_how_94 : decode cX6_how 94 = .ok (.iload 9, 2) := by decide +kernel
theorem dX6_how_96 : decode cX6_how 96 = .ok (.iload 6, 2) := by decide +kernel
theorem dX6_how_98 : decode cX6_how 98 = .ok (.if_icmp .le 8, 3) := by decide +kernel
theorem dX6_how_101 : decode cX6_how 101 = .ok (.iload 9, 2) := by decide +kernel
theorem dX6_how_103 : decode cX6_how 103 = .ok (.goto 5, 3) := by decide +kernel
theorem dX6_how_106 : decode cX6_how 106 = .ok (.iload 6, 2) := by decide +kernel
theorem dX6_how_108 : decode cX6_how 108 = .ok (.istore 6, 2) := by decide +kernel
theorem dX6_how_110 : decode cX6_how 110 = .ok (.iinc 8 1, 3) := by decide +kernel
theorem dX6_how_113 : decode cX6_how 113 = .ok (.goto (-98), 3) := by decide +kernel
theorem dX6_how_116 : decode cX6_how 116 = .ok (.iload 4, 2) := by decide +kernel
theorem dX6_how_118 : decode cX6_how 118 = .ok (.ifCond .ne 7, 3) := by decide +kernel
theorem dX6_how_121 : decode cX6_how 121 = .ok (.iconst (-1), 1) := by decide +kernel
theorem dX6_how_122 : decode cX6_how 122 = .ok (.goto 33, 3) := by decide +kernel
theorem dX6_how_125 : decode cX6_how 125 = .ok (.iload 5, 2) := by decide +kernel
theorem dX6_how_127 : decode cX6_how 127 = .ok (.ifCond .ne 7, 3) := by decide +kernel
theorem dX6_how_130 : decode cX6_how 130 = .ok (.iconst 0, 1) := by decide +kernel
theorem dX6_how_131 : decode cX6_how 131 = .ok (.goto 24, 3) := by decide +kernel
theorem dX6_how_134 : decode cX6_how 134 = .ok (.iload 5, 2) := by decide +kernel
theorem dX6_how_136 : decode cX6_how 136 = .ok (.iload 4, 2) := by decide +kernel
theorem dX6_how_138 : decode cX6_how 138 = .ok (.if_icmp .ge 7, 3) := by decide +kernel
theorem dX6_how_141 : decode cX6_how 141 = .ok (.iconst 1, 1) := by decide +kernel
theorem dX6_how_142 : decode cX6_how 142 = .ok (.goto 13, 3) := by decide +kernel
theorem dX6_how_145 : decode cX6_how 145 = .ok (.iload 7, 2) := by decide +kernel
theorem dX6_how_147 : decode cX6_how 147 = .ok (.ifCond .eq 7, 3) := by decide +kernel
theorem dX6_how_150 : decode cX6_how 150 = .ok (.iconst 3, 1) := by decide +kernel
theorem dX6_how_151 : decode cX6_how 151 = .ok (.goto 4, 3) := by decide +kernel
theorem dX6_how_154 : decode cX6_how 154 = .ok (.iconst 2, 1) := by decide +kernel
theorem dX6_how_155 : decode cX6_how 155 = .ok (.ireturn, 1) := by decide +kernel
theorem dX6_message_0 : decode cX6_message 0 = .ok (.aload_n 0, 1) := by decide +kernel
theorem dX6_message_1 : decode cX6_message 1 = .ok (.iload_n 1, 1) := by decide +kernel
theorem dX6_message_2 : decode cX6_message 2 = .ok (.invokestatic 52, 3) := by decide +kernel
theorem dX6_message_5 : decode cX6_message 5 = .ok (.ifCond .eq 14, 3) := by decide +kernel
theorem dX6_message_8 : decode cX6_message 8 = .ok (.iload_n 3, 1) := by decide +kernel
theorem dX6_message_9 : decode cX6_message 9 = .ok (.invokestatic 52, 3) := by decide +kernel
theorem dX6_message_12 : decode cX6_message 12 = .ok (.ifCond .eq 7, 3) := by decide +kernel
theorem dX6_message_15 : decode cX6_message 15 = .ok (.iconst 1, 1) := by decide +kernel
theorem dX6_message_16 : decode cX6_message 16 = .ok (.goto 4, 3) := by decide +kernel
theorem dX6_message_19 : decode cX6_message 19 = .ok (.iconst 0, 1) := by decide +kernel
theorem dX6_message_20 : decode cX6_message 20 = .ok (.iload_n 2, 1) := by decide +kernel
theorem dX6_message_21 : decode cX6_message 21 = .ok (.iconst 0, 1) := by decide +kernel
theorem dX6_message_22 : decode cX6_message 22 = .ok (.bipush 9, 2) := by decide +kernel
theorem dX6_message_24 : decode cX6_message 24 = .ok (.invokestatic 32, 3) := by decide +kernel
theorem dX6_message_27 : decode cX6_message 27 = .ok (.iconst 1, 1) := by decide +kernel
theorem dX6_message_28 : decode cX6_message 28 = .ok (.invokevirtual 60, 3) := by decide +kernel
theorem dX6_message_31 : decode cX6_message 31 = .ok (.ifCond .ne 5, 3) := by decide +kernel
theorem dX6_message_34 : decode cX6_message 34 = .ok (.iconst 0, 1) := by decide +kernel
theorem dX6_message_35 : decode cX6_message 35 = .ok (.ireturn, 1) := by decide +kernel
theorem dX6_message_36 : decode cX6_message 36 = .ok (.aload_n 0, 1) := by decide +kernel
theorem dX6_message_37 : decode cX6_message 37 = .ok (.iload_n 1, 1) := by decide +kernel
theorem dX6_message_38 : decode cX6_message 38 = .ok (.iload_n 2, 1) := by decide +kernel
theorem dX6_message_39 : decode cX6_message 39 = .ok (.iload_n 3, 1) := by decide +kernel
theorem dX6_message_40 : decode cX6_message 40 = .ok (.invokevirtual 157, 3) := by decide +kernel
theorem dX6_message_43 : decode cX6_message 43 = .ok (.ireturn, 1) := by decide +kernel
theorem dX6_wordsHeardBy_0 : decode cX6_wordsHeardBy 0 = .ok (.iconst 0, 1) := by decide +kernel
theorem dX6_wordsHeardBy_1 : decode cX6_wordsHeardBy 1 = .ok (.istore_n 2, 1) := by decide +kernel
theorem dX6_wordsHeardBy_2 : decode cX6_wordsHeardBy 2 = .ok (.iconst 0, 1) := by decide +kernel
theorem dX6_wordsHeardBy_3 : decode cX6_wordsHeardBy 3 = .ok (.istore_n 3, 1) := by decide +kernel
theorem dX6_wordsHeardBy_4 : decode cX6_wordsHeardBy 4 = .ok (.iload_n 3, 1) := by decide +kernel
theorem dX6_wordsHeardBy_5 : decode cX6_wordsHeardBy 5 = .ok (.aload_n 0, 1) := by decide +kernel
theorem dX6_wordsHeardBy_6 : decode cX6_wordsHeardBy 6 = .ok (.getfield 8, 3) := by decide +kernel
theorem dX6_wordsHeardBy_9 : decode cX6_wordsHeardBy 9 = .ok (.iconst 4, 1) := by decide +kernel
theorem dX6_wordsHeardBy_10 : decode cX6_wordsHeardBy 10 = .ok (.iaload, 1) := by decide +kernel
theorem dX6_wordsHeardBy_11 : decode cX6_wordsHeardBy 11 = .ok (.if_icmp .ge 26, 3) := by decide +kernel
theorem dX6_wordsHeardBy_14 : decode cX6_wordsHeardBy 14 = .ok (.iload_n 2, 1) := by decide +kernel
theorem dX6_wordsHeardBy_15 : decode cX6_wordsHeardBy 15 = .ok (.aload_n 0, 1) := by decide +kernel
theorem dX6_wordsHeardBy_16 : decode cX6_wordsHeardBy 16 = .ok (.iload_n 3, 1) := by decide +kernel
theorem dX6_wordsHeardBy_17 : decode cX6_wordsHeardBy 17 = .ok (.invokevirtual 126, 3) := by decide +kernel
theorem dX6_wordsHeardBy_20 : decode cX6_wordsHeardBy 20 = .ok (.iload_n 1, 1) := by decide +kernel
theorem dX6_wordsHeardBy_21 : decode cX6_wordsHeardBy 21 = .ok (.if_icmp .ne 7, 3) := by decide +kernel
theorem dX6_wordsHeardBy_24 : decode cX6_wordsHeardBy 24 = .ok (.iconst 1, 1) := by decide +kernel
theorem dX6_wordsHeardBy_25 : decode cX6_wordsHeardBy 25 = .ok (.goto 4, 3) := by decide +kernel
theorem dX6_wordsHeardBy_28 : decode cX6_wordsHeardBy 28 = .ok (.iconst 0, 1) := by decide +kernel
theorem dX6_wordsHeardBy_29 : decode cX6_wordsHeardBy 29 = .ok (.iadd, 1) := by decide +kernel
theorem dX6_wordsHeardBy_30 : decode cX6_wordsHeardBy 30 = .ok (.istore_n 2, 1) := by decide +kernel
theorem dX6_wordsHeardBy_31 : decode cX6_wordsHeardBy 31 = .ok (.iinc 3 1, 3) := by decide +kernel
theorem dX6_wordsHeardBy_34 : decode cX6_wordsHeardBy 34 = .ok (.goto (-30), 3) := by decide +kernel
theorem dX6_wordsHeardBy_37 : decode cX6_wordsHeardBy 37 = .ok (.iload_n 2, 1) := by decide +kernel
theorem dX6_wordsHeardBy_38 : decode cX6_wordsHeardBy 38 = .ok (.ireturn, 1) := by decide +kernel
theorem dX6_messages_0 : decode cX6_messages 0 = .ok (.iconst 0, 1) := by decide +kernel
theorem dX6_messages_1 : decode cX6_messages 1 = .ok (.istore_n 2, 1) := by decide +kernel
theorem dX6_messages_2 : decode cX6_messages 2 = .ok (.iconst 0, 1) := by decide +kernel
theorem dX6_messages_3 : decode cX6_messages 3 = .ok (.istore_n 3, 1) := by decide +kernel
theorem dX6_messages_4 : decode cX6_messages 4 = .ok (.iload_n 3, 1) := by decide +kernel
theorem dX6_messages_5 : decode cX6_messages 5 = .ok (.bipush 60, 2) := by decide +kernel
theorem dX6_messages_7 : decode cX6_messages 7 = .ok (.if_icmp .ge 96, 3) := by decide +kernel
theorem dX6_messages_10 : decode cX6_messages 10 = .ok (.aload_n 0, 1) := by decide +kernel
theorem dX6_messages_11 : decode cX6_messages 11 = .ok (.iload_n 3, 1) := by decide +kernel
theorem dX6_messages_12 : decode cX6_messages 12 = .ok (.bipush 10, 2) := by decide +kernel
theorem dX6_messages_14 : decode cX6_messages 14 = .ok (.idiv, 1) := by decide +kernel
theorem dX6_messages_15 : decode cX6_messages 15 = .ok (.iload_n 3, 1) := by decide +kernel
theorem dX6_messages_16 : decode cX6_messages 16 = .ok (.bipush 10, 2) := by decide +kernel
theorem dX6_messages_18 : decode cX6_messages 18 = .ok (.irem, 1) := by decide +kernel
theorem dX6_messages_19 : decode cX6_messages 19 = .ok (.iconst 0, 1) := by decide +kernel
theorem dX6_messages_20 : decode cX6_messages 20 = .ok (.invokevirtual 157, 3) := by decide +kernel
theorem dX6_messages_23 : decode cX6_messages 23 = .ok (.iconst (-1), 1) := by decide +kernel
theorem dX6_messages_24 : decode cX6_messages 24 = .ok (.if_icmp .eq 7, 3) := by decide +kernel
theorem dX6_messages_27 : decode cX6_messages 27 = .ok (.iconst 1, 1) := by decide +kernel
theorem dX6_messages_28 : decode cX6_messages 28 = .ok (.goto 4, 3) := by decide +kernel
theorem dX6_messages_31 : decode cX6_messages 31 = .ok (.iconst 0, 1) := by decide +kernel
theorem dX6_messages_32 : decode cX6_messages 32 = .ok (.istore 4, 2) := by decide +kernel
theorem dX6_messages_34 : decode cX6_messages 34 = .ok (.iconst 0, 1) := by decide +kernel
theorem dX6_messages_35 : decode cX6_messages 35 = .ok (.istore 5, 2) := by decide +kernel
theorem dX6_messages_37 : decode cX6_messages 37 = .ok (.iload 5, 2) := by decide +kernel
theorem dX6_messages_39 : decode cX6_messages 39 = .ok (.bipush 6, 2) := by decide +kernel
theorem dX6_messages_41 : decode cX6_messages 41 = .ok (.if_icmp .ge 43, 3) := by decide +kernel
theorem dX6_messages_44 : decode cX6_messages 44 = .ok (.iload 4, 2) := by decide +kernel
theorem dX6_messages_46 : decode cX6_messages 46 = .ok (.ifCond .eq 38, 3) := by decide +kernel
theorem dX6_messages_49 : decode cX6_messages 49 = .ok (.iload_n 1, 1) := by decide +kernel
theorem dX6_messages_50 : decode cX6_messages 50 = .ok (.ifCond .eq 34, 3) := by decide +kernel
theorem dX6_messages_53 : decode cX6_messages 53 = .ok (.aload_n 0, 1) := by decide +kernel
theorem dX6_messages_54 : decode cX6_messages 54 = .ok (.iload_n 3, 1) := by decide +kernel
theorem dX6_messages_55 : decode cX6_messages 55 = .ok (.bipush 10, 2) := by decide +kernel
theorem dX6_messages_57 : decode cX6_messages 57 = .ok (.idiv, 1) := by decide +kernel
theorem dX6_messages_58 : decode cX6_messages 58 = .ok (.iload_n 3, 1) := by decide +kernel
theorem dX6_messages_59 : decode cX6_messages 59 = .ok (.bipush 10, 2) := by decide +kernel
theorem dX6_messages_61 : decode cX6_messages 61 = .ok (.irem, 1) := by decide +kernel
theorem dX6_messages_62 : decode cX6_messages 62 = .ok (.iload 5, 2) := by decide +kernel
theorem dX6_messages_64 : decode cX6_messages 64 = .ok (.invokevirtual 157, 3) := by decide +kernel
theorem dX6_messages_67 : decode cX6_messages 67 = .ok (.iconst 3, 1) := by decide +kernel
theorem dX6_messages_68 : decode cX6_messages 68 = .ok (.if_icmp .ne 7, 3) := by decide +kernel
theorem dX6_messages_71 : decode cX6_messages 71 = .ok (.iconst 1, 1) := by decide +kernel
theorem dX6_messages_72 : decode cX6_messages 72 = .ok (.goto 4, 3) := by decide +kernel
theorem dX6_messages_75 : decode cX6_messages 75 = .ok (.iconst 0, 1) := by decide +kernel
theorem dX6_messages_76 : decode cX6_messages 76 = .ok (.istore 4, 2) := by decide +kernel
theorem dX6_messages_78 : decode cX6_messages 78 = .ok (.iinc 5 1, 3) := by decide +kernel
theorem dX6_messages_81 : decode cX6_messages 81 = .ok (.goto (-44), 3) := by decide +kernel
theorem dX6_messages_84 : decode cX6_messages 84 = .ok (.iload_n 2, 1) := by decide +kernel
theorem dX6_messages_85 : decode cX6_messages 85 = .ok (.iload 4, 2) := by decide +kernel
theorem dX6_messages_87 : decode cX6_messages 87 = .ok (.ifCond .eq 7, 3) := by decide +kernel
theorem dX6_messages_90 : decode cX6_messages 90 = .ok (.iconst 1, 1) := by decide +kernel
theorem dX6_messages_91 : decode cX6_messages 91 = .ok (.goto 4, 3) := by decide +kernel
theorem dX6_messages_94 : decode cX6_messages 94 = .ok (.iconst 0, 1) := by decide +kernel
theorem dX6_messages_95 : decode cX6_messages 95 = .ok (.iadd, 1) := by decide +kernel
theorem dX6_messages_96 : decode cX6_messages 96 = .ok (.istore_n 2, 1) := by decide +kernel
theorem dX6_messages_97 : decode cX6_messages 97 = .ok (.iinc 3 1, 3) := by decide +kernel
theorem dX6_messages_100 : decode cX6_messages 100 = .ok (.goto (-96), 3) := by decide +kernel
theorem dX6_messages_103 : decode cX6_messages 103 = .ok (.iload_n 2, 1) := by decide +kernel
theorem dX6_messages_104 : decode cX6_messages 104 = .ok (.ireturn, 1) := by decide +kernel
theorem dX6_counted_0 : decode cX6_counted 0 = .ok (.iload_n 1, 1) := by decide +kernel
theorem dX6_counted_1 : decode cX6_counted 1 = .ok (.tableswitch 99 0 9 #[55, 62, 69, 76, 82, 88, 99, 99, 99, 94], 55) := by decide +kernel
theorem dX6_counted_56 : decode cX6_counted 56 = .ok (.aload_n 0, 1) := by decide +kernel
theorem dX6_counted_57 : decode cX6_counted 57 = .ok (.getfield 8, 3) := by decide +kernel
theorem dX6_counted_60 : decode cX6_counted 60 = .ok (.iconst 3, 1) := by decide +kernel
theorem dX6_counted_61 : decode cX6_counted 61 = .ok (.iaload, 1) := by decide +kernel
theorem dX6_counted_62 : decode cX6_counted 62 = .ok (.ireturn, 1) := by decide +kernel
theorem dX6_counted_63 : decode cX6_counted 63 = .ok (.aload_n 0, 1) := by decide +kernel
theorem dX6_counted_64 : decode cX6_counted 64 = .ok (.getfield 8, 3) := by decide +kernel
theorem dX6_counted_67 : decode cX6_counted 67 = .ok (.iconst 4, 1) := by decide +kernel
theorem dX6_counted_68 : decode cX6_counted 68 = .ok (.iaload, 1) := by decide +kernel
theorem dX6_counted_69 : decode cX6_counted 69 = .ok (.ireturn, 1) := by decide +kernel
theorem dX6_counted_70 : decode cX6_counted 70 = .ok (.aload_n 0, 1) := by decide +kernel
theorem dX6_counted_71 : decode cX6_counted 71 = .ok (.bipush 63, 2) := by decide +kernel
theorem dX6_counted_73 : decode cX6_counted 73 = .ok (.invokevirtual 160, 3) := by decide +kernel
theorem dX6_counted_76 : decode cX6_counted 76 = .ok (.ireturn, 1) := by decide +kernel
theorem dX6_counted_77 : decode cX6_counted 77 = .ok (.aload_n 0, 1) := by decide +kernel
theorem dX6_counted_78 : decode cX6_counted 78 = .ok (.iconst 0, 1) := by decide +kernel
theorem dX6_counted_79 : decode cX6_counted 79 = .ok (.invokevirtual 160, 3) := by decide +kernel
theorem dX6_counted_82 : decode cX6_counted 82 = .ok (.ireturn, 1) := by decide +kernel
theorem dX6_counted_83 : decode cX6_counted 83 = .ok (.aload_n 0, 1) := by decide +kernel
theorem dX6_counted_84 : decode cX6_counted 84 = .ok (.iconst 0, 1) := by decide +kernel
theorem dX6_counted_85 : decode cX6_counted 85 = .ok (.invokevirtual 163, 3) := by decide +kernel
theorem dX6_counted_88 : decode cX6_counted 88 = .ok (.ireturn, 1) := by decide +kernel
theorem dX6_counted_89 : decode cX6_counted 89 = .ok (.aload_n 0, 1) := by decide +kernel
theorem dX6_counted_90 : decode cX6_counted 90 = .ok (.iconst 1, 1) := by decide +kernel
theorem dX6_counted_91 : decode cX6_counted 91 = .ok (.invokevirtual 163, 3) := by decide +kernel
theorem dX6_counted_94 : decode cX6_counted 94 = .ok (.ireturn, 1) := by decide +kernel
theorem dX6_counted_95 : decode cX6_counted 95 = .ok (.aload_n 0, 1) := by decide +kernel
theorem dX6_counted_96 : decode cX6_counted 96 = .ok (.getfield 25, 3) := by decide +kernel
theorem dX6_counted_99 : decode cX6_counted 99 = .ok (.ireturn, 1) := by decide +kernel
theorem dX6_counted_100 : decode cX6_counted 100 = .ok (.aload_n 0, 1) := by decide +kernel
theorem dX6_counted_101 : decode cX6_counted 101 = .ok (.getfield 8, 3) := by decide +kernel
theorem dX6_counted_104 : decode cX6_counted 104 = .ok (.iload_n 1, 1) := by decide +kernel
theorem dX6_counted_105 : decode cX6_counted 105 = .ok (.bipush 6, 2) := by decide +kernel
theorem dX6_counted_107 : decode cX6_counted 107 = .ok (.isub, 1) := by decide +kernel
theorem dX6_counted_108 : decode cX6_counted 108 = .ok (.iaload, 1) := by decide +kernel
theorem dX6_counted_109 : decode cX6_counted 109 = .ok (.ireturn, 1) := by decide +kernel
theorem dX6_count_0 : decode cX6_count 0 = .ok (.aload_n 0, 1) := by decide +kernel
theorem dX6_count_1 : decode cX6_count 1 = .ok (.iload_n 1, 1) := by decide +kernel
theorem dX6_count_2 : decode cX6_count 2 = .ok (.iconst 0, 1) := by decide +kernel
theorem dX6_count_3 : decode cX6_count 3 = .ok (.bipush 9, 2) := by decide +kernel
theorem dX6_count_5 : decode cX6_count 5 = .ok (.invokestatic 32, 3) := by decide +kernel
theorem dX6_count_8 : decode cX6_count 8 = .ok (.iconst 1, 1) := by decide +kernel
theorem dX6_count_9 : decode cX6_count 9 = .ok (.iconst 1, 1) := by decide +kernel
theorem dX6_count_10 : decode cX6_count 10 = .ok (.invokevirtual 60, 3) := by decide +kernel
theorem dX6_count_13 : decode cX6_count 13 = .ok (.ifCond .ne 5, 3) := by decide +kernel
theorem dX6_count_16 : decode cX6_count 16 = .ok (.iconst 0, 1) := by decide +kernel
theorem dX6_count_17 : decode cX6_count 17 = .ok (.ireturn, 1) := by decide +kernel
theorem dX6_count_18 : decode cX6_count 18 = .ok (.aload_n 0, 1) := by decide +kernel
theorem dX6_count_19 : decode cX6_count 19 = .ok (.iload_n 1, 1) := by decide +kernel
theorem dX6_count_20 : decode cX6_count 20 = .ok (.invokevirtual 167, 3) := by decide +kernel
theorem dX6_count_23 : decode cX6_count 23 = .ok (.ireturn, 1) := by decide +kernel
theorem dX6_reason_0 : decode cX6_reason 0 = .ok (.iload_n 1, 1) := by decide +kernel
theorem dX6_reason_1 : decode cX6_reason 1 = .ok (.aload_n 0, 1) := by decide +kernel
theorem dX6_reason_2 : decode cX6_reason 2 = .ok (.getfield 8, 3) := by decide +kernel
theorem dX6_reason_5 : decode cX6_reason 5 = .ok (.iconst 4, 1) := by decide +kernel
theorem dX6_reason_6 : decode cX6_reason 6 = .ok (.iaload, 1) := by decide +kernel
theorem dX6_reason_7 : decode cX6_reason 7 = .ok (.if_icmp .lt 5, 3) := by decide +kernel
theorem dX6_reason_10 : decode cX6_reason 10 = .ok (.iconst (-1), 1) := by decide +kernel
theorem dX6_reason_11 : decode cX6_reason 11 = .ok (.ireturn, 1) := by decide +kernel
theorem dX6_reason_12 : decode cX6_reason 12 = .ok (.aload_n 0, 1) := by decide +kernel
theorem dX6_reason_13 : decode cX6_reason 13 = .ok (.iload_n 1, 1) := by decide +kernel
theorem dX6_reason_14 : decode cX6_reason 14 = .ok (.iconst 4, 1) := by decide +kernel
theorem dX6_reason_15 : decode cX6_reason 15 = .ok (.iload_n 2, 1) := by decide +kernel
theorem dX6_reason_16 : decode cX6_reason 16 = .ok (.iadd, 1) := by decide +kernel
theorem dX6_reason_17 : decode cX6_reason 17 = .ok (.invokevirtual 40, 3) := by decide +kernel
theorem dX6_reason_20 : decode cX6_reason 20 = .ok (.istore_n 3, 1) := by decide +kernel
theorem dX6_reason_21 : decode cX6_reason 21 = .ok (.aload_n 0, 1) := by decide +kernel
theorem dX6_reason_22 : decode cX6_reason 22 = .ok (.iload_n 1, 1) := by decide +kernel
theorem dX6_reason_23 : decode cX6_reason 23 = .ok (.iload_n 2, 1) := by decide +kernel
theorem dX6_reason_24 : decode cX6_reason 24 = .ok (.invokevirtual 120, 3) := by decide +kernel
theorem dX6_reason_27 : decode cX6_reason 27 = .ok (.ifCond .lt 7, 3) := by decide +kernel
theorem dX6_reason_30 : decode cX6_reason 30 = .ok (.iconst 0, 1) := by decide +kernel
theorem dX6_reason_31 : decode cX6_reason 31 = .ok (.goto 26, 3) := by decide +kernel
theorem dX6_reason_34 : decode cX6_reason 34 = .ok (.iload_n 3, 1) := by decide +kernel
theorem dX6_reason_35 : decode cX6_reason 35 = .ok (.ifCond .ge 7, 3) := by decide +kernel
theorem dX6_reason_38 : decode cX6_reason 38 = .ok (.iconst 1, 1) := by decide +kernel
theorem dX6_reason_39 : decode cX6_reason 39 = .ok (.goto 18, 3) := by decide +kernel
theorem dX6_reason_42 : decode cX6_reason 42 = .ok (.iload_n 3, 1) := by decide +kernel
theorem dX6_reason_43 : decode cX6_reason 43 = .ok (.aload_n 0, 1) := by decide +kernel
theorem dX6_reason_44 : decode cX6_reason 44 = .ok (.getfield 8, 3) := by decide +kernel
theorem dX6_reason_47 : decode cX6_reason 47 = .ok (.iconst 3, 1) := by decide +kernel
theorem dX6_reason_48 : decode cX6_reason 48 = .ok (.iaload, 1) := by decide +kernel
theorem dX6_reason_49 : decode cX6_reason 49 = .ok (.if_icmp .lt 7, 3) := by decide +kernel
theorem dX6_reason_52 : decode cX6_reason 52 = .ok (.iconst 2, 1) := by decide +kernel
theorem dX6_reason_53 : decode cX6_reason 53 = .ok (.goto 4, 3) := by decide +kernel
theorem dX6_reason_56 : decode cX6_reason 56 = .ok (.iconst 3, 1) := by decide +kernel
theorem dX6_reason_57 : decode cX6_reason 57 = .ok (.ireturn, 1) := by decide +kernel
theorem dX6_whyNot_0 : decode cX6_whyNot 0 = .ok (.aload_n 0, 1) := by decide +kernel
theorem dX6_whyNot_1 : decode cX6_whyNot 1 = .ok (.iload_n 2, 1) := by decide +kernel
theorem dX6_whyNot_2 : decode cX6_whyNot 2 = .ok (.invokestatic 52, 3) := by decide +kernel
theorem dX6_whyNot_5 : decode cX6_whyNot 5 = .ok (.iload_n 1, 1) := by decide +kernel
theorem dX6_whyNot_6 : decode cX6_whyNot 6 = .ok (.ifCond .lt 7, 3) := by decide +kernel
theorem dX6_whyNot_9 : decode cX6_whyNot 9 = .ok (.iconst 1, 1) := by decide +kernel
theorem dX6_whyNot_10 : decode cX6_whyNot 10 = .ok (.goto 4, 3) := by decide +kernel
theorem dX6_whyNot_13 : decode cX6_whyNot 13 = .ok (.iconst 0, 1) := by decide +kernel
theorem dX6_whyNot_14 : decode cX6_whyNot 14 = .ok (.iconst 1, 1) := by decide +kernel
theorem dX6_whyNot_15 : decode cX6_whyNot 15 = .ok (.invokevirtual 60, 3) := by decide +kernel
theorem dX6_whyNot_18 : decode cX6_whyNot 18 = .ok (.ifCond .ne 5, 3) := by decide +kernel
theorem dX6_whyNot_21 : decode cX6_whyNot 21 = .ok (.iconst 0, 1) := by decide +kernel
theorem dX6_whyNot_22 : decode cX6_whyNot 22 = .ok (.ireturn, 1) := by decide +kernel
theorem dX6_whyNot_23 : decode cX6_whyNot 23 = .ok (.aload_n 0, 1) := by decide +kernel
theorem dX6_whyNot_24 : decode cX6_whyNot 24 = .ok (.iload_n 1, 1) := by decide +kernel
theorem dX6_whyNot_25 : decode cX6_whyNot 25 = .ok (.iload_n 2, 1) := by decide +kernel
theorem dX6_whyNot_26 : decode cX6_whyNot 26 = .ok (.invokevirtual 170, 3) := by decide +kernel
theorem dX6_whyNot_29 : decode cX6_whyNot 29 = .ok (.ireturn, 1) := by decide +kernel
theorem dX6_ifSilent_0 : decode cX6_ifSilent 0 = .ok (.aload_n 0, 1) := by decide +kernel
theorem dX6_ifSilent_1 : decode cX6_ifSilent 1 = .ok (.iload_n 1, 1) := by decide +kernel
theorem dX6_ifSilent_2 : decode cX6_ifSilent 2 = .ok (.invokestatic 52, 3) := by decide +kernel
theorem dX6_ifSilent_5 : decode cX6_ifSilent 5 = .ok (.iconst 1, 1) := by decide +kernel
theorem dX6_ifSilent_6 : decode cX6_ifSilent 6 = .ok (.iconst 1, 1) := by decide +kernel
theorem dX6_ifSilent_7 : decode cX6_ifSilent 7 = .ok (.invokevirtual 60, 3) := by decide +kernel
theorem dX6_ifSilent_10 : decode cX6_ifSilent 10 = .ok (.ifCond .ne 5, 3) := by decide +kernel
theorem dX6_ifSilent_13 : decode cX6_ifSilent 13 = .ok (.iconst 0, 1) := by decide +kernel
theorem dX6_ifSilent_14 : decode cX6_ifSilent 14 = .ok (.ireturn, 1) := by decide +kernel
theorem dX6_ifSilent_15 : decode cX6_ifSilent 15 = .ok (.aload_n 0, 1) := by decide +kernel
theorem dX6_ifSilent_16 : decode cX6_ifSilent 16 = .ok (.iload_n 1, 1) := by decide +kernel
theorem dX6_ifSilent_17 : decode cX6_ifSilent 17 = .ok (.aload_n 0, 1) := by decide +kernel
theorem dX6_ifSilent_18 : decode cX6_ifSilent 18 = .ok (.getfield 8, 3) := by decide +kernel
theorem dX6_ifSilent_21 : decode cX6_ifSilent 21 = .ok (.iconst 3, 1) := by decide +kernel
theorem dX6_ifSilent_22 : decode cX6_ifSilent 22 = .ok (.iaload, 1) := by decide +kernel
theorem dX6_ifSilent_23 : decode cX6_ifSilent 23 = .ok (.invokevirtual 43, 3) := by decide +kernel
theorem dX6_ifSilent_26 : decode cX6_ifSilent 26 = .ok (.ireturn, 1) := by decide +kernel
theorem dX6_silentBeats_0 : decode cX6_silentBeats 0 = .ok (.iload_n 1, 1) := by decide +kernel
theorem dX6_silentBeats_1 : decode cX6_silentBeats 1 = .ok (.ifCond .lt 13, 3) := by decide +kernel
theorem dX6_silentBeats_4 : decode cX6_silentBeats 4 = .ok (.iload_n 1, 1) := by decide +kernel
theorem dX6_silentBeats_5 : decode cX6_silentBeats 5 = .ok (.aload_n 0, 1) := by decide +kernel
theorem dX6_silentBeats_6 : decode cX6_silentBeats 6 = .ok (.getfield 8, 3) := by decide +kernel
theorem dX6_silentBeats_9 : decode cX6_silentBeats 9 = .ok (.iconst 4, 1) := by decide +kernel
theorem dX6_silentBeats_10 : decode cX6_silentBeats 10 = .ok (.iaload, 1) := by decide +kernel
theorem dX6_silentBeats_11 : decode cX6_silentBeats 11 = .ok (.if_icmp .lt 5, 3) := by decide +kernel
theorem dX6_silentBeats_14 : decode cX6_silentBeats 14 = .ok (.iconst (-1), 1) := by decide +kernel
theorem dX6_silentBeats_15 : decode cX6_silentBeats 15 = .ok (.ireturn, 1) := by decide +kernel
theorem dX6_silentBeats_16 : decode cX6_silentBeats 16 = .ok (.aload_n 0, 1) := by decide +kernel
theorem dX6_silentBeats_17 : decode cX6_silentBeats 17 = .ok (.iload_n 1, 1) := by decide +kernel
theorem dX6_silentBeats_18 : decode cX6_silentBeats 18 = .ok (.iload_n 2, 1) := by decide +kernel
theorem dX6_silentBeats_19 : decode cX6_silentBeats 19 = .ok (.invokevirtual 120, 3) := by decide +kernel
theorem dX6_silentBeats_22 : decode cX6_silentBeats 22 = .ok (.ifCond .lt 5, 3) := by decide +kernel
theorem dX6_silentBeats_25 : decode cX6_silentBeats 25 = .ok (.iconst 0, 1) := by decide +kernel
theorem dX6_silentBeats_26 : decode cX6_silentBeats 26 = .ok (.ireturn, 1) := by decide +kernel
theorem dX6_silentBeats_27 : decode cX6_silentBeats 27 = .ok (.iconst (-1), 1) := by decide +kernel
theorem dX6_silentBeats_28 : decode cX6_silentBeats 28 = .ok (.istore_n 3, 1) := by decide +kernel
theorem dX6_silentBeats_29 : decode cX6_silentBeats 29 = .ok (.bipush 60, 2) := by decide +kernel
theorem dX6_silentBeats_31 : decode cX6_silentBeats 31 = .ok (.istore 4, 2) := by decide +kernel
theorem dX6_silentBeats_33 : decode cX6_silentBeats 33 = .ok (.iload 4, 2) := by decide +kernel
theorem dX6_silentBeats_35 : decode cX6_silentBeats 35 = .ok (.ifCond .le 36, 3) := by decide +kernel
theorem dX6_silentBeats_38 : decode cX6_silentBeats 38 = .ok (.aload_n 0, 1) := by decide +kernel
theorem dX6_silentBeats_39 : decode cX6_silentBeats 39 = .ok (.iload_n 2, 1) := by decide +kernel
theorem dX6_silentBeats_40 : decode cX6_silentBeats 40 = .ok (.aload_n 0, 1) := by decide +kernel
theorem dX6_silentBeats_41 : decode cX6_silentBeats 41 = .ok (.getfield 8, 3) := by decide +kernel
theorem dX6_silentBeats_44 : decode cX6_silentBeats 44 = .ok (.iconst 3, 1) := by decide +kernel
theorem dX6_silentBeats_45 : decode cX6_silentBeats 45 = .ok (.iaload, 1) := by decide +kernel
theorem dX6_silentBeats_46 : decode cX6_silentBeats 46 = .ok (.iload 4, 2) := by decide +kernel
theorem dX6_silentBeats_48 : decode cX6_silentBeats 48 = .ok (.iadd, 1) := by decide +kernel
theorem dX6_silentBeats_49 : decode cX6_silentBeats 49 = .ok (.iconst 1, 1) := by decide +kernel
theorem dX6_silentBeats_50 : decode cX6_silentBeats 50 = .ok (.isub, 1) := by decide +kernel
theorem dX6_silentBeats_51 : decode cX6_silentBeats 51 = .ok (.invokevirtual 43, 3) := by decide +kernel
theorem dX6_silentBeats_54 : decode cX6_silentBeats 54 = .ok (.iload_n 1, 1) := by decide +kernel
theorem dX6_silentBeats_55 : decode cX6_silentBeats 55 = .ok (.if_icmp .ne 8, 3) := by decide +kernel
theorem dX6_silentBeats_58 : decode cX6_silentBeats 58 = .ok (.iload 4, 2) := by decide +kernel
theorem dX6_silentBeats_60 : decode cX6_silentBeats 60 = .ok (.goto 4, 3) := by decide +kernel
theorem dX6_silentBeats_63 : decode cX6_silentBeats 63 = .ok (.iload_n 3, 1) := by decide +kernel
theorem dX6_silentBeats_64 : decode cX6_silentBeats 64 = .ok (.istore_n 3, 1) := by decide +kernel
theorem dX6_silentBeats_65 : decode cX6_silentBeats 65 = .ok (.iinc 4 (-1), 3) := by decide +kernel
theorem dX6_silentBeats_68 : decode cX6_silentBeats 68 = .ok (.goto (-35), 3) := by decide +kernel
theorem dX6_silentBeats_71 : decode cX6_silentBeats 71 = .ok (.iload_n 3, 1) := by decide +kernel
theorem dX6_silentBeats_72 : decode cX6_silentBeats 72 = .ok (.ireturn, 1) := by decide +kernel
theorem dX6_heardIn_0 : decode cX6_heardIn 0 = .ok (.aload_n 0, 1) := by decide +kernel
theorem dX6_heardIn_1 : decode cX6_heardIn 1 = .ok (.iload_n 2, 1) := by decide +kernel
theorem dX6_heardIn_2 : decode cX6_heardIn 2 = .ok (.invokestatic 52, 3) := by decide +kernel
theorem dX6_heardIn_5 : decode cX6_heardIn 5 = .ok (.iload_n 1, 1) := by decide +kernel
theorem dX6_heardIn_6 : decode cX6_heardIn 6 = .ok (.ifCond .lt 7, 3) := by decide +kernel
theorem dX6_heardIn_9 : decode cX6_heardIn 9 = .ok (.iconst 1, 1) := by decide +kernel
theorem dX6_heardIn_10 : decode cX6_heardIn 10 = .ok (.goto 4, 3) := by decide +kernel
theorem dX6_heardIn_13 : decode cX6_heardIn 13 = .ok (.iconst 0, 1) := by decide +kernel
theorem dX6_heardIn_14 : decode cX6_heardIn 14 = .ok (.iconst 1, 1) := by decide +kernel
theorem dX6_heardIn_15 : decode cX6_heardIn 15 = .ok (.invokevirtual 60, 3) := by decide +kernel
theorem dX6_heardIn_18 : decode cX6_heardIn 18 = .ok (.ifCond .ne 5, 3) := by decide +kernel
theorem dX6_heardIn_21 : decode cX6_heardIn 21 = .ok (.iconst 0, 1) := by decide +kernel
theorem dX6_heardIn_22 : decode cX6_heardIn 22 = .ok (.ireturn, 1) := by decide +kernel
theorem dX6_heardIn_23 : decode cX6_heardIn 23 = .ok (.aload_n 0, 1) := by decide +kernel
theorem dX6_heardIn_24 : decode cX6_heardIn 24 = .ok (.iload_n 1, 1) := by decide +kernel
theorem dX6_heardIn_25 : decode cX6_heardIn 25 = .ok (.iload_n 2, 1) := by decide +kernel
theorem dX6_heardIn_26 : decode cX6_heardIn 26 = .ok (.invokevirtual 173, 3) := by decide +kernel
theorem dX6_heardIn_29 : decode cX6_heardIn 29 = .ok (.ireturn, 1) := by decide +kernel
theorem dX6_best_0 : decode cX6_best 0 = .ok (.iconst 0, 1) := by decide +kernel
theorem dX6_best_1 : decode cX6_best 1 = .ok (.istore_n 1, 1) := by decide +kernel
theorem dX6_best_2 : decode cX6_best 2 = .ok (.iconst (-1), 1) := by decide +kernel
theorem dX6_best_3 : decode cX6_best 3 = .ok (.istore_n 2, 1) := by decide +kernel
theorem dX6_best_4 : decode cX6_best 4 = .ok (.iconst 0, 1) := by decide +kernel
theorem dX6_best_5 : decode cX6_best 5 = .ok (.istore_n 3, 1) := by decide +kernel
theorem dX6_best_6 : decode cX6_best 6 = .ok (.iconst 0, 1) := by decide +kernel
theorem dX6_best_7 : decode cX6_best 7 = .ok (.istore 4, 2) := by decide +kernel
theorem dX6_best_9 : decode cX6_best 9 = .ok (.iload 4, 2) := by decide +kernel
theorem dX6_best_11 : decode cX6_best 11 = .ok (.bipush 6, 2) := by decide +kernel
theorem dX6_best_13 : decode cX6_best 13 = .ok (.if_icmp .ge 133, 3) := by decide +kernel
theorem dX6_best_16 : decode cX6_best 16 = .ok (.iconst 0, 1) := by decide +kernel
theorem dX6_best_17 : decode cX6_best 17 = .ok (.istore 5, 2) := by decide +kernel
theorem dX6_best_19 : decode cX6_best 19 = .ok (.iconst 0, 1) := by decide +kernel
theorem dX6_best_20 : decode cX6_best 20 = .ok (.istore 6, 2) := by decide +kernel
theorem dX6_best_22 : decode cX6_best 22 = .ok (.iconst 0, 1) := by decide +kernel
theorem dX6_best_23 : decode cX6_best 23 = .ok (.istore 7, 2) := by decide +kernel
theorem dX6_best_25 : decode cX6_best 25 = .ok (.iload 7, 2) := by decide +kernel
theorem dX6_best_27 : decode cX6_best 27 = .ok (.bipush 6, 2) := by decide +kernel
theorem dX6_best_29 : decode cX6_best 29 = .ok (.if_icmp .ge 50, 3) := by decide +kernel
theorem dX6_best_32 : decode cX6_best 32 = .ok (.aload_n 0, 1) := by decide +kernel
theorem dX6_best_33 : decode cX6_best 33 = .ok (.iload 4, 2) := by decide +kernel
theorem dX6_best_35 : decode cX6_best 35 = .ok (.iload 7, 2) := by decide +kernel
theorem dX6_best_37 : decode cX6_best 37 = .ok (.invokevirtual 46, 3) := by decide +kernel
theorem dX6_best_40 : decode cX6_best 40 = .ok (.istore 8, 2) := by decide +kernel
theorem dX6_best_42 : decode cX6_best 42 = .ok (.iload 5, 2) := by decide +kernel
theorem dX6_best_44 : decode cX6_best 44 = .ok (.iload 8, 2) := by decide +kernel
theorem dX6_best_46 : decode cX6_best 46 = .ok (.ifCond .lt 7, 3) := by decide +kernel
theorem dX6_best_49 : decode cX6_best 49 = .ok (.iconst 1, 1) := by decide +kernel
theorem dX6_best_50 : decode cX6_best 50 = .ok (.goto 4, 3) := by decide +kernel
theorem dX6_best_53 : decode cX6_best 53 = .ok (.iconst 0, 1) := by decide +kernel
theorem dX6_best_54 : decode cX6_best 54 = .ok (.iadd, 1) := by decide +kernel
theorem dX6_best_55 : decode cX6_best 55 = .ok (.istore 5, 2) := by decide +kernel
theorem dX6_best_57 : decode cX6_best 57 = .ok (.iload 8, 2) := by decide +kernel
theorem dX6_best_59 : decode cX6_best 59 = .ok (.iload 6, 2) := by decide +kernel
theorem dX6_best_61 : decode cX6_best 61 = .ok (.if_icmp .le 8, 3) := by decide +kernel
theorem dX6_best_64 : decode cX6_best 64 = .ok (.iload 8, 2) := by decide +kernel
theorem dX6_best_66 : decode cX6_best 66 = .ok (.goto 5, 3) := by decide +kernel
theorem dX6_best_69 : decode cX6_best 69 = .ok (.iload 6, 2) := by decide +kernel
theorem dX6_best_71 : decode cX6_best 71 = .ok (.istore 6, 2) := by decide +kernel
theorem dX6_best_73 : decode cX6_best 73 = .ok (.iinc 7 1, 3) := by decide +kernel
theorem dX6_best_76 : decode cX6_best 76 = .ok (.goto (-51), 3) := by decide +kernel
theorem dX6_best_79 : decode cX6_best 79 = .ok (.iload 5, 2) := by decide +kernel
theorem dX6_best_81 : decode cX6_best 81 = .ok (.iload_n 2, 1) := by decide +kernel
theorem dX6_best_82 : decode cX6_best 82 = .ok (.if_icmp .gt 15, 3) := by decide +kernel
theorem dX6_best_85 : decode cX6_best 85 = .ok (.iload 5, 2) := by decide +kernel
theorem dX6_best_87 : decode cX6_best 87 = .ok (.iload_n 2, 1) := by decide +kernel
theorem dX6_best_88 : decode cX6_best 88 = .ok (.if_icmp .ne 13, 3) := by decide +kernel
theorem dX6_best_91 : decode cX6_best 91 = .ok (.iload 6, 2) := by decide +kernel
theorem dX6_best_93 : decode cX6_best 93 = .ok (.iload_n 3, 1) := by decide +kernel
theorem dX6_best_94 : decode cX6_best 94 = .ok (.if_icmp .ge 7, 3) := by decide +kernel
theorem dX6_best_97 : decode cX6_best 97 = .ok (.iconst 1, 1) := by decide +kernel
theorem dX6_best_98 : decode cX6_best 98 = .ok (.goto 4, 3) := by decide +kernel
theorem dX6_best_101 : decode cX6_best 101 = .ok (.iconst 0, 1) := by decide +kernel
theorem dX6_best_102 : decode cX6_best 102 = .ok (.istore 7, 2) := by decide +kernel
theorem dX6_best_104 : decode cX6_best 104 = .ok (.iload 7, 2) := by decide +kernel
theorem dX6_best_106 : decode cX6_best 106 = .ok (.ifCond .eq 8, 3) := by decide +kernel
theorem dX6_best_109 : decode cX6_best 109 = .ok (.iload 4, 2) := by decide +kernel
theorem dX6_best_111 : decode cX6_best 111 = .ok (.goto 4, 3) := by decide +kernel
theorem dX6_best_114 : decode cX6_best 114 = .ok (.iload_n 1, 1) := by decide +kernel
theorem dX6_best_115 : decode cX6_best 115 = .ok (.istore_n 1, 1) := by decide +kernel
theorem dX6_best_116 : decode cX6_best 116 = .ok (.iload 7, 2) := by decide +kernel
theorem dX6_best_118 : decode cX6_best 118 = .ok (.ifCond .eq 8, 3) := by decide +kernel
theorem dX6_best_121 : decode cX6_best 121 = .ok (.iload 6, 2) := by decide +kernel
theorem dX6_best_123 : decode cX6_best 123 = .ok (.goto 4, 3) := by decide +kernel
theorem dX6_best_126 : decode cX6_best 126 = .ok (.iload_n 3, 1) := by decide +kernel
theorem dX6_best_127 : decode cX6_best 127 = .ok (.istore_n 3, 1) := by decide +kernel
theorem dX6_best_128 : decode cX6_best 128 = .ok (.iload 7, 2) := by decide +kernel
theorem dX6_best_130 : decode cX6_best 130 = .ok (.ifCond .eq 8, 3) := by decide +kernel
theorem dX6_best_133 : decode cX6_best 133 = .ok (.iload 5, 2) := by decide +kernel
theorem dX6_best_135 : decode cX6_best 135 = .ok (.goto 4, 3) := by decide +kernel
theorem dX6_best_138 : decode cX6_best 138 = .ok (.iload_n 2, 1) := by decide +kernel
theorem dX6_best_139 : decode cX6_best 139 = .ok (.istore_n 2, 1) := by decide +kernel
theorem dX6_best_140 : decode cX6_best 140 = .ok (.iinc 4 1, 3) := by decide +kernel
theorem dX6_best_143 : decode cX6_best 143 = .ok (.goto (-134), 3) := by decide +kernel
theorem dX6_best_146 : decode cX6_best 146 = .ok (.iload_n 1, 1) := by decide +kernel
theorem dX6_best_147 : decode cX6_best 147 = .ok (.ireturn, 1) := by decide +kernel
theorem dX6_bestSeat_0 : decode cX6_bestSeat 0 = .ok (.aload_n 0, 1) := by decide +kernel
theorem dX6_bestSeat_1 : decode cX6_bestSeat 1 = .ok (.iconst 0, 1) := by decide +kernel
theorem dX6_bestSeat_2 : decode cX6_bestSeat 2 = .ok (.putfield 21, 3) := by decide +kernel
theorem dX6_bestSeat_5 : decode cX6_bestSeat 5 = .ok (.aload_n 0, 1) := by decide +kernel
theorem dX6_bestSeat_6 : decode cX6_bestSeat 6 = .ok (.invokevirtual 176, 3) := by decide +kernel
theorem dX6_bestSeat_9 : decode cX6_bestSeat 9 = .ok (.ireturn, 1) := by decide +kernel
theorem dX6_share_0 : decode cX6_share 0 = .ok (.iconst 0, 1) := by decide +kernel
theorem dX6_share_1 : decode cX6_share 1 = .ok (.istore_n 1, 1) := by decide +kernel
theorem dX6_share_2 : decode cX6_share 2 = .ok (.iconst 0, 1) := by decide +kernel
theorem dX6_share_3 : decode cX6_share 3 = .ok (.istore_n 2, 1) := by decide +kernel
theorem dX6_share_4 : decode cX6_share 4 = .ok (.iload_n 2, 1) := by decide +kernel
theorem dX6_share_5 : decode cX6_share 5 = .ok (.bipush 6, 2) := by decide +kernel
theorem dX6_share_7 : decode cX6_share 7 = .ok (.if_icmp .ge 18, 3) := by decide +kernel
theorem dX6_share_10 : decode cX6_share 10 = .ok (.iload_n 1, 1) := by decide +kernel
theorem dX6_share_11 : decode cX6_share 11 = .ok (.aload_n 0, 1) := by decide +kernel
theorem dX6_share_12 : decode cX6_share 12 = .ok (.iload_n 2, 1) := by decide +kernel
theorem dX6_share_13 : decode cX6_share 13 = .ok (.iconst 0, 1) := by decide +kernel
theorem dX6_share_14 : decode cX6_share 14 = .ok (.invokevirtual 141, 3) := by decide +kernel
theorem dX6_share_17 : decode cX6_share 17 = .ok (.iadd, 1) := by decide +kernel
theorem dX6_share_18 : decode cX6_share 18 = .ok (.istore_n 1, 1) := by decide +kernel
theorem dX6_share_19 : decode cX6_share 19 = .ok (.iinc 2 1, 3) := by decide +kernel
theorem dX6_share_22 : decode cX6_share 22 = .ok (.goto (-18), 3) := by decide +kernel
theorem dX6_share_25 : decode cX6_share 25 = .ok (.aload_n 0, 1) := by decide +kernel
theorem dX6_share_26 : decode cX6_share 26 = .ok (.getfield 8, 3) := by decide +kernel
theorem dX6_share_29 : decode cX6_share 29 = .ok (.iconst 3, 1) := by decide +kernel
theorem dX6_share_30 : decode cX6_share 30 = .ok (.iaload, 1) := by decide +kernel
theorem dX6_share_31 : decode cX6_share 31 = .ok (.ifCond .ne 7, 3) := by decide +kernel
theorem dX6_share_34 : decode cX6_share 34 = .ok (.dconst 0, 1) := by decide +kernel
theorem dX6_share_35 : decode cX6_share 35 = .ok (.goto 16, 3) := by decide +kernel
theorem dX6_share_38 : decode cX6_share 38 = .ok (.iload_n 1, 1) := by decide +kernel
theorem dX6_share_39 : decode cX6_share 39 = .ok (.i2d, 1) := by decide +kernel
theorem dX6_share_40 : decode cX6_share 40 = .ok (.bipush 6, 2) := by decide +kernel
theorem dX6_share_42 : decode cX6_share 42 = .ok (.aload_n 0, 1) := by decide +kernel
theorem dX6_share_43 : decode cX6_share 43 = .ok (.getfield 8, 3) := by decide +kernel
theorem dX6_share_46 : decode cX6_share 46 = .ok (.iconst 3, 1) := by decide +kernel
theorem dX6_share_47 : decode cX6_share 47 = .ok (.iaload, 1) := by decide +kernel
theorem dX6_share_48 : decode cX6_share 48 = .ok (.imul, 1) := by decide +kernel
theorem dX6_share_49 : decode cX6_share 49 = .ok (.i2d, 1) := by decide +kernel
theorem dX6_share_50 : decode cX6_share 50 = .ok (.ddiv, 1) := by decide +kernel
theorem dX6_share_51 : decode cX6_share 51 = .ok (.dreturn, 1) := by decide +kernel
theorem dX6_heardShare_0 : decode cX6_heardShare 0 = .ok (.aload_n 0, 1) := by decide +kernel
theorem dX6_heardShare_1 : decode cX6_heardShare 1 = .ok (.iconst 0, 1) := by decide +kernel
theorem dX6_heardShare_2 : decode cX6_heardShare 2 = .ok (.putfield 21, 3) := by decide +kernel
theorem dX6_heardShare_5 : decode cX6_heardShare 5 = .ok (.aload_n 0, 1) := by decide +kernel
theorem dX6_heardShare_6 : decode cX6_heardShare 6 = .ok (.invokevirtual 180, 3) := by decide +kernel
theorem dX6_heardShare_9 : decode cX6_heardShare 9 = .ok (.dreturn, 1) := by decide +kernel
theorem dX6_digest_0 : decode cX6_digest 0 = .ok (.aload_n 0, 1) := by decide +kernel
theorem dX6_digest_1 : decode cX6_digest 1 = .ok (.iconst 0, 1) := by decide +kernel
theorem dX6_digest_2 : decode cX6_digest 2 = .ok (.putfield 21, 3) := by decide +kernel
theorem dX6_digest_5 : decode cX6_digest 5 = .ok (.ldc2_w 184, 3) := by decide +kernel
theorem dX6_digest_8 : decode cX6_digest 8 = .ok (.lstore_n 1, 1) := by decide +kernel
theorem dX6_digest_9 : decode cX6_digest 9 = .ok (.iconst 0, 1) := by decide +kernel
theorem dX6_digest_10 : decode cX6_digest 10 = .ok (.istore_n 3, 1) := by decide +kernel
theorem dX6_digest_11 : decode cX6_digest 11 = .ok (.iload_n 3, 1) := by decide +kernel
theorem dX6_digest_12 : decode cX6_digest 12 = .ok (.bipush 10, 2) := by decide +kernel
theorem dX6_digest_14 : decode cX6_digest 14 = .ok (.if_icmp .ge 22, 3) := by decide +kernel
theorem dX6_digest_17 : decode cX6_digest 17 = .ok (.ldc2_w 186, 3) := by decide +kernel
theorem dX6_digest_20 : decode cX6_digest 20 = .ok (.lload_n 1, 1) := by decide +kernel
theorem dX6_digest_21 : decode cX6_digest 21 = .ok (.lmul, 1) := by decide +kernel
theorem dX6_digest_22 : decode cX6_digest 22 = .ok (.aload_n 0, 1) := by decide +kernel
theorem dX6_digest_23 : decode cX6_digest 23 = .ok (.iload_n 3, 1) := by decide +kernel
theorem dX6_digest_24 : decode cX6_digest 24 = .ok (.invokevirtual 167, 3) := by decide +kernel
theorem dX6_digest_27 : decode cX6_digest 27 = .ok (.i2l, 1) := by decide +kernel
theorem dX6_digest_28 : decode cX6_digest 28 = .ok (.ladd, 1) := by decide +kernel
theorem dX6_digest_29 : decode cX6_digest 29 = .ok (.lstore_n 1, 1) := by decide +kernel
theorem dX6_digest_30 : decode cX6_digest 30 = .ok (.iinc 3 1, 3) := by decide +kernel
theorem dX6_digest_33 : decode cX6_digest 33 = .ok (.goto (-22), 3) := by decide +kernel
theorem dX6_digest_36 : decode cX6_digest 36 = .ok (.iconst 0, 1) := by decide +kernel
theorem dX6_digest_37 : decode cX6_digest 37 = .ok (.istore_n 3, 1) := by decide +kernel
theorem dX6_digest_38 : decode cX6_digest 38 = .ok (.iload_n 3, 1) := by decide +kernel
theorem dX6_digest_39 : decode cX6_digest 39 = .ok (.bipush 6, 2) := by decide +kernel
theorem dX6_digest_41 : decode cX6_digest 41 = .ok (.if_icmp .ge 59, 3) := by decide +kernel
theorem dX6_digest_44 : decode cX6_digest 44 = .ok (.iconst 0, 1) := by decide +kernel
theorem dX6_digest_45 : decode cX6_digest 45 = .ok (.istore 4, 2) := by decide +kernel
theorem dX6_digest_47 : decode cX6_digest 47 = .ok (.iload 4, 2) := by decide +kernel
theorem dX6_digest_49 : decode cX6_digest 49 = .ok (.bipush 8, 2) := by decide +kernel
theorem dX6_digest_51 : decode cX6_digest 51 = .ok (.if_icmp .ge 24, 3) := by decide +kernel
theorem dX6_digest_54 : decode cX6_digest 54 = .ok (.ldc2_w 186, 3) := by decide +kernel
theorem dX6_digest_57 : decode cX6_digest 57 = .ok (.lload_n 1, 1) := by decide +kernel
theorem dX6_digest_58 : decode cX6_digest 58 = .ok (.lmul, 1) := by decide +kernel
theorem dX6_digest_59 : decode cX6_digest 59 = .ok (.aload_n 0, 1) := by decide +kernel
theorem dX6_digest_60 : decode cX6_digest 60 = .ok (.iload_n 3, 1) := by decide +kernel
theorem dX6_digest_61 : decode cX6_digest 61 = .ok (.iload 4, 2) := by decide +kernel
theorem dX6_digest_63 : decode cX6_digest 63 = .ok (.invokevirtual 154, 3) := by decide +kernel
theorem dX6_digest_66 : decode cX6_digest 66 = .ok (.i2l, 1) := by decide +kernel
theorem dX6_digest_67 : decode cX6_digest 67 = .ok (.ladd, 1) := by decide +kernel
theorem dX6_digest_68 : decode cX6_digest 68 = .ok (.lstore_n 1, 1) := by decide +kernel
theorem dX6_digest_69 : decode cX6_digest 69 = .ok (.iinc 4 1, 3) := by decide +kernel
theorem dX6_digest_72 : decode cX6_digest 72 = .ok (.goto (-25), 3) := by decide +kernel
theorem dX6_digest_75 : decode cX6_digest 75 = .ok (.ldc2_w 186, 3) := by decide +kernel
theorem dX6_digest_78 : decode cX6_digest 78 = .ok (.lload_n 1, 1) := by decide +kernel
theorem dX6_digest_79 : decode cX6_digest 79 = .ok (.lmul, 1) := by decide +kernel
theorem dX6_digest_80 : decode cX6_digest 80 = .ok (.aload_n 0, 1) := by decide +kernel
theorem dX6_digest_81 : decode cX6_digest 81 = .ok (.iload_n 3, 1) := by decide +kernel
theorem dX6_digest_82 : decode cX6_digest 82 = .ok (.aload_n 0, 1) := by decide +kernel
theorem dX6_digest_83 : decode cX6_digest 83 = .ok (.getfield 8, 3) := by decide +kernel
theorem dX6_digest_86 : decode cX6_digest 86 = .ok (.iconst 3, 1) := by decide +kernel
theorem dX6_digest_87 : decode cX6_digest 87 = .ok (.iaload, 1) := by decide +kernel
theorem dX6_digest_88 : decode cX6_digest 88 = .ok (.invokevirtual 43, 3) := by decide +kernel
theorem dX6_digest_91 : decode cX6_digest 91 = .ok (.i2l, 1) := by decide +kernel
theorem dX6_digest_92 : decode cX6_digest 92 = .ok (.ladd, 1) := by decide +kernel
theorem dX6_digest_93 : decode cX6_digest 93 = .ok (.lstore_n 1, 1) := by decide +kernel
theorem dX6_digest_94 : decode cX6_digest 94 = .ok (.iinc 3 1, 3) := by decide +kernel
theorem dX6_digest_97 : decode cX6_digest 97 = .ok (.goto (-59), 3) := by decide +kernel
theorem dX6_digest_100 : decode cX6_digest 100 = .ok (.aload_n 0, 1) := by decide +kernel
theorem dX6_digest_101 : decode cX6_digest 101 = .ok (.getfield 8, 3) := by decide +kernel
theorem dX6_digest_104 : decode cX6_digest 104 = .ok (.iconst 4, 1) := by decide +kernel
theorem dX6_digest_105 : decode cX6_digest 105 = .ok (.iaload, 1) := by decide +kernel
theorem dX6_digest_106 : decode cX6_digest 106 = .ok (.iconst 1, 1) := by decide +kernel
theorem dX6_digest_107 : decode cX6_digest 107 = .ok (.isub, 1) := by decide +kernel
theorem dX6_digest_108 : decode cX6_digest 108 = .ok (.istore_n 3, 1) := by decide +kernel
theorem dX6_digest_109 : decode cX6_digest 109 = .ok (.iload_n 3, 1) := by decide +kernel
theorem dX6_digest_110 : decode cX6_digest 110 = .ok (.ifCond .lt 99, 3) := by decide +kernel
theorem dX6_digest_113 : decode cX6_digest 113 = .ok (.iload_n 3, 1) := by decide +kernel
theorem dX6_digest_114 : decode cX6_digest 114 = .ok (.aload_n 0, 1) := by decide +kernel
theorem dX6_digest_115 : decode cX6_digest 115 = .ok (.getfield 8, 3) := by decide +kernel
theorem dX6_digest_118 : decode cX6_digest 118 = .ok (.iconst 4, 1) := by decide +kernel
theorem dX6_digest_119 : decode cX6_digest 119 = .ok (.iaload, 1) := by decide +kernel
theorem dX6_digest_120 : decode cX6_digest 120 = .ok (.bipush 12, 2) := by decide +kernel
theorem dX6_digest_122 : decode cX6_digest 122 = .ok (.isub, 1) := by decide +kernel
theorem dX6_digest_123 : decode cX6_digest 123 = .ok (.if_icmp .lt 86, 3) := by decide +kernel
theorem dX6_digest_126 : decode cX6_digest 126 = .ok (.iconst 0, 1) := by decide +kernel
theorem dX6_digest_127 : decode cX6_digest 127 = .ok (.istore 4, 2) := by decide +kernel
theorem dX6_digest_129 : decode cX6_digest 129 = .ok (.iload 4, 2) := by decide +kernel
theorem dX6_digest_131 : decode cX6_digest 131 = .ok (.bipush 6, 2) := by decide +kernel
theorem dX6_digest_133 : decode cX6_digest 133 = .ok (.if_icmp .ge 24, 3) := by decide +kernel
theorem dX6_digest_136 : decode cX6_digest 136 = .ok (.ldc2_w 186, 3) := by decide +kernel
theorem dX6_digest_139 : decode cX6_digest 139 = .ok (.lload_n 1, 1) := by decide +kernel
theorem dX6_digest_140 : decode cX6_digest 140 = .ok (.lmul, 1) := by decide +kernel
theorem dX6_digest_141 : decode cX6_digest 141 = .ok (.aload_n 0, 1) := by decide +kernel
theorem dX6_digest_142 : decode cX6_digest 142 = .ok (.iload_n 3, 1) := by decide +kernel
theorem dX6_digest_143 : decode cX6_digest 143 = .ok (.iload 4, 2) := by decide +kernel
theorem dX6_digest_145 : decode cX6_digest 145 = .ok (.invokevirtual 129, 3) := by decide +kernel
theorem dX6_digest_148 : decode cX6_digest 148 = .ok (.i2l, 1) := by decide +kernel
theorem dX6_digest_149 : decode cX6_digest 149 = .ok (.ladd, 1) := by decide +kernel
theorem dX6_digest_150 : decode cX6_digest 150 = .ok (.lstore_n 1, 1) := by decide +kernel
theorem dX6_digest_151 : decode cX6_digest 151 = .ok (.iinc 4 1, 3) := by decide +kernel
theorem dX6_digest_154 : decode cX6_digest 154 = .ok (.goto (-25), 3) := by decide +kernel
theorem dX6_digest_157 : decode cX6_digest 157 = .ok (.iconst 0, 1) := by decide +kernel
theorem dX6_digest_158 : decode cX6_digest 158 = .ok (.istore 4, 2) := by decide +kernel
theorem dX6_digest_160 : decode cX6_digest 160 = .ok (.iload 4, 2) := by decide +kernel
theorem dX6_digest_162 : decode cX6_digest 162 = .ok (.bipush 6, 2) := by decide +kernel
theorem dX6_digest_164 : decode cX6_digest 164 = .ok (.if_icmp .ge 39, 3) := by decide +kernel
theorem dX6_digest_167 : decode cX6_digest 167 = .ok (.ldc2_w 186, 3) := by decide +kernel
theorem dX6_digest_170 : decode cX6_digest 170 = .ok (.lload_n 1, 1) := by decide +kernel
theorem dX6_digest_171 : decode cX6_digest 171 = .ok (.lmul, 1) := by decide +kernel
theorem dX6_digest_172 : decode cX6_digest 172 = .ok (.aload_n 0, 1) := by decide +kernel
theorem dX6_digest_173 : decode cX6_digest 173 = .ok (.iload_n 3, 1) := by decide +kernel
theorem dX6_digest_174 : decode cX6_digest 174 = .ok (.iload 4, 2) := by decide +kernel
theorem dX6_digest_176 : decode cX6_digest 176 = .ok (.invokevirtual 132, 3) := by decide +kernel
theorem dX6_digest_179 : decode cX6_digest 179 = .ok (.i2l, 1) := by decide +kernel
theorem dX6_digest_180 : decode cX6_digest 180 = .ok (.ladd, 1) := by decide +kernel
theorem dX6_digest_181 : decode cX6_digest 181 = .ok (.lstore_n 1, 1) := by decide +kernel
theorem dX6_digest_182 : decode cX6_digest 182 = .ok (.ldc2_w 186, 3) := by decide +kernel
theorem dX6_digest_185 : decode cX6_digest 185 = .ok (.lload_n 1, 1) := by decide +kernel
theorem dX6_digest_186 : decode cX6_digest 186 = .ok (.lmul, 1) := by decide +kernel
theorem dX6_digest_187 : decode cX6_digest 187 = .ok (.aload_n 0, 1) := by decide +kernel
theorem dX6_digest_188 : decode cX6_digest 188 = .ok (.iload_n 3, 1) := by decide +kernel
theorem dX6_digest_189 : decode cX6_digest 189 = .ok (.iload 4, 2) := by decide +kernel
theorem dX6_digest_191 : decode cX6_digest 191 = .ok (.invokevirtual 170, 3) := by decide +kernel
theorem dX6_digest_194 : decode cX6_digest 194 = .ok (.i2l, 1) := by decide +kernel
theorem dX6_digest_195 : decode cX6_digest 195 = .ok (.ladd, 1) := by decide +kernel
theorem dX6_digest_196 : decode cX6_digest 196 = .ok (.lstore_n 1, 1) := by decide +kernel
theorem dX6_digest_197 : decode cX6_digest 197 = .ok (.iinc 4 1, 3) := by decide +kernel
theorem dX6_digest_200 : decode cX6_digest 200 = .ok (.goto (-40), 3) := by decide +kernel
theorem dX6_digest_203 : decode cX6_digest 203 = .ok (.iinc 3 (-1), 3) := by decide +kernel
theorem dX6_digest_206 : decode cX6_digest 206 = .ok (.goto (-97), 3) := by decide +kernel
theorem dX6_digest_209 : decode cX6_digest 209 = .ok (.aload_n 0, 1) := by decide +kernel
theorem dX6_digest_210 : decode cX6_digest 210 = .ok (.getfield 8, 3) := by decide +kernel
theorem dX6_digest_213 : decode cX6_digest 213 = .ok (.iconst 3, 1) := by decide +kernel
theorem dX6_digest_214 : decode cX6_digest 214 = .ok (.iaload, 1) := by decide +kernel
theorem dX6_digest_215 : decode cX6_digest 215 = .ok (.iconst 1, 1) := by decide +kernel
theorem dX6_digest_216 : decode cX6_digest 216 = .ok (.isub, 1) := by decide +kernel
theorem dX6_digest_217 : decode cX6_digest 217 = .ok (.istore_n 3, 1) := by decide +kernel
theorem dX6_digest_218 : decode cX6_digest 218 = .ok (.iload_n 3, 1) := by decide +kernel
theorem dX6_digest_219 : decode cX6_digest 219 = .ok (.ifCond .lt 70, 3) := by decide +kernel
theorem dX6_digest_222 : decode cX6_digest 222 = .ok (.iload_n 3, 1) := by decide +kernel
theorem dX6_digest_223 : decode cX6_digest 223 = .ok (.aload_n 0, 1) := by decide +kernel
theorem dX6_digest_224 : decode cX6_digest 224 = .ok (.getfield 8, 3) := by decide +kernel
theorem dX6_digest_227 : decode cX6_digest 227 = .ok (.iconst 3, 1) := by decide +kernel
theorem dX6_digest_228 : decode cX6_digest 228 = .ok (.iaload, 1) := by decide +kernel
theorem dX6_digest_229 : decode cX6_digest 229 = .ok (.bipush 8, 2) := by decide +kernel
theorem dX6_digest_231 : decode cX6_digest 231 = .ok (.isub, 1) := by decide +kernel
theorem dX6_digest_232 : decode cX6_digest 232 = .ok (.if_icmp .lt 57, 3) := by decide +kernel
theorem dX6_digest_235 : decode cX6_digest 235 = .ok (.iconst 0, 1) := by decide +kernel
theorem dX6_digest_236 : decode cX6_digest 236 = .ok (.istore 4, 2) := by decide +kernel
theorem dX6_digest_238 : decode cX6_digest 238 = .ok (.iload 4, 2) := by decide +kernel
theorem dX6_digest_240 : decode cX6_digest 240 = .ok (.bipush 6, 2) := by decide +kernel
theorem dX6_digest_242 : decode cX6_digest 242 = .ok (.if_icmp .ge 41, 3) := by decide +kernel
theorem dX6_digest_245 : decode cX6_digest 245 = .ok (.iconst 0, 1) := by decide +kernel
theorem dX6_digest_246 : decode cX6_digest 246 = .ok (.istore 5, 2) := by decide +kernel
theorem dX6_digest_248 : decode cX6_digest 248 = .ok (.iload 5, 2) := by decide +kernel
theorem dX6_digest_250 : decode cX6_digest 250 = .ok (.iconst 3, 1) := by decide +kernel
theorem dX6_digest_251 : decode cX6_digest 251 = .ok (.if_icmp .ge 26, 3) := by decide +kernel
theorem dX6_digest_254 : decode cX6_digest 254 = .ok (.ldc2_w 186, 3) := by decide +kernel
theorem dX6_digest_257 : decode cX6_digest 257 = .ok (.lload_n 1, 1) := by decide +kernel
theorem dX6_digest_258 : decode cX6_digest 258 = .ok (.lmul, 1) := by decide +kernel
theorem dX6_digest_259 : decode cX6_digest 259 = .ok (.aload_n 0, 1) := by decide +kernel
theorem dX6_digest_260 : decode cX6_digest 260 = .ok (.iload 4, 2) := by decide +kernel
theorem dX6_digest_262 : decode cX6_digest 262 = .ok (.iload_n 3, 1) := by decide +kernel
theorem dX6_digest_263 : decode cX6_digest 263 = .ok (.iload 5, 2) := by decide +kernel
theorem dX6_digest_265 : decode cX6_digest 265 = .ok (.invokevirtual 138, 3) := by decide +kernel
theorem dX6_digest_268 : decode cX6_digest 268 = .ok (.i2l, 1) := by decide +kernel
theorem dX6_digest_269 : decode cX6_digest 269 = .ok (.ladd, 1) := by decide +kernel
theorem dX6_digest_270 : decode cX6_digest 270 = .ok (.lstore_n 1, 1) := by decide +kernel
theorem dX6_digest_271 : decode cX6_digest 271 = .ok (.iinc 5 1, 3) := by decide +kernel
theorem dX6_digest_274 : decode cX6_digest 274 = .ok (.goto (-26), 3) := by decide +kernel
theorem dX6_digest_277 : decode cX6_digest 277 = .ok (.iinc 4 1, 3) := by decide +kernel
theorem dX6_digest_280 : decode cX6_digest 280 = .ok (.goto (-42), 3) := by decide +kernel
theorem dX6_digest_283 : decode cX6_digest 283 = .ok (.iinc 3 (-1), 3) := by decide +kernel
theorem dX6_digest_286 : decode cX6_digest 286 = .ok (.goto (-68), 3) := by decide +kernel
theorem dX6_digest_289 : decode cX6_digest 289 = .ok (.iconst 0, 1) := by decide +kernel
theorem dX6_digest_290 : decode cX6_digest 290 = .ok (.istore_n 3, 1) := by decide +kernel
theorem dX6_digest_291 : decode cX6_digest 291 = .ok (.iload_n 3, 1) := by decide +kernel
theorem dX6_digest_292 : decode cX6_digest 292 = .ok (.bipush 6, 2) := by decide +kernel
theorem dX6_digest_294 : decode cX6_digest 294 = .ok (.if_icmp .ge 68, 3) := by decide +kernel
theorem dX6_digest_297 : decode cX6_digest 297 = .ok (.iconst 0, 1) := by decide +kernel
theorem dX6_digest_298 : decode cX6_digest 298 = .ok (.istore 4, 2) := by decide +kernel
theorem dX6_digest_300 : decode cX6_digest 300 = .ok (.iload 4, 2) := by decide +kernel
theorem dX6_digest_302 : decode cX6_digest 302 = .ok (.bipush 10, 2) := by decide +kernel
theorem dX6_digest_304 : decode cX6_digest 304 = .ok (.if_icmp .ge 52, 3) := by decide +kernel
theorem dX6_digest_307 : decode cX6_digest 307 = .ok (.iconst 0, 1) := by decide +kernel
theorem dX6_digest_308 : decode cX6_digest 308 = .ok (.istore 5, 2) := by decide +kernel
theorem dX6_digest_310 : decode cX6_digest 310 = .ok (.iconst 0, 1) := by decide +kernel
theorem dX6_digest_311 : decode cX6_digest 311 = .ok (.istore 6, 2) := by decide +kernel
theorem dX6_digest_313 : decode cX6_digest 313 = .ok (.iload 6, 2) := by decide +kernel
theorem dX6_digest_315 : decode cX6_digest 315 = .ok (.bipush 6, 2) := by decide +kernel
theorem dX6_digest_317 : decode cX6_digest 317 = .ok (.if_icmp .ge 23, 3) := by decide +kernel
theorem dX6_digest_320 : decode cX6_digest 320 = .ok (.iload 5, 2) := by decide +kernel
theorem dX6_digest_322 : decode cX6_digest 322 = .ok (.aload_n 0, 1) := by decide +kernel
theorem dX6_digest_323 : decode cX6_digest 323 = .ok (.iload_n 3, 1) := by decide +kernel
theorem dX6_digest_324 : decode cX6_digest 324 = .ok (.iload 4, 2) := by decide +kernel
theorem dX6_digest_326 : decode cX6_digest 326 = .ok (.iload 6, 2) := by decide +kernel
theorem dX6_digest_328 : decode cX6_digest 328 = .ok (.invokevirtual 157, 3) := by decide +kernel
theorem dX6_digest_331 : decode cX6_digest 331 = .ok (.iadd, 1) := by decide +kernel
theorem dX6_digest_332 : decode cX6_digest 332 = .ok (.istore 5, 2) := by decide +kernel
theorem dX6_digest_334 : decode cX6_digest 334 = .ok (.iinc 6 1, 3) := by decide +kernel
theorem dX6_digest_337 : decode cX6_digest 337 = .ok (.goto (-24), 3) := by decide +kernel
theorem dX6_digest_340 : decode cX6_digest 340 = .ok (.ldc2_w 186, 3) := by decide +kernel
theorem dX6_digest_343 : decode cX6_digest 343 = .ok (.lload_n 1, 1) := by decide +kernel
theorem dX6_digest_344 : decode cX6_digest 344 = .ok (.lmul, 1) := by decide +kernel
theorem dX6_digest_345 : decode cX6_digest 345 = .ok (.iload 5, 2) := by decide +kernel
theorem dX6_digest_347 : decode cX6_digest 347 = .ok (.i2l, 1) := by decide +kernel
theorem dX6_digest_348 : decode cX6_digest 348 = .ok (.ladd, 1) := by decide +kernel
theorem dX6_digest_349 : decode cX6_digest 349 = .ok (.lstore_n 1, 1) := by decide +kernel
theorem dX6_digest_350 : decode cX6_digest 350 = .ok (.iinc 4 1, 3) := by decide +kernel
theorem dX6_digest_353 : decode cX6_digest 353 = .ok (.goto (-53), 3) := by decide +kernel
theorem dX6_digest_356 : decode cX6_digest 356 = .ok (.iinc 3 1, 3) := by decide +kernel
theorem dX6_digest_359 : decode cX6_digest 359 = .ok (.goto (-68), 3) := by decide +kernel
theorem dX6_digest_362 : decode cX6_digest 362 = .ok (.iconst 0, 1) := by decide +kernel
theorem dX6_digest_363 : decode cX6_digest 363 = .ok (.istore_n 3, 1) := by decide +kernel
theorem dX6_digest_364 : decode cX6_digest 364 = .ok (.iload_n 3, 1) := by decide +kernel
theorem dX6_digest_365 : decode cX6_digest 365 = .ok (.bipush 6, 2) := by decide +kernel
theorem dX6_digest_367 : decode cX6_digest 367 = .ok (.if_icmp .ge 30, 3) := by decide +kernel
theorem dX6_digest_370 : decode cX6_digest 370 = .ok (.ldc2_w 186, 3) := by decide +kernel
theorem dX6_digest_373 : decode cX6_digest 373 = .ok (.lload_n 1, 1) := by decide +kernel
theorem dX6_digest_374 : decode cX6_digest 374 = .ok (.lmul, 1) := by decide +kernel
theorem dX6_digest_375 : decode cX6_digest 375 = .ok (.aload_n 0, 1) := by decide +kernel
theorem dX6_digest_376 : decode cX6_digest 376 = .ok (.aload_n 0, 1) := by decide +kernel
theorem dX6_digest_377 : decode cX6_digest 377 = .ok (.getfield 8, 3) := by decide +kernel
theorem dX6_digest_380 : decode cX6_digest 380 = .ok (.iconst 4, 1) := by decide +kernel
theorem dX6_digest_381 : decode cX6_digest 381 = .ok (.iaload, 1) := by decide +kernel
theorem dX6_digest_382 : decode cX6_digest 382 = .ok (.iconst 1, 1) := by decide +kernel
theorem dX6_digest_383 : decode cX6_digest 383 = .ok (.isub, 1) := by decide +kernel
theorem dX6_digest_384 : decode cX6_digest 384 = .ok (.iload_n 3, 1) := by decide +kernel
theorem dX6_digest_385 : decode cX6_digest 385 = .ok (.invokevirtual 173, 3) := by decide +kernel
theorem dX6_digest_388 : decode cX6_digest 388 = .ok (.i2l, 1) := by decide +kernel
theorem dX6_digest_389 : decode cX6_digest 389 = .ok (.ladd, 1) := by decide +kernel
theorem dX6_digest_390 : decode cX6_digest 390 = .ok (.lstore_n 1, 1) := by decide +kernel
theorem dX6_digest_391 : decode cX6_digest 391 = .ok (.iinc 3 1, 3) := by decide +kernel
theorem dX6_digest_394 : decode cX6_digest 394 = .ok (.goto (-30), 3) := by decide +kernel
theorem dX6_digest_397 : decode cX6_digest 397 = .ok (.ldc2_w 186, 3) := by decide +kernel
theorem dX6_digest_400 : decode cX6_digest 400 = .ok (.lload_n 1, 1) := by decide +kernel
theorem dX6_digest_401 : decode cX6_digest 401 = .ok (.lmul, 1) := by decide +kernel
theorem dX6_digest_402 : decode cX6_digest 402 = .ok (.aload_n 0, 1) := by decide +kernel
theorem dX6_digest_403 : decode cX6_digest 403 = .ok (.invokevirtual 176, 3) := by decide +kernel
theorem dX6_digest_406 : decode cX6_digest 406 = .ok (.i2l, 1) := by decide +kernel
theorem dX6_digest_407 : decode cX6_digest 407 = .ok (.ladd, 1) := by decide +kernel
theorem dX6_digest_408 : decode cX6_digest 408 = .ok (.lstore_n 1, 1) := by decide +kernel
theorem dX6_digest_409 : decode cX6_digest 409 = .ok (.ldc2_w 186, 3) := by decide +kernel
theorem dX6_digest_412 : decode cX6_digest 412 = .ok (.lload_n 1, 1) := by decide +kernel
theorem dX6_digest_413 : decode cX6_digest 413 = .ok (.lmul, 1) := by decide +kernel
theorem dX6_digest_414 : decode cX6_digest 414 = .ok (.aload_n 0, 1) := by decide +kernel
theorem dX6_digest_415 : decode cX6_digest 415 = .ok (.invokevirtual 180, 3) := by decide +kernel
theorem dX6_digest_418 : decode cX6_digest 418 = .ok (.invokestatic 188, 3) := by decide +kernel
theorem dX6_digest_421 : decode cX6_digest 421 = .ok (.ladd, 1) := by decide +kernel
theorem dX6_digest_422 : decode cX6_digest 422 = .ok (.lstore_n 1, 1) := by decide +kernel
theorem dX6_digest_423 : decode cX6_digest 423 = .ok (.ldc2_w 186, 3) := by decide +kernel
theorem dX6_digest_426 : decode cX6_digest 426 = .ok (.lload_n 1, 1) := by decide +kernel
theorem dX6_digest_427 : decode cX6_digest 427 = .ok (.lmul, 1) := by decide +kernel
theorem dX6_digest_428 : decode cX6_digest 428 = .ok (.aload_n 0, 1) := by decide +kernel
theorem dX6_digest_429 : decode cX6_digest 429 = .ok (.getfield 75, 3) := by decide +kernel
theorem dX6_digest_432 : decode cX6_digest 432 = .ok (.i2l, 1) := by decide +kernel
theorem dX6_digest_433 : decode cX6_digest 433 = .ok (.ladd, 1) := by decide +kernel
theorem dX6_digest_434 : decode cX6_digest 434 = .ok (.lstore_n 1, 1) := by decide +kernel
theorem dX6_digest_435 : decode cX6_digest 435 = .ok (.iconst 0, 1) := by decide +kernel
theorem dX6_digest_436 : decode cX6_digest 436 = .ok (.istore_n 3, 1) := by decide +kernel
theorem dX6_digest_437 : decode cX6_digest 437 = .ok (.iload_n 3, 1) := by decide +kernel
theorem dX6_digest_438 : decode cX6_digest 438 = .ok (.aload_n 0, 1) := by decide +kernel
theorem dX6_digest_439 : decode cX6_digest 439 = .ok (.getfield 75, 3) := by decide +kernel
theorem dX6_digest_442 : decode cX6_digest 442 = .ok (.if_icmp .ge 23, 3) := by decide +kernel
theorem dX6_digest_445 : decode cX6_digest 445 = .ok (.ldc2_w 186, 3) := by decide +kernel
theorem dX6_digest_448 : decode cX6_digest 448 = .ok (.lload_n 1, 1) := by decide +kernel
theorem dX6_digest_449 : decode cX6_digest 449 = .ok (.lmul, 1) := by decide +kernel
theorem dX6_digest_450 : decode cX6_digest 450 = .ok (.aload_n 0, 1) := by decide +kernel
theorem dX6_digest_451 : decode cX6_digest 451 = .ok (.getfield 14, 3) := by decide +kernel
theorem dX6_digest_454 : decode cX6_digest 454 = .ok (.iload_n 3, 1) := by decide +kernel
theorem dX6_digest_455 : decode cX6_digest 455 = .ok (.caload, 1) := by decide +kernel
theorem dX6_digest_456 : decode cX6_digest 456 = .ok (.i2l, 1) := by decide +kernel
theorem dX6_digest_457 : decode cX6_digest 457 = .ok (.ladd, 1) := by decide +kernel
theorem dX6_digest_458 : decode cX6_digest 458 = .ok (.lstore_n 1, 1) := by decide +kernel
theorem dX6_digest_459 : decode cX6_digest 459 = .ok (.iinc 3 1, 3) := by decide +kernel
theorem dX6_digest_462 : decode cX6_digest 462 = .ok (.goto (-25), 3) := by decide +kernel
theorem dX6_digest_465 : decode cX6_digest 465 = .ok (.lload_n 1, 1) := by decide +kernel
theorem dX6_digest_466 : decode cX6_digest 466 = .ok (.lreturn, 1) := by decide +kernel
theorem dJxe99ae_isNaN_b9ae7_0 : decode cJxe99ae_isNaN_b9ae7 0 = .ok (.dload_n 0, 1) := by decide +kernel
theorem dJxe99ae_isNaN_b9ae7_1 : decode cJxe99ae_isNaN_b9ae7 1 = .ok (.dload_n 0, 1) := by decide +kernel
theorem dJxe99ae_isNaN_b9ae7_2 : decode cJxe99ae_isNaN_b9ae7 2 = .ok (.dcmp .l, 1) := by decide +kernel
theorem dJxe99ae_isNaN_b9ae7_3 : decode cJxe99ae_isNaN_b9ae7 3 = .ok (.ifCond .eq 7, 3) := by decide +kernel
theorem dJxe99ae_isNaN_b9ae7_6 : decode cJxe99ae_isNaN_b9ae7 6 = .ok (.iconst 1, 1) := by decide +kernel
theorem dJxe99ae_isNaN_b9ae7_7 : decode cJxe99ae_isNaN_b9ae7 7 = .ok (.goto 4, 3) := by decide +kernel
theorem dJxe99ae_isNaN_b9ae7_10 : decode cJxe99ae_isNaN_b9ae7 10 = .ok (.iconst 0, 1) := by decide +kernel
theorem dJxe99ae_isNaN_b9ae7_11 : decode cJxe99ae_isNaN_b9ae7 11 = .ok (.ireturn, 1) := by decide +kernel
theorem dJxe99ae_doubleToLongBits_ccdee_0 : decode cJxe99ae_doubleToLongBits_ccdee 0 = .ok (.dload_n 0, 1) := by decide +kernel
theorem dJxe99ae_doubleToLongBits_ccdee_1 : decode cJxe99ae_doubleToLongBits_ccdee 1 = .ok (.invokestatic 122, 3) := by decide +kernel
theorem dJxe99ae_doubleToLongBits_ccdee_4 : decode cJxe99ae_doubleToLongBits_ccdee 4 = .ok (.ifCond .ne 8, 3) := by decide +kernel
theorem dJxe99ae_doubleToLongBits_ccdee_7 : decode cJxe99ae_doubleToLongBits_ccdee 7 = .ok (.dload_n 0, 1) := by decide +kernel
theorem dJxe99ae_doubleToLongBits_ccdee_8 : decode cJxe99ae_doubleToLongBits_ccdee 8 = .ok (.invokestatic 134, 3) := by decide +kernel
theorem dJxe99ae_doubleToLongBits_ccdee_11 : decode cJxe99ae_doubleToLongBits_ccdee 11 = .ok (.lreturn, 1) := by decide +kernel
theorem dJxe99ae_doubleToLongBits_ccdee_12 : decode cJxe99ae_doubleToLongBits_ccdee 12 = .ok (.ldc2_w 137, 3) := by decide +kernel
theorem dJxe99ae_doubleToLongBits_ccdee_15 : decode cJxe99ae_doubleToLongBits_ccdee 15 = .ok (.lreturn, 1) := by decide +kernel
theorem dJ9_abs_0f7a4_0 : decode cJ9_abs_0f7a4 0 = .ok (.iload_n 0, 1) := by decide +kernel
theorem dJ9_abs_0f7a4_1 : decode cJ9_abs_0f7a4 1 = .ok (.ifCond .ge 8, 3) := by decide +kernel
theorem dJ9_abs_0f7a4_4 : decode cJ9_abs_0f7a4 4 = .ok (.iload_n 0, 1) := by decide +kernel
theorem dJ9_abs_0f7a4_5 : decode cJ9_abs_0f7a4 5 = .ok (.ineg, 1) := by decide +kernel
theorem dJ9_abs_0f7a4_6 : decode cJ9_abs_0f7a4 6 = .ok (.goto 4, 3) := by decide +kernel
theorem dJ9_abs_0f7a4_9 : decode cJ9_abs_0f7a4 9 = .ok (.iload_n 0, 1) := by decide +kernel
theorem dJ9_abs_0f7a4_10 : decode cJ9_abs_0f7a4 10 = .ok (.ireturn, 1) := by decide +kernel
theorem dJ9_max_7cf53_0 : decode cJ9_max_7cf53 0 = .ok (.iload_n 0, 1) := by decide +kernel
theorem dJ9_max_7cf53_1 : decode cJ9_max_7cf53 1 = .ok (.iload_n 1, 1) := by decide +kernel
theorem dJ9_max_7cf53_2 : decode cJ9_max_7cf53 2 = .ok (.if_icmp .lt 7, 3) := by decide +kernel
theorem dJ9_max_7cf53_5 : decode cJ9_max_7cf53 5 = .ok (.iload_n 0, 1) := by decide +kernel
theorem dJ9_max_7cf53_6 : decode cJ9_max_7cf53 6 = .ok (.goto 4, 3) := by decide +kernel
theorem dJ9_max_7cf53_9 : decode cJ9_max_7cf53 9 = .ok (.iload_n 1, 1) := by decide +kernel
theorem dJ9_max_7cf53_10 : decode cJ9_max_7cf53 10 = .ok (.ireturn, 1) := by decide +kernel
theorem dJ9_min_7cf53_0 : decode cJ9_min_7cf53 0 = .ok (.iload_n 0, 1) := by decide +kernel
theorem dJ9_min_7cf53_1 : decode cJ9_min_7cf53 1 = .ok (.iload_n 1, 1) := by decide +kernel
theorem dJ9_min_7cf53_2 : decode cJ9_min_7cf53 2 = .ok (.if_icmp .gt 7, 3) := by decide +kernel
theorem dJ9_min_7cf53_5 : decode cJ9_min_7cf53 5 = .ok (.iload_n 0, 1) := by decide +kernel
theorem dJ9_min_7cf53_6 : decode cJ9_min_7cf53 6 = .ok (.goto 4, 3) := by decide +kernel
theorem dJ9_min_7cf53_9 : decode cJ9_min_7cf53 9 = .ok (.iload_n 1, 1) := by decide +kernel
theorem dJ9_min_7cf53_10 : decode cJ9_min_7cf53 10 = .ok (.ireturn, 1) := by decide +kernel
theorem dL_say_0 : decode cL_say 0 = .ok (.aload 4, 2) := by decide +kernel
theorem dL_say_2 : decode cL_say 2 = .ok (.iconst 0, 1) := by decide +kernel
theorem dL_say_3 : decode cL_say 3 = .ok (.aload_n 0, 1) := by decide +kernel
theorem dL_say_4 : decode cL_say 4 = .ok (.iload_n 1, 1) := by decide +kernel
theorem dL_say_5 : decode cL_say 5 = .ok (.iload_n 2, 1) := by decide +kernel
theorem dL_say_6 : decode cL_say 6 = .ok (.iload_n 3, 1) := by decide +kernel
theorem dL_say_7 : decode cL_say 7 = .ok (.invokevirtual 7, 3) := by decide +kernel
theorem dL_say_10 : decode cL_say 10 = .ok (.i2l, 1) := by decide +kernel
theorem dL_say_11 : decode cL_say 11 = .ok (.lastore, 1) := by decide +kernel
theorem dL_say_12 : decode cL_say 12 = .ok (.goto 15, 3) := by decide +kernel
theorem dL_say_15 : decode cL_say 15 = .ok (.astore 5, 2) := by decide +kernel
theorem dL_say_17 : decode cL_say 17 = .ok (.iconst 1, 1) := by decide +kernel
theorem dL_say_18 : decode cL_say 18 = .ok (.ireturn, 1) := by decide +kernel
theorem dL_say_19 : decode cL_say 19 = .ok (.astore 5, 2) := by decide +kernel
theorem dL_say_21 : decode cL_say 21 = .ok (.iconst 2, 1) := by decide +kernel
theorem dL_say_22 : decode cL_say 22 = .ok (.ireturn, 1) := by decide +kernel
theorem dL_say_23 : decode cL_say 23 = .ok (.astore 5, 2) := by decide +kernel
theorem dL_say_25 : decode cL_say 25 = .ok (.iconst 3, 1) := by decide +kernel
theorem dL_say_26 : decode cL_say 26 = .ok (.ireturn, 1) := by decide +kernel
theorem dL_say_27 : decode cL_say 27 = .ok (.iconst 0, 1) := by decide +kernel
theorem dL_say_28 : decode cL_say 28 = .ok (.ireturn, 1) := by decide +kernel
theorem dL_pass_0 : decode cL_pass 0 = .ok (.aload_n 2, 1) := by decide +kernel
theorem dL_pass_1 : decode cL_pass 1 = .ok (.iconst 0, 1) := by decide +kernel
theorem dL_pass_2 : decode cL_pass 2 = .ok (.aload_n 0, 1) := by decide +kernel
theorem dL_pass_3 : decode cL_pass 3 = .ok (.iload_n 1, 1) := by decide +kernel
theorem dL_pass_4 : decode cL_pass 4 = .ok (.invokevirtual 19, 3) := by decide +kernel
theorem dL_pass_7 : decode cL_pass 7 = .ok (.i2l, 1) := by decide +kernel
theorem dL_pass_8 : decode cL_pass 8 = .ok (.lastore, 1) := by decide +kernel
theorem dL_pass_9 : decode cL_pass 9 = .ok (.goto 9, 3) := by decide +kernel
theorem dL_pass_12 : decode cL_pass 12 = .ok (.astore_n 3, 1) := by decide +kernel
theorem dL_pass_13 : decode cL_pass 13 = .ok (.iconst 1, 1) := by decide +kernel
theorem dL_pass_14 : decode cL_pass 14 = .ok (.ireturn, 1) := by decide +kernel
theorem dL_pass_15 : decode cL_pass 15 = .ok (.astore_n 3, 1) := by decide +kernel
theorem dL_pass_16 : decode cL_pass 16 = .ok (.iconst 2, 1) := by decide +kernel
theorem dL_pass_17 : decode cL_pass 17 = .ok (.ireturn, 1) := by decide +kernel
theorem dL_pass_18 : decode cL_pass 18 = .ok (.iconst 0, 1) := by decide +kernel
theorem dL_pass_19 : decode cL_pass 19 = .ok (.ireturn, 1) := by decide +kernel
theorem dL_wall_0 : decode cL_wall 0 = .ok (.aload_n 3, 1) := by decide +kernel
theorem dL_wall_1 : decode cL_wall 1 = .ok (.iconst 0, 1) := by decide +kernel
theorem dL_wall_2 : decode cL_wall 2 = .ok (.aload_n 0, 1) := by decide +kernel
theorem dL_wall_3 : decode cL_wall 3 = .ok (.iload_n 1, 1) := by decide +kernel
theorem dL_wall_4 : decode cL_wall 4 = .ok (.iload_n 2, 1) := by decide +kernel
theorem dL_wall_5 : decode cL_wall 5 = .ok (.invokevirtual 23, 3) := by decide +kernel
theorem dL_wall_8 : decode cL_wall 8 = .ok (.i2l, 1) := by decide +kernel
theorem dL_wall_9 : decode cL_wall 9 = .ok (.lastore, 1) := by decide +kernel
theorem dL_wall_10 : decode cL_wall 10 = .ok (.goto 11, 3) := by decide +kernel
theorem dL_wall_13 : decode cL_wall 13 = .ok (.astore 4, 2) := by decide +kernel
theorem dL_wall_15 : decode cL_wall 15 = .ok (.iconst 1, 1) := by decide +kernel
theorem dL_wall_16 : decode cL_wall 16 = .ok (.ireturn, 1) := by decide +kernel
theorem dL_wall_17 : decode cL_wall 17 = .ok (.astore 4, 2) := by decide +kernel
theorem dL_wall_19 : decode cL_wall 19 = .ok (.iconst 2, 1) := by decide +kernel
theorem dL_wall_20 : decode cL_wall 20 = .ok (.ireturn, 1) := by decide +kernel
theorem dL_wall_21 : decode cL_wall 21 = .ok (.iconst 0, 1) := by decide +kernel
theorem dL_wall_22 : decode cL_wall 22 = .ok (.ireturn, 1) := by decide +kernel
theorem dL_set_0 : decode cL_set 0 = .ok (.aload_n 3, 1) := by decide +kernel
theorem dL_set_1 : decode cL_set 1 = .ok (.iconst 0, 1) := by decide +kernel
theorem dL_set_2 : decode cL_set 2 = .ok (.aload_n 0, 1) := by decide +kernel
theorem dL_set_3 : decode cL_set 3 = .ok (.iload_n 1, 1) := by decide +kernel
theorem dL_set_4 : decode cL_set 4 = .ok (.iload_n 2, 1) := by decide +kernel
theorem dL_set_5 : decode cL_set 5 = .ok (.invokevirtual 27, 3) := by decide +kernel
theorem dL_set_8 : decode cL_set 8 = .ok (.i2l, 1) := by decide +kernel
theorem dL_set_9 : decode cL_set 9 = .ok (.lastore, 1) := by decide +kernel
theorem dL_set_10 : decode cL_set 10 = .ok (.goto 11, 3) := by decide +kernel
theorem dL_set_13 : decode cL_set 13 = .ok (.astore 4, 2) := by decide +kernel
theorem dL_set_15 : decode cL_set 15 = .ok (.iconst 1, 1) := by decide +kernel
theorem dL_set_16 : decode cL_set 16 = .ok (.ireturn, 1) := by decide +kernel
theorem dL_set_17 : decode cL_set 17 = .ok (.astore 4, 2) := by decide +kernel
theorem dL_set_19 : decode cL_set 19 = .ok (.iconst 2, 1) := by decide +kernel
theorem dL_set_20 : decode cL_set 20 = .ok (.ireturn, 1) := by decide +kernel
theorem dL_set_21 : decode cL_set 21 = .ok (.iconst 0, 1) := by decide +kernel
theorem dL_set_22 : decode cL_set 22 = .ok (.ireturn, 1) := by decide +kernel
theorem dL_append_0 : decode cL_append 0 = .ok (.aload_n 2, 1) := by decide +kernel
theorem dL_append_1 : decode cL_append 1 = .ok (.iconst 0, 1) := by decide +kernel
theorem dL_append_2 : decode cL_append 2 = .ok (.aload_n 0, 1) := by decide +kernel
theorem dL_append_3 : decode cL_append 3 = .ok (.iload_n 1, 1) := by decide +kernel
theorem dL_append_4 : decode cL_append 4 = .ok (.invokevirtual 30, 3) := by decide +kernel
theorem dL_append_7 : decode cL_append 7 = .ok (.i2l, 1) := by decide +kernel
theorem dL_append_8 : decode cL_append 8 = .ok (.lastore, 1) := by decide +kernel
theorem dL_append_9 : decode cL_append 9 = .ok (.goto 9, 3) := by decide +kernel
theorem dL_append_12 : decode cL_append 12 = .ok (.astore_n 3, 1) := by decide +kernel
theorem dL_append_13 : decode cL_append 13 = .ok (.iconst 1, 1) := by decide +kernel
theorem dL_append_14 : decode cL_append 14 = .ok (.ireturn, 1) := by decide +kernel
theorem dL_append_15 : decode cL_append 15 = .ok (.astore_n 3, 1) := by decide +kernel
theorem dL_append_16 : decode cL_append 16 = .ok (.iconst 2, 1) := by decide +kernel
theorem dL_append_17 : decode cL_append 17 = .ok (.ireturn, 1) := by decide +kernel
theorem dL_append_18 : decode cL_append 18 = .ok (.iconst 0, 1) := by decide +kernel
theorem dL_append_19 : decode cL_append 19 = .ok (.ireturn, 1) := by decide +kernel
theorem dL_talk_0 : decode cL_talk 0 = .ok (.aload_n 1, 1) := by decide +kernel
theorem dL_talk_1 : decode cL_talk 1 = .ok (.iconst 0, 1) := by decide +kernel
theorem dL_talk_2 : decode cL_talk 2 = .ok (.aload_n 0, 1) := by decide +kernel
theorem dL_talk_3 : decode cL_talk 3 = .ok (.invokevirtual 33, 3) := by decide +kernel
theorem dL_talk_6 : decode cL_talk 6 = .ok (.i2l, 1) := by decide +kernel
theorem dL_talk_7 : decode cL_talk 7 = .ok (.lastore, 1) := by decide +kernel
theorem dL_talk_8 : decode cL_talk 8 = .ok (.goto 6, 3) := by decide +kernel
theorem dL_talk_11 : decode cL_talk 11 = .ok (.astore_n 2, 1) := by decide +kernel
theorem dL_talk_12 : decode cL_talk 12 = .ok (.iconst 1, 1) := by decide +kernel
theorem dL_talk_13 : decode cL_talk 13 = .ok (.ireturn, 1) := by decide +kernel
theorem dL_talk_14 : decode cL_talk 14 = .ok (.iconst 0, 1) := by decide +kernel
theorem dL_talk_15 : decode cL_talk 15 = .ok (.ireturn, 1) := by decide +kernel
theorem dL_undo_0 : decode cL_undo 0 = .ok (.aload_n 1, 1) := by decide +kernel
theorem dL_undo_1 : decode cL_undo 1 = .ok (.iconst 0, 1) := by decide +kernel
theorem dL_undo_2 : decode cL_undo 2 = .ok (.aload_n 0, 1) := by decide +kernel
theorem dL_undo_3 : decode cL_undo 3 = .ok (.invokevirtual 37, 3) := by decide +kernel
theorem dL_undo_6 : decode cL_undo 6 = .ok (.i2l, 1) := by decide +kernel
theorem dL_undo_7 : decode cL_undo 7 = .ok (.lastore, 1) := by decide +kernel
theorem dL_undo_8 : decode cL_undo 8 = .ok (.goto 6, 3) := by decide +kernel
theorem dL_undo_11 : decode cL_undo 11 = .ok (.astore_n 2, 1) := by decide +kernel
theorem dL_undo_12 : decode cL_undo 12 = .ok (.iconst 1, 1) := by decide +kernel
theorem dL_undo_13 : decode cL_undo 13 = .ok (.ireturn, 1) := by decide +kernel
theorem dL_undo_14 : decode cL_undo 14 = .ok (.iconst 0, 1) := by decide +kernel
theorem dL_undo_15 : decode cL_undo 15 = .ok (.ireturn, 1) := by decide +kernel
theorem dL_restore_0 : decode cL_restore 0 = .ok (.aload_n 1, 1) := by decide +kernel
theorem dL_restore_1 : decode cL_restore 1 = .ok (.iconst 0, 1) := by decide +kernel
theorem dL_restore_2 : decode cL_restore 2 = .ok (.aload_n 0, 1) := by decide +kernel
theorem dL_restore_3 : decode cL_restore 3 = .ok (.invokevirtual 40, 3) := by decide +kernel
theorem dL_restore_6 : decode cL_restore 6 = .ok (.i2l, 1) := by decide +kernel
theorem dL_restore_7 : decode cL_restore 7 = .ok (.lastore, 1) := by decide +kernel
theorem dL_restore_8 : decode cL_restore 8 = .ok (.goto 6, 3) := by decide +kernel
theorem dL_restore_11 : decode cL_restore 11 = .ok (.astore_n 2, 1) := by decide +kernel
theorem dL_restore_12 : decode cL_restore 12 = .ok (.iconst 1, 1) := by decide +kernel
theorem dL_restore_13 : decode cL_restore 13 = .ok (.ireturn, 1) := by decide +kernel
theorem dL_restore_14 : decode cL_restore 14 = .ok (.iconst 0, 1) := by decide +kernel
theorem dL_restore_15 : decode cL_restore 15 = .ok (.ireturn, 1) := by decide +kernel
theorem dL_said_0 : decode cL_said 0 = .ok (.aload_n 3, 1) := by decide +kernel
theorem dL_said_1 : decode cL_said 1 = .ok (.iconst 0, 1) := by decide +kernel
theorem dL_said_2 : decode cL_said 2 = .ok (.aload_n 0, 1) := by decide +kernel
theorem dL_said_3 : decode cL_said 3 = .ok (.iload_n 1, 1) := by decide +kernel
theorem dL_said_4 : decode cL_said 4 = .ok (.iload_n 2, 1) := by decide +kernel
theorem dL_said_5 : decode cL_said 5 = .ok (.invokevirtual 43, 3) := by decide +kernel
theorem dL_said_8 : decode cL_said 8 = .ok (.i2l, 1) := by decide +kernel
theorem dL_said_9 : decode cL_said 9 = .ok (.lastore, 1) := by decide +kernel
theorem dL_said_10 : decode cL_said 10 = .ok (.goto 7, 3) := by decide +kernel
theorem dL_said_13 : decode cL_said 13 = .ok (.astore 4, 2) := by decide +kernel
theorem dL_said_15 : decode cL_said 15 = .ok (.iconst 1, 1) := by decide +kernel
theorem dL_said_16 : decode cL_said 16 = .ok (.ireturn, 1) := by decide +kernel
theorem dL_said_17 : decode cL_said 17 = .ok (.iconst 0, 1) := by decide +kernel
theorem dL_said_18 : decode cL_said 18 = .ok (.ireturn, 1) := by decide +kernel
theorem dL_comes_0 : decode cL_comes 0 = .ok (.aload_n 3, 1) := by decide +kernel
theorem dL_comes_1 : decode cL_comes 1 = .ok (.iconst 0, 1) := by decide +kernel
theorem dL_comes_2 : decode cL_comes 2 = .ok (.aload_n 0, 1) := by decide +kernel
theorem dL_comes_3 : decode cL_comes 3 = .ok (.iload_n 1, 1) := by decide +kernel
theorem dL_comes_4 : decode cL_comes 4 = .ok (.iload_n 2, 1) := by decide +kernel
theorem dL_comes_5 : decode cL_comes 5 = .ok (.invokevirtual 46, 3) := by decide +kernel
theorem dL_comes_8 : decode cL_comes 8 = .ok (.i2l, 1) := by decide +kernel
theorem dL_comes_9 : decode cL_comes 9 = .ok (.lastore, 1) := by decide +kernel
theorem dL_comes_10 : decode cL_comes 10 = .ok (.goto 11, 3) := by decide +kernel
theorem dL_comes_13 : decode cL_comes 13 = .ok (.astore 4, 2) := by decide +kernel
theorem dL_comes_15 : decode cL_comes 15 = .ok (.iconst 1, 1) := by decide +kernel
theorem dL_comes_16 : decode cL_comes 16 = .ok (.ireturn, 1) := by decide +kernel
theorem dL_comes_17 : decode cL_comes 17 = .ok (.astore 4, 2) := by decide +kernel
theorem dL_comes_19 : decode cL_comes 19 = .ok (.iconst 2, 1) := by decide +kernel
theorem dL_comes_20 : decode cL_comes 20 = .ok (.ireturn, 1) := by decide +kernel
theorem dL_comes_21 : decode cL_comes 21 = .ok (.iconst 0, 1) := by decide +kernel
theorem dL_comes_22 : decode cL_comes 22 = .ok (.ireturn, 1) := by decide +kernel
theorem dL_heard_0 : decode cL_heard 0 = .ok (.aload 4, 2) := by decide +kernel
theorem dL_heard_2 : decode cL_heard 2 = .ok (.iconst 0, 1) := by decide +kernel
theorem dL_heard_3 : decode cL_heard 3 = .ok (.aload_n 0, 1) := by decide +kernel
theorem dL_heard_4 : decode cL_heard 4 = .ok (.iload_n 1, 1) := by decide +kernel
theorem dL_heard_5 : decode cL_heard 5 = .ok (.iload_n 2, 1) := by decide +kernel
theorem dL_heard_6 : decode cL_heard 6 = .ok (.iload_n 3, 1) := by decide +kernel
theorem dL_heard_7 : decode cL_heard 7 = .ok (.invokevirtual 49, 3) := by decide +kernel
theorem dL_heard_10 : decode cL_heard 10 = .ok (.i2l, 1) := by decide +kernel
theorem dL_heard_11 : decode cL_heard 11 = .ok (.lastore, 1) := by decide +kernel
theorem dL_heard_12 : decode cL_heard 12 = .ok (.goto 11, 3) := by decide +kernel
theorem dL_heard_15 : decode cL_heard 15 = .ok (.astore 5, 2) := by decide +kernel
theorem dL_heard_17 : decode cL_heard 17 = .ok (.iconst 1, 1) := by decide +kernel
theorem dL_heard_18 : decode cL_heard 18 = .ok (.ireturn, 1) := by decide +kernel
theorem dL_heard_19 : decode cL_heard 19 = .ok (.astore 5, 2) := by decide +kernel
theorem dL_heard_21 : decode cL_heard 21 = .ok (.iconst 2, 1) := by decide +kernel
theorem dL_heard_22 : decode cL_heard 22 = .ok (.ireturn, 1) := by decide +kernel
theorem dL_heard_23 : decode cL_heard 23 = .ok (.iconst 0, 1) := by decide +kernel
theorem dL_heard_24 : decode cL_heard 24 = .ok (.ireturn, 1) := by decide +kernel
theorem dL_speaker_0 : decode cL_speaker 0 = .ok (.aload_n 3, 1) := by decide +kernel
theorem dL_speaker_1 : decode cL_speaker 1 = .ok (.iconst 0, 1) := by decide +kernel
theorem dL_speaker_2 : decode cL_speaker 2 = .ok (.aload_n 0, 1) := by decide +kernel
theorem dL_speaker_3 : decode cL_speaker 3 = .ok (.iload_n 1, 1) := by decide +kernel
theorem dL_speaker_4 : decode cL_speaker 4 = .ok (.iload_n 2, 1) := by decide +kernel
theorem dL_speaker_5 : decode cL_speaker 5 = .ok (.invokevirtual 52, 3) := by decide +kernel
theorem dL_speaker_8 : decode cL_speaker 8 = .ok (.i2l, 1) := by decide +kernel
theorem dL_speaker_9 : decode cL_speaker 9 = .ok (.lastore, 1) := by decide +kernel
theorem dL_speaker_10 : decode cL_speaker 10 = .ok (.goto 11, 3) := by decide +kernel
theorem dL_speaker_13 : decode cL_speaker 13 = .ok (.astore 4, 2) := by decide +kernel
theorem dL_speaker_15 : decode cL_speaker 15 = .ok (.iconst 1, 1) := by decide +kernel
theorem dL_speaker_16 : decode cL_speaker 16 = .ok (.ireturn, 1) := by decide +kernel
theorem dL_speaker_17 : decode cL_speaker 17 = .ok (.astore 4, 2) := by decide +kernel
theorem dL_speaker_19 : decode cL_speaker 19 = .ok (.iconst 2, 1) := by decide +kernel
theorem dL_speaker_20 : decode cL_speaker 20 = .ok (.ireturn, 1) := by decide +kernel
theorem dL_speaker_21 : decode cL_speaker 21 = .ok (.iconst 0, 1) := by decide +kernel
theorem dL_speaker_22 : decode cL_speaker 22 = .ok (.ireturn, 1) := by decide +kernel
theorem dL_message_0 : decode cL_message 0 = .ok (.aload 4, 2) := by decide +kernel
theorem dL_message_2 : decode cL_message 2 = .ok (.iconst 0, 1) := by decide +kernel
theorem dL_message_3 : decode cL_message 3 = .ok (.aload_n 0, 1) := by decide +kernel
theorem dL_message_4 : decode cL_message 4 = .ok (.iload_n 1, 1) := by decide +kernel
theorem dL_message_5 : decode cL_message 5 = .ok (.iload_n 2, 1) := by decide +kernel
theorem dL_message_6 : decode cL_message 6 = .ok (.iload_n 3, 1) := by decide +kernel
theorem dL_message_7 : decode cL_message 7 = .ok (.invokevirtual 55, 3) := by decide +kernel
theorem dL_message_10 : decode cL_message 10 = .ok (.i2l, 1) := by decide +kernel
theorem dL_message_11 : decode cL_message 11 = .ok (.lastore, 1) := by decide +kernel
theorem dL_message_12 : decode cL_message 12 = .ok (.goto 11, 3) := by decide +kernel
theorem dL_message_15 : decode cL_message 15 = .ok (.astore 5, 2) := by decide +kernel
theorem dL_message_17 : decode cL_message 17 = .ok (.iconst 1, 1) := by decide +kernel
theorem dL_message_18 : decode cL_message 18 = .ok (.ireturn, 1) := by decide +kernel
theorem dL_message_19 : decode cL_message 19 = .ok (.astore 5, 2) := by decide +kernel
theorem dL_message_21 : decode cL_message 21 = .ok (.iconst 2, 1) := by decide +kernel
theorem dL_message_22 : decode cL_message 22 = .ok (.ireturn, 1) := by decide +kernel
theorem dL_message_23 : decode cL_message 23 = .ok (.iconst 0, 1) := by decide +kernel
theorem dL_message_24 : decode cL_message 24 = .ok (.ireturn, 1) := by decide +kernel
theorem dL_count_0 : decode cL_count 0 = .ok (.aload_n 2, 1) := by decide +kernel
theorem dL_count_1 : decode cL_count 1 = .ok (.iconst 0, 1) := by decide +kernel
theorem dL_count_2 : decode cL_count 2 = .ok (.aload_n 0, 1) := by decide +kernel
theorem dL_count_3 : decode cL_count 3 = .ok (.iload_n 1, 1) := by decide +kernel
theorem dL_count_4 : decode cL_count 4 = .ok (.invokevirtual 58, 3) := by decide +kernel
theorem dL_count_7 : decode cL_count 7 = .ok (.i2l, 1) := by decide +kernel
theorem dL_count_8 : decode cL_count 8 = .ok (.lastore, 1) := by decide +kernel
theorem dL_count_9 : decode cL_count 9 = .ok (.goto 6, 3) := by decide +kernel
theorem dL_count_12 : decode cL_count 12 = .ok (.astore_n 3, 1) := by decide +kernel
theorem dL_count_13 : decode cL_count 13 = .ok (.iconst 1, 1) := by decide +kernel
theorem dL_count_14 : decode cL_count 14 = .ok (.ireturn, 1) := by decide +kernel
theorem dL_count_15 : decode cL_count 15 = .ok (.iconst 0, 1) := by decide +kernel
theorem dL_count_16 : decode cL_count 16 = .ok (.ireturn, 1) := by decide +kernel
theorem dL_whyNot_0 : decode cL_whyNot 0 = .ok (.aload_n 3, 1) := by decide +kernel
theorem dL_whyNot_1 : decode cL_whyNot 1 = .ok (.iconst 0, 1) := by decide +kernel
theorem dL_whyNot_2 : decode cL_whyNot 2 = .ok (.aload_n 0, 1) := by decide +kernel
theorem dL_whyNot_3 : decode cL_whyNot 3 = .ok (.iload_n 1, 1) := by decide +kernel
theorem dL_whyNot_4 : decode cL_whyNot 4 = .ok (.iload_n 2, 1) := by decide +kernel
theorem dL_whyNot_5 : decode cL_whyNot 5 = .ok (.invokevirtual 61, 3) := by decide +kernel
theorem dL_whyNot_8 : decode cL_whyNot 8 = .ok (.i2l, 1) := by decide +kernel
theorem dL_whyNot_9 : decode cL_whyNot 9 = .ok (.lastore, 1) := by decide +kernel
theorem dL_whyNot_10 : decode cL_whyNot 10 = .ok (.goto 11, 3) := by decide +kernel
theorem dL_whyNot_13 : decode cL_whyNot 13 = .ok (.astore 4, 2) := by decide +kernel
theorem dL_whyNot_15 : decode cL_whyNot 15 = .ok (.iconst 1, 1) := by decide +kernel
theorem dL_whyNot_16 : decode cL_whyNot 16 = .ok (.ireturn, 1) := by decide +kernel
theorem dL_whyNot_17 : decode cL_whyNot 17 = .ok (.astore 4, 2) := by decide +kernel
theorem dL_whyNot_19 : decode cL_whyNot 19 = .ok (.iconst 2, 1) := by decide +kernel
theorem dL_whyNot_20 : decode cL_whyNot 20 = .ok (.ireturn, 1) := by decide +kernel
theorem dL_whyNot_21 : decode cL_whyNot 21 = .ok (.iconst 0, 1) := by decide +kernel
theorem dL_whyNot_22 : decode cL_whyNot 22 = .ok (.ireturn, 1) := by decide +kernel
theorem dL_ifSilent_0 : decode cL_ifSilent 0 = .ok (.aload_n 2, 1) := by decide +kernel
theorem dL_ifSilent_1 : decode cL_ifSilent 1 = .ok (.iconst 0, 1) := by decide +kernel
theorem dL_ifSilent_2 : decode cL_ifSilent 2 = .ok (.aload_n 0, 1) := by decide +kernel
theorem dL_ifSilent_3 : decode cL_ifSilent 3 = .ok (.iload_n 1, 1) := by decide +kernel
theorem dL_ifSilent_4 : decode cL_ifSilent 4 = .ok (.invokevirtual 64, 3) := by decide +kernel
theorem dL_ifSilent_7 : decode cL_ifSilent 7 = .ok (.i2l, 1) := by decide +kernel
theorem dL_ifSilent_8 : decode cL_ifSilent 8 = .ok (.lastore, 1) := by decide +kernel
theorem dL_ifSilent_9 : decode cL_ifSilent 9 = .ok (.goto 6, 3) := by decide +kernel
theorem dL_ifSilent_12 : decode cL_ifSilent 12 = .ok (.astore_n 3, 1) := by decide +kernel
theorem dL_ifSilent_13 : decode cL_ifSilent 13 = .ok (.iconst 1, 1) := by decide +kernel
theorem dL_ifSilent_14 : decode cL_ifSilent 14 = .ok (.ireturn, 1) := by decide +kernel
theorem dL_ifSilent_15 : decode cL_ifSilent 15 = .ok (.iconst 0, 1) := by decide +kernel
theorem dL_ifSilent_16 : decode cL_ifSilent 16 = .ok (.ireturn, 1) := by decide +kernel
theorem dL_heardIn_0 : decode cL_heardIn 0 = .ok (.aload_n 3, 1) := by decide +kernel
theorem dL_heardIn_1 : decode cL_heardIn 1 = .ok (.iconst 0, 1) := by decide +kernel
theorem dL_heardIn_2 : decode cL_heardIn 2 = .ok (.aload_n 0, 1) := by decide +kernel
theorem dL_heardIn_3 : decode cL_heardIn 3 = .ok (.iload_n 1, 1) := by decide +kernel
theorem dL_heardIn_4 : decode cL_heardIn 4 = .ok (.iload_n 2, 1) := by decide +kernel
theorem dL_heardIn_5 : decode cL_heardIn 5 = .ok (.invokevirtual 67, 3) := by decide +kernel
theorem dL_heardIn_8 : decode cL_heardIn 8 = .ok (.i2l, 1) := by decide +kernel
theorem dL_heardIn_9 : decode cL_heardIn 9 = .ok (.lastore, 1) := by decide +kernel
theorem dL_heardIn_10 : decode cL_heardIn 10 = .ok (.goto 11, 3) := by decide +kernel
theorem dL_heardIn_13 : decode cL_heardIn 13 = .ok (.astore 4, 2) := by decide +kernel
theorem dL_heardIn_15 : decode cL_heardIn 15 = .ok (.iconst 1, 1) := by decide +kernel
theorem dL_heardIn_16 : decode cL_heardIn 16 = .ok (.ireturn, 1) := by decide +kernel
theorem dL_heardIn_17 : decode cL_heardIn 17 = .ok (.astore 4, 2) := by decide +kernel
theorem dL_heardIn_19 : decode cL_heardIn 19 = .ok (.iconst 2, 1) := by decide +kernel
theorem dL_heardIn_20 : decode cL_heardIn 20 = .ok (.ireturn, 1) := by decide +kernel
theorem dL_heardIn_21 : decode cL_heardIn 21 = .ok (.iconst 0, 1) := by decide +kernel
theorem dL_heardIn_22 : decode cL_heardIn 22 = .ok (.ireturn, 1) := by decide +kernel
theorem dL_law_0 : decode cL_law 0 = .ok (.new 8, 3) := by decide +kernel
theorem dL_law_3 : decode cL_law 3 = .ok (.dup, 1) := by decide +kernel
theorem dL_law_4 : decode cL_law 4 = .ok (.invokespecial 70, 3) := by decide +kernel
theorem dL_law_7 : decode cL_law 7 = .ok (.astore_n 1, 1) := by decide +kernel
theorem dL_law_8 : decode cL_law 8 = .ok (.new 71, 3) := by decide +kernel
theorem dL_law_11 : decode cL_law 11 = .ok (.dup, 1) := by decide +kernel
theorem dL_law_12 : decode cL_law 12 = .ok (.invokespecial 73, 3) := by decide +kernel
theorem dL_law_15 : decode cL_law 15 = .ok (.astore_n 2, 1) := by decide +kernel
theorem dL_law_16 : decode cL_law 16 = .ok (.iconst 1, 1) := by decide +kernel
theorem dL_law_17 : decode cL_law 17 = .ok (.newarray .long, 2) := by decide +kernel
theorem dL_law_19 : decode cL_law 19 = .ok (.astore_n 3, 1) := by decide +kernel
theorem dL_law_20 : decode cL_law 20 = .ok (.iconst 0, 1) := by decide +kernel
theorem dL_law_21 : decode cL_law 21 = .ok (.istore 4, 2) := by decide +kernel
theorem dL_law_23 : decode cL_law 23 = .ok (.iload 4, 2) := by decide +kernel
theorem dL_law_25 : decode cL_law 25 = .ok (.aload_n 0, 1) := by decide +kernel
theorem dL_law_26 : decode cL_law 26 = .ok (.arraylength, 1) := by decide +kernel
theorem dL_law_27 : decode cL_law 27 = .ok (.iconst 4, 1) := by decide +kernel
theorem dL_law_28 : decode cL_law 28 = .ok (.isub, 1) := by decide +kernel
theorem dL_law_29 : decode cL_law 29 = .ok (.if_icmp .gt 1300, 3) := by decide +kernel
theorem dL_law_32 : decode cL_law 32 = .ok (.aload_n 0, 1) := by decide +kernel
theorem dL_law_33 : decode cL_law 33 = .ok (.iload 4, 2) := by decide +kernel
theorem dL_law_35 : decode cL_law 35 = .ok (.iaload, 1) := by decide +kernel
theorem dL_law_36 : decode cL_law 36 = .ok (.bipush 31, 2) := by decide +kernel
theorem dL_law_38 : decode cL_law 38 = .ok (.iand, 1) := by decide +kernel
theorem dL_law_39 : decode cL_law 39 = .ok (.tableswitch 1284 0 22 #[105, 185, 241, 309, 377, 433, 446, 459, 503, 547, 560, 604, 672, 740, 820, 888, 968, 1024, 1092, 1148, 1216, 1229, 1270], 105) := by decide +kernel
theorem dL_law_144 : decode cL_law 144 = .ok (.aload_n 1, 1) := by decide +kernel
theorem dL_law_145 : decode cL_law 145 = .ok (.aload_n 0, 1) := by decide +kernel
theorem dL_law_146 : decode cL_law 146 = .ok (.iload 4, 2) := by decide +kernel
theorem dL_law_148 : decode cL_law 148 = .ok (.iconst 1, 1) := by decide +kernel
theorem dL_law_149 : decode cL_law 149 = .ok (.iadd, 1) := by decide +kernel
theorem dL_law_150 : decode cL_law 150 = .ok (.iaload, 1) := by decide +kernel
theorem dL_law_151 : decode cL_law 151 = .ok (.aload_n 0, 1) := by decide +kernel
theorem dL_law_152 : decode cL_law 152 = .ok (.iload 4, 2) := by decide +kernel
theorem dL_law_154 : decode cL_law 154 = .ok (.iconst 2, 1) := by decide +kernel
theorem dL_law_155 : decode cL_law 155 = .ok (.iadd, 1) := by decide +kernel
theorem dL_law_156 : decode cL_law 156 = .ok (.iaload, 1) := by decide +kernel
theorem dL_law_157 : decode cL_law 157 = .ok (.aload_n 0, 1) := by decide +kernel
theorem dL_law_158 : decode cL_law 158 = .ok (.iload 4, 2) := by decide +kernel
theorem dL_law_160 : decode cL_law 160 = .ok (.iconst 3, 1) := by decide +kernel
theorem dL_law_161 : decode cL_law 161 = .ok (.iadd, 1) := by decide +kernel
theorem dL_law_162 : decode cL_law 162 = .ok (.iaload, 1) := by decide +kernel
theorem dL_law_163 : decode cL_law 163 = .ok (.aload_n 3, 1) := by decide +kernel
theorem dL_law_164 : decode cL_law 164 = .ok (.invokestatic 74, 3) := by decide +kernel
theorem dL_law_167 : decode cL_law 167 = .ok (.istore 5, 2) := by decide +kernel
theorem dL_law_169 : decode cL_law 169 = .ok (.aload_n 2, 1) := by decide +kernel
theorem dL_law_170 : decode cL_law 170 = .ok (.aload_n 0, 1) := by decide +kernel
theorem dL_law_171 : decode cL_law 171 = .ok (.iload 4, 2) := by decide +kernel
theorem dL_law_173 : decode cL_law 173 = .ok (.iconst 1, 1) := by decide +kernel
theorem dL_law_174 : decode cL_law 174 = .ok (.iadd, 1) := by decide +kernel
theorem dL_law_175 : decode cL_law 175 = .ok (.iaload, 1) := by decide +kernel
theorem dL_law_176 : decode cL_law 176 = .ok (.aload_n 0, 1) := by decide +kernel
theorem dL_law_177 : decode cL_law 177 = .ok (.iload 4, 2) := by decide +kernel
theorem dL_law_179 : decode cL_law 179 = .ok (.iconst 2, 1) := by decide +kernel
theorem dL_law_180 : decode cL_law 180 = .ok (.iadd, 1) := by decide +kernel
theorem dL_law_181 : decode cL_law 181 = .ok (.iaload, 1) := by decide +kernel
theorem dL_law_182 : decode cL_law 182 = .ok (.aload_n 0, 1) := by decide +kernel
theorem dL_law_183 : decode cL_law 183 = .ok (.iload 4, 2) := by decide +kernel
theorem dL_law_185 : decode cL_law 185 = .ok (.iconst 3, 1) := by decide +kernel
theorem dL_law_186 : decode cL_law 186 = .ok (.iadd, 1) := by decide +kernel
theorem dL_law_187 : decode cL_law 187 = .ok (.iaload, 1) := by decide +kernel
theorem dL_law_188 : decode cL_law 188 = .ok (.invokevirtual 79, 3) := by decide +kernel
theorem dL_law_191 : decode cL_law 191 = .ok (.istore 6, 2) := by decide +kernel
theorem dL_law_193 : decode cL_law 193 = .ok (.aload_n 2, 1) := by decide +kernel
theorem dL_law_194 : decode cL_law 194 = .ok (.invokevirtual 80, 3) := by decide +kernel
theorem dL_law_197 : decode cL_law 197 = .ok (.iload 5, 2) := by decide +kernel
theorem dL_law_199 : decode cL_law 199 = .ok (.if_icmp .eq 5, 3) := by decide +kernel
theorem dL_law_202 : decode cL_law 202 = .ok (.iconst 0, 1) := by decide +kernel
theorem dL_law_203 : decode cL_law 203 = .ok (.ireturn, 1) := by decide +kernel
theorem dL_law_204 : decode cL_law 204 = .ok (.iload 5, 2) := by decide +kernel
theorem dL_law_206 : decode cL_law 206 = .ok (.ifCond .ne 15, 3) := by decide +kernel
theorem dL_law_209 : decode cL_law 209 = .ok (.aload_n 3, 1) := by decide +kernel
theorem dL_law_210 : decode cL_law 210 = .ok (.iconst 0, 1) := by decide +kernel
theorem dL_law_211 : decode cL_law 211 = .ok (.laload, 1) := by decide +kernel
theorem dL_law_212 : decode cL_law 212 = .ok (.iload 6, 2) := by decide +kernel
theorem dL_law_214 : decode cL_law 214 = .ok (.i2l, 1) := by decide +kernel
theorem dL_law_215 : decode cL_law 215 = .ok (.lcmp, 1) := by decide +kernel
theorem dL_law_216 : decode cL_law 216 = .ok (.ifCond .eq 5, 3) := by decide +kernel
theorem dL_law_219 : decode cL_law 219 = .ok (.iconst 0, 1) := by decide +kernel
theorem dL_law_220 : decode cL_law 220 = .ok (.ireturn, 1) := by decide +kernel
theorem dL_law_221 : decode cL_law 221 = .ok (.goto 1102, 3) := by decide +kernel
theorem dL_law_224 : decode cL_law 224 = .ok (.aload_n 1, 1) := by decide +kernel
theorem dL_law_225 : decode cL_law 225 = .ok (.aload_n 0, 1) := by decide +kernel
theorem dL_law_226 : decode cL_law 226 = .ok (.iload 4, 2) := by decide +kernel
theorem dL_law_228 : decode cL_law 228 = .ok (.iconst 1, 1) := by decide +kernel
theorem dL_law_229 : decode cL_law 229 = .ok (.iadd, 1) := by decide +kernel
theorem dL_law_230 : decode cL_law 230 = .ok (.iaload, 1) := by decide +kernel
theorem dL_law_231 : decode cL_law 231 = .ok (.aload_n 3, 1) := by decide +kernel
theorem dL_law_232 : decode cL_law 232 = .ok (.invokestatic 83, 3) := by decide +kernel
theorem dL_law_235 : decode cL_law 235 = .ok (.istore 5, 2) := by decide +kernel
theorem dL_law_237 : decode cL_law 237 = .ok (.aload_n 2, 1) := by decide +kernel
theorem dL_law_238 : decode cL_law 238 = .ok (.aload_n 0, 1) := by decide +kernel
theorem dL_law_239 : decode cL_law 239 = .ok (.iload 4, 2) := by decide +kernel
theorem dL_law_241 : decode cL_law 241 = .ok (.iconst 1, 1) := by decide +kernel
theorem dL_law_242 : decode cL_law 242 = .ok (.iadd, 1) := by decide +kernel
theorem dL_law_243 : decode cL_law 243 = .ok (.iaload, 1) := by decide +kernel
theorem dL_law_244 : decode cL_law 244 = .ok (.invokevirtual 86, 3) := by decide +kernel
theorem dL_law_247 : decode cL_law 247 = .ok (.istore 6, 2) := by decide +kernel
theorem dL_law_249 : decode cL_law 249 = .ok (.aload_n 2, 1) := by decide +kernel
theorem dL_law_250 : decode cL_law 250 = .ok (.invokevirtual 80, 3) := by decide +kernel
theorem dL_law_253 : decode cL_law 253 = .ok (.iload 5, 2) := by decide +kernel
theorem dL_law_255 : decode cL_law 255 = .ok (.if_icmp .eq 5, 3) := by decide +kernel
theorem dL_law_258 : decode cL_law 258 = .ok (.iconst 0, 1) := by decide +kernel
theorem dL_law_259 : decode cL_law 259 = .ok (.ireturn, 1) := by decide +kernel
theorem dL_law_260 : decode cL_law 260 = .ok (.iload 5, 2) := by decide +kernel
theorem dL_law_262 : decode cL_law 262 = .ok (.ifCond .ne 15, 3) := by decide +kernel
theorem dL_law_265 : decode cL_law 265 = .ok (.aload_n 3, 1) := by decide +kernel
theorem dL_law_266 : decode cL_law 266 = .ok (.iconst 0, 1) := by decide +kernel
theorem dL_law_267 : decode cL_law 267 = .ok (.laload, 1) := by decide +kernel
theorem dL_law_268 : decode cL_law 268 = .ok (.iload 6, 2) := by decide +kernel
theorem dL_law_270 : decode cL_law 270 = .ok (.i2l, 1) := by decide +kernel
theorem dL_law_271 : decode cL_law 271 = .ok (.lcmp, 1) := by decide +kernel
theorem dL_law_272 : decode cL_law 272 = .ok (.ifCond .eq 5, 3) := by decide +kernel
theorem dL_law_275 : decode cL_law 275 = .ok (.iconst 0, 1) := by decide +kernel
theorem dL_law_276 : decode cL_law 276 = .ok (.ireturn, 1) := by decide +kernel
theorem dL_law_277 : decode cL_law 277 = .ok (.goto 1046, 3) := by decide +kernel
theorem dL_law_280 : decode cL_law 280 = .ok (.aload_n 1, 1) := by decide +kernel
theorem dL_law_281 : decode cL_law 281 = .ok (.aload_n 0, 1) := by decide +kernel
theorem dL_law_282 : decode cL_law 282 = .ok (.iload 4, 2) := by decide +kernel
theorem dL_law_284 : decode cL_law 284 = .ok (.iconst 1, 1) := by decide +kernel
theorem dL_law_285 : decode cL_law 285 = .ok (.iadd, 1) := by decide +kernel
theorem dL_law_286 : decode cL_law 286 = .ok (.iaload, 1) := by decide +kernel
theorem dL_law_287 : decode cL_law 287 = .ok (.aload_n 0, 1) := by decide +kernel
theorem dL_law_288 : decode cL_law 288 = .ok (.iload 4, 2) := by decide +kernel
theorem dL_law_290 : decode cL_law 290 = .ok (.iconst 2, 1) := by decide +kernel
theorem dL_law_291 : decode cL_law 291 = .ok (.iadd, 1) := by decide +kernel
theorem dL_law_292 : decode cL_law 292 = .ok (.iaload, 1) := by decide +kernel
theorem dL_law_293 : decode cL_law 293 = .ok (.aload_n 3, 1) := by decide +kernel
theorem dL_law_294 : decode cL_law 294 = .ok (.invokestatic 87, 3) := by decide +kernel
theorem dL_law_297 : decode cL_law 297 = .ok (.istore 5, 2) := by decide +kernel
theorem dL_law_299 : decode cL_law 299 = .ok (.aload_n 2, 1) := by decide +kernel
theorem dL_law_300 : decode cL_law 300 = .ok (.aload_n 0, 1) := by decide +kernel
theorem dL_law_301 : decode cL_law 301 = .ok (.iload 4, 2) := by decide +kernel
theorem dL_law_303 : decode cL_law 303 = .ok (.iconst 1, 1) := by decide +kernel
theorem dL_law_304 : decode cL_law 304 = .ok (.iadd, 1) := by decide +kernel
theorem dL_law_305 : decode cL_law 305 = .ok (.iaload, 1) := by decide +kernel
theorem dL_law_306 : decode cL_law 306 = .ok (.aload_n 0, 1) := by decide +kernel
theorem dL_law_307 : decode cL_law 307 = .ok (.iload 4, 2) := by decide +kernel
theorem dL_law_309 : decode cL_law 309 = .ok (.iconst 2, 1) := by decide +kernel
theorem dL_law_310 : decode cL_law 310 = .ok (.iadd, 1) := by decide +kernel
theorem dL_law_311 : decode cL_law 311 = .ok (.iaload, 1) := by decide +kernel
theorem dL_law_312 : decode cL_law 312 = .ok (.invokevirtual 90, 3) := by decide +kernel
theorem dL_law_315 : decode cL_law 315 = .ok (.istore 6, 2) := by decide +kernel
theorem dL_law_317 : decode cL_law 317 = .ok (.aload_n 2, 1) := by decide +kernel
theorem dL_law_318 : decode cL_law 318 = .ok (.invokevirtual 80, 3) := by decide +kernel
theorem dL_law_321 : decode cL_law 321 = .ok (.iload 5, 2) := by decide +kernel
theorem dL_law_323 : decode cL_law 323 = .ok (.if_icmp .eq 5, 3) := by decide +kernel
theorem dL_law_326 : decode cL_law 326 = .ok (.iconst 0, 1) := by decide +kernel
theorem dL_law_327 : decode cL_law 327 = .ok (.ireturn, 1) := by decide +kernel
theorem dL_law_328 : decode cL_law 328 = .ok (.iload 5, 2) := by decide +kernel
theorem dL_law_330 : decode cL_law 330 = .ok (.ifCond .ne 15, 3) := by decide +kernel
theorem dL_law_333 : decode cL_law 333 = .ok (.aload_n 3, 1) := by decide +kernel
theorem dL_law_334 : decode cL_law 334 = .ok (.iconst 0, 1) := by decide +kernel
theorem dL_law_335 : decode cL_law 335 = .ok (.laload, 1) := by decide +kernel
theorem dL_law_336 : decode cL_law 336 = .ok (.iload 6, 2) := by decide +kernel
theorem dL_law_338 : decode cL_law 338 = .ok (.i2l, 1) := by decide +kernel
theorem dL_law_339 : decode cL_law 339 = .ok (.lcmp, 1) := by decide +kernel
theorem dL_law_340 : decode cL_law 340 = .ok (.ifCond .eq 5, 3) := by decide +kernel
theorem dL_law_343 : decode cL_law 343 = .ok (.iconst 0, 1) := by decide +kernel
theorem dL_law_344 : decode cL_law 344 = .ok (.ireturn, 1) := by decide +kernel
theorem dL_law_345 : decode cL_law 345 = .ok (.goto 978, 3) := by decide +kernel
theorem dL_law_348 : decode cL_law 348 = .ok (.aload_n 1, 1) := by decide +kernel
theorem dL_law_349 : decode cL_law 349 = .ok (.aload_n 0, 1) := by decide +kernel
theorem dL_law_350 : decode cL_law 350 = .ok (.iload 4, 2) := by decide +kernel
theorem dL_law_352 : decode cL_law 352 = .ok (.iconst 1, 1) := by decide +kernel
theorem dL_law_353 : decode cL_law 353 = .ok (.iadd, 1) := by decide +kernel
theorem dL_law_354 : decode cL_law 354 = .ok (.iaload, 1) := by decide +kernel
theorem dL_law_355 : decode cL_law 355 = .ok (.aload_n 0, 1) := by decide +kernel
theorem dL_law_356 : decode cL_law 356 = .ok (.iload 4, 2) := by decide +kernel
theorem dL_law_358 : decode cL_law 358 = .ok (.iconst 2, 1) := by decide +kernel
theorem dL_law_359 : decode cL_law 359 = .ok (.iadd, 1) := by decide +kernel
theorem dL_law_360 : decode cL_law 360 = .ok (.iaload, 1) := by decide +kernel
theorem dL_law_361 : decode cL_law 361 = .ok (.aload_n 3, 1) := by decide +kernel
theorem dL_law_362 : decode cL_law 362 = .ok (.invokestatic 91, 3) := by decide +kernel
theorem dL_law_365 : decode cL_law 365 = .ok (.istore 5, 2) := by decide +kernel
theorem dL_law_367 : decode cL_law 367 = .ok (.aload_n 2, 1) := by decide +kernel
theorem dL_law_368 : decode cL_law 368 = .ok (.aload_n 0, 1) := by decide +kernel
theorem dL_law_369 : decode cL_law 369 = .ok (.iload 4, 2) := by decide +kernel
theorem dL_law_371 : decode cL_law 371 = .ok (.iconst 1, 1) := by decide +kernel
theorem dL_law_372 : decode cL_law 372 = .ok (.iadd, 1) := by decide +kernel
theorem dL_law_373 : decode cL_law 373 = .ok (.iaload, 1) := by decide +kernel
theorem dL_law_374 : decode cL_law 374 = .ok (.aload_n 0, 1) := by decide +kernel
theorem dL_law_375 : decode cL_law 375 = .ok (.iload 4, 2) := by decide +kernel
theorem dL_law_377 : decode cL_law 377 = .ok (.iconst 2, 1) := by decide +kernel
theorem dL_law_378 : decode cL_law 378 = .ok (.iadd, 1) := by decide +kernel
theorem dL_law_379 : decode cL_law 379 = .ok (.iaload, 1) := by decide +kernel
theorem dL_law_380 : decode cL_law 380 = .ok (.invokevirtual 93, 3) := by decide +kernel
theorem dL_law_383 : decode cL_law 383 = .ok (.istore 6, 2) := by decide +kernel
theorem dL_law_385 : decode cL_law 385 = .ok (.aload_n 2, 1) := by decide +kernel
theorem dL_law_386 : decode cL_law 386 = .ok (.invokevirtual 80, 3) := by decide +kernel
theorem dL_law_389 : decode cL_law 389 = .ok (.iload 5, 2) := by decide +kernel
theorem dL_law_391 : decode cL_law 391 = .ok (.if_icmp .eq 5, 3) := by decide +kernel
theorem dL_law_394 : decode cL_law 394 = .ok (.iconst 0, 1) := by decide +kernel
theorem dL_law_395 : decode cL_law 395 = .ok (.ireturn, 1) := by decide +kernel
theorem dL_law_396 : decode cL_law 396 = .ok (.iload 5, 2) := by decide +kernel
theorem dL_law_398 : decode cL_law 398 = .ok (.ifCond .ne 15, 3) := by decide +kernel
theorem dL_law_401 : decode cL_law 401 = .ok (.aload_n 3, 1) := by decide +kernel
theorem dL_law_402 : decode cL_law 402 = .ok (.iconst 0, 1) := by decide +kernel
theorem dL_law_403 : decode cL_law 403 = .ok (.laload, 1) := by decide +kernel
theorem dL_law_404 : decode cL_law 404 = .ok (.iload 6, 2) := by decide +kernel
theorem dL_law_406 : decode cL_law 406 = .ok (.i2l, 1) := by decide +kernel
theorem dL_law_407 : decode cL_law 407 = .ok (.lcmp, 1) := by decide +kernel
theorem dL_law_408 : decode cL_law 408 = .ok (.ifCond .eq 5, 3) := by decide +kernel
theorem dL_law_411 : decode cL_law 411 = .ok (.iconst 0, 1) := by decide +kernel
theorem dL_law_412 : decode cL_law 412 = .ok (.ireturn, 1) := by decide +kernel
theorem dL_law_413 : decode cL_law 413 = .ok (.goto 910, 3) := by decide +kernel
theorem dL_law_416 : decode cL_law 416 = .ok (.aload_n 1, 1) := by decide +kernel
theorem dL_law_417 : decode cL_law 417 = .ok (.aload_n 0, 1) := by decide +kernel
theorem dL_law_418 : decode cL_law 418 = .ok (.iload 4, 2) := by decide +kernel
theorem dL_law_420 : decode cL_law 420 = .ok (.iconst 1, 1) := by decide +kernel
theorem dL_law_421 : decode cL_law 421 = .ok (.iadd, 1) := by decide +kernel
theorem dL_law_422 : decode cL_law 422 = .ok (.iaload, 1) := by decide +kernel
theorem dL_law_423 : decode cL_law 423 = .ok (.aload_n 3, 1) := by decide +kernel
theorem dL_law_424 : decode cL_law 424 = .ok (.invokestatic 94, 3) := by decide +kernel
theorem dL_law_427 : decode cL_law 427 = .ok (.istore 5, 2) := by decide +kernel
theorem dL_law_429 : decode cL_law 429 = .ok (.aload_n 2, 1) := by decide +kernel
theorem dL_law_430 : decode cL_law 430 = .ok (.aload_n 0, 1) := by decide +kernel
theorem dL_law_431 : decode cL_law 431 = .ok (.iload 4, 2) := by decide +kernel
theorem dL_law_433 : decode cL_law 433 = .ok (.iconst 1, 1) := by decide +kernel
theorem dL_law_434 : decode cL_law 434 = .ok (.iadd, 1) := by decide +kernel
theorem dL_law_435 : decode cL_law 435 = .ok (.iaload, 1) := by decide +kernel
theorem dL_law_436 : decode cL_law 436 = .ok (.invokevirtual 96, 3) := by decide +kernel
theorem dL_law_439 : decode cL_law 439 = .ok (.istore 6, 2) := by decide +kernel
theorem dL_law_441 : decode cL_law 441 = .ok (.aload_n 2, 1) := by decide +kernel
theorem dL_law_442 : decode cL_law 442 = .ok (.invokevirtual 80, 3) := by decide +kernel
theorem dL_law_445 : decode cL_law 445 = .ok (.iload 5, 2) := by decide +kernel
theorem dL_law_447 : decode cL_law 447 = .ok (.if_icmp .eq 5, 3) := by decide +kernel
theorem dL_law_450 : decode cL_law 450 = .ok (.iconst 0, 1) := by decide +kernel
theorem dL_law_451 : decode cL_law 451 = .ok (.ireturn, 1) := by decide +kernel
theorem dL_law_452 : decode cL_law 452 = .ok (.iload 5, 2) := by decide +kernel
theorem dL_law_454 : decode cL_law 454 = .ok (.ifCond .ne 15, 3) := by decide +kernel
theorem dL_law_457 : decode cL_law 457 = .ok (.aload_n 3, 1) := by decide +kernel
theorem dL_law_458 : decode cL_law 458 = .ok (.iconst 0, 1) := by decide +kernel
theorem dL_law_459 : decode cL_law 459 = .ok (.laload, 1) := by decide +kernel
theorem dL_law_460 : decode cL_law 460 = .ok (.iload 6, 2) := by decide +kernel
theorem dL_law_462 : decode cL_law 462 = .ok (.i2l, 1) := by decide +kernel
theorem dL_law_463 : decode cL_law 463 = .ok (.lcmp, 1) := by decide +kernel
theorem dL_law_464 : decode cL_law 464 = .ok (.ifCond .eq 5, 3) := by decide +kernel
theorem dL_law_467 : decode cL_law 467 = .ok (.iconst 0, 1) := by decide +kernel
theorem dL_law_468 : decode cL_law 468 = .ok (.ireturn, 1) := by decide +kernel
theorem dL_law_469 : decode cL_law 469 = .ok (.goto 854, 3) := by decide +kernel
theorem dL_law_472 : decode cL_law 472 = .ok (.aload_n 1, 1) := by decide +kernel
theorem dL_law_473 : decode cL_law 473 = .ok (.invokevirtual 97, 3) := by decide +kernel
theorem dL_law_476 : decode cL_law 476 = .ok (.aload_n 2, 1) := by decide +kernel
theorem dL_law_477 : decode cL_law 477 = .ok (.invokevirtual 100, 3) := by decide +kernel
theorem dL_law_480 : decode cL_law 480 = .ok (.if_icmp .eq 843, 3) := by decide +kernel
theorem dL_law_483 : decode cL_law 483 = .ok (.iconst 0, 1) := by decide +kernel
theorem dL_law_484 : decode cL_law 484 = .ok (.ireturn, 1) := by decide +kernel
theorem dL_law_485 : decode cL_law 485 = .ok (.aload_n 1, 1) := by decide +kernel
theorem dL_law_486 : decode cL_law 486 = .ok (.invokevirtual 101, 3) := by decide +kernel
theorem dL_law_489 : decode cL_law 489 = .ok (.aload_n 2, 1) := by decide +kernel
theorem dL_law_490 : decode cL_law 490 = .ok (.invokevirtual 104, 3) := by decide +kernel
theorem dL_law_493 : decode cL_law 493 = .ok (.if_icmp .eq 830, 3) := by decide +kernel
theorem dL_law_496 : decode cL_law 496 = .ok (.iconst 0, 1) := by decide +kernel
theorem dL_law_497 : decode cL_law 497 = .ok (.ireturn, 1) := by decide +kernel
theorem dL_law_498 : decode cL_law 498 = .ok (.aload_n 1, 1) := by decide +kernel
theorem dL_law_499 : decode cL_law 499 = .ok (.aload_n 3, 1) := by decide +kernel
theorem dL_law_500 : decode cL_law 500 = .ok (.invokestatic 105, 3) := by decide +kernel
theorem dL_law_503 : decode cL_law 503 = .ok (.istore 5, 2) := by decide +kernel
theorem dL_law_505 : decode cL_law 505 = .ok (.aload_n 2, 1) := by decide +kernel
theorem dL_law_506 : decode cL_law 506 = .ok (.invokevirtual 108, 3) := by decide +kernel
theorem dL_law_509 : decode cL_law 509 = .ok (.istore 6, 2) := by decide +kernel
theorem dL_law_511 : decode cL_law 511 = .ok (.aload_n 2, 1) := by decide +kernel
theorem dL_law_512 : decode cL_law 512 = .ok (.invokevirtual 80, 3) := by decide +kernel
theorem dL_law_515 : decode cL_law 515 = .ok (.iload 5, 2) := by decide +kernel
theorem dL_law_517 : decode cL_law 517 = .ok (.if_icmp .eq 5, 3) := by decide +kernel
theorem dL_law_520 : decode cL_law 520 = .ok (.iconst 0, 1) := by decide +kernel
theorem dL_law_521 : decode cL_law 521 = .ok (.ireturn, 1) := by decide +kernel
theorem dL_law_522 : decode cL_law 522 = .ok (.iload 5, 2) := by decide +kernel
theorem dL_law_524 : decode cL_law 524 = .ok (.ifCond .ne 15, 3) := by decide +kernel
theorem dL_law_527 : decode cL_law 527 = .ok (.aload_n 3, 1) := by decide +kernel
theorem dL_law_528 : decode cL_law 528 = .ok (.iconst 0, 1) := by decide +kernel
theorem dL_law_529 : decode cL_law 529 = .ok (.laload, 1) := by decide +kernel
theorem dL_law_530 : decode cL_law 530 = .ok (.iload 6, 2) := by decide +kernel
theorem dL_law_532 : decode cL_law 532 = .ok (.i2l, 1) := by decide +kernel
theorem dL_law_533 : decode cL_law 533 = .ok (.lcmp, 1) := by decide +kernel
theorem dL_law_534 : decode cL_law 534 = .ok (.ifCond .eq 5, 3) := by decide +kernel
theorem dL_law_537 : decode cL_law 537 = .ok (.iconst 0, 1) := by decide +kernel
theorem dL_law_538 : decode cL_law 538 = .ok (.ireturn, 1) := by decide +kernel
theorem dL_law_539 : decode cL_law 539 = .ok (.goto 784, 3) := by decide +kernel
theorem dL_law_542 : decode cL_law 542 = .ok (.aload_n 1, 1) := by decide +kernel
theorem dL_law_543 : decode cL_law 543 = .ok (.aload_n 3, 1) := by decide +kernel
theorem dL_law_544 : decode cL_law 544 = .ok (.invokestatic 109, 3) := by decide +kernel
theorem dL_law_547 : decode cL_law 547 = .ok (.istore 5, 2) := by decide +kernel
theorem dL_law_549 : decode cL_law 549 = .ok (.aload_n 2, 1) := by decide +kernel
theorem dL_law_550 : decode cL_law 550 = .ok (.invokevirtual 111, 3) := by decide +kernel
theorem dL_law_553 : decode cL_law 553 = .ok (.istore 6, 2) := by decide +kernel
theorem dL_law_555 : decode cL_law 555 = .ok (.aload_n 2, 1) := by decide +kernel
theorem dL_law_556 : decode cL_law 556 = .ok (.invokevirtual 80, 3) := by decide +kernel
theorem dL_law_559 : decode cL_law 559 = .ok (.iload 5, 2) := by decide +kernel
theorem dL_law_561 : decode cL_law 561 = .ok (.if_icmp .eq 5, 3) := by decide +kernel
theorem dL_law_564 : decode cL_law 564 = .ok (.iconst 0, 1) := by decide +kernel
theorem dL_law_565 : decode cL_law 565 = .ok (.ireturn, 1) := by decide +kernel
theorem dL_law_566 : decode cL_law 566 = .ok (.iload 5, 2) := by decide +kernel
theorem dL_law_568 : decode cL_law 568 = .ok (.ifCond .ne 15, 3) := by decide +kernel
theorem dL_law_571 : decode cL_law 571 = .ok (.aload_n 3, 1) := by decide +kernel
theorem dL_law_572 : decode cL_law 572 = .ok (.iconst 0, 1) := by decide +kernel
theorem dL_law_573 : decode cL_law 573 = .ok (.laload, 1) := by decide +kernel
theorem dL_law_574 : decode cL_law 574 = .ok (.iload 6, 2) := by decide +kernel
theorem dL_law_576 : decode cL_law 576 = .ok (.i2l, 1) := by decide +kernel
theorem dL_law_577 : decode cL_law 577 = .ok (.lcmp, 1) := by decide +kernel
theorem dL_law_578 : decode cL_law 578 = .ok (.ifCond .eq 5, 3) := by decide +kernel
theorem dL_law_581 : decode cL_law 581 = .ok (.iconst 0, 1) := by decide +kernel
theorem dL_law_582 : decode cL_law 582 = .ok (.ireturn, 1) := by decide +kernel
theorem dL_law_583 : decode cL_law 583 = .ok (.goto 740, 3) := by decide +kernel
theorem dL_law_586 : decode cL_law 586 = .ok (.aload_n 1, 1) := by decide +kernel
theorem dL_law_587 : decode cL_law 587 = .ok (.invokevirtual 112, 3) := by decide +kernel
theorem dL_law_590 : decode cL_law 590 = .ok (.aload_n 2, 1) := by decide +kernel
theorem dL_law_591 : decode cL_law 591 = .ok (.invokevirtual 115, 3) := by decide +kernel
theorem dL_law_594 : decode cL_law 594 = .ok (.if_icmp .eq 729, 3) := by decide +kernel
theorem dL_law_597 : decode cL_law 597 = .ok (.iconst 0, 1) := by decide +kernel
theorem dL_law_598 : decode cL_law 598 = .ok (.ireturn, 1) := by decide +kernel
theorem dL_law_599 : decode cL_law 599 = .ok (.aload_n 1, 1) := by decide +kernel
theorem dL_law_600 : decode cL_law 600 = .ok (.aload_n 3, 1) := by decide +kernel
theorem dL_law_601 : decode cL_law 601 = .ok (.invokestatic 116, 3) := by decide +kernel
theorem dL_law_604 : decode cL_law 604 = .ok (.istore 5, 2) := by decide +kernel
theorem dL_law_606 : decode cL_law 606 = .ok (.aload_n 2, 1) := by decide +kernel
theorem dL_law_607 : decode cL_law 607 = .ok (.invokevirtual 118, 3) := by decide +kernel
theorem dL_law_610 : decode cL_law 610 = .ok (.istore 6, 2) := by decide +kernel
theorem dL_law_612 : decode cL_law 612 = .ok (.aload_n 2, 1) := by decide +kernel
theorem dL_law_613 : decode cL_law 613 = .ok (.invokevirtual 80, 3) := by decide +kernel
theorem dL_law_616 : decode cL_law 616 = .ok (.iload 5, 2) := by decide +kernel
theorem dL_law_618 : decode cL_law 618 = .ok (.if_icmp .eq 5, 3) := by decide +kernel
theorem dL_law_621 : decode cL_law 621 = .ok (.iconst 0, 1) := by decide +kernel
theorem dL_law_622 : decode cL_law 622 = .ok (.ireturn, 1) := by decide +kernel
theorem dL_law_623 : decode cL_law 623 = .ok (.iload 5, 2) := by decide +kernel
theorem dL_law_625 : decode cL_law 625 = .ok (.ifCond .ne 15, 3) := by decide +kernel
theorem dL_law_628 : decode cL_law 628 = .ok (.aload_n 3, 1) := by decide +kernel
theorem dL_law_629 : decode cL_law 629 = .ok (.iconst 0, 1) := by decide +kernel
theorem dL_law_630 : decode cL_law 630 = .ok (.laload, 1) := by decide +kernel
theorem dL_law_631 : decode cL_law 631 = .ok (.iload 6, 2) := by decide +kernel
theorem dL_law_633 : decode cL_law 633 = .ok (.i2l, 1) := by decide +kernel
theorem dL_law_634 : decode cL_law 634 = .ok (.lcmp, 1) := by decide +kernel
theorem dL_law_635 : decode cL_law 635 = .ok (.ifCond .eq 5, 3) := by decide +kernel
theorem dL_law_638 : decode cL_law 638 = .ok (.iconst 0, 1) := by decide +kernel
theorem dL_law_639 : decode cL_law 639 = .ok (.ireturn, 1) := by decide +kernel
theorem dL_law_640 : decode cL_law 640 = .ok (.goto 683, 3) := by decide +kernel
theorem dL_law_643 : decode cL_law 643 = .ok (.aload_n 1, 1) := by decide +kernel
theorem dL_law_644 : decode cL_law 644 = .ok (.aload_n 0, 1) := by decide +kernel
theorem dL_law_645 : decode cL_law 645 = .ok (.iload 4, 2) := by decide +kernel
theorem dL_law_647 : decode cL_law 647 = .ok (.iconst 1, 1) := by decide +kernel
theorem dL_law_648 : decode cL_law 648 = .ok (.iadd, 1) := by decide +kernel
theorem dL_law_649 : decode cL_law 649 = .ok (.iaload, 1) := by decide +kernel
theorem dL_law_650 : decode cL_law 650 = .ok (.aload_n 0, 1) := by decide +kernel
theorem dL_law_651 : decode cL_law 651 = .ok (.iload 4, 2) := by decide +kernel
theorem dL_law_653 : decode cL_law 653 = .ok (.iconst 2, 1) := by decide +kernel
theorem dL_law_654 : decode cL_law 654 = .ok (.iadd, 1) := by decide +kernel
theorem dL_law_655 : decode cL_law 655 = .ok (.iaload, 1) := by decide +kernel
theorem dL_law_656 : decode cL_law 656 = .ok (.aload_n 3, 1) := by decide +kernel
theorem dL_law_657 : decode cL_law 657 = .ok (.invokestatic 119, 3) := by decide +kernel
theorem dL_law_660 : decode cL_law 660 = .ok (.istore 5, 2) := by decide +kernel
theorem dL_law_662 : decode cL_law 662 = .ok (.aload_n 2, 1) := by decide +kernel
theorem dL_law_663 : decode cL_law 663 = .ok (.aload_n 0, 1) := by decide +kernel
theorem dL_law_664 : decode cL_law 664 = .ok (.iload 4, 2) := by decide +kernel
theorem dL_law_666 : decode cL_law 666 = .ok (.iconst 1, 1) := by decide +kernel
theorem dL_law_667 : decode cL_law 667 = .ok (.iadd, 1) := by decide +kernel
theorem dL_law_668 : decode cL_law 668 = .ok (.iaload, 1) := by decide +kernel
theorem dL_law_669 : decode cL_law 669 = .ok (.aload_n 0, 1) := by decide +kernel
theorem dL_law_670 : decode cL_law 670 = .ok (.iload 4, 2) := by decide +kernel
theorem dL_law_672 : decode cL_law 672 = .ok (.iconst 2, 1) := by decide +kernel
theorem dL_law_673 : decode cL_law 673 = .ok (.iadd, 1) := by decide +kernel
theorem dL_law_674 : decode cL_law 674 = .ok (.iaload, 1) := by decide +kernel
theorem dL_law_675 : decode cL_law 675 = .ok (.invokevirtual 121, 3) := by decide +kernel
theorem dL_law_678 : decode cL_law 678 = .ok (.istore 6, 2) := by decide +kernel
theorem dL_law_680 : decode cL_law 680 = .ok (.aload_n 2, 1) := by decide +kernel
theorem dL_law_681 : decode cL_law 681 = .ok (.invokevirtual 80, 3) := by decide +kernel
theorem dL_law_684 : decode cL_law 684 = .ok (.iload 5, 2) := by decide +kernel
theorem dL_law_686 : decode cL_law 686 = .ok (.if_icmp .eq 5, 3) := by decide +kernel
theorem dL_law_689 : decode cL_law 689 = .ok (.iconst 0, 1) := by decide +kernel
theorem dL_law_690 : decode cL_law 690 = .ok (.ireturn, 1) := by decide +kernel
theorem dL_law_691 : decode cL_law 691 = .ok (.iload 5, 2) := by decide +kernel
theorem dL_law_693 : decode cL_law 693 = .ok (.ifCond .ne 15, 3) := by decide +kernel
theorem dL_law_696 : decode cL_law 696 = .ok (.aload_n 3, 1) := by decide +kernel
theorem dL_law_697 : decode cL_law 697 = .ok (.iconst 0, 1) := by decide +kernel
theorem dL_law_698 : decode cL_law 698 = .ok (.laload, 1) := by decide +kernel
theorem dL_law_699 : decode cL_law 699 = .ok (.iload 6, 2) := by decide +kernel
theorem dL_law_701 : decode cL_law 701 = .ok (.i2l, 1) := by decide +kernel
theorem dL_law_702 : decode cL_law 702 = .ok (.lcmp, 1) := by decide +kernel
theorem dL_law_703 : decode cL_law 703 = .ok (.ifCond .eq 5, 3) := by decide +kernel
theorem dL_law_706 : decode cL_law 706 = .ok (.iconst 0, 1) := by decide +kernel
theorem dL_law_707 : decode cL_law 707 = .ok (.ireturn, 1) := by decide +kernel
theorem dL_law_708 : decode cL_law 708 = .ok (.goto 615, 3) := by decide +kernel
theorem dL_law_711 : decode cL_law 711 = .ok (.aload_n 1, 1) := by decide +kernel
theorem dL_law_712 : decode cL_law 712 = .ok (.aload_n 0, 1) := by decide +kernel
theorem dL_law_713 : decode cL_law 713 = .ok (.iload 4, 2) := by decide +kernel
theorem dL_law_715 : decode cL_law 715 = .ok (.iconst 1, 1) := by decide +kernel
theorem dL_law_716 : decode cL_law 716 = .ok (.iadd, 1) := by decide +kernel
theorem dL_law_717 : decode cL_law 717 = .ok (.iaload, 1) := by decide +kernel
theorem dL_law_718 : decode cL_law 718 = .ok (.aload_n 0, 1) := by decide +kernel
theorem dL_law_719 : decode cL_law 719 = .ok (.iload 4, 2) := by decide +kernel
theorem dL_law_721 : decode cL_law 721 = .ok (.iconst 2, 1) := by decide +kernel
theorem dL_law_722 : decode cL_law 722 = .ok (.iadd, 1) := by decide +kernel
theorem dL_law_723 : decode cL_law 723 = .ok (.iaload, 1) := by decide +kernel
theorem dL_law_724 : decode cL_law 724 = .ok (.aload_n 3, 1) := by decide +kernel
theorem dL_law_725 : decode cL_law 725 = .ok (.invokestatic 122, 3) := by decide +kernel
theorem dL_law_728 : decode cL_law 728 = .ok (.istore 5, 2) := by decide +kernel
theorem dL_law_730 : decode cL_law 730 = .ok (.aload_n 2, 1) := by decide +kernel
theorem dL_law_731 : decode cL_law 731 = .ok (.aload_n 0, 1) := by decide +kernel
theorem dL_law_732 : decode cL_law 732 = .ok (.iload 4, 2) := by decide +kernel
theorem dL_law_734 : decode cL_law 734 = .ok (.iconst 1, 1) := by decide +kernel
theorem dL_law_735 : decode cL_law 735 = .ok (.iadd, 1) := by decide +kernel
theorem dL_law_736 : decode cL_law 736 = .ok (.iaload, 1) := by decide +kernel
theorem dL_law_737 : decode cL_law 737 = .ok (.aload_n 0, 1) := by decide +kernel
theorem dL_law_738 : decode cL_law 738 = .ok (.iload 4, 2) := by decide +kernel
theorem dL_law_740 : decode cL_law 740 = .ok (.iconst 2, 1) := by decide +kernel
theorem dL_law_741 : decode cL_law 741 = .ok (.iadd, 1) := by decide +kernel
theorem dL_law_742 : decode cL_law 742 = .ok (.iaload, 1) := by decide +kernel
theorem dL_law_743 : decode cL_law 743 = .ok (.invokevirtual 124, 3) := by decide +kernel
theorem dL_law_746 : decode cL_law 746 = .ok (.istore 6, 2) := by decide +kernel
theorem dL_law_748 : decode cL_law 748 = .ok (.aload_n 2, 1) := by decide +kernel
theorem dL_law_749 : decode cL_law 749 = .ok (.invokevirtual 80, 3) := by decide +kernel
theorem dL_law_752 : decode cL_law 752 = .ok (.iload 5, 2) := by decide +kernel
theorem dL_law_754 : decode cL_law 754 = .ok (.if_icmp .eq 5, 3) := by decide +kernel
theorem dL_law_757 : decode cL_law 757 = .ok (.iconst 0, 1) := by decide +kernel
theorem dL_law_758 : decode cL_law 758 = .ok (.ireturn, 1) := by decide +kernel
theorem dL_law_759 : decode cL_law 759 = .ok (.iload 5, 2) := by decide +kernel
theorem dL_law_761 : decode cL_law 761 = .ok (.ifCond .ne 15, 3) := by decide +kernel
theorem dL_law_764 : decode cL_law 764 = .ok (.aload_n 3, 1) := by decide +kernel
theorem dL_law_765 : decode cL_law 765 = .ok (.iconst 0, 1) := by decide +kernel
theorem dL_law_766 : decode cL_law 766 = .ok (.laload, 1) := by decide +kernel
theorem dL_law_767 : decode cL_law 767 = .ok (.iload 6, 2) := by decide +kernel
theorem dL_law_769 : decode cL_law 769 = .ok (.i2l, 1) := by decide +kernel
theorem dL_law_770 : decode cL_law 770 = .ok (.lcmp, 1) := by decide +kernel
theorem dL_law_771 : decode cL_law 771 = .ok (.ifCond .eq 5, 3) := by decide +kernel
theorem dL_law_774 : decode cL_law 774 = .ok (.iconst 0, 1) := by decide +kernel
theorem dL_law_775 : decode cL_law 775 = .ok (.ireturn, 1) := by decide +kernel
theorem dL_law_776 : decode cL_law 776 = .ok (.goto 547, 3) := by decide +kernel
theorem dL_law_779 : decode cL_law 779 = .ok (.aload_n 1, 1) := by decide +kernel
theorem dL_law_780 : decode cL_law 780 = .ok (.aload_n 0, 1) := by decide +kernel
theorem dL_law_781 : decode cL_law 781 = .ok (.iload 4, 2) := by decide +kernel
theorem dL_law_783 : decode cL_law 783 = .ok (.iconst 1, 1) := by decide +kernel
theorem dL_law_784 : decode cL_law 784 = .ok (.iadd, 1) := by decide +kernel
theorem dL_law_785 : decode cL_law 785 = .ok (.iaload, 1) := by decide +kernel
theorem dL_law_786 : decode cL_law 786 = .ok (.aload_n 0, 1) := by decide +kernel
theorem dL_law_787 : decode cL_law 787 = .ok (.iload 4, 2) := by decide +kernel
theorem dL_law_789 : decode cL_law 789 = .ok (.iconst 2, 1) := by decide +kernel
theorem dL_law_790 : decode cL_law 790 = .ok (.iadd, 1) := by decide +kernel
theorem dL_law_791 : decode cL_law 791 = .ok (.iaload, 1) := by decide +kernel
theorem dL_law_792 : decode cL_law 792 = .ok (.aload_n 0, 1) := by decide +kernel
theorem dL_law_793 : decode cL_law 793 = .ok (.iload 4, 2) := by decide +kernel
theorem dL_law_795 : decode cL_law 795 = .ok (.iconst 3, 1) := by decide +kernel
theorem dL_law_796 : decode cL_law 796 = .ok (.iadd, 1) := by decide +kernel
theorem dL_law_797 : decode cL_law 797 = .ok (.iaload, 1) := by decide +kernel
theorem dL_law_798 : decode cL_law 798 = .ok (.aload_n 3, 1) := by decide +kernel
theorem dL_law_799 : decode cL_law 799 = .ok (.invokestatic 125, 3) := by decide +kernel
theorem dL_law_802 : decode cL_law 802 = .ok (.istore 5, 2) := by decide +kernel
theorem dL_law_804 : decode cL_law 804 = .ok (.aload_n 2, 1) := by decide +kernel
theorem dL_law_805 : decode cL_law 805 = .ok (.aload_n 0, 1) := by decide +kernel
theorem dL_law_806 : decode cL_law 806 = .ok (.iload 4, 2) := by decide +kernel
theorem dL_law_808 : decode cL_law 808 = .ok (.iconst 1, 1) := by decide +kernel
theorem dL_law_809 : decode cL_law 809 = .ok (.iadd, 1) := by decide +kernel
theorem dL_law_810 : decode cL_law 810 = .ok (.iaload, 1) := by decide +kernel
theorem dL_law_811 : decode cL_law 811 = .ok (.aload_n 0, 1) := by decide +kernel
theorem dL_law_812 : decode cL_law 812 = .ok (.iload 4, 2) := by decide +kernel
theorem dL_law_814 : decode cL_law 814 = .ok (.iconst 2, 1) := by decide +kernel
theorem dL_law_815 : decode cL_law 815 = .ok (.iadd, 1) := by decide +kernel
theorem dL_law_816 : decode cL_law 816 = .ok (.iaload, 1) := by decide +kernel
theorem dL_law_817 : decode cL_law 817 = .ok (.aload_n 0, 1) := by decide +kernel
theorem dL_law_818 : decode cL_law 818 = .ok (.iload 4, 2) := by decide +kernel
theorem dL_law_820 : decode cL_law 820 = .ok (.iconst 3, 1) := by decide +kernel
theorem dL_law_821 : decode cL_law 821 = .ok (.iadd, 1) := by decide +kernel
theorem dL_law_822 : decode cL_law 822 = .ok (.iaload, 1) := by decide +kernel
theorem dL_law_823 : decode cL_law 823 = .ok (.invokevirtual 127, 3) := by decide +kernel
theorem dL_law_826 : decode cL_law 826 = .ok (.istore 6, 2) := by decide +kernel
theorem dL_law_828 : decode cL_law 828 = .ok (.aload_n 2, 1) := by decide +kernel
theorem dL_law_829 : decode cL_law 829 = .ok (.invokevirtual 80, 3) := by decide +kernel
theorem dL_law_832 : decode cL_law 832 = .ok (.iload 5, 2) := by decide +kernel
theorem dL_law_834 : decode cL_law 834 = .ok (.if_icmp .eq 5, 3) := by decide +kernel
theorem dL_law_837 : decode cL_law 837 = .ok (.iconst 0, 1) := by decide +kernel
theorem dL_law_838 : decode cL_law 838 = .ok (.ireturn, 1) := by decide +kernel
theorem dL_law_839 : decode cL_law 839 = .ok (.iload 5, 2) := by decide +kernel
theorem dL_law_841 : decode cL_law 841 = .ok (.ifCond .ne 15, 3) := by decide +kernel
theorem dL_law_844 : decode cL_law 844 = .ok (.aload_n 3, 1) := by decide +kernel
theorem dL_law_845 : decode cL_law 845 = .ok (.iconst 0, 1) := by decide +kernel
theorem dL_law_846 : decode cL_law 846 = .ok (.laload, 1) := by decide +kernel
theorem dL_law_847 : decode cL_law 847 = .ok (.iload 6, 2) := by decide +kernel
theorem dL_law_849 : decode cL_law 849 = .ok (.i2l, 1) := by decide +kernel
theorem dL_law_850 : decode cL_law 850 = .ok (.lcmp, 1) := by decide +kernel
theorem dL_law_851 : decode cL_law 851 = .ok (.ifCond .eq 5, 3) := by decide +kernel
theorem dL_law_854 : decode cL_law 854 = .ok (.iconst 0, 1) := by decide +kernel
theorem dL_law_855 : decode cL_law 855 = .ok (.ireturn, 1) := by decide +kernel
theorem dL_law_856 : decode cL_law 856 = .ok (.goto 467, 3) := by decide +kernel
theorem dL_law_859 : decode cL_law 859 = .ok (.aload_n 1, 1) := by decide +kernel
theorem dL_law_860 : decode cL_law 860 = .ok (.aload_n 0, 1) := by decide +kernel
theorem dL_law_861 : decode cL_law 861 = .ok (.iload 4, 2) := by decide +kernel
theorem dL_law_863 : decode cL_law 863 = .ok (.iconst 1, 1) := by decide +kernel
theorem dL_law_864 : decode cL_law 864 = .ok (.iadd, 1) := by decide +kernel
theorem dL_law_865 : decode cL_law 865 = .ok (.iaload, 1) := by decide +kernel
theorem dL_law_866 : decode cL_law 866 = .ok (.aload_n 0, 1) := by decide +kernel
theorem dL_law_867 : decode cL_law 867 = .ok (.iload 4, 2) := by decide +kernel
theorem dL_law_869 : decode cL_law 869 = .ok (.iconst 2, 1) := by decide +kernel
theorem dL_law_870 : decode cL_law 870 = .ok (.iadd, 1) := by decide +kernel
theorem dL_law_871 : decode cL_law 871 = .ok (.iaload, 1) := by decide +kernel
theorem dL_law_872 : decode cL_law 872 = .ok (.aload_n 3, 1) := by decide +kernel
theorem dL_law_873 : decode cL_law 873 = .ok (.invokestatic 128, 3) := by decide +kernel
theorem dL_law_876 : decode cL_law 876 = .ok (.istore 5, 2) := by decide +kernel
theorem dL_law_878 : decode cL_law 878 = .ok (.aload_n 2, 1) := by decide +kernel
theorem dL_law_879 : decode cL_law 879 = .ok (.aload_n 0, 1) := by decide +kernel
theorem dL_law_880 : decode cL_law 880 = .ok (.iload 4, 2) := by decide +kernel
theorem dL_law_882 : decode cL_law 882 = .ok (.iconst 1, 1) := by decide +kernel
theorem dL_law_883 : decode cL_law 883 = .ok (.iadd, 1) := by decide +kernel
theorem dL_law_884 : decode cL_law 884 = .ok (.iaload, 1) := by decide +kernel
theorem dL_law_885 : decode cL_law 885 = .ok (.aload_n 0, 1) := by decide +kernel
theorem dL_law_886 : decode cL_law 886 = .ok (.iload 4, 2) := by decide +kernel
theorem dL_law_888 : decode cL_law 888 = .ok (.iconst 2, 1) := by decide +kernel
theorem dL_law_889 : decode cL_law 889 = .ok (.iadd, 1) := by decide +kernel
theorem dL_law_890 : decode cL_law 890 = .ok (.iaload, 1) := by decide +kernel
theorem dL_law_891 : decode cL_law 891 = .ok (.invokevirtual 130, 3) := by decide +kernel
theorem dL_law_894 : decode cL_law 894 = .ok (.istore 6, 2) := by decide +kernel
theorem dL_law_896 : decode cL_law 896 = .ok (.aload_n 2, 1) := by decide +kernel
theorem dL_law_897 : decode cL_law 897 = .ok (.invokevirtual 80, 3) := by decide +kernel
theorem dL_law_900 : decode cL_law 900 = .ok (.iload 5, 2) := by decide +kernel
theorem dL_law_902 : decode cL_law 902 = .ok (.if_icmp .eq 5, 3) := by decide +kernel
theorem dL_law_905 : decode cL_law 905 = .ok (.iconst 0, 1) := by decide +kernel
theorem dL_law_906 : decode cL_law 906 = .ok (.ireturn, 1) := by decide +kernel
theorem dL_law_907 : decode cL_law 907 = .ok (.iload 5, 2) := by decide +kernel
theorem dL_law_909 : decode cL_law 909 = .ok (.ifCond .ne 15, 3) := by decide +kernel
theorem dL_law_912 : decode cL_law 912 = .ok (.aload_n 3, 1) := by decide +kernel
theorem dL_law_913 : decode cL_law 913 = .ok (.iconst 0, 1) := by decide +kernel
theorem dL_law_914 : decode cL_law 914 = .ok (.laload, 1) := by decide +kernel
theorem dL_law_915 : decode cL_law 915 = .ok (.iload 6, 2) := by decide +kernel
theorem dL_law_917 : decode cL_law 917 = .ok (.i2l, 1) := by decide +kernel
theorem dL_law_918 : decode cL_law 918 = .ok (.lcmp, 1) := by decide +kernel
theorem dL_law_919 : decode cL_law 919 = .ok (.ifCond .eq 5, 3) := by decide +kernel
theorem dL_law_922 : decode cL_law 922 = .ok (.iconst 0, 1) := by decide +kernel
theorem dL_law_923 : decode cL_law 923 = .ok (.ireturn, 1) := by decide +kernel
theorem dL_law_924 : decode cL_law 924 = .ok (.goto 399, 3) := by decide +kernel
theorem dL_law_927 : decode cL_law 927 = .ok (.aload_n 1, 1) := by decide +kernel
theorem dL_law_928 : decode cL_law 928 = .ok (.aload_n 0, 1) := by decide +kernel
theorem dL_law_929 : decode cL_law 929 = .ok (.iload 4, 2) := by decide +kernel
theorem dL_law_931 : decode cL_law 931 = .ok (.iconst 1, 1) := by decide +kernel
theorem dL_law_932 : decode cL_law 932 = .ok (.iadd, 1) := by decide +kernel
theorem dL_law_933 : decode cL_law 933 = .ok (.iaload, 1) := by decide +kernel
theorem dL_law_934 : decode cL_law 934 = .ok (.aload_n 0, 1) := by decide +kernel
theorem dL_law_935 : decode cL_law 935 = .ok (.iload 4, 2) := by decide +kernel
theorem dL_law_937 : decode cL_law 937 = .ok (.iconst 2, 1) := by decide +kernel
theorem dL_law_938 : decode cL_law 938 = .ok (.iadd, 1) := by decide +kernel
theorem dL_law_939 : decode cL_law 939 = .ok (.iaload, 1) := by decide +kernel
theorem dL_law_940 : decode cL_law 940 = .ok (.aload_n 0, 1) := by decide +kernel
theorem dL_law_941 : decode cL_law 941 = .ok (.iload 4, 2) := by decide +kernel
theorem dL_law_943 : decode cL_law 943 = .ok (.iconst 3, 1) := by decide +kernel
theorem dL_law_944 : decode cL_law 944 = .ok (.iadd, 1) := by decide +kernel
theorem dL_law_945 : decode cL_law 945 = .ok (.iaload, 1) := by decide +kernel
theorem dL_law_946 : decode cL_law 946 = .ok (.aload_n 3, 1) := by decide +kernel
theorem dL_law_947 : decode cL_law 947 = .ok (.invokestatic 131, 3) := by decide +kernel
theorem dL_law_950 : decode cL_law 950 = .ok (.istore 5, 2) := by decide +kernel
theorem dL_law_952 : decode cL_law 952 = .ok (.aload_n 2, 1) := by decide +kernel
theorem dL_law_953 : decode cL_law 953 = .ok (.aload_n 0, 1) := by decide +kernel
theorem dL_law_954 : decode cL_law 954 = .ok (.iload 4, 2) := by decide +kernel
theorem dL_law_956 : decode cL_law 956 = .ok (.iconst 1, 1) := by decide +kernel
theorem dL_law_957 : decode cL_law 957 = .ok (.iadd, 1) := by decide +kernel
theorem dL_law_958 : decode cL_law 958 = .ok (.iaload, 1) := by decide +kernel
theorem dL_law_959 : decode cL_law 959 = .ok (.aload_n 0, 1) := by decide +kernel
theorem dL_law_960 : decode cL_law 960 = .ok (.iload 4, 2) := by decide +kernel
theorem dL_law_962 : decode cL_law 962 = .ok (.iconst 2, 1) := by decide +kernel
theorem dL_law_963 : decode cL_law 963 = .ok (.iadd, 1) := by decide +kernel
theorem dL_law_964 : decode cL_law 964 = .ok (.iaload, 1) := by decide +kernel
theorem dL_law_965 : decode cL_law 965 = .ok (.aload_n 0, 1) := by decide +kernel
theorem dL_law_966 : decode cL_law 966 = .ok (.iload 4, 2) := by decide +kernel
theorem dL_law_968 : decode cL_law 968 = .ok (.iconst 3, 1) := by decide +kernel
theorem dL_law_969 : decode cL_law 969 = .ok (.iadd, 1) := by decide +kernel
theorem dL_law_970 : decode cL_law 970 = .ok (.iaload, 1) := by decide +kernel
theorem dL_law_971 : decode cL_law 971 = .ok (.invokevirtual 133, 3) := by decide +kernel
theorem dL_law_974 : decode cL_law 974 = .ok (.istore 6, 2) := by decide +kernel
theorem dL_law_976 : decode cL_law 976 = .ok (.aload_n 2, 1) := by decide +kernel
theorem dL_law_977 : decode cL_law 977 = .ok (.invokevirtual 80, 3) := by decide +kernel
theorem dL_law_980 : decode cL_law 980 = .ok (.iload 5, 2) := by decide +kernel
theorem dL_law_982 : decode cL_law 982 = .ok (.if_icmp .eq 5, 3) := by decide +kernel
theorem dL_law_985 : decode cL_law 985 = .ok (.iconst 0, 1) := by decide +kernel
theorem dL_law_986 : decode cL_law 986 = .ok (.ireturn, 1) := by decide +kernel
theorem dL_law_987 : decode cL_law 987 = .ok (.iload 5, 2) := by decide +kernel
theorem dL_law_989 : decode cL_law 989 = .ok (.ifCond .ne 15, 3) := by decide +kernel
theorem dL_law_992 : decode cL_law 992 = .ok (.aload_n 3, 1) := by decide +kernel
theorem dL_law_993 : decode cL_law 993 = .ok (.iconst 0, 1) := by decide +kernel
theorem dL_law_994 : decode cL_law 994 = .ok (.laload, 1) := by decide +kernel
theorem dL_law_995 : decode cL_law 995 = .ok (.iload 6, 2) := by decide +kernel
theorem dL_law_997 : decode cL_law 997 = .ok (.i2l, 1) := by decide +kernel
theorem dL_law_998 : decode cL_law 998 = .ok (.lcmp, 1) := by decide +kernel
theorem dL_law_999 : decode cL_law 999 = .ok (.ifCond .eq 5, 3) := by decide +kernel
theorem dL_law_1002 : decode cL_law 1002 = .ok (.iconst 0, 1) := by decide +kernel
theorem dL_law_1003 : decode cL_law 1003 = .ok (.ireturn, 1) := by decide +kernel
theorem dL_law_1004 : decode cL_law 1004 = .ok (.goto 319, 3) := by decide +kernel
theorem dL_law_1007 : decode cL_law 1007 = .ok (.aload_n 1, 1) := by decide +kernel
theorem dL_law_1008 : decode cL_law 1008 = .ok (.aload_n 0, 1) := by decide +kernel
theorem dL_law_1009 : decode cL_law 1009 = .ok (.iload 4, 2) := by decide +kernel
theorem dL_law_1011 : decode cL_law 1011 = .ok (.iconst 1, 1) := by decide +kernel
theorem dL_law_1012 : decode cL_law 1012 = .ok (.iadd, 1) := by decide +kernel
theorem dL_law_1013 : decode cL_law 1013 = .ok (.iaload, 1) := by decide +kernel
theorem dL_law_1014 : decode cL_law 1014 = .ok (.aload_n 3, 1) := by decide +kernel
theorem dL_law_1015 : decode cL_law 1015 = .ok (.invokestatic 134, 3) := by decide +kernel
theorem dL_law_1018 : decode cL_law 1018 = .ok (.istore 5, 2) := by decide +kernel
theorem dL_law_1020 : decode cL_law 1020 = .ok (.aload_n 2, 1) := by decide +kernel
theorem dL_law_1021 : decode cL_law 1021 = .ok (.aload_n 0, 1) := by decide +kernel
theorem dL_law_1022 : decode cL_law 1022 = .ok (.iload 4, 2) := by decide +kernel
theorem dL_law_1024 : decode cL_law 1024 = .ok (.iconst 1, 1) := by decide +kernel
theorem dL_law_1025 : decode cL_law 1025 = .ok (.iadd, 1) := by decide +kernel
theorem dL_law_1026 : decode cL_law 1026 = .ok (.iaload, 1) := by decide +kernel
theorem dL_law_1027 : decode cL_law 1027 = .ok (.invokevirtual 136, 3) := by decide +kernel
theorem dL_law_1030 : decode cL_law 1030 = .ok (.istore 6, 2) := by decide +kernel
theorem dL_law_1032 : decode cL_law 1032 = .ok (.aload_n 2, 1) := by decide +kernel
theorem dL_law_1033 : decode cL_law 1033 = .ok (.invokevirtual 80, 3) := by decide +kernel
theorem dL_law_1036 : decode cL_law 1036 = .ok (.iload 5, 2) := by decide +kernel
theorem dL_law_1038 : decode cL_law 1038 = .ok (.if_icmp .eq 5, 3) := by decide +kernel
theorem dL_law_1041 : decode cL_law 1041 = .ok (.iconst 0, 1) := by decide +kernel
theorem dL_law_1042 : decode cL_law 1042 = .ok (.ireturn, 1) := by decide +kernel
theorem dL_law_1043 : decode cL_law 1043 = .ok (.iload 5, 2) := by decide +kernel
theorem dL_law_1045 : decode cL_law 1045 = .ok (.ifCond .ne 15, 3) := by decide +kernel
theorem dL_law_1048 : decode cL_law 1048 = .ok (.aload_n 3, 1) := by decide +kernel
theorem dL_law_1049 : decode cL_law 1049 = .ok (.iconst 0, 1) := by decide +kernel
theorem dL_law_1050 : decode cL_law 1050 = .ok (.laload, 1) := by decide +kernel
theorem dL_law_1051 : decode cL_law 1051 = .ok (.iload 6, 2) := by decide +kernel
theorem dL_law_1053 : decode cL_law 1053 = .ok (.i2l, 1) := by decide +kernel
theorem dL_law_1054 : decode cL_law 1054 = .ok (.lcmp, 1) := by decide +kernel
theorem dL_law_1055 : decode cL_law 1055 = .ok (.ifCond .eq 5, 3) := by decide +kernel
theorem dL_law_1058 : decode cL_law 1058 = .ok (.iconst 0, 1) := by decide +kernel
theorem dL_law_1059 : decode cL_law 1059 = .ok (.ireturn, 1) := by decide +kernel
theorem dL_law_1060 : decode cL_law 1060 = .ok (.goto 263, 3) := by decide +kernel
theorem dL_law_1063 : decode cL_law 1063 = .ok (.aload_n 1, 1) := by decide +kernel
theorem dL_law_1064 : decode cL_law 1064 = .ok (.aload_n 0, 1) := by decide +kernel
theorem dL_law_1065 : decode cL_law 1065 = .ok (.iload 4, 2) := by decide +kernel
theorem dL_law_1067 : decode cL_law 1067 = .ok (.iconst 1, 1) := by decide +kernel
theorem dL_law_1068 : decode cL_law 1068 = .ok (.iadd, 1) := by decide +kernel
theorem dL_law_1069 : decode cL_law 1069 = .ok (.iaload, 1) := by decide +kernel
theorem dL_law_1070 : decode cL_law 1070 = .ok (.aload_n 0, 1) := by decide +kernel
theorem dL_law_1071 : decode cL_law 1071 = .ok (.iload 4, 2) := by decide +kernel
theorem dL_law_1073 : decode cL_law 1073 = .ok (.iconst 2, 1) := by decide +kernel
theorem dL_law_1074 : decode cL_law 1074 = .ok (.iadd, 1) := by decide +kernel
theorem dL_law_1075 : decode cL_law 1075 = .ok (.iaload, 1) := by decide +kernel
theorem dL_law_1076 : decode cL_law 1076 = .ok (.aload_n 3, 1) := by decide +kernel
theorem dL_law_1077 : decode cL_law 1077 = .ok (.invokestatic 137, 3) := by decide +kernel
theorem dL_law_1080 : decode cL_law 1080 = .ok (.istore 5, 2) := by decide +kernel
theorem dL_law_1082 : decode cL_law 1082 = .ok (.aload_n 2, 1) := by decide +kernel
theorem dL_law_1083 : decode cL_law 1083 = .ok (.aload_n 0, 1) := by decide +kernel
theorem dL_law_1084 : decode cL_law 1084 = .ok (.iload 4, 2) := by decide +kernel
theorem dL_law_1086 : decode cL_law 1086 = .ok (.iconst 1, 1) := by decide +kernel
theorem dL_law_1087 : decode cL_law 1087 = .ok (.iadd, 1) := by decide +kernel
theorem dL_law_1088 : decode cL_law 1088 = .ok (.iaload, 1) := by decide +kernel
theorem dL_law_1089 : decode cL_law 1089 = .ok (.aload_n 0, 1) := by decide +kernel
theorem dL_law_1090 : decode cL_law 1090 = .ok (.iload 4, 2) := by decide +kernel
theorem dL_law_1092 : decode cL_law 1092 = .ok (.iconst 2, 1) := by decide +kernel
theorem dL_law_1093 : decode cL_law 1093 = .ok (.iadd, 1) := by decide +kernel
theorem dL_law_1094 : decode cL_law 1094 = .ok (.iaload, 1) := by decide +kernel
theorem dL_law_1095 : decode cL_law 1095 = .ok (.invokevirtual 139, 3) := by decide +kernel
theorem dL_law_1098 : decode cL_law 1098 = .ok (.istore 6, 2) := by decide +kernel
theorem dL_law_1100 : decode cL_law 1100 = .ok (.aload_n 2, 1) := by decide +kernel
theorem dL_law_1101 : decode cL_law 1101 = .ok (.invokevirtual 80, 3) := by decide +kernel
theorem dL_law_1104 : decode cL_law 1104 = .ok (.iload 5, 2) := by decide +kernel
theorem dL_law_1106 : decode cL_law 1106 = .ok (.if_icmp .eq 5, 3) := by decide +kernel
theorem dL_law_1109 : decode cL_law 1109 = .ok (.iconst 0, 1) := by decide +kernel
theorem dL_law_1110 : decode cL_law 1110 = .ok (.ireturn, 1) := by decide +kernel
theorem dL_law_1111 : decode cL_law 1111 = .ok (.iload 5, 2) := by decide +kernel
theorem dL_law_1113 : decode cL_law 1113 = .ok (.ifCond .ne 15, 3) := by decide +kernel
theorem dL_law_1116 : decode cL_law 1116 = .ok (.aload_n 3, 1) := by decide +kernel
theorem dL_law_1117 : decode cL_law 1117 = .ok (.iconst 0, 1) := by decide +kernel
theorem dL_law_1118 : decode cL_law 1118 = .ok (.laload, 1) := by decide +kernel
theorem dL_law_1119 : decode cL_law 1119 = .ok (.iload 6, 2) := by decide +kernel
theorem dL_law_1121 : decode cL_law 1121 = .ok (.i2l, 1) := by decide +kernel
theorem dL_law_1122 : decode cL_law 1122 = .ok (.lcmp, 1) := by decide +kernel
theorem dL_law_1123 : decode cL_law 1123 = .ok (.ifCond .eq 5, 3) := by decide +kernel
theorem dL_law_1126 : decode cL_law 1126 = .ok (.iconst 0, 1) := by decide +kernel
theorem dL_law_1127 : decode cL_law 1127 = .ok (.ireturn, 1) := by decide +kernel
theorem dL_law_1128 : decode cL_law 1128 = .ok (.goto 195, 3) := by decide +kernel
theorem dL_law_1131 : decode cL_law 1131 = .ok (.aload_n 1, 1) := by decide +kernel
theorem dL_law_1132 : decode cL_law 1132 = .ok (.aload_n 0, 1) := by decide +kernel
theorem dL_law_1133 : decode cL_law 1133 = .ok (.iload 4, 2) := by decide +kernel
theorem dL_law_1135 : decode cL_law 1135 = .ok (.iconst 1, 1) := by decide +kernel
theorem dL_law_1136 : decode cL_law 1136 = .ok (.iadd, 1) := by decide +kernel
theorem dL_law_1137 : decode cL_law 1137 = .ok (.iaload, 1) := by decide +kernel
theorem dL_law_1138 : decode cL_law 1138 = .ok (.aload_n 3, 1) := by decide +kernel
theorem dL_law_1139 : decode cL_law 1139 = .ok (.invokestatic 140, 3) := by decide +kernel
theorem dL_law_1142 : decode cL_law 1142 = .ok (.istore 5, 2) := by decide +kernel
theorem dL_law_1144 : decode cL_law 1144 = .ok (.aload_n 2, 1) := by decide +kernel
theorem dL_law_1145 : decode cL_law 1145 = .ok (.aload_n 0, 1) := by decide +kernel
theorem dL_law_1146 : decode cL_law 1146 = .ok (.iload 4, 2) := by decide +kernel
theorem dL_law_1148 : decode cL_law 1148 = .ok (.iconst 1, 1) := by decide +kernel
theorem dL_law_1149 : decode cL_law 1149 = .ok (.iadd, 1) := by decide +kernel
theorem dL_law_1150 : decode cL_law 1150 = .ok (.iaload, 1) := by decide +kernel
theorem dL_law_1151 : decode cL_law 1151 = .ok (.invokevirtual 142, 3) := by decide +kernel
theorem dL_law_1154 : decode cL_law 1154 = .ok (.istore 6, 2) := by decide +kernel
theorem dL_law_1156 : decode cL_law 1156 = .ok (.aload_n 2, 1) := by decide +kernel
theorem dL_law_1157 : decode cL_law 1157 = .ok (.invokevirtual 80, 3) := by decide +kernel
theorem dL_law_1160 : decode cL_law 1160 = .ok (.iload 5, 2) := by decide +kernel
theorem dL_law_1162 : decode cL_law 1162 = .ok (.if_icmp .eq 5, 3) := by decide +kernel
theorem dL_law_1165 : decode cL_law 1165 = .ok (.iconst 0, 1) := by decide +kernel
theorem dL_law_1166 : decode cL_law 1166 = .ok (.ireturn, 1) := by decide +kernel
theorem dL_law_1167 : decode cL_law 1167 = .ok (.iload 5, 2) := by decide +kernel
theorem dL_law_1169 : decode cL_law 1169 = .ok (.ifCond .ne 15, 3) := by decide +kernel
theorem dL_law_1172 : decode cL_law 1172 = .ok (.aload_n 3, 1) := by decide +kernel
theorem dL_law_1173 : decode cL_law 1173 = .ok (.iconst 0, 1) := by decide +kernel
theorem dL_law_1174 : decode cL_law 1174 = .ok (.laload, 1) := by decide +kernel
theorem dL_law_1175 : decode cL_law 1175 = .ok (.iload 6, 2) := by decide +kernel
theorem dL_law_1177 : decode cL_law 1177 = .ok (.i2l, 1) := by decide +kernel
theorem dL_law_1178 : decode cL_law 1178 = .ok (.lcmp, 1) := by decide +kernel
theorem dL_law_1179 : decode cL_law 1179 = .ok (.ifCond .eq 5, 3) := by decide +kernel
theorem dL_law_1182 : decode cL_law 1182 = .ok (.iconst 0, 1) := by decide +kernel
theorem dL_law_1183 : decode cL_law 1183 = .ok (.ireturn, 1) := by decide +kernel
theorem dL_law_1184 : decode cL_law 1184 = .ok (.goto 139, 3) := by decide +kernel
theorem dL_law_1187 : decode cL_law 1187 = .ok (.aload_n 1, 1) := by decide +kernel
theorem dL_law_1188 : decode cL_law 1188 = .ok (.aload_n 0, 1) := by decide +kernel
theorem dL_law_1189 : decode cL_law 1189 = .ok (.iload 4, 2) := by decide +kernel
theorem dL_law_1191 : decode cL_law 1191 = .ok (.iconst 1, 1) := by decide +kernel
theorem dL_law_1192 : decode cL_law 1192 = .ok (.iadd, 1) := by decide +kernel
theorem dL_law_1193 : decode cL_law 1193 = .ok (.iaload, 1) := by decide +kernel
theorem dL_law_1194 : decode cL_law 1194 = .ok (.aload_n 0, 1) := by decide +kernel
theorem dL_law_1195 : decode cL_law 1195 = .ok (.iload 4, 2) := by decide +kernel
theorem dL_law_1197 : decode cL_law 1197 = .ok (.iconst 2, 1) := by decide +kernel
theorem dL_law_1198 : decode cL_law 1198 = .ok (.iadd, 1) := by decide +kernel
theorem dL_law_1199 : decode cL_law 1199 = .ok (.iaload, 1) := by decide +kernel
theorem dL_law_1200 : decode cL_law 1200 = .ok (.aload_n 3, 1) := by decide +kernel
theorem dL_law_1201 : decode cL_law 1201 = .ok (.invokestatic 143, 3) := by decide +kernel
theorem dL_law_1204 : decode cL_law 1204 = .ok (.istore 5, 2) := by decide +kernel
theorem dL_law_1206 : decode cL_law 1206 = .ok (.aload_n 2, 1) := by decide +kernel
theorem dL_law_1207 : decode cL_law 1207 = .ok (.aload_n 0, 1) := by decide +kernel
theorem dL_law_1208 : decode cL_law 1208 = .ok (.iload 4, 2) := by decide +kernel
theorem dL_law_1210 : decode cL_law 1210 = .ok (.iconst 1, 1) := by decide +kernel
theorem dL_law_1211 : decode cL_law 1211 = .ok (.iadd, 1) := by decide +kernel
theorem dL_law_1212 : decode cL_law 1212 = .ok (.iaload, 1) := by decide +kernel
theorem dL_law_1213 : decode cL_law 1213 = .ok (.aload_n 0, 1) := by decide +kernel
theorem dL_law_1214 : decode cL_law 1214 = .ok (.iload 4, 2) := by decide +kernel
theorem dL_law_1216 : decode cL_law 1216 = .ok (.iconst 2, 1) := by decide +kernel
theorem dL_law_1217 : decode cL_law 1217 = .ok (.iadd, 1) := by decide +kernel
theorem dL_law_1218 : decode cL_law 1218 = .ok (.iaload, 1) := by decide +kernel
theorem dL_law_1219 : decode cL_law 1219 = .ok (.invokevirtual 145, 3) := by decide +kernel
theorem dL_law_1222 : decode cL_law 1222 = .ok (.istore 6, 2) := by decide +kernel
theorem dL_law_1224 : decode cL_law 1224 = .ok (.aload_n 2, 1) := by decide +kernel
theorem dL_law_1225 : decode cL_law 1225 = .ok (.invokevirtual 80, 3) := by decide +kernel
theorem dL_law_1228 : decode cL_law 1228 = .ok (.iload 5, 2) := by decide +kernel
theorem dL_law_1230 : decode cL_law 1230 = .ok (.if_icmp .eq 5, 3) := by decide +kernel
theorem dL_law_1233 : decode cL_law 1233 = .ok (.iconst 0, 1) := by decide +kernel
theorem dL_law_1234 : decode cL_law 1234 = .ok (.ireturn, 1) := by decide +kernel
theorem dL_law_1235 : decode cL_law 1235 = .ok (.iload 5, 2) := by decide +kernel
theorem dL_law_1237 : decode cL_law 1237 = .ok (.ifCond .ne 15, 3) := by decide +kernel
theorem dL_law_1240 : decode cL_law 1240 = .ok (.aload_n 3, 1) := by decide +kernel
theorem dL_law_1241 : decode cL_law 1241 = .ok (.iconst 0, 1) := by decide +kernel
theorem dL_law_1242 : decode cL_law 1242 = .ok (.laload, 1) := by decide +kernel
theorem dL_law_1243 : decode cL_law 1243 = .ok (.iload 6, 2) := by decide +kernel
theorem dL_law_1245 : decode cL_law 1245 = .ok (.i2l, 1) := by decide +kernel
theorem dL_law_1246 : decode cL_law 1246 = .ok (.lcmp, 1) := by decide +kernel
theorem dL_law_1247 : decode cL_law 1247 = .ok (.ifCond .eq 5, 3) := by decide +kernel
theorem dL_law_1250 : decode cL_law 1250 = .ok (.iconst 0, 1) := by decide +kernel
theorem dL_law_1251 : decode cL_law 1251 = .ok (.ireturn, 1) := by decide +kernel
theorem dL_law_1252 : decode cL_law 1252 = .ok (.goto 71, 3) := by decide +kernel
theorem dL_law_1255 : decode cL_law 1255 = .ok (.aload_n 1, 1) := by decide +kernel
theorem dL_law_1256 : decode cL_law 1256 = .ok (.invokevirtual 146, 3) := by decide +kernel
theorem dL_law_1259 : decode cL_law 1259 = .ok (.aload_n 2, 1) := by decide +kernel
theorem dL_law_1260 : decode cL_law 1260 = .ok (.invokevirtual 149, 3) := by decide +kernel
theorem dL_law_1263 : decode cL_law 1263 = .ok (.if_icmp .eq 60, 3) := by decide +kernel
theorem dL_law_1266 : decode cL_law 1266 = .ok (.iconst 0, 1) := by decide +kernel
theorem dL_law_1267 : decode cL_law 1267 = .ok (.ireturn, 1) := by decide +kernel
theorem dL_law_1268 : decode cL_law 1268 = .ok (.aload_n 1, 1) := by decide +kernel
theorem dL_law_1269 : decode cL_law 1269 = .ok (.invokevirtual 150, 3) := by decide +kernel
theorem dL_law_1272 : decode cL_law 1272 = .ok (.dstore 5, 2) := by decide +kernel
theorem dL_law_1274 : decode cL_law 1274 = .ok (.aload_n 2, 1) := by decide +kernel
theorem dL_law_1275 : decode cL_law 1275 = .ok (.invokevirtual 154, 3) := by decide +kernel
theorem dL_law_1278 : decode cL_law 1278 = .ok (.dstore 7, 2) := by decide +kernel
theorem dL_law_1280 : decode cL_law 1280 = .ok (.dload 5, 2) := by decide +kernel
theorem dL_law_1282 : decode cL_law 1282 = .ok (.dload 7, 2) := by decide +kernel
theorem dL_law_1284 : decode cL_law 1284 = .ok (.dcmp .l, 1) := by decide +kernel
theorem dL_law_1285 : decode cL_law 1285 = .ok (.ifCond .eq 21, 3) := by decide +kernel
theorem dL_law_1288 : decode cL_law 1288 = .ok (.dload 5, 2) := by decide +kernel
theorem dL_law_1290 : decode cL_law 1290 = .ok (.dload 5, 2) := by decide +kernel
theorem dL_law_1292 : decode cL_law 1292 = .ok (.dcmp .l, 1) := by decide +kernel
theorem dL_law_1293 : decode cL_law 1293 = .ok (.ifCond .eq 11, 3) := by decide +kernel
theorem dL_law_1296 : decode cL_law 1296 = .ok (.dload 7, 2) := by decide +kernel
theorem dL_law_1298 : decode cL_law 1298 = .ok (.dload 7, 2) := by decide +kernel
theorem dL_law_1300 : decode cL_law 1300 = .ok (.dcmp .l, 1) := by decide +kernel
theorem dL_law_1301 : decode cL_law 1301 = .ok (.ifCond .ne 5, 3) := by decide +kernel
theorem dL_law_1304 : decode cL_law 1304 = .ok (.iconst 0, 1) := by decide +kernel
theorem dL_law_1305 : decode cL_law 1305 = .ok (.ireturn, 1) := by decide +kernel
theorem dL_law_1306 : decode cL_law 1306 = .ok (.goto 17, 3) := by decide +kernel
theorem dL_law_1309 : decode cL_law 1309 = .ok (.aload_n 1, 1) := by decide +kernel
theorem dL_law_1310 : decode cL_law 1310 = .ok (.invokevirtual 155, 3) := by decide +kernel
theorem dL_law_1313 : decode cL_law 1313 = .ok (.aload_n 2, 1) := by decide +kernel
theorem dL_law_1314 : decode cL_law 1314 = .ok (.invokevirtual 159, 3) := by decide +kernel
theorem dL_law_1317 : decode cL_law 1317 = .ok (.lcmp, 1) := by decide +kernel
theorem dL_law_1318 : decode cL_law 1318 = .ok (.ifCond .eq 5, 3) := by decide +kernel
theorem dL_law_1321 : decode cL_law 1321 = .ok (.iconst 0, 1) := by decide +kernel
theorem dL_law_1322 : decode cL_law 1322 = .ok (.ireturn, 1) := by decide +kernel
theorem dL_law_1323 : decode cL_law 1323 = .ok (.iinc 4 4, 3) := by decide +kernel
theorem dL_law_1326 : decode cL_law 1326 = .ok (.goto (-1303), 3) := by decide +kernel
theorem dL_law_1329 : decode cL_law 1329 = .ok (.iconst 1, 1) := by decide +kernel
theorem dL_law_1330 : decode cL_law 1330 = .ok (.ireturn, 1) := by decide +kernel
end
section
/-! ===== X: values, memory, the world ===== -/
abbrev xV : Type := Int ⊕ (Int64 ⊕ (UInt64 ⊕ Option Nat))
abbrev vi (x : Int) : xV := Sum.inl x
abbrev vl (x : Int64) : xV := Sum.inr (Sum.inl x)
abbrev vd (x : UInt64) : xV := Sum.inr (Sum.inr (Sum.inl x))
abbrev vr (r : Option Nat) : xV := Sum.inr (Sum.inr (Sum.inr r))
abbrev rf (a : Nat) : xV := vr (some a)
def xc : xV → Value
  | .inl x => .int (Int32.ofInt x)
  | .inr (.inl x) => .long x
  | .inr (.inr (.inl x)) => .double x
  | .inr (.inr (.inr r)) => va_rf r
def xcat : xV → Nat
  | .inl _ => 1
  | .inr (.inl _) => 2
  | .inr (.inr (.inl _)) => 2
  | .inr (.inr (.inr _)) => 1
theorem xc_cat (v : xV) : (xc v).category = xcat v := by
  rcases v with x | x | x | _ | x <;> rfl
/-- the memory: the next address, kinds and lengths, ints, references, longs -/
abbrev xM : Type := Nat × (Nat → Option (Nat × Nat)) × (Nat → Int → Int) × (Nat → Int → Option Nat) × (Nat → Int → Int64)
def mN (h : xM) : Nat := h.1
def mT (h : xM) : Nat → Option (Nat × Nat) := h.2.1
def mI (h : xM) : Nat → Int → Int := h.2.2.1
def mR (h : xM) : Nat → Int → Option Nat := h.2.2.2.1
def mL (h : xM) : Nat → Int → Int64 := h.2.2.2.2
def sI (h : xM) (a : Nat) (k x : Int) : xM := (h.1, h.2.1, (fun b j => if b = a ∧ j = k then x else h.2.2.1 b j), h.2.2.2.1, h.2.2.2.2)
def sR (h : xM) (a : Nat) (k : Int) (x : Option Nat) : xM := (h.1, h.2.1, h.2.2.1, (fun b j => if b = a ∧ j = k then x else h.2.2.2.1 b j), h.2.2.2.2)
def sL (h : xM) (a : Nat) (k : Int) (x : Int64) : xM := (h.1, h.2.1, h.2.2.1, h.2.2.2.1, (fun b j => if b = a ∧ j = k then x else h.2.2.2.2 b j))
/-- a run of ints copied -/
def cI (h : xM) (src : Nat) (sp : Int) (dst : Nat) (dp n : Int) : xM := (h.1, h.2.1, (fun b j => if b = dst ∧ dp ≤ j ∧ j < dp + n then h.2.2.1 src (sp + (j - dp)) else h.2.2.1 b j), h.2.2.2.1, h.2.2.2.2)
/-- a new cell, all zero -/
def aL (h : xM) (t n : Nat) : xM := (h.1 + 1, (fun b => if b = h.1 then some (t, n) else h.2.1 b), (fun b j => if b = h.1 then 0 else h.2.2.1 b j), (fun b j => if b = h.1 then none else h.2.2.2.1 b j), (fun b j => if b = h.1 then 0 else h.2.2.2.2 b j))
/-- a new row of rows: the outer one, then k inner ones -/
def aM (h : xM) (k n : Nat) : xM := (h.1 + 1 + k, (fun b => if b = h.1 then some (13, k) else if h.1 < b ∧ b < h.1 + 1 + k then some (10, n) else h.2.1 b), (fun b j => if h.1 ≤ b ∧ b < h.1 + 1 + k then 0 else h.2.2.1 b j),
  (fun b j => if b = h.1 then (if 0 ≤ j ∧ j < k then some (h.1 + 1 + j.toNat) else none) else if h.1 < b ∧ b < h.1 + 1 + k then none else h.2.2.2.1 b j), (fun b j => if h.1 ≤ b ∧ b < h.1 + 1 + k then 0 else h.2.2.2.2 b j))
/-- the same memory, with room taken behind it -/
def gN (h : xM) (n : Nat) : xM := (n, h.2)
def inR (x : Int) : Prop := -2147483648 ≤ x ∧ x < 2147483648
theorem inR_ofInt {x : Int} (h : inR x) : (Int32.ofInt x).toInt = x := Int32.toInt_ofInt_of_le h.1 h.2
theorem x_lt {x y : Int} (hx : inR x) (hy : inR y) : (Int32.ofInt x < Int32.ofInt y) ↔ x < y := by
  rw [Int32.lt_iff_toInt_lt, inR_ofInt hx, inR_ofInt hy]
theorem x_le {x y : Int} (hx : inR x) (hy : inR y) : (Int32.ofInt x ≤ Int32.ofInt y) ↔ x ≤ y := by
  rw [Int32.le_iff_toInt_le, inR_ofInt hx, inR_ofInt hy]
theorem x_eq {x y : Int} (hx : inR x) (hy : inR y) : (Int32.ofInt x = Int32.ofInt y) ↔ x = y := by
  rw [← Int32.toInt_inj, inR_ofInt hx, inR_ofInt hy]
theorem inR_0 : inR 0 := by unfold inR; omega
theorem x_nat {x : Int} (hx : inR x) : (Int32.ofInt x).toNatClampNeg = x.toNat := by
  show (Int32.ofInt x).toInt.toNat = x.toNat
  rw [inR_ofInt hx]
theorem x_in {x : Int} {n : Nat} (hx : inR x) (h0 : 0 ≤ x) (h1 : x < n) : vp_in (Int32.ofInt x) n := by
  unfold vp_in
  rw [x_nat hx]
  rintro (h | h)
  · have : Int32.ofInt x < Int32.ofInt 0 := h
    rw [x_lt hx inR_0] at this
    omega
  · omega
/-- the kinds of the fields: 0 int, 1 long, 2 reference, 3 boolean -/
def xft : Nat → Nat → Nat := fun c k => match c with
  | 0 => if k < 2 then 0 else 2
  | 1 => 1
  | 2 => if k = 0 then 0 else 2
  | 3 => 2
  | 4 => if k = 0 then 0 else 2
  | 5 => 2
  | _ => if k = 0 ∨ k = 4 ∨ k = 12 then 2 else if k = 2 ∨ k = 7 then 3 else 0
def xfv (h : xM) (a c k : Nat) : Value := if xft c k = 1 then .long (mL h a k) else if xft c k = 2 then va_rf (mR h a k) else .int (Int32.ofInt (mI h a k))
/-- the launch, the classes' numbers and slots, the arrays' classes, the heap at the law's entry -/
abbrev xO : Type := Launch × va_G × (Nat → ClassId) × Heap × (Nat × Nat)
def xE (cA : Nat → ClassId) (h : xM) (a t n : Nat) : va_E :=
  if t = 10 then .inl (cA 0, n, .inl (fun j => Int32.ofInt (mI h a j)))
  else if t = 11 then .inl (cA 1, n, .inl (fun j => Int32.ofInt (mI h a j)))
  else if t = 12 then .inl (cA 2, n, .inr (.inl (fun j => mL h a j)))
  else if t = 13 then .inl (cA 3, n, .inr (.inr (.inr (.inr (fun j => mR h a j)))))
  else if t = 14 then .inl (cA 4, n, .inr (.inr (.inr (.inr (fun j => mR h a j)))))
  else .inr (t, (List.range n).map (xfv h a t))
def xA (Ω : xO) : Nat → Prop := fun q => Ω.2.2.2.1.size ≤ q
def xRel (Ω : xO) (h : xM) (H : Heap) : Prop := H.size = mN h ∧ (∀ a k, inR (mI h a k)) ∧ ∀ a t n, mT h a = some (t, n) → xA Ω a ∧ va_at Ω.2.1 vwCl (a, xE Ω.2.2.1 h a t n) H
theorem xRel.lt {Ω : xO} {h : xM} {H : Heap} (r : xRel Ω h H) {a t n : Nat} (ha : mT h a = some (t, n)) : a < mN h := by
  rw [← r.1]
  exact (r.2.2 a t n ha).2.lt
def WG : List Cond := lw_tbl.filter goodWord
def xnw : Cond → Bool
  | .methodLinkNest .. => true
  | w => w.faceAtom && w.onTables
def WN : List Cond := lw_tbl.filter xnw
theorem xWG {w : Cond} (h : w ∈ lw_tbl) (g : goodWord w = true) : w ∈ WG := List.mem_filter.mpr ⟨h, g⟩
theorem xWN {w : Cond} (h : w ∈ lw_tbl) (g : xnw w = true) : w ∈ WN := List.mem_filter.mpr ⟨h, g⟩
theorem xWG_good : ∀ w ∈ WG, goodWord w = true := fun _ h => (List.mem_filter.mp h).2
theorem xnw_warm {w : Cond} (g : xnw w = true) {s U : State} (hW : s.WarmedH U.vm) (hZ : va_Nw w s) : va_Nw w U := by
  cases w with
  | methodLinkNest a i x h => exact va_Nw.warmM hW hZ
  | _ =>
    simp only [xnw, Bool.and_eq_true] at g
    exact va_tabs g.2 (rfl : (s.setVm U.vm).vm = U.vm) (Cond.faceAtom_setVm hW.alike _ g.1 hZ)
def va_AOI (U : State) : Prop := (Cond.arrayOver (.array .int)).before #[] U = true
theorem va_AOI.moved {u U : State} (hvm : u.vm.Alike U.vm) (h : va_AOI u) : va_AOI U := by
  have h2 : (Cond.arrayOver (.array .int)).before #[] (u.setVm U.vm) = true := by
    rw [Cond.arrayOver_setVmC hvm]
    exact h
  exact h2
/-- the texts that exceptions carry -/
def xTx : List (Nat × String) := [(221, "no such seat"), (225, "out of range, or not a complete dialogue"), (57, "no more words, or no more beats"), (73, "the beat would be above the last one"), (88, "no such setting"), (103, "the buffer is full"), (126, "no saved state"), (140, "no snapshot")]
def xEN : List String := ["java/lang/IndexOutOfBoundsException", "java/lang/IllegalArgumentException", "java/lang/IllegalStateException"]
def xty (cA : Nat → ClassId) : List (ClassId × FieldType) := [(cA 0, .int), (cA 1, .char), (cA 2, .long), (cA 3, .array .int), (cA 4, .object RX0)]
/-- the names of the arrays' classes -/
def xan (U : State) (cA : Nat → ClassId) : Prop := U.vm.findClass ("[" ++ (FieldType.array .int).toString) = some (cA 3) ∧ U.vm.findClass (FieldType.array .int).toString = some (cA 0) ∧ U.vm.findClass ("[" ++ (FieldType.object RX0).toString) = some (cA 4)
def xsv (k : Nat) (j : Nat) : Value := if k = 0 then (if j = 2 then .int 1 else .int 0) else (if j = 0 then .int 5 else if j = 1 then .int 4 else .int 50)
/-- what holds of the tables and of the cells that nobody writes, at any state of the run -/
def xWd (Ω : xO) (U : State) : Prop :=
  va_K Ω.2.1 vwCl (xty Ω.2.2.1) U ∧ xan U Ω.2.2.1 ∧ (∀ w ∈ WN, va_Nw w U) ∧ (∀ q ∈ xTx, ∃ a, vk_R RX5 q.1 q.2 a U) ∧ (va_AO RX0 U ∧ va_AOI U) ∧
  (∀ i j : Nat, i < 3 → j < 3 → i ≠ j → va_Nc (xEN.getD i "") (xEN.getD j "") U) ∧
  (Ω.2.2.2.1.size ≤ U.heap.size ∧ ∀ q : Nat, q < Ω.2.2.2.1.size → U.heap[q]? = Ω.2.2.2.1[q]?) ∧
  (vx_Zq Bundle.tN "UNASSIGNED_STACK" Bundle.steD (xA Ω) U U.heap ∧ vx_Zq Bundle.tN "SUPPRESSED_SENTINEL" Bundle.listD (xA Ω) U U.heap) ∧
  (va_Z RX5 "LOWEST_VALUE" "[I" (.ref Ω.2.2.2.2.1) (xA Ω) U U.heap ∧ va_T .int Ω.2.2.2.2.1 3 (xsv 0) (xA Ω) U U.heap) ∧
  (va_Z RX5 "HIGHEST_VALUE" "[I" (.ref Ω.2.2.2.2.2) (xA Ω) U U.heap ∧ va_T .int Ω.2.2.2.2.2 3 (xsv 1) (xA Ω) U U.heap) ∧ Ω.1.stackTraces = false
theorem xan.moved {u U : State} {cA : Nat → ClassId} (hvm : u.vm.Alike U.vm) (h : xan u cA) : xan U cA := by
  unfold xan at h ⊢
  rw [hvm.findClass, hvm.findClass, hvm.findClass]
  exact h
/-- it goes on: tables that are warmer, a heap where what was there ahead of the world stands -/
theorem xWd.on {Ω : xO} {s U : State} (w : xWd Ω s) (hW : s.WarmedH U.vm) (hz : s.heap.size ≤ U.heap.size) (hk : ∀ q : Nat, q < s.heap.size → ¬ xA Ω q → U.heap[q]? = s.heap[q]?) : xWd Ω U := by
  obtain ⟨a1, a1b, a2, a3, ⟨a4, a4b⟩, a5, ⟨a6, a7⟩, ⟨a8, a9⟩, ⟨b1, b2⟩, ⟨b3, b4⟩, b5⟩ := w
  have hv := hW.alike
  refine ⟨va_K.moved hv a1, a1b.moved hv, fun w hw => xnw_warm (List.mem_filter.mp hw).2 hW (a2 w hw), fun q hq => ?_, ⟨a4.moved hv, a4b.moved hv⟩, fun i j h1 h2 h3 => (a5 i j h1 h2 h3).moved hv, ⟨Nat.le_trans a6 hz, fun q hq => ?_⟩, ⟨?_, ?_⟩, ⟨?_, ?_⟩, ⟨?_, ?_⟩, b5⟩
  · obtain ⟨a, ha⟩ := a3 q hq
    exact ⟨a, vk_R.warm hW ha⟩
  · rw [hk q (Nat.lt_of_lt_of_le hq a6) (fun h => by unfold xA at h; omega)]
    exact a7 q hq
  · exact vx_Zq.moved hv (a8.kept hk)
  · exact vx_Zq.moved hv (a9.kept hk)
  · exact va_Z.moved hv (b1.kept hk)
  · exact va_T.moved hv (b2.kept hk)
  · exact va_Z.moved hv (b3.kept hk)
  · exact va_T.moved hv (b4.kept hk)
/-! locals -/
def xLo (lr : Array Slot) (nL : Nat) (ls : List (Option xV)) : Prop := lr.size = nL ∧ lv_wf lr ∧ ∀ (k : Nat) (v : xV), ls[k]? = some (some v) → lr[k]? = some (.val (xc v))
def xL (ls : List (Option xV)) : List (Nat × Value) := (List.range ls.length).filterMap (fun k => match ls[k]? with
  | some (some v) => some (k, xc v)
  | _ => none)
theorem xL_mem {ls : List (Option xV)} {q : Nat × Value} : q ∈ xL ls ↔ ∃ v, ls[q.1]? = some (some v) ∧ q.2 = xc v := by
  unfold xL
  rw [List.mem_filterMap]
  constructor
  · rintro ⟨k, hk, h⟩
    split at h
    · rename_i v hv
      cases h
      exact ⟨v, hv, rfl⟩
    · cases h
  · rintro ⟨v, hv, h2⟩
    refine ⟨q.1, List.mem_range.mpr (List.getElem?_eq_some_iff.mp hv).1, ?_⟩
    rw [hv]
    show some (q.1, xc v) = some q
    rw [← h2]
theorem xLo_mem {ls : List (Option xV)} {i : Nat} {v : xV} (h : ls[i]? = some (some v)) : (i, xc v) ∈ xL ls := xL_mem.mpr ⟨v, h, rfl⟩
theorem xLo_has {lr : Array Slot} {nL : Nat} {ls : List (Option xV)} (h : xLo lr nL ls) : lv_has lr nL (xL ls) := ⟨h.1, h.2.1, fun q hq => by
  obtain ⟨v, hv, e⟩ := xL_mem.mp hq
  rw [e]
  exact h.2.2 q.1 v hv⟩
def xput (ls : List (Option xV)) (i : Nat) (v : xV) : List (Option xV) := ls.set i (some v)
def xput2 (ls : List (Option xV)) (i : Nat) (v : xV) : List (Option xV) := (ls.set i (some v)).set (i + 1) none
def xfree (ls : List (Option xV)) (i : Nat) : Bool := match i with
  | 0 => true
  | j + 1 => match ls[j]? with
    | some (some w) => xcat w == 1
    | _ => true
theorem xfree_no {ls : List (Option xV)} {i : Nat} (h : xfree ls i = true) {k : Nat} {v : xV} (hk : ls[k]? = some (some v)) : ¬ (k + 1 = i ∧ (xc v).category = 2) := by
  rintro ⟨e, h2⟩
  subst e
  unfold xfree at h
  simp only [hk] at h
  rw [xc_cat] at h2
  rw [h2] at h
  cases h
theorem xLo_put {lr lr2 : Array Slot} {nL : Nat} {ls : List (Option xV)} {i : Nat} {v : xV} (hl : xLo lr nL ls) (hf : xfree ls i = true) (h2 : lv_has lr2 nL ((i, xc v) :: (xL ls).filter (fun q => !(q.1 == i) && !(q.1 + 1 == i && q.2.category == 2)))) : xLo lr2 nL (xput ls i v) := by
  refine ⟨h2.1, h2.2.1, fun k w hk => ?_⟩
  unfold xput at hk
  by_cases hki : k = i
  · subst hki
    rw [List.getElem?_set] at hk
    by_cases hlt : k < ls.length
    · simp only [hlt, if_true] at hk
      cases hk
      exact h2.2.2 (k, xc v) List.mem_cons_self
    · simp [hlt] at hk
  · rw [List.getElem?_set_ne (fun e => hki e.symm)] at hk
    refine h2.2.2 (k, xc w) (List.mem_cons_of_mem _ (List.mem_filter.mpr ⟨xLo_mem hk, ?_⟩))
    have := xfree_no hf hk
    simp only [Bool.and_eq_true, Bool.not_eq_true', beq_eq_false_iff_ne, ne_eq, Bool.and_eq_false_iff]
    refine ⟨hki, ?_⟩
    by_cases e : k + 1 = i
    · exact Or.inr (fun h => this ⟨e, h⟩)
    · exact Or.inl e
theorem xLo_put2 {lr lr2 : Array Slot} {nL : Nat} {ls : List (Option xV)} {i : Nat} {v : xV} (hl : xLo lr nL ls) (hf : xfree ls i = true) (h2 : lv_has lr2 nL ((i, xc v) :: (xL ls).filter (fun q => !(q.1 == i) && (!(q.1 == i + 1) && !(q.1 + 1 == i && q.2.category == 2))))) : xLo lr2 nL (xput2 ls i v) := by
  refine ⟨h2.1, h2.2.1, fun k w hk => ?_⟩
  unfold xput2 at hk
  by_cases hk1 : k = i + 1
  · subst hk1
    rw [List.getElem?_set] at hk
    split at hk
    · split at hk <;> cases hk
    · exact absurd rfl (by assumption)
  rw [List.getElem?_set_ne (fun e => hk1 e.symm)] at hk
  by_cases hki : k = i
  · subst hki
    rw [List.getElem?_set] at hk
    by_cases hlt : k < ls.length
    · simp only [hlt, if_true] at hk
      cases hk
      exact h2.2.2 (k, xc v) List.mem_cons_self
    · simp [hlt] at hk
  · rw [List.getElem?_set_ne (fun e => hki e.symm)] at hk
    refine h2.2.2 (k, xc w) (List.mem_cons_of_mem _ (List.mem_filter.mpr ⟨xLo_mem hk, ?_⟩))
    have := xfree_no hf hk
    simp only [Bool.and_eq_true, Bool.not_eq_true', beq_eq_false_iff_ne, ne_eq, Bool.and_eq_false_iff]
    refine ⟨hki, hk1, ?_⟩
    by_cases e : k + 1 = i
    · exact Or.inr (fun h => this ⟨e, h⟩)
    · exact Or.inl e
/-! the predicate -/
def xCx (own : String) (cc : ByteArray) (nL : Nat) (ret : Option FieldType) (ini : Bool) (p : Program) (s : State) (m : MethodId) (args : Array Value) (meth : Method) (c : Code) : Prop :=
  p.tables.exec = Jvm.exec ∧ c.code = cc ∧ meth.sig.returnType = ret ∧ c.maxLocals = nL ∧ s.vm.findClass own = some m.cls ∧ meth.locks = false ∧ (∀ w ∈ WG, w.before args s = true) ∧ (ini = true → meth.name = "<init>") ∧ (∀ x ∈ c.exceptionTable.toList, False)
/-- what a method has done when it is back; where it has thrown -/
def xQ (Ω : xO) (PR : Option xV → xM → Prop) : Array Value → State → Outcome → State → Prop := fun _ st o t => ∃ (r : Option xV) (h' : xM), o = .returned (r.map xc) ∧ xRel Ω h' t.heap ∧ va_F (xA Ω) st t ∧ PR r h'
def xX (Ω : xO) (PX : String → xM → Prop) : String → State → State → Prop := fun E st t => ∃ h' : xM, xRel Ω h' t.heap ∧ va_F (xA Ω) st t ∧ PX E h'
/-- at pc with these locals, this stack and this memory: the method comes to its end, with PR of what it returns and of the memory then, or with PX of what it throws -/
def X (Ω : xO) (own : String) (cc : ByteArray) (nL : Nat) (ret : Option FieldType) (ini : Bool) (R : Room) (PR : Option xV → xM → Prop) (PX : String → xM → Prop) (kc ks pc : Nat) (ls : List (Option xV)) (st : List xV) (h : xM) : Prop :=
  ∀ (p : Program) (e : Env) (s : State) (m : MethodId) (args : Array Value) (below : List Frame) (meth : Method) (c : Code) (H : Heap) (locs : List Loc) (lr : Array Slot),
    xCx own cc nL ret ini p s m args meth c → xWd Ω s → va_S (xA Ω) s.heap H locs → xRel Ω h H → xLo lr nL ls →
    W p Ω.1 e R s m args below meth c H locs kc ks (vx_MQ below (xQ Ω PR) (xX Ω PX) args s R.cells R.slots (xA Ω)) (F0 m pc lr (st.map xc))
theorem x_div {x y : Int} (hx : inR x) (h0 : 0 ≤ x) (hy : inR y) (h1 : 0 < y) : Int32.ofInt x / Int32.ofInt y = Int32.ofInt (x / y) := by
  rw [← Int32.toInt_inj, Int32.toInt_div, inR_ofInt hx, inR_ofInt hy, Int32.toInt_ofInt]
  rw [Int.tdiv_eq_ediv_of_nonneg h0]
theorem x_rem {x y : Int} (hx : inR x) (h0 : 0 ≤ x) (hy : inR y) (h1 : 0 < y) : Int32.ofInt x - Int32.ofInt x / Int32.ofInt y * Int32.ofInt y = Int32.ofInt (x % y) := by
  rw [x_div hx h0 hy h1, ← Int32.ofInt_mul, ← Int32.ofInt_sub]
  congr 1
  have := Int.mul_ediv_add_emod x y
  rw [Int.mul_comm] at this
  omega
theorem x_i2c {x : Int} (h0 : 0 ≤ x) (h1 : x < 65536) : ((Int32.ofInt x).toUInt32 % 65536).toInt32 = Int32.ofInt x := by
  have hr : inR x := ⟨by omega, by omega⟩
  exact lg_i2c_word (by rw [inR_ofInt hr]; exact h0) (by rw [inR_ofInt hr]; exact h1)
theorem x_i2l {x : Int} (h : inR x) : (Int32.ofInt x).toInt64 = Int64.ofInt x := by
  rw [← Int64.toInt_inj, Int32.toInt_toInt64, inR_ofInt h, Int64.toInt_ofInt_of_le (by have := h.1; omega) (by have := h.2; omega)]
theorem x_lcmp (x y : Int64) : ∃ z, lg_cmp x y = Int32.ofInt z ∧ inR z ∧ (x = y → z = 0) ∧ (¬ x = y → z ≠ 0) := by
  unfold lg_cmp
  by_cases h2 : x > y
  · refine ⟨1, by rw [if_pos h2]; rfl, by unfold inR; omega, fun e => ?_, fun _ => by omega⟩
    rw [e] at h2
    exact absurd h2 (lg_lt_not h2)
  · by_cases h1 : x = y
    · exact ⟨0, by rw [if_neg h2, if_pos h1]; rfl, inR_0, fun _ => rfl, fun e => absurd h1 e⟩
    · exact ⟨-1, by rw [if_neg h2, if_neg h1]; rfl, by unfold inR; omega, fun e => absurd e h1, fun _ => by omega⟩
section XR
variable {Ω : xO} {own : String} {cc : ByteArray} {nL : Nat} {ret : Option FieldType} {ini : Bool} {R : Room} {PR : Option xV → xM → Prop} {PX : String → xM → Prop} {kc ks pc pc' : Nat} {ls : List (Option xV)} {st : List xV} {h : xM}

theorem X.iconst {n : Int} (hd : decode cc pc = .ok (.iconst n, 1)) (hp : pc + 1 = pc') (k : X Ω own cc nL ret ini R PR PX kc ks pc' ls (vi n :: st) h) : X Ω own cc nL ret ini R PR PX kc ks pc ls st h := by
  intro p e s m args below meth c H locs lr cx wd hS r hl
  obtain ⟨hx, hb, hr, hml, hown, hlocks, hts, hin, hexc⟩ := id cx
  subst hp
  exact lv_iconst hx hb hd rfl (k p e s m args below meth c H locs lr cx wd hS r hl)

theorem X.bipush {n : Int} (hn : (Int8.ofInt n).toInt32 = Int32.ofInt n) (hd : decode cc pc = .ok (.bipush n, 2)) (hp : pc + 2 = pc') (k : X Ω own cc nL ret ini R PR PX kc ks pc' ls (vi n :: st) h) : X Ω own cc nL ret ini R PR PX kc ks pc ls st h := by
  intro p e s m args below meth c H locs lr cx wd hS r hl
  obtain ⟨hx, hb, hr, hml, hown, hlocks, hts, hin, hexc⟩ := id cx
  subst hp
  exact lv_bipush hx hb hd hn (k p e s m args below meth c H locs lr cx wd hS r hl)

theorem X.sipush {n : Int} (hn : (Int16.ofInt n).toInt32 = Int32.ofInt n) (hd : decode cc pc = .ok (.sipush n, 3)) (hp : pc + 3 = pc') (k : X Ω own cc nL ret ini R PR PX kc ks pc' ls (vi n :: st) h) : X Ω own cc nL ret ini R PR PX kc ks pc ls st h := by
  intro p e s m args below meth c H locs lr cx wd hS r hl
  obtain ⟨hx, hb, hr, hml, hown, hlocks, hts, hin, hexc⟩ := id cx
  subst hp
  exact lv_sipush hx hb hd hn (k p e s m args below meth c H locs lr cx wd hS r hl)

theorem X.iload_n {i : Nat} {q4 : Fin 4} (hi : (q4 : Nat) = i) {x : Int} (hv : ls[i]? = some (some (vi x))) (hd : decode cc pc = .ok (.iload_n q4, 1)) (hp : pc + 1 = pc') (k : X Ω own cc nL ret ini R PR PX kc ks pc' ls (vi x :: st) h) : X Ω own cc nL ret ini R PR PX kc ks pc ls st h := by
  intro p e s m args below meth c H locs lr cx wd hS r hl
  obtain ⟨hx, hb, hr, hml, hown, hlocks, hts, hin, hexc⟩ := id cx
  subst hp
  exact lv_iload_n hx hb hd hi (hl.2.2 i _ hv) (k p e s m args below meth c H locs lr cx wd hS r hl)

theorem X.iload {i : Nat} {x : Int} (hv : ls[i]? = some (some (vi x))) (hd : decode cc pc = .ok (.iload i, 2)) (hp : pc + 2 = pc') (k : X Ω own cc nL ret ini R PR PX kc ks pc' ls (vi x :: st) h) : X Ω own cc nL ret ini R PR PX kc ks pc ls st h := by
  intro p e s m args below meth c H locs lr cx wd hS r hl
  obtain ⟨hx, hb, hr, hml, hown, hlocks, hts, hin, hexc⟩ := id cx
  subst hp
  exact lv_iload hx hb hd (hl.2.2 i _ hv) (k p e s m args below meth c H locs lr cx wd hS r hl)

theorem X.lload_n {i : Nat} {q4 : Fin 4} (hi : (q4 : Nat) = i) {x : Int64} (hv : ls[i]? = some (some (vl x))) (hd : decode cc pc = .ok (.lload_n q4, 1)) (hp : pc + 1 = pc') (k : X Ω own cc nL ret ini R PR PX kc ks pc' ls (vl x :: st) h) : X Ω own cc nL ret ini R PR PX kc ks pc ls st h := by
  intro p e s m args below meth c H locs lr cx wd hS r hl
  obtain ⟨hx, hb, hr, hml, hown, hlocks, hts, hin, hexc⟩ := id cx
  subst hp
  exact lv_lload_n hx hb hd hi (hl.2.2 i _ hv) (k p e s m args below meth c H locs lr cx wd hS r hl)

theorem X.lload {i : Nat} {x : Int64} (hv : ls[i]? = some (some (vl x))) (hd : decode cc pc = .ok (.lload i, 2)) (hp : pc + 2 = pc') (k : X Ω own cc nL ret ini R PR PX kc ks pc' ls (vl x :: st) h) : X Ω own cc nL ret ini R PR PX kc ks pc ls st h := by
  intro p e s m args below meth c H locs lr cx wd hS r hl
  obtain ⟨hx, hb, hr, hml, hown, hlocks, hts, hin, hexc⟩ := id cx
  subst hp
  exact lv_lload hx hb hd (hl.2.2 i _ hv) (k p e s m args below meth c H locs lr cx wd hS r hl)

theorem X.dload_n {i : Nat} {q4 : Fin 4} (hi : (q4 : Nat) = i) {x : UInt64} (hv : ls[i]? = some (some (vd x))) (hd : decode cc pc = .ok (.dload_n q4, 1)) (hp : pc + 1 = pc') (k : X Ω own cc nL ret ini R PR PX kc ks pc' ls (vd x :: st) h) : X Ω own cc nL ret ini R PR PX kc ks pc ls st h := by
  intro p e s m args below meth c H locs lr cx wd hS r hl
  obtain ⟨hx, hb, hr, hml, hown, hlocks, hts, hin, hexc⟩ := id cx
  subst hp
  exact lv_dload_n hx hb hd hi (hl.2.2 i _ hv) (k p e s m args below meth c H locs lr cx wd hS r hl)

theorem X.dload {i : Nat} {x : UInt64} (hv : ls[i]? = some (some (vd x))) (hd : decode cc pc = .ok (.dload i, 2)) (hp : pc + 2 = pc') (k : X Ω own cc nL ret ini R PR PX kc ks pc' ls (vd x :: st) h) : X Ω own cc nL ret ini R PR PX kc ks pc ls st h := by
  intro p e s m args below meth c H locs lr cx wd hS r hl
  obtain ⟨hx, hb, hr, hml, hown, hlocks, hts, hin, hexc⟩ := id cx
  subst hp
  exact lv_dload hx hb hd (hl.2.2 i _ hv) (k p e s m args below meth c H locs lr cx wd hS r hl)

theorem X.aload_n {i : Nat} {q4 : Fin 4} (hi : (q4 : Nat) = i) {x : Option Nat} (hv : ls[i]? = some (some (vr x))) (hd : decode cc pc = .ok (.aload_n q4, 1)) (hp : pc + 1 = pc') (k : X Ω own cc nL ret ini R PR PX kc ks pc' ls (vr x :: st) h) : X Ω own cc nL ret ini R PR PX kc ks pc ls st h := by
  intro p e s m args below meth c H locs lr cx wd hS r hl
  obtain ⟨hx, hb, hr, hml, hown, hlocks, hts, hin, hexc⟩ := id cx
  subst hp
  cases x with
  | none => exact lv_aload_nN hx hb hd hi (hl.2.2 i _ hv) (k p e s m args below meth c H locs lr cx wd hS r hl)
  | some x => exact lv_aload_n hx hb hd hi (hl.2.2 i _ hv) (k p e s m args below meth c H locs lr cx wd hS r hl)

theorem X.aload {i : Nat} {x : Option Nat} (hv : ls[i]? = some (some (vr x))) (hd : decode cc pc = .ok (.aload i, 2)) (hp : pc + 2 = pc') (k : X Ω own cc nL ret ini R PR PX kc ks pc' ls (vr x :: st) h) : X Ω own cc nL ret ini R PR PX kc ks pc ls st h := by
  intro p e s m args below meth c H locs lr cx wd hS r hl
  obtain ⟨hx, hb, hr, hml, hown, hlocks, hts, hin, hexc⟩ := id cx
  subst hp
  cases x with
  | none => exact lv_aloadN hx hb hd (hl.2.2 i _ hv) (k p e s m args below meth c H locs lr cx wd hS r hl)
  | some x => exact lv_aload hx hb hd (hl.2.2 i _ hv) (k p e s m args below meth c H locs lr cx wd hS r hl)

theorem X.anull  (hd : decode cc pc = .ok (.aconst_null, 1)) (hp : pc + 1 = pc') (k : X Ω own cc nL ret ini R PR PX kc ks pc' ls (vr none :: st) h) : X Ω own cc nL ret ini R PR PX kc ks pc ls st h := by
  intro p e s m args below meth c H locs lr cx wd hS r hl
  obtain ⟨hx, hb, hr, hml, hown, hlocks, hts, hin, hexc⟩ := id cx
  subst hp
  exact lv_null hx hb hd (k p e s m args below meth c H locs lr cx wd hS r hl)

theorem X.istore_n {i : Nat} {q4 : Fin 4} (hi : (q4 : Nat) = i) {x : Int} {ls' : List (Option xV)} (hd : decode cc pc = .ok (.istore_n q4, 1)) (hn : i < nL) (hf : xfree ls i = true) (hs : xput ls i (vi x) = ls') (hp : pc + 1 = pc') (k : X Ω own cc nL ret ini R PR PX kc ks pc' ls' st h) : X Ω own cc nL ret ini R PR PX kc ks pc ls (vi x :: st) h := by
  intro p e s m args below meth c H locs lr cx wd hS r hl
  obtain ⟨hx, hb, hr, hml, hown, hlocks, hts, hin, hexc⟩ := id cx
  subst hp
  subst hs
  exact lv_istore_n hx hb hd hi (xLo_has hl) hn rfl (fun lr2 h2 => k p e s m args below meth c H locs lr2 cx wd hS r (xLo_put hl hf h2))

theorem X.istore {i : Nat} {x : Int} {ls' : List (Option xV)} (hd : decode cc pc = .ok (.istore i, 2)) (hn : i < nL) (hf : xfree ls i = true) (hs : xput ls i (vi x) = ls') (hp : pc + 2 = pc') (k : X Ω own cc nL ret ini R PR PX kc ks pc' ls' st h) : X Ω own cc nL ret ini R PR PX kc ks pc ls (vi x :: st) h := by
  intro p e s m args below meth c H locs lr cx wd hS r hl
  obtain ⟨hx, hb, hr, hml, hown, hlocks, hts, hin, hexc⟩ := id cx
  subst hp
  subst hs
  exact lv_istore hx hb hd (xLo_has hl) hn rfl (fun lr2 h2 => k p e s m args below meth c H locs lr2 cx wd hS r (xLo_put hl hf h2))

theorem X.lstore_n {i : Nat} {q4 : Fin 4} (hi : (q4 : Nat) = i) {x : Int64} {ls' : List (Option xV)} (hd : decode cc pc = .ok (.lstore_n q4, 1)) (hn : i + 1 < nL) (hf : xfree ls i = true) (hs : xput2 ls i (vl x) = ls') (hp : pc + 1 = pc') (k : X Ω own cc nL ret ini R PR PX kc ks pc' ls' st h) : X Ω own cc nL ret ini R PR PX kc ks pc ls (vl x :: st) h := by
  intro p e s m args below meth c H locs lr cx wd hS r hl
  obtain ⟨hx, hb, hr, hml, hown, hlocks, hts, hin, hexc⟩ := id cx
  subst hp
  subst hs
  exact lv_lstore_n hx hb hd hi (xLo_has hl) hn rfl (fun lr2 h2 => k p e s m args below meth c H locs lr2 cx wd hS r (xLo_put2 hl hf h2))

theorem X.lstore {i : Nat} {x : Int64} {ls' : List (Option xV)} (hd : decode cc pc = .ok (.lstore i, 2)) (hn : i + 1 < nL) (hf : xfree ls i = true) (hs : xput2 ls i (vl x) = ls') (hp : pc + 2 = pc') (k : X Ω own cc nL ret ini R PR PX kc ks pc' ls' st h) : X Ω own cc nL ret ini R PR PX kc ks pc ls (vl x :: st) h := by
  intro p e s m args below meth c H locs lr cx wd hS r hl
  obtain ⟨hx, hb, hr, hml, hown, hlocks, hts, hin, hexc⟩ := id cx
  subst hp
  subst hs
  exact lv_lstore hx hb hd (xLo_has hl) hn rfl (fun lr2 h2 => k p e s m args below meth c H locs lr2 cx wd hS r (xLo_put2 hl hf h2))

theorem X.dstore_n {i : Nat} {q4 : Fin 4} (hi : (q4 : Nat) = i) {x : UInt64} {ls' : List (Option xV)} (hd : decode cc pc = .ok (.dstore_n q4, 1)) (hn : i + 1 < nL) (hf : xfree ls i = true) (hs : xput2 ls i (vd x) = ls') (hp : pc + 1 = pc') (k : X Ω own cc nL ret ini R PR PX kc ks pc' ls' st h) : X Ω own cc nL ret ini R PR PX kc ks pc ls (vd x :: st) h := by
  intro p e s m args below meth c H locs lr cx wd hS r hl
  obtain ⟨hx, hb, hr, hml, hown, hlocks, hts, hin, hexc⟩ := id cx
  subst hp
  subst hs
  exact lv_dstore_n hx hb hd hi (xLo_has hl) hn rfl (fun lr2 h2 => k p e s m args below meth c H locs lr2 cx wd hS r (xLo_put2 hl hf h2))

theorem X.dstore {i : Nat} {x : UInt64} {ls' : List (Option xV)} (hd : decode cc pc = .ok (.dstore i, 2)) (hn : i + 1 < nL) (hf : xfree ls i = true) (hs : xput2 ls i (vd x) = ls') (hp : pc + 2 = pc') (k : X Ω own cc nL ret ini R PR PX kc ks pc' ls' st h) : X Ω own cc nL ret ini R PR PX kc ks pc ls (vd x :: st) h := by
  intro p e s m args below meth c H locs lr cx wd hS r hl
  obtain ⟨hx, hb, hr, hml, hown, hlocks, hts, hin, hexc⟩ := id cx
  subst hp
  subst hs
  exact lv_dstore hx hb hd (xLo_has hl) hn rfl (fun lr2 h2 => k p e s m args below meth c H locs lr2 cx wd hS r (xLo_put2 hl hf h2))

theorem X.astore_n {i : Nat} {q4 : Fin 4} (hi : (q4 : Nat) = i) {x : Option Nat} {ls' : List (Option xV)} (hd : decode cc pc = .ok (.astore_n q4, 1)) (hn : i < nL) (hf : xfree ls i = true) (hs : xput ls i (vr x) = ls') (hp : pc + 1 = pc') (k : X Ω own cc nL ret ini R PR PX kc ks pc' ls' st h) : X Ω own cc nL ret ini R PR PX kc ks pc ls (vr x :: st) h := by
  intro p e s m args below meth c H locs lr cx wd hS r hl
  obtain ⟨hx, hb, hr, hml, hown, hlocks, hts, hin, hexc⟩ := id cx
  subst hp
  subst hs
  cases x with
  | none => exact lv_astore_nN hx hb hd hi (xLo_has hl) hn rfl (fun lr2 h2 => k p e s m args below meth c H locs lr2 cx wd hS r (xLo_put hl hf h2))
  | some x => exact lv_astore_n hx hb hd hi (xLo_has hl) hn rfl (fun lr2 h2 => k p e s m args below meth c H locs lr2 cx wd hS r (xLo_put hl hf h2))

theorem X.astore {i : Nat} {x : Option Nat} {ls' : List (Option xV)} (hd : decode cc pc = .ok (.astore i, 2)) (hn : i < nL) (hf : xfree ls i = true) (hs : xput ls i (vr x) = ls') (hp : pc + 2 = pc') (k : X Ω own cc nL ret ini R PR PX kc ks pc' ls' st h) : X Ω own cc nL ret ini R PR PX kc ks pc ls (vr x :: st) h := by
  intro p e s m args below meth c H locs lr cx wd hS r hl
  obtain ⟨hx, hb, hr, hml, hown, hlocks, hts, hin, hexc⟩ := id cx
  subst hp
  subst hs
  cases x with
  | none => exact lv_astoreN hx hb hd (xLo_has hl) hn rfl (fun lr2 h2 => k p e s m args below meth c H locs lr2 cx wd hS r (xLo_put hl hf h2))
  | some x => exact lv_astore hx hb hd (xLo_has hl) hn rfl (fun lr2 h2 => k p e s m args below meth c H locs lr2 cx wd hS r (xLo_put hl hf h2))

theorem X.iinc {i : Nat} {n x : Int} {ls' : List (Option xV)} (hd : decode cc pc = .ok (.iinc i n, 3)) (hv : ls[i]? = some (some (vi x))) (hn : i < nL) (hf : xfree ls i = true) (hs : xput ls i (vi (x + n)) = ls') (hp : pc + 3 = pc') (k : X Ω own cc nL ret ini R PR PX kc ks pc' ls' st h) : X Ω own cc nL ret ini R PR PX kc ks pc ls st h := by
  intro p e s m args below meth c H locs lr cx wd hS r hl
  obtain ⟨hx, hb, hr, hml, hown, hlocks, hts, hin, hexc⟩ := id cx
  subst hp
  subst hs
  obtain ⟨q, hq⟩ := List.getElem?_of_mem (xLo_mem (ls := ls) hv)
  exact lv_iinc hx hb hd (xLo_has hl) (k := q) (x := Int32.ofInt x) hq (v := Int32.ofInt (x + n)) (Int32.ofInt_add ..).symm hn rfl (fun lr2 h2 => k p e s m args below meth c H locs lr2 cx wd hS r (xLo_put hl hf h2))

theorem X.iadd {x y : Int} (hd : decode cc pc = .ok (.iadd, 1)) (hp : pc + 1 = pc') (k : X Ω own cc nL ret ini R PR PX kc ks pc' ls (vi (x + y) :: st) h) : X Ω own cc nL ret ini R PR PX kc ks pc ls (vi y :: vi x :: st) h := by
  intro p e s m args below meth c H locs lr cx wd hS r hl
  obtain ⟨hx, hb, hr, hml, hown, hlocks, hts, hin, hexc⟩ := id cx
  subst hp
  refine lv_iadd hx hb hd ?_
  rw [← Int32.ofInt_add]
  exact (k p e s m args below meth c H locs lr cx wd hS r hl)

theorem X.isub {x y : Int} (hd : decode cc pc = .ok (.isub, 1)) (hp : pc + 1 = pc') (k : X Ω own cc nL ret ini R PR PX kc ks pc' ls (vi (x - y) :: st) h) : X Ω own cc nL ret ini R PR PX kc ks pc ls (vi y :: vi x :: st) h := by
  intro p e s m args below meth c H locs lr cx wd hS r hl
  obtain ⟨hx, hb, hr, hml, hown, hlocks, hts, hin, hexc⟩ := id cx
  subst hp
  refine lv_isub hx hb hd ?_
  rw [← Int32.ofInt_sub]
  exact (k p e s m args below meth c H locs lr cx wd hS r hl)

theorem X.imul {x y : Int} (hd : decode cc pc = .ok (.imul, 1)) (hp : pc + 1 = pc') (k : X Ω own cc nL ret ini R PR PX kc ks pc' ls (vi (x * y) :: st) h) : X Ω own cc nL ret ini R PR PX kc ks pc ls (vi y :: vi x :: st) h := by
  intro p e s m args below meth c H locs lr cx wd hS r hl
  obtain ⟨hx, hb, hr, hml, hown, hlocks, hts, hin, hexc⟩ := id cx
  subst hp
  refine lv_imul hx hb hd ?_
  rw [← Int32.ofInt_mul]
  exact (k p e s m args below meth c H locs lr cx wd hS r hl)

theorem X.ineg {x : Int} (hd : decode cc pc = .ok (.ineg, 1)) (hp : pc + 1 = pc') (k : X Ω own cc nL ret ini R PR PX kc ks pc' ls (vi (-x) :: st) h) : X Ω own cc nL ret ini R PR PX kc ks pc ls (vi x :: st) h := by
  intro p e s m args below meth c H locs lr cx wd hS r hl
  obtain ⟨hx, hb, hr, hml, hown, hlocks, hts, hin, hexc⟩ := id cx
  subst hp
  refine lv_ineg hx hb hd ?_
  rw [← Int32.ofInt_neg]
  exact (k p e s m args below meth c H locs lr cx wd hS r hl)

theorem X.idiv {x y : Int} (hx0 : inR x) (hx1 : 0 ≤ x) (hy0 : inR y) (hy1 : 0 < y) (hd : decode cc pc = .ok (.idiv, 1)) (hp : pc + 1 = pc') (k : X Ω own cc nL ret ini R PR PX kc ks pc' ls (vi (x / y) :: st) h) : X Ω own cc nL ret ini R PR PX kc ks pc ls (vi y :: vi x :: st) h := by
  intro p e s m args below meth c H locs lr cx wd hS r hl
  obtain ⟨hx, hb, hr, hml, hown, hlocks, hts, hin, hexc⟩ := id cx
  subst hp
  refine lv_idiv hx hb hd (by rw [show (0 : Int32) = Int32.ofInt 0 from rfl, x_eq hy0 inR_0]; omega) ?_
  rw [x_div hx0 hx1 hy0 hy1]
  exact (k p e s m args below meth c H locs lr cx wd hS r hl)

theorem X.irem {x y : Int} (hx0 : inR x) (hx1 : 0 ≤ x) (hy0 : inR y) (hy1 : 0 < y) (hd : decode cc pc = .ok (.irem, 1)) (hp : pc + 1 = pc') (k : X Ω own cc nL ret ini R PR PX kc ks pc' ls (vi (x % y) :: st) h) : X Ω own cc nL ret ini R PR PX kc ks pc ls (vi y :: vi x :: st) h := by
  intro p e s m args below meth c H locs lr cx wd hS r hl
  obtain ⟨hx, hb, hr, hml, hown, hlocks, hts, hin, hexc⟩ := id cx
  subst hp
  refine lv_irem hx hb hd (by rw [show (0 : Int32) = Int32.ofInt 0 from rfl, x_eq hy0 inR_0]; omega) ?_
  rw [x_rem hx0 hx1 hy0 hy1]
  exact (k p e s m args below meth c H locs lr cx wd hS r hl)

theorem X.iand {x y z : Int} (hz : Int32.ofInt x &&& Int32.ofInt y = Int32.ofInt z) (hd : decode cc pc = .ok (.iand, 1)) (hp : pc + 1 = pc') (k : X Ω own cc nL ret ini R PR PX kc ks pc' ls (vi z :: st) h) : X Ω own cc nL ret ini R PR PX kc ks pc ls (vi y :: vi x :: st) h := by
  intro p e s m args below meth c H locs lr cx wd hS r hl
  obtain ⟨hx, hb, hr, hml, hown, hlocks, hts, hin, hexc⟩ := id cx
  subst hp
  refine lv_iand hx hb hd ?_
  rw [hz]
  exact (k p e s m args below meth c H locs lr cx wd hS r hl)

theorem X.ior {x y z : Int} (hz : Int32.ofInt x ||| Int32.ofInt y = Int32.ofInt z) (hd : decode cc pc = .ok (.ior, 1)) (hp : pc + 1 = pc') (k : X Ω own cc nL ret ini R PR PX kc ks pc' ls (vi z :: st) h) : X Ω own cc nL ret ini R PR PX kc ks pc ls (vi y :: vi x :: st) h := by
  intro p e s m args below meth c H locs lr cx wd hS r hl
  obtain ⟨hx, hb, hr, hml, hown, hlocks, hts, hin, hexc⟩ := id cx
  subst hp
  refine lv_ior hx hb hd ?_
  rw [hz]
  exact (k p e s m args below meth c H locs lr cx wd hS r hl)

theorem X.ishl {x y z : Int} (hz : Int32.ofInt x <<< (Int32.ofInt y &&& 31) = Int32.ofInt z) (hd : decode cc pc = .ok (.ishl, 1)) (hp : pc + 1 = pc') (k : X Ω own cc nL ret ini R PR PX kc ks pc' ls (vi z :: st) h) : X Ω own cc nL ret ini R PR PX kc ks pc ls (vi y :: vi x :: st) h := by
  intro p e s m args below meth c H locs lr cx wd hS r hl
  obtain ⟨hx, hb, hr, hml, hown, hlocks, hts, hin, hexc⟩ := id cx
  subst hp
  refine lv_ishl hx hb hd ?_
  rw [hz]
  exact (k p e s m args below meth c H locs lr cx wd hS r hl)

theorem X.i2c {x : Int} (h0 : 0 ≤ x) (h1 : x < 65536) (hd : decode cc pc = .ok (.i2c, 1)) (hp : pc + 1 = pc') (k : X Ω own cc nL ret ini R PR PX kc ks pc' ls (vi x :: st) h) : X Ω own cc nL ret ini R PR PX kc ks pc ls (vi x :: st) h := by
  intro p e s m args below meth c H locs lr cx wd hS r hl
  obtain ⟨hx, hb, hr, hml, hown, hlocks, hts, hin, hexc⟩ := id cx
  subst hp
  exact lv_i2c hx hb hd (x_i2c h0 h1) (k p e s m args below meth c H locs lr cx wd hS r hl)

theorem X.i2l {x : Int} (h0 : inR x) (hd : decode cc pc = .ok (.i2l, 1)) (hp : pc + 1 = pc') (k : X Ω own cc nL ret ini R PR PX kc ks pc' ls (vl (Int64.ofInt x) :: st) h) : X Ω own cc nL ret ini R PR PX kc ks pc ls (vi x :: st) h := by
  intro p e s m args below meth c H locs lr cx wd hS r hl
  obtain ⟨hx, hb, hr, hml, hown, hlocks, hts, hin, hexc⟩ := id cx
  subst hp
  exact lv_i2l hx hb hd (x_i2l h0) (k p e s m args below meth c H locs lr cx wd hS r hl)

theorem X.i2d {x : Int} (hd : decode cc pc = .ok (.i2d, 1)) (hp : pc + 1 = pc') (k : X Ω own cc nL ret ini R PR PX kc ks pc' ls (vd (FP.i2d (Int32.ofInt x)) :: st) h) : X Ω own cc nL ret ini R PR PX kc ks pc ls (vi x :: st) h := by
  intro p e s m args below meth c H locs lr cx wd hS r hl
  obtain ⟨hx, hb, hr, hml, hown, hlocks, hts, hin, hexc⟩ := id cx
  subst hp
  exact lv_i2d hx hb hd (k p e s m args below meth c H locs lr cx wd hS r hl)

theorem X.d2l {x : UInt64} (hd : decode cc pc = .ok (.d2l, 1)) (hp : pc + 1 = pc') (k : X Ω own cc nL ret ini R PR PX kc ks pc' ls (vl (FP.d2l x) :: st) h) : X Ω own cc nL ret ini R PR PX kc ks pc ls (vd x :: st) h := by
  intro p e s m args below meth c H locs lr cx wd hS r hl
  obtain ⟨hx, hb, hr, hml, hown, hlocks, hts, hin, hexc⟩ := id cx
  subst hp
  exact lv_d2l hx hb hd (k p e s m args below meth c H locs lr cx wd hS r hl)

theorem X.ladd {x y : Int64} (hd : decode cc pc = .ok (.ladd, 1)) (hp : pc + 1 = pc') (k : X Ω own cc nL ret ini R PR PX kc ks pc' ls (vl (x + y) :: st) h) : X Ω own cc nL ret ini R PR PX kc ks pc ls (vl y :: vl x :: st) h := by
  intro p e s m args below meth c H locs lr cx wd hS r hl
  obtain ⟨hx, hb, hr, hml, hown, hlocks, hts, hin, hexc⟩ := id cx
  subst hp
  exact lv_ladd hx hb hd (k p e s m args below meth c H locs lr cx wd hS r hl)

theorem X.lmul {x y : Int64} (hd : decode cc pc = .ok (.lmul, 1)) (hp : pc + 1 = pc') (k : X Ω own cc nL ret ini R PR PX kc ks pc' ls (vl (x * y) :: st) h) : X Ω own cc nL ret ini R PR PX kc ks pc ls (vl y :: vl x :: st) h := by
  intro p e s m args below meth c H locs lr cx wd hS r hl
  obtain ⟨hx, hb, hr, hml, hown, hlocks, hts, hin, hexc⟩ := id cx
  subst hp
  exact lv_lmul hx hb hd (k p e s m args below meth c H locs lr cx wd hS r hl)

theorem X.lor {x y : Int64} (hd : decode cc pc = .ok (.lor, 1)) (hp : pc + 1 = pc') (k : X Ω own cc nL ret ini R PR PX kc ks pc' ls (vl (x ||| y) :: st) h) : X Ω own cc nL ret ini R PR PX kc ks pc ls (vl y :: vl x :: st) h := by
  intro p e s m args below meth c H locs lr cx wd hS r hl
  obtain ⟨hx, hb, hr, hml, hown, hlocks, hts, hin, hexc⟩ := id cx
  subst hp
  exact lv_lor hx hb hd (k p e s m args below meth c H locs lr cx wd hS r hl)

theorem X.lshl {x z : Int64} {y : Int} (hz : x <<< ((Int32.ofInt y).toInt64 &&& 63) = z) (hd : decode cc pc = .ok (.lshl, 1)) (hp : pc + 1 = pc') (k : X Ω own cc nL ret ini R PR PX kc ks pc' ls (vl z :: st) h) : X Ω own cc nL ret ini R PR PX kc ks pc ls (vi y :: vl x :: st) h := by
  intro p e s m args below meth c H locs lr cx wd hS r hl
  obtain ⟨hx, hb, hr, hml, hown, hlocks, hts, hin, hexc⟩ := id cx
  subst hp
  exact lv_lshl hx hb hd hz (k p e s m args below meth c H locs lr cx wd hS r hl)

theorem X.ddiv {x y : UInt64} (hne : vf_n64 (FP.ddiv x y)) (hd : decode cc pc = .ok (.ddiv, 1)) (hp : pc + 1 = pc') (k : X Ω own cc nL ret ini R PR PX kc ks pc' ls (vd (FP.ddiv x y) :: st) h) : X Ω own cc nL ret ini R PR PX kc ks pc ls (vd y :: vd x :: st) h := by
  intro p e s m args below meth c H locs lr cx wd hS r hl
  obtain ⟨hx, hb, hr, hml, hown, hlocks, hts, hin, hexc⟩ := id cx
  subst hp
  exact lv_ddiv hx hb hd hne (k p e s m args below meth c H locs lr cx wd hS r hl)

theorem X.dmul {x y : UInt64} (hne : vf_n64 (FP.dmul x y)) (hd : decode cc pc = .ok (.dmul, 1)) (hp : pc + 1 = pc') (k : X Ω own cc nL ret ini R PR PX kc ks pc' ls (vd (FP.dmul x y) :: st) h) : X Ω own cc nL ret ini R PR PX kc ks pc ls (vd y :: vd x :: st) h := by
  intro p e s m args below meth c H locs lr cx wd hS r hl
  obtain ⟨hx, hb, hr, hml, hown, hlocks, hts, hin, hexc⟩ := id cx
  subst hp
  exact lv_dmul hx hb hd hne (k p e s m args below meth c H locs lr cx wd hS r hl)

theorem X.dsub {x y : UInt64} (hne : vf_n64 (FP.dsub x y)) (hd : decode cc pc = .ok (.dsub, 1)) (hp : pc + 1 = pc') (k : X Ω own cc nL ret ini R PR PX kc ks pc' ls (vd (FP.dsub x y) :: st) h) : X Ω own cc nL ret ini R PR PX kc ks pc ls (vd y :: vd x :: st) h := by
  intro p e s m args below meth c H locs lr cx wd hS r hl
  obtain ⟨hx, hb, hr, hml, hown, hlocks, hts, hin, hexc⟩ := id cx
  subst hp
  exact lv_dsub hx hb hd hne (k p e s m args below meth c H locs lr cx wd hS r hl)

theorem X.dcmp {x y : UInt64} {op : CmpOp} {z : Int} (hz : Op.cmpValue (FP.dcmp x y) op = Int32.ofInt z) (hd : decode cc pc = .ok (.dcmp op, 1)) (hp : pc + 1 = pc') (k : X Ω own cc nL ret ini R PR PX kc ks pc' ls (vi z :: st) h) : X Ω own cc nL ret ini R PR PX kc ks pc ls (vd y :: vd x :: st) h := by
  intro p e s m args below meth c H locs lr cx wd hS r hl
  obtain ⟨hx, hb, hr, hml, hown, hlocks, hts, hin, hexc⟩ := id cx
  subst hp
  refine lv_dcmp hx hb hd ?_
  rw [hz]
  exact (k p e s m args below meth c H locs lr cx wd hS r hl)

theorem X.lcmp {x y : Int64} (hd : decode cc pc = .ok (.lcmp, 1)) (hp : pc + 1 = pc') (k1 : x = y → X Ω own cc nL ret ini R PR PX kc ks pc' ls (vi 0 :: st) h) (k2 : ¬ x = y → ∀ z, z ≠ 0 → inR z → X Ω own cc nL ret ini R PR PX kc ks pc' ls (vi z :: st) h) : X Ω own cc nL ret ini R PR PX kc ks pc ls (vl y :: vl x :: st) h := by
  intro p e s m args below meth c H locs lr cx wd hS r hl
  obtain ⟨hx, hb, hr, hml, hown, hlocks, hts, hin, hexc⟩ := id cx
  subst hp
  refine W.lcmp hx hb hd ?_
  obtain ⟨z, hz, hz2⟩ : ∃ z, lg_cmp x y = Int32.ofInt z ∧ inR z ∧ (x = y → z = 0) ∧ (¬ x = y → z ≠ 0) := x_lcmp x y
  rw [hz]
  by_cases e1 : x = y
  · rw [hz2.2.1 e1]
    exact (k1 e1 p e s m args below meth c H locs lr cx wd hS r hl)
  · exact (k2 e1 z (hz2.2.2 e1) hz2.1 p e s m args below meth c H locs lr cx wd hS r hl)

theorem X.dconst0  (hd : decode cc pc = .ok (.dconst 0, 1)) (hp : pc + 1 = pc') (k : X Ω own cc nL ret ini R PR PX kc ks pc' ls (vd FP.dconst0 :: st) h) : X Ω own cc nL ret ini R PR PX kc ks pc ls st h := by
  intro p e s m args below meth c H locs lr cx wd hS r hl
  obtain ⟨hx, hb, hr, hml, hown, hlocks, hts, hin, hexc⟩ := id cx
  subst hp
  exact lv_dconst0 hx hb hd (k p e s m args below meth c H locs lr cx wd hS r hl)

theorem X.dconst1  (hd : decode cc pc = .ok (.dconst 1, 1)) (hp : pc + 1 = pc') (k : X Ω own cc nL ret ini R PR PX kc ks pc' ls (vd FP.dconst1 :: st) h) : X Ω own cc nL ret ini R PR PX kc ks pc ls st h := by
  intro p e s m args below meth c H locs lr cx wd hS r hl
  obtain ⟨hx, hb, hr, hml, hown, hlocks, hts, hin, hexc⟩ := id cx
  subst hp
  exact lv_dconst1 hx hb hd (k p e s m args below meth c H locs lr cx wd hS r hl)

theorem X.lconst {n : Fin 2} {v : Int64} (hv : Int64.ofNat (n : Nat) = v) (hd : decode cc pc = .ok (.lconst n, 1)) (hp : pc + 1 = pc') (k : X Ω own cc nL ret ini R PR PX kc ks pc' ls (vl v :: st) h) : X Ω own cc nL ret ini R PR PX kc ks pc ls st h := by
  intro p e s m args below meth c H locs lr cx wd hS r hl
  obtain ⟨hx, hb, hr, hml, hown, hlocks, hts, hin, hexc⟩ := id cx
  subst hp
  exact lv_lconst hx hb hd hv (k p e s m args below meth c H locs lr cx wd hS r hl)

theorem X.ldc2 {index : Nat} {v : Int64} (hw : Cond.constantLong own index v ∈ WG) (hd : decode cc pc = .ok (.ldc2_w index, 3)) (hp : pc + 3 = pc') (k : X Ω own cc nL ret ini R PR PX kc ks pc' ls (vl v :: st) h) : X Ω own cc nL ret ini R PR PX kc ks pc ls st h := by
  intro p e s m args below meth c H locs lr cx wd hS r hl
  obtain ⟨hx, hb, hr, hml, hown, hlocks, hts, hin, hexc⟩ := id cx
  subst hp
  exact lv_ldc2 hx hb hown (hts _ hw) hd (k p e s m args below meth c H locs lr cx wd hS r hl)

theorem X.ldc2d {index : Nat} {v : UInt64} (hw : Cond.constantDouble own index v ∈ WG) (hd : decode cc pc = .ok (.ldc2_w index, 3)) (hp : pc + 3 = pc') (k : X Ω own cc nL ret ini R PR PX kc ks pc' ls (vd v :: st) h) : X Ω own cc nL ret ini R PR PX kc ks pc ls st h := by
  intro p e s m args below meth c H locs lr cx wd hS r hl
  obtain ⟨hx, hb, hr, hml, hown, hlocks, hts, hin, hexc⟩ := id cx
  subst hp
  exact lv_ldc2d hx hb hown (hts _ hw) hd (k p e s m args below meth c H locs lr cx wd hS r hl)

theorem X.dup {v : xV} (hv : xcat v = 1) (hd : decode cc pc = .ok (.dup, 1)) (hp : pc + 1 = pc') (k : X Ω own cc nL ret ini R PR PX kc ks pc' ls (v :: v :: st) h) : X Ω own cc nL ret ini R PR PX kc ks pc ls (v :: st) h := by
  intro p e s m args below meth c H locs lr cx wd hS r hl
  obtain ⟨hx, hb, hr, hml, hown, hlocks, hts, hin, hexc⟩ := id cx
  subst hp
  exact lv_dup hx hb hd ((xc_cat v).trans hv) (k p e s m args below meth c H locs lr cx wd hS r hl)

theorem X.dup2 {v w : xV} (hv : xcat v = 1) (hw : xcat w = 1) (hd : decode cc pc = .ok (.dup2, 1)) (hp : pc + 1 = pc') (k : X Ω own cc nL ret ini R PR PX kc ks pc' ls (v :: w :: v :: w :: st) h) : X Ω own cc nL ret ini R PR PX kc ks pc ls (v :: w :: st) h := by
  intro p e s m args below meth c H locs lr cx wd hS r hl
  obtain ⟨hx, hb, hr, hml, hown, hlocks, hts, hin, hexc⟩ := id cx
  subst hp
  exact lv_dup2_11 hx hb hd ((xc_cat v).trans hv) ((xc_cat w).trans hw) (k p e s m args below meth c H locs lr cx wd hS r hl)

theorem X.pop {v : xV} (hv : xcat v = 1) (hd : decode cc pc = .ok (.pop, 1)) (hp : pc + 1 = pc') (k : X Ω own cc nL ret ini R PR PX kc ks pc' ls st h) : X Ω own cc nL ret ini R PR PX kc ks pc ls (v :: st) h := by
  intro p e s m args below meth c H locs lr cx wd hS r hl
  obtain ⟨hx, hb, hr, hml, hown, hlocks, hts, hin, hexc⟩ := id cx
  subst hp
  exact lv_pop hx hb hd ((xc_cat v).trans hv) (k p e s m args below meth c H locs lr cx wd hS r hl)

theorem X.if_eq {x : Int} {off : Int} {tgt : Nat} (hd : decode cc pc = .ok (.ifCond .eq off, 3)) (hx1 : inR x) (ht : (pc : Int) + off = (tgt : Int)) (hp : pc + 3 = pc') (kt : x = 0 → X Ω own cc nL ret ini R PR PX kc ks tgt ls st h) (kf : ¬ x = 0 → X Ω own cc nL ret ini R PR PX kc ks pc' ls st h) : X Ω own cc nL ret ini R PR PX kc ks pc ls (vi x :: st) h := by
  intro p e s m args below meth c H locs lr cx wd hS r hl
  obtain ⟨hx, hb, hr, hml, hown, hlocks, hts, hin, hexc⟩ := id cx
  subst hp
  refine lv_if_eq hx hb hd ht ?_ ?_
  · intro hc
    rw [show (0 : Int32) = Int32.ofInt 0 from rfl] at hc
    rw [x_eq hx1 inR_0] at hc
    exact kt (by omega) p e s m args below meth c H locs lr cx wd hS r hl
  · intro hc
    rw [show (0 : Int32) = Int32.ofInt 0 from rfl] at hc
    rw [x_eq hx1 inR_0] at hc
    exact kf (by omega) p e s m args below meth c H locs lr cx wd hS r hl

theorem X.icmp_eq {x y : Int} {off : Int} {tgt : Nat} (hd : decode cc pc = .ok (.if_icmp .eq off, 3)) (hx1 : inR x) (hy1 : inR y) (ht : (pc : Int) + off = (tgt : Int)) (hp : pc + 3 = pc') (kt : x = y → X Ω own cc nL ret ini R PR PX kc ks tgt ls st h) (kf : ¬ x = y → X Ω own cc nL ret ini R PR PX kc ks pc' ls st h) : X Ω own cc nL ret ini R PR PX kc ks pc ls (vi y :: vi x :: st) h := by
  intro p e s m args below meth c H locs lr cx wd hS r hl
  obtain ⟨hx, hb, hr, hml, hown, hlocks, hts, hin, hexc⟩ := id cx
  subst hp
  refine lv_icmp_eq hx hb hd ht ?_ ?_
  · intro hc
    rw [x_eq hx1 hy1] at hc
    exact kt (by omega) p e s m args below meth c H locs lr cx wd hS r hl
  · intro hc
    rw [x_eq hx1 hy1] at hc
    exact kf (by omega) p e s m args below meth c H locs lr cx wd hS r hl

theorem X.if_ne {x : Int} {off : Int} {tgt : Nat} (hd : decode cc pc = .ok (.ifCond .ne off, 3)) (hx1 : inR x) (ht : (pc : Int) + off = (tgt : Int)) (hp : pc + 3 = pc') (kt : ¬ x = 0 → X Ω own cc nL ret ini R PR PX kc ks tgt ls st h) (kf : x = 0 → X Ω own cc nL ret ini R PR PX kc ks pc' ls st h) : X Ω own cc nL ret ini R PR PX kc ks pc ls (vi x :: st) h := by
  intro p e s m args below meth c H locs lr cx wd hS r hl
  obtain ⟨hx, hb, hr, hml, hown, hlocks, hts, hin, hexc⟩ := id cx
  subst hp
  refine lv_if_ne hx hb hd ht ?_ ?_
  · intro hc
    rw [show (0 : Int32) = Int32.ofInt 0 from rfl] at hc
    rw [x_eq hx1 inR_0] at hc
    exact kt (by omega) p e s m args below meth c H locs lr cx wd hS r hl
  · intro hc
    rw [show (0 : Int32) = Int32.ofInt 0 from rfl] at hc
    rw [x_eq hx1 inR_0] at hc
    exact kf (by omega) p e s m args below meth c H locs lr cx wd hS r hl

theorem X.icmp_ne {x y : Int} {off : Int} {tgt : Nat} (hd : decode cc pc = .ok (.if_icmp .ne off, 3)) (hx1 : inR x) (hy1 : inR y) (ht : (pc : Int) + off = (tgt : Int)) (hp : pc + 3 = pc') (kt : ¬ x = y → X Ω own cc nL ret ini R PR PX kc ks tgt ls st h) (kf : x = y → X Ω own cc nL ret ini R PR PX kc ks pc' ls st h) : X Ω own cc nL ret ini R PR PX kc ks pc ls (vi y :: vi x :: st) h := by
  intro p e s m args below meth c H locs lr cx wd hS r hl
  obtain ⟨hx, hb, hr, hml, hown, hlocks, hts, hin, hexc⟩ := id cx
  subst hp
  refine lv_icmp_ne hx hb hd ht ?_ ?_
  · intro hc
    rw [x_eq hx1 hy1] at hc
    exact kt (by omega) p e s m args below meth c H locs lr cx wd hS r hl
  · intro hc
    rw [x_eq hx1 hy1] at hc
    exact kf (by omega) p e s m args below meth c H locs lr cx wd hS r hl

theorem X.if_lt {x : Int} {off : Int} {tgt : Nat} (hd : decode cc pc = .ok (.ifCond .lt off, 3)) (hx1 : inR x) (ht : (pc : Int) + off = (tgt : Int)) (hp : pc + 3 = pc') (kt : x < 0 → X Ω own cc nL ret ini R PR PX kc ks tgt ls st h) (kf : 0 ≤ x → X Ω own cc nL ret ini R PR PX kc ks pc' ls st h) : X Ω own cc nL ret ini R PR PX kc ks pc ls (vi x :: st) h := by
  intro p e s m args below meth c H locs lr cx wd hS r hl
  obtain ⟨hx, hb, hr, hml, hown, hlocks, hts, hin, hexc⟩ := id cx
  subst hp
  refine lv_if_lt hx hb hd ht ?_ ?_
  · intro hc
    rw [show (0 : Int32) = Int32.ofInt 0 from rfl] at hc
    rw [x_lt hx1 inR_0] at hc
    exact kt (by omega) p e s m args below meth c H locs lr cx wd hS r hl
  · intro hc
    rw [show (0 : Int32) = Int32.ofInt 0 from rfl] at hc
    rw [x_lt hx1 inR_0] at hc
    exact kf (by omega) p e s m args below meth c H locs lr cx wd hS r hl

theorem X.icmp_lt {x y : Int} {off : Int} {tgt : Nat} (hd : decode cc pc = .ok (.if_icmp .lt off, 3)) (hx1 : inR x) (hy1 : inR y) (ht : (pc : Int) + off = (tgt : Int)) (hp : pc + 3 = pc') (kt : x < y → X Ω own cc nL ret ini R PR PX kc ks tgt ls st h) (kf : y ≤ x → X Ω own cc nL ret ini R PR PX kc ks pc' ls st h) : X Ω own cc nL ret ini R PR PX kc ks pc ls (vi y :: vi x :: st) h := by
  intro p e s m args below meth c H locs lr cx wd hS r hl
  obtain ⟨hx, hb, hr, hml, hown, hlocks, hts, hin, hexc⟩ := id cx
  subst hp
  refine lv_icmp_lt hx hb hd ht ?_ ?_
  · intro hc
    rw [x_lt hx1 hy1] at hc
    exact kt (by omega) p e s m args below meth c H locs lr cx wd hS r hl
  · intro hc
    rw [x_lt hx1 hy1] at hc
    exact kf (by omega) p e s m args below meth c H locs lr cx wd hS r hl

theorem X.if_ge {x : Int} {off : Int} {tgt : Nat} (hd : decode cc pc = .ok (.ifCond .ge off, 3)) (hx1 : inR x) (ht : (pc : Int) + off = (tgt : Int)) (hp : pc + 3 = pc') (kt : 0 ≤ x → X Ω own cc nL ret ini R PR PX kc ks tgt ls st h) (kf : x < 0 → X Ω own cc nL ret ini R PR PX kc ks pc' ls st h) : X Ω own cc nL ret ini R PR PX kc ks pc ls (vi x :: st) h := by
  intro p e s m args below meth c H locs lr cx wd hS r hl
  obtain ⟨hx, hb, hr, hml, hown, hlocks, hts, hin, hexc⟩ := id cx
  subst hp
  refine lv_if_ge hx hb hd ht ?_ ?_
  · intro hc
    rw [show (0 : Int32) = Int32.ofInt 0 from rfl] at hc
    have hc := hc
    first | rw [ge_iff_le, x_le inR_0 hx1] at hc | rw [x_le inR_0 hx1] at hc | rw [x_lt hx1 inR_0] at hc
    exact kt (by omega) p e s m args below meth c H locs lr cx wd hS r hl
  · intro hc
    rw [show (0 : Int32) = Int32.ofInt 0 from rfl] at hc
    have hc := hc
    first | rw [ge_iff_le, x_le inR_0 hx1] at hc | rw [x_le inR_0 hx1] at hc | rw [x_lt hx1 inR_0] at hc
    exact kf (by omega) p e s m args below meth c H locs lr cx wd hS r hl

theorem X.icmp_ge {x y : Int} {off : Int} {tgt : Nat} (hd : decode cc pc = .ok (.if_icmp .ge off, 3)) (hx1 : inR x) (hy1 : inR y) (ht : (pc : Int) + off = (tgt : Int)) (hp : pc + 3 = pc') (kt : y ≤ x → X Ω own cc nL ret ini R PR PX kc ks tgt ls st h) (kf : x < y → X Ω own cc nL ret ini R PR PX kc ks pc' ls st h) : X Ω own cc nL ret ini R PR PX kc ks pc ls (vi y :: vi x :: st) h := by
  intro p e s m args below meth c H locs lr cx wd hS r hl
  obtain ⟨hx, hb, hr, hml, hown, hlocks, hts, hin, hexc⟩ := id cx
  subst hp
  refine lv_icmp_ge hx hb hd ht ?_ ?_
  · intro hc
    have hc := hc
    first | rw [ge_iff_le, x_le hy1 hx1] at hc | rw [x_le hy1 hx1] at hc | rw [x_lt hx1 hy1] at hc
    exact kt (by omega) p e s m args below meth c H locs lr cx wd hS r hl
  · intro hc
    have hc := hc
    first | rw [ge_iff_le, x_le hy1 hx1] at hc | rw [x_le hy1 hx1] at hc | rw [x_lt hx1 hy1] at hc
    exact kf (by omega) p e s m args below meth c H locs lr cx wd hS r hl

theorem X.if_gt {x : Int} {off : Int} {tgt : Nat} (hd : decode cc pc = .ok (.ifCond .gt off, 3)) (hx1 : inR x) (ht : (pc : Int) + off = (tgt : Int)) (hp : pc + 3 = pc') (kt : 0 < x → X Ω own cc nL ret ini R PR PX kc ks tgt ls st h) (kf : x ≤ 0 → X Ω own cc nL ret ini R PR PX kc ks pc' ls st h) : X Ω own cc nL ret ini R PR PX kc ks pc ls (vi x :: st) h := by
  intro p e s m args below meth c H locs lr cx wd hS r hl
  obtain ⟨hx, hb, hr, hml, hown, hlocks, hts, hin, hexc⟩ := id cx
  subst hp
  refine lv_if_gt hx hb hd ht ?_ ?_
  · intro hc
    rw [show (0 : Int32) = Int32.ofInt 0 from rfl] at hc
    have hc := hc
    first | rw [gt_iff_lt, x_lt inR_0 hx1] at hc | rw [x_lt inR_0 hx1] at hc | rw [x_le hx1 inR_0] at hc
    exact kt (by omega) p e s m args below meth c H locs lr cx wd hS r hl
  · intro hc
    rw [show (0 : Int32) = Int32.ofInt 0 from rfl] at hc
    have hc := hc
    first | rw [gt_iff_lt, x_lt inR_0 hx1] at hc | rw [x_lt inR_0 hx1] at hc | rw [x_le hx1 inR_0] at hc
    exact kf (by omega) p e s m args below meth c H locs lr cx wd hS r hl

theorem X.icmp_gt {x y : Int} {off : Int} {tgt : Nat} (hd : decode cc pc = .ok (.if_icmp .gt off, 3)) (hx1 : inR x) (hy1 : inR y) (ht : (pc : Int) + off = (tgt : Int)) (hp : pc + 3 = pc') (kt : y < x → X Ω own cc nL ret ini R PR PX kc ks tgt ls st h) (kf : x ≤ y → X Ω own cc nL ret ini R PR PX kc ks pc' ls st h) : X Ω own cc nL ret ini R PR PX kc ks pc ls (vi y :: vi x :: st) h := by
  intro p e s m args below meth c H locs lr cx wd hS r hl
  obtain ⟨hx, hb, hr, hml, hown, hlocks, hts, hin, hexc⟩ := id cx
  subst hp
  refine lv_icmp_gt hx hb hd ht ?_ ?_
  · intro hc
    have hc := hc
    first | rw [gt_iff_lt, x_lt hy1 hx1] at hc | rw [x_lt hy1 hx1] at hc | rw [x_le hx1 hy1] at hc
    exact kt (by omega) p e s m args below meth c H locs lr cx wd hS r hl
  · intro hc
    have hc := hc
    first | rw [gt_iff_lt, x_lt hy1 hx1] at hc | rw [x_lt hy1 hx1] at hc | rw [x_le hx1 hy1] at hc
    exact kf (by omega) p e s m args below meth c H locs lr cx wd hS r hl

theorem X.if_le {x : Int} {off : Int} {tgt : Nat} (hd : decode cc pc = .ok (.ifCond .le off, 3)) (hx1 : inR x) (ht : (pc : Int) + off = (tgt : Int)) (hp : pc + 3 = pc') (kt : x ≤ 0 → X Ω own cc nL ret ini R PR PX kc ks tgt ls st h) (kf : 0 < x → X Ω own cc nL ret ini R PR PX kc ks pc' ls st h) : X Ω own cc nL ret ini R PR PX kc ks pc ls (vi x :: st) h := by
  intro p e s m args below meth c H locs lr cx wd hS r hl
  obtain ⟨hx, hb, hr, hml, hown, hlocks, hts, hin, hexc⟩ := id cx
  subst hp
  refine lv_if_le hx hb hd ht ?_ ?_
  · intro hc
    rw [show (0 : Int32) = Int32.ofInt 0 from rfl] at hc
    rw [x_le hx1 inR_0] at hc
    exact kt (by omega) p e s m args below meth c H locs lr cx wd hS r hl
  · intro hc
    rw [show (0 : Int32) = Int32.ofInt 0 from rfl] at hc
    rw [x_le hx1 inR_0] at hc
    exact kf (by omega) p e s m args below meth c H locs lr cx wd hS r hl

theorem X.icmp_le {x y : Int} {off : Int} {tgt : Nat} (hd : decode cc pc = .ok (.if_icmp .le off, 3)) (hx1 : inR x) (hy1 : inR y) (ht : (pc : Int) + off = (tgt : Int)) (hp : pc + 3 = pc') (kt : x ≤ y → X Ω own cc nL ret ini R PR PX kc ks tgt ls st h) (kf : y < x → X Ω own cc nL ret ini R PR PX kc ks pc' ls st h) : X Ω own cc nL ret ini R PR PX kc ks pc ls (vi y :: vi x :: st) h := by
  intro p e s m args below meth c H locs lr cx wd hS r hl
  obtain ⟨hx, hb, hr, hml, hown, hlocks, hts, hin, hexc⟩ := id cx
  subst hp
  refine lv_icmp_le hx hb hd ht ?_ ?_
  · intro hc
    rw [x_le hx1 hy1] at hc
    exact kt (by omega) p e s m args below meth c H locs lr cx wd hS r hl
  · intro hc
    rw [x_le hx1 hy1] at hc
    exact kf (by omega) p e s m args below meth c H locs lr cx wd hS r hl

theorem X.goto {off : Int} {tgt : Nat} (hd : decode cc pc = .ok (.goto off, 3)) (ht : (pc : Int) + off = (tgt : Int)) (k : X Ω own cc nL ret ini R PR PX kc ks tgt ls st h) : X Ω own cc nL ret ini R PR PX kc ks pc ls st h := by
  intro p e s m args below meth c H locs lr cx wd hS r hl
  obtain ⟨hx, hb, hr, hml, hown, hlocks, hts, hin, hexc⟩ := id cx
  exact lv_goto hx hb hd ht (k p e s m args below meth c H locs lr cx wd hS r hl)

theorem X.ifnonnull {x : Option Nat} {off : Int} {tgt : Nat} (hd : decode cc pc = .ok (.ifnonnull off, 3)) (ht : (pc : Int) + off = (tgt : Int)) (hp : pc + 3 = pc') (ks2 : ∀ a, x = some a → X Ω own cc nL ret ini R PR PX kc ks tgt ls st h) (kn : x = none → X Ω own cc nL ret ini R PR PX kc ks pc' ls st h) : X Ω own cc nL ret ini R PR PX kc ks pc ls (vr x :: st) h := by
  intro p e s m args below meth c H locs lr cx wd hS r hl
  obtain ⟨hx, hb, hr, hml, hown, hlocks, hts, hin, hexc⟩ := id cx
  subst hp
  cases x with
  | none => exact lv_ifnonnullN hx hb hd (kn rfl p e s m args below meth c H locs lr cx wd hS r hl)
  | some x => exact lv_ifnonnull hx hb hd ht (ks2 x rfl p e s m args below meth c H locs lr cx wd hS r hl)

theorem X.tableOut {dflt lo hi : Int} {offs : Array Int} {len : Nat} {x : Int} {tgt : Nat} (hd : decode cc pc = .ok (.tableswitch dflt lo hi offs, len)) (h0 : inR x) (h1 : x < lo ∨ hi < x) (ht : (pc : Int) + dflt = (tgt : Int)) (k : X Ω own cc nL ret ini R PR PX kc ks tgt ls st h) : X Ω own cc nL ret ini R PR PX kc ks pc ls (vi x :: st) h := by
  intro p e s m args below meth c H locs lr cx wd hS r hl
  obtain ⟨hx, hb, hr, hml, hown, hlocks, hts, hin, hexc⟩ := id cx
  exact lv_tableOut hx hb hd (by rw [inR_ofInt h0]; exact h1) ht (k p e s m args below meth c H locs lr cx wd hS r hl)

theorem X.tableIn {dflt lo hi : Int} {offs : Array Int} {len : Nat} {x off : Int} {tgt : Nat} (hd : decode cc pc = .ok (.tableswitch dflt lo hi offs, len)) (h0 : inR x) (h1 : lo ≤ x) (h2 : x ≤ hi) (ho : offs[(x - lo).toNat]? = some off) (ht : (pc : Int) + off = (tgt : Int)) (k : X Ω own cc nL ret ini R PR PX kc ks tgt ls st h) : X Ω own cc nL ret ini R PR PX kc ks pc ls (vi x :: st) h := by
  intro p e s m args below meth c H locs lr cx wd hS r hl
  obtain ⟨hx, hb, hr, hml, hown, hlocks, hts, hin, hexc⟩ := id cx
  exact lv_tableIn hx hb hd (by rw [inR_ofInt h0]; omega) (by rw [inR_ofInt h0]; omega) (by rw [inR_ofInt h0]; exact ho) ht (k p e s m args below meth c H locs lr cx wd hS r hl)

theorem X.lookup {dflt : Int} {ps : Array (Int × Int)} {len : Nat} {x off : Int} {tgt : Nat} (hd : decode cc pc = .ok (.lookupswitch dflt ps, len)) (h0 : inR x) (hs : (ps.toList.zip (ps.toList.drop 1)).all (fun (a, next) => a.1 < next.1) = true) (ho : Op.lookupswitch.offset ps.toList dflt x = off) (ht : (pc : Int) + off = (tgt : Int)) (k : X Ω own cc nL ret ini R PR PX kc ks tgt ls st h) : X Ω own cc nL ret ini R PR PX kc ks pc ls (vi x :: st) h := by
  intro p e s m args below meth c H locs lr cx wd hS r hl
  obtain ⟨hx, hb, hr, hml, hown, hlocks, hts, hin, hexc⟩ := id cx
  exact lv_lookup hx hb hd hs (by rw [inR_ofInt h0]; exact ho) ht (k p e s m args below meth c H locs lr cx wd hS r hl)

/-! memory -/
theorem mI_sI (h : xM) (a : Nat) (k x : Int) (b : Nat) (j : Int) : mI (sI h a k x) b j = if b = a ∧ j = k then x else mI h b j := rfl
theorem mR_sI (h : xM) (a : Nat) (k x : Int) : mR (sI h a k x) = mR h := rfl
theorem mL_sI (h : xM) (a : Nat) (k x : Int) : mL (sI h a k x) = mL h := rfl
theorem mT_sI (h : xM) (a : Nat) (k x : Int) : mT (sI h a k x) = mT h := rfl
theorem mN_sI (h : xM) (a : Nat) (k x : Int) : mN (sI h a k x) = mN h := rfl
theorem mR_sR (h : xM) (a : Nat) (k : Int) (x : Option Nat) (b : Nat) (j : Int) : mR (sR h a k x) b j = if b = a ∧ j = k then x else mR h b j := rfl
theorem mI_sR (h : xM) (a : Nat) (k : Int) (x : Option Nat) : mI (sR h a k x) = mI h := rfl
theorem mL_sR (h : xM) (a : Nat) (k : Int) (x : Option Nat) : mL (sR h a k x) = mL h := rfl
theorem mT_sR (h : xM) (a : Nat) (k : Int) (x : Option Nat) : mT (sR h a k x) = mT h := rfl
theorem mN_sR (h : xM) (a : Nat) (k : Int) (x : Option Nat) : mN (sR h a k x) = mN h := rfl
theorem mL_sL (h : xM) (a : Nat) (k : Int) (x : Int64) (b : Nat) (j : Int) : mL (sL h a k x) b j = if b = a ∧ j = k then x else mL h b j := rfl
theorem mI_sL (h : xM) (a : Nat) (k : Int) (x : Int64) : mI (sL h a k x) = mI h := rfl
theorem mR_sL (h : xM) (a : Nat) (k : Int) (x : Int64) : mR (sL h a k x) = mR h := rfl
theorem mT_sL (h : xM) (a : Nat) (k : Int) (x : Int64) : mT (sL h a k x) = mT h := rfl
theorem mN_sL (h : xM) (a : Nat) (k : Int) (x : Int64) : mN (sL h a k x) = mN h := rfl
theorem mI_cI (h : xM) (s : Nat) (sp : Int) (d : Nat) (dp n : Int) (b : Nat) (j : Int) : mI (cI h s sp d dp n) b j = if b = d ∧ dp ≤ j ∧ j < dp + n then mI h s (sp + (j - dp)) else mI h b j := rfl
theorem mR_cI (h : xM) (s : Nat) (sp : Int) (d : Nat) (dp n : Int) : mR (cI h s sp d dp n) = mR h := rfl
theorem mL_cI (h : xM) (s : Nat) (sp : Int) (d : Nat) (dp n : Int) : mL (cI h s sp d dp n) = mL h := rfl
theorem mT_cI (h : xM) (s : Nat) (sp : Int) (d : Nat) (dp n : Int) : mT (cI h s sp d dp n) = mT h := rfl
theorem mN_cI (h : xM) (s : Nat) (sp : Int) (d : Nat) (dp n : Int) : mN (cI h s sp d dp n) = mN h := rfl
theorem mN_aL (h : xM) (t n : Nat) : mN (aL h t n) = mN h + 1 := rfl
theorem mT_aL (h : xM) (t n : Nat) (b : Nat) : mT (aL h t n) b = if b = mN h then some (t, n) else mT h b := rfl
theorem mI_aL (h : xM) (t n : Nat) (b : Nat) (j : Int) : mI (aL h t n) b j = if b = mN h then 0 else mI h b j := rfl
theorem mR_aL (h : xM) (t n : Nat) (b : Nat) (j : Int) : mR (aL h t n) b j = if b = mN h then none else mR h b j := rfl
theorem mL_aL (h : xM) (t n : Nat) (b : Nat) (j : Int) : mL (aL h t n) b j = if b = mN h then 0 else mL h b j := rfl
theorem mN_aM (h : xM) (k n : Nat) : mN (aM h k n) = mN h + 1 + k := rfl
theorem mT_aM (h : xM) (k n : Nat) (b : Nat) : mT (aM h k n) b = if b = mN h then some (13, k) else if mN h < b ∧ b < mN h + 1 + k then some (10, n) else mT h b := rfl
theorem mI_aM (h : xM) (k n : Nat) (b : Nat) (j : Int) : mI (aM h k n) b j = if mN h ≤ b ∧ b < mN h + 1 + k then 0 else mI h b j := rfl
theorem mR_aM (h : xM) (k n : Nat) (b : Nat) (j : Int) : mR (aM h k n) b j = if b = mN h then (if 0 ≤ j ∧ j < k then some (mN h + 1 + j.toNat) else none) else if mN h < b ∧ b < mN h + 1 + k then none else mR h b j := rfl
theorem mL_aM (h : xM) (k n : Nat) (b : Nat) (j : Int) : mL (aM h k n) b j = if mN h ≤ b ∧ b < mN h + 1 + k then 0 else mL h b j := rfl
theorem mN_gN (h : xM) (n : Nat) : mN (gN h n) = n := rfl
theorem mT_gN (h : xM) (n : Nat) : mT (gN h n) = mT h := rfl
theorem mI_gN (h : xM) (n : Nat) : mI (gN h n) = mI h := rfl
theorem mR_gN (h : xM) (n : Nat) : mR (gN h n) = mR h := rfl
theorem mL_gN (h : xM) (n : Nat) : mL (gN h n) = mL h := rfl
/-! the relation goes on -/
theorem xE_obj {cA : Nat → ClassId} {h : xM} {a t n : Nat} (ht : t < 7) : xE cA h a t n = .inr (t, (List.range n).map (xfv h a t)) := by
  unfold xE
  rw [if_neg (by omega), if_neg (by omega), if_neg (by omega), if_neg (by omega), if_neg (by omega)]
theorem xP1 {D : va_G} {cl : List vw_C} {q : Nat × va_E} {H : Heap} (h : va_at D cl q H) : va_P D cl [q] H := by
  intro k x hx
  match k, hx with
  | 0, hx => cases hx; exact h
  | k + 1, hx => simp at hx
theorem xE_off {cA : Nat → ClassId} {h h' : xM} {b t n : Nat} (e1 : mI h' b = mI h b) (e2 : mR h' b = mR h b) (e3 : mL h' b = mL h b) : xE cA h' b t n = xE cA h b t n := by
  have e4 : xfv h' b t = xfv h b t := by
    funext k
    unfold xfv
    rw [e1, e2, e3]
  unfold xE
  rw [e1, e2, e3, e4]
theorem xRel_upd {Ω : xO} {h h' : xM} {H H' : Heap} {a : Nat} (r : xRel Ω h H) (hz : H'.size = H.size) (ho : ∀ q : Nat, q ≠ a → H'[q]? = H[q]?) (hN : mN h' = mN h) (hT : mT h' = mT h)
    (hI : ∀ b, b ≠ a → mI h' b = mI h b) (hR : ∀ b, b ≠ a → mR h' b = mR h b) (hL : ∀ b, b ≠ a → mL h' b = mL h b) (hin : ∀ k, inR (mI h' a k))
    (ha : ∀ t n, mT h a = some (t, n) → va_at Ω.2.1 vwCl (a, xE Ω.2.2.1 h' a t n) H') : xRel Ω h' H' := by
  refine ⟨by rw [hz, hN]; exact r.1, fun b k => ?_, fun b t n hb => ?_⟩
  · by_cases e : b = a
    · rw [e]; exact hin k
    · rw [hI b e]; exact r.2.1 b k
  · rw [hT] at hb
    refine ⟨(r.2.2 b t n hb).1, ?_⟩
    by_cases e : b = a
    · subst e
      exact ha t n hb
    · rw [xE_off (hI b e) (hR b e) (hL b e)]
      exact (r.2.2 b t n hb).2.kept (ho b e)
/-- new cells behind the heap -/
theorem xRel_new {Ω : xO} {h h' : xM} {H H' : Heap} (r : xRel Ω h H) (hB : Ω.2.2.2.1.size ≤ H.size) (hz : H'.size = mN h') (ho : ∀ q : Nat, q < H.size → H'[q]? = H[q]?) (hT : ∀ b, b < mN h → mT h' b = mT h b)
    (hI : ∀ b, b < mN h → mI h' b = mI h b) (hR : ∀ b, b < mN h → mR h' b = mR h b) (hL : ∀ b, b < mN h → mL h' b = mL h b) (hin : ∀ b k, mN h ≤ b → inR (mI h' b k))
    (ha : ∀ b t n, mN h ≤ b → mT h' b = some (t, n) → va_at Ω.2.1 vwCl (b, xE Ω.2.2.1 h' b t n) H') : xRel Ω h' H' := by
  refine ⟨hz, fun b k => ?_, fun b t n hb => ?_⟩
  · by_cases e : b < mN h
    · rw [hI b e]; exact r.2.1 b k
    · exact hin b k (by omega)
  · by_cases e : b < mN h
    · rw [hT b e] at hb
      refine ⟨(r.2.2 b t n hb).1, ?_⟩
      rw [xE_off (hI b e) (hR b e) (hL b e)]
      exact (r.2.2 b t n hb).2.kept (ho b (by rw [r.1]; exact e))
    · exact ⟨by unfold xA; rw [r.1] at hB; omega, ha b t n (by omega) hb⟩
theorem xS_B {Ω : xO} {s : State} {H : Heap} {locs : List Loc} (wd : xWd Ω s) (hS : va_S (xA Ω) s.heap H locs) : Ω.2.2.2.1.size ≤ H.size := Nat.le_trans wd.2.2.2.2.2.2.1.1 hS.1
theorem xS_grow {A : Nat → Prop} {H0 H H1 : Heap} {locs : List Loc} (hS : va_S A H0 H locs) (hz : H.size ≤ H1.size) (ho : ∀ q : Nat, q < H.size → H1[q]? = H[q]?) : va_S A H0 H1 locs :=
  ⟨Nat.le_trans hS.1 hz, fun q h1 h2 => (ho q (Nat.lt_of_lt_of_le h1 hS.1)).trans (hS.2.1 q h1 h2), hS.2.2⟩
/-! fields -/
/-- index of own's pool is the field k, of the kind kd, of the class ci of n fields -/
def xFld (own : String) (index ci n k kd : Nat) : Prop := ci < 7 ∧ ∃ (C : String) (T : u_T), vwCl[ci]? = some (C, T, n) ∧ k < n ∧ xft ci k = kd ∧ Cond.fieldLink own index (T k).1 (T k).2.1 (T k).2.2.1 ∈ WG
/-- what the tables say of a class of ours -/
def xCls (ci : Nat) : Prop := ∀ q : vw_C, vwCl[ci]? = some q → (∀ w ∈ u_ws q.1 q.2.1 q.2.2, w ∈ WG) ∧ (∀ a, a < q.2.2 → ∀ b, b < q.2.2 → a ≠ b → (q.2.1 a).2.1 ≠ (q.2.1 b).2.1) ∧
  ∃ ty : Nat → FieldType, (∀ k, k < q.2.2 → parseFieldDescriptor (q.2.1 k).2.2.1 = some (ty k)) ∧ ∀ k, k < q.2.2 → (xft ci k = 0 → ty k = .int) ∧ (xft ci k = 1 → ty k = .long) ∧ (xft ci k = 2 → (∃ C, ty k = .object C) ∨ ∃ t, ty k = .array t) ∧ (xft ci k = 3 → ty k = .boolean) ∧ xft ci k < 4
theorem X.getI {index ci n k kd a : Nat} {x : Int} (f : xFld own index ci n k kd) (hc : xCls ci) (hd : decode cc pc = .ok (.getfield index, 3)) (hkd : kd ≠ 1 ∧ kd ≠ 2) (ha : mT h a = some (ci, n)) (hv : mI h a k = x) (hp : pc + 3 = pc') (kk : inR x → X Ω own cc nL ret ini R PR PX kc ks pc' ls (vi x :: st) h) : X Ω own cc nL ret ini R PR PX kc ks pc ls (rf a :: st) h := by
  intro p e s m args below meth c H locs lr cx wd hS r hl
  obtain ⟨hx, hb, hr, hml, hown, hlocks, hts, hin, hexc⟩ := id cx
  subst hp
  subst hv
  obtain ⟨f1, C, T, f2, f3, f4, f5⟩ := f
  obtain ⟨g1, g2, -⟩ := hc _ f2
  have hA := (r.2.2 a ci n ha).2
  rw [xE_obj f1] at hA
  refine va_get hx hb hts g1 hown wd.1 (xP1 hA) 0 rfl f2 k f3 (hts _ f5) (fun _ q => q) (v := .int (Int32.ofInt (mI h a k))) ?_ hd (kk (r.2.1 a k) p e s m args below meth c H locs lr cx wd hS r hl)
  rw [List.getElem?_map, List.getElem?_range f3]
  simp [xfv, f4, hkd.1, hkd.2]
theorem X.getR {index ci n k a : Nat} {x : Option Nat} (f : xFld own index ci n k 2) (hc : xCls ci) (hd : decode cc pc = .ok (.getfield index, 3)) (ha : mT h a = some (ci, n)) (hv : mR h a k = x) (hp : pc + 3 = pc') (kk : X Ω own cc nL ret ini R PR PX kc ks pc' ls (vr x :: st) h) : X Ω own cc nL ret ini R PR PX kc ks pc ls (rf a :: st) h := by
  intro p e s m args below meth c H locs lr cx wd hS r hl
  obtain ⟨hx, hb, hr, hml, hown, hlocks, hts, hin, hexc⟩ := id cx
  subst hp
  subst hv
  obtain ⟨f1, C, T, f2, f3, f4, f5⟩ := f
  obtain ⟨g1, g2, -⟩ := hc _ f2
  have hA := (r.2.2 a ci n ha).2
  rw [xE_obj f1] at hA
  refine va_get hx hb hts g1 hown wd.1 (xP1 hA) 0 rfl f2 k f3 (hts _ f5) (fun _ q => q) (v := va_rf (mR h a k)) ?_ hd (kk p e s m args below meth c H locs lr cx wd hS r hl)
  rw [List.getElem?_map, List.getElem?_range f3]
  simp [xfv, f4]
theorem X.getL {index ci n k a : Nat} {x : Int64} (f : xFld own index ci n k 1) (hc : xCls ci) (hd : decode cc pc = .ok (.getfield index, 3)) (ha : mT h a = some (ci, n)) (hv : mL h a k = x) (hp : pc + 3 = pc') (kk : X Ω own cc nL ret ini R PR PX kc ks pc' ls (vl x :: st) h) : X Ω own cc nL ret ini R PR PX kc ks pc ls (rf a :: st) h := by
  intro p e s m args below meth c H locs lr cx wd hS r hl
  obtain ⟨hx, hb, hr, hml, hown, hlocks, hts, hin, hexc⟩ := id cx
  subst hp
  subst hv
  obtain ⟨f1, C, T, f2, f3, f4, f5⟩ := f
  obtain ⟨g1, g2, -⟩ := hc _ f2
  have hA := (r.2.2 a ci n ha).2
  rw [xE_obj f1] at hA
  refine va_get hx hb hts g1 hown wd.1 (xP1 hA) 0 rfl f2 k f3 (hts _ f5) (fun _ q => q) (v := .long (mL h a k)) ?_ hd (kk p e s m args below meth c H locs lr cx wd hS r hl)
  rw [List.getElem?_map, List.getElem?_range f3]
  simp [xfv, f4]
/-- a field's store, over the machine -/
theorem xPutW {p : Program} {l : Launch} {e : Env} {s : State} {m : MethodId} {args : Array Value} {below : List Frame} {meth : Method} {c : Code} {H : Heap} {locs : List Loc} {lr : Array Slot} {Q : State → Prop} {v : Value} {rest : List Value} {index ci n k a : Nat} {fs : List Value} {D : va_G} {tys : List (ClassId × FieldType)} {C : String} {T : u_T}
    (hx : p.tables.exec = Jvm.exec) (hb : c.code = cc) (hts : ∀ w ∈ WG, w.before args s = true) (hown : s.vm.findClass own = some m.cls) (hin : ini = true → meth.name = "<init>") (hc : xCls ci) (f2 : vwCl[ci]? = some (C, T, n)) (f3 : k < n) (f5 : Cond.fieldLink own index (T k).1 (T k).2.1 (T k).2.2.1 ∈ WG)
    (hfin : (T k).2.2.2 = false ∨ (ini = true ∧ (T k).1 = own)) (hK : va_K D vwCl tys s) (hA : va_at D vwCl (a, .inr (ci, fs)) H) (hl : k < fs.length) {ty : FieldType} (hd : parseFieldDescriptor (T k).2.2.1 = some ty) (hn : narrow ty v = v) (hfit : fits ty v = true) (hdg : decode cc pc = .ok (.putfield index, 3))
    (kk : ∀ (H' : Heap) (j : Nat), va_at D vwCl (a, .inr (ci, fs.set k v)) H' → H'.size = H.size → (∀ q : Nat, q ≠ a → H'[q]? = H[q]?) → W p l e R s m args below meth c H' (locs ++ [⟨a, j⟩]) kc ks Q (F0 m (pc + 3) lr rest)) : W p l e R s m args below meth c H locs kc ks Q (F0 m pc lr (v :: .ref a :: rest)) := by
  obtain ⟨g1, g2, ty0, g3, -⟩ := hc _ f2
  have hap := va_apart (own := own) hts g1 ty0 g3 g2 hK f2
  obtain ⟨r, h1, cell, q1, q2, q3, q4⟩ := hA
  have hr : r = (C, T, n) := Option.some.inj (h1.symm.trans f2)
  subst hr
  obtain ⟨hS, hfc, kC, hkC, hkind⟩ := hK.1 ci _ f2
  obtain ⟨cf, kf, fi, f, hi, hsl⟩ := hS k f3
  have hlay := hts _ (g1 _ (u_in_lay f3))
  have hst := (u_facts hfc hkC (u_lays hts g1 f3) hi).1
  unfold u_lay at hlay
  rcases hfin with hfin | ⟨hfin, hdecl⟩
  · rw [if_neg (by rw [hfin]; decide)] at hlay
    have h6 := u_store hfc hkC hkind hlay hi hd hn hfit
    refine W.putK hx hb (f := f) ⟨hown, hts _ f5, ⟨_, _, _, hi⟩, hst⟩ (by rw [q2]; exact h6) q1 q3 (by rw [hsl]; exact k2_hasslot (q4 k f3)) rfl rfl hdg fun H' e1 e2 e3 => ?_
    rw [hsl] at e1 ⊢
    exact kk H' _ ⟨_, f2, t_OB.to (V := updV (vp_V fs) k v) ⟨_, e1, q2, q3, t_set q4 hap f3 v⟩ (fun j _ => vp_updV_set hl v j)⟩ e2 e3
  · by_cases hfb : (T k).2.2.2 = true
    · rw [if_pos hfb] at hlay
      have hcf : m.cls = cf := by
        obtain ⟨_, _, c', _, _, _, -, -, hf', -, -, -, hown2, -⟩ := Cond.laysFinal_spec hlay
        have e1 : c' = cf := by have := hi.symm.trans hf'; simp at this; exact this.1.symm
        rw [hdecl] at hown2
        rw [← e1]; exact Option.some.inj (hown.symm.trans hown2)
      have h6 := u_fits hfc hkC hkind (Or.inr hlay) hi hd hn hfit
      refine W.putFinK hx hb hown (hts _ f5) hi hst hcf (hin hfin) (by rw [q2]; exact h6) q1 q3 (by rw [hsl]; exact k2_hasslot (q4 k f3)) rfl rfl hdg fun H' e1 e2 e3 => ?_
      rw [hsl] at e1 ⊢
      exact kk H' _ ⟨_, f2, t_OB.to (V := updV (vp_V fs) k v) ⟨_, e1, q2, q3, t_set q4 hap f3 v⟩ (fun j _ => vp_updV_set hl v j)⟩ e2 e3
    · rw [if_neg hfb] at hlay
      have h6 := u_store hfc hkC hkind hlay hi hd hn hfit
      refine W.putK hx hb (f := f) ⟨hown, hts _ f5, ⟨_, _, _, hi⟩, hst⟩ (by rw [q2]; exact h6) q1 q3 (by rw [hsl]; exact k2_hasslot (q4 k f3)) rfl rfl hdg fun H' e1 e2 e3 => ?_
      rw [hsl] at e1 ⊢
      exact kk H' _ ⟨_, f2, t_OB.to (V := updV (vp_V fs) k v) ⟨_, e1, q2, q3, t_set q4 hap f3 v⟩ (fun j _ => vp_updV_set hl v j)⟩ e2 e3
theorem xfs_set {h h' : xM} {a ci n k : Nat} {v : Value} (hk : k < n) (hv : xfv h' a ci k = v) (ho : ∀ j, j ≠ k → xfv h' a ci j = xfv h a ci j) : ((List.range n).map (xfv h a ci)).set k v = (List.range n).map (xfv h' a ci) := by
  apply List.ext_getElem?
  intro j
  rw [List.getElem?_set]
  by_cases e : k = j
  · subst e
    simp [hk, hv]
  · rw [if_neg e]
    by_cases hj : j < n
    · simp [List.getElem?_map, List.getElem?_range hj, ho j (fun q => e q.symm)]
    · rw [List.getElem?_eq_none (by simp; omega), List.getElem?_eq_none (by simp; omega)]
/-- may this field be written here -/
def xMay (own : String) (ini : Bool) (ci k : Nat) : Prop := ∃ q : vw_C, vwCl[ci]? = some q ∧ ((q.2.1 k).2.2.2 = false ∨ (ini = true ∧ (q.2.1 k).1 = own))
theorem X.putI {index ci n k a kd : Nat} {x : Int} (f : xFld own index ci n k kd) (hc : xCls ci) (hm : xMay own ini ci k) (hd : decode cc pc = .ok (.putfield index, 3)) (hkd : kd = 0 ∨ (kd = 3 ∧ (x = 0 ∨ x = 1))) (hx0 : inR x) (ha : mT h a = some (ci, n)) (hp : pc + 3 = pc') (kk : X Ω own cc nL ret ini R PR PX kc ks pc' ls st (sI h a k x)) : X Ω own cc nL ret ini R PR PX kc ks pc ls (vi x :: rf a :: st) h := by
  intro p e s m args below meth c H locs lr cx wd hS r hl
  obtain ⟨hx, hb, hr, hml, hown, hlocks, hts, hin, hexc⟩ := id cx
  subst hp
  obtain ⟨f1, C, T, f2, f3, f4, f5⟩ := f
  obtain ⟨q, q1, q2⟩ := hm
  cases f2.symm.trans q1
  obtain ⟨g1, g2, ty, g3, g4⟩ := id (hc _ f2)
  have hA := (r.2.2 a ci n ha)
  rw [xE_obj f1] at hA
  have hty : narrow (ty k) (.int (Int32.ofInt x)) = .int (Int32.ofInt x) ∧ fits (ty k) (.int (Int32.ofInt x)) = true := by
    rcases hkd with e | ⟨e, e2⟩
    · rw [(g4 k f3).1 (f4.trans e)]
      exact ⟨rfl, rfl⟩
    · rw [(g4 k f3).2.2.2.1 (f4.trans e)]
      rcases e2 with rfl | rfl <;> exact ⟨by decide, by decide⟩
  refine xPutW hx hb hts hown hin hc f2 f3 f5 q2 wd.1 hA.2 (by simp [f3]) (g3 k f3) hty.1 hty.2 hd (fun H' j a1 a2 a3 => ?_)
  refine kk p e s m args below meth c H' _ lr cx wd (hS.put a2 a3 hA.1) (xRel_upd r a2 a3 rfl rfl (fun b hb => ?_) (fun _ _ => rfl) (fun _ _ => rfl) (fun j => ?_) (fun t n2 ht => ?_)) hl
  · funext j
    rw [mI_sI, if_neg (fun q => hb q.1)]
  · rw [mI_sI]
    split
    · exact hx0
    · exact r.2.1 _ _
  · rw [ha] at ht
    cases ht
    rw [xE_obj f1]
    have hkd2 : xft ci k ≠ 1 ∧ xft ci k ≠ 2 := by rw [f4]; rcases hkd with e | ⟨e, -⟩ <;> rw [e] <;> decide
    rw [xfs_set (h' := sI h a k x) f3 (by simp [xfv, hkd2.1, hkd2.2, mI_sI]; rfl) (fun j hj => by
      have : ¬ ((j : Int) = (k : Int)) := by omega
      simp [xfv, mI_sI, mL_sI, mR_sI, this])] at a1
    exact a1
theorem xrf_cat (x : Option Nat) : (va_rf x).category = 1 := by cases x <;> rfl
theorem xrf_fit {ty : FieldType} {x : Option Nat} (h : (∃ C, ty = .object C) ∨ ∃ t, ty = .array t) : narrow ty (va_rf x) = va_rf x ∧ fits ty (va_rf x) = true := by
  rcases h with ⟨C, rfl⟩ | ⟨t, rfl⟩ <;> cases x <;> exact ⟨rfl, rfl⟩
theorem X.putR {index ci n k a : Nat} {x : Option Nat} (f : xFld own index ci n k 2) (hc : xCls ci) (hm : xMay own ini ci k) (hd : decode cc pc = .ok (.putfield index, 3)) (ha : mT h a = some (ci, n)) (hp : pc + 3 = pc') (kk : X Ω own cc nL ret ini R PR PX kc ks pc' ls st (sR h a k x)) : X Ω own cc nL ret ini R PR PX kc ks pc ls (vr x :: rf a :: st) h := by
  intro p e s m args below meth c H locs lr cx wd hS r hl
  obtain ⟨hx, hb, hr, hml, hown, hlocks, hts, hin, hexc⟩ := id cx
  subst hp
  obtain ⟨f1, C, T, f2, f3, f4, f5⟩ := f
  obtain ⟨q, q1, q2⟩ := hm
  cases f2.symm.trans q1
  obtain ⟨g1, g2, ty, g3, g4⟩ := id (hc _ f2)
  have hA := (r.2.2 a ci n ha)
  rw [xE_obj f1] at hA
  have hty := xrf_fit (x := x) ((g4 k f3).2.2.1 f4)
  refine xPutW hx hb hts hown hin hc f2 f3 f5 q2 wd.1 hA.2 (by simp [f3]) (g3 k f3) hty.1 hty.2 hd (fun H' j a1 a2 a3 => ?_)
  refine kk p e s m args below meth c H' _ lr cx wd (hS.put a2 a3 hA.1) (xRel_upd r a2 a3 rfl rfl (fun _ _ => rfl) (fun b hb => ?_) (fun _ _ => rfl) (fun j => r.2.1 _ _) (fun t n2 ht => ?_)) hl
  · funext j
    rw [mR_sR, if_neg (fun q => hb q.1)]
  · rw [ha] at ht
    cases ht
    rw [xE_obj f1]
    have a1 : va_at Ω.2.1 vwCl (a, .inr (ci, ((List.range n).map (xfv h a ci)).set k (va_rf x))) H' := a1
    rw [xfs_set (h' := sR h a k x) f3 (v := va_rf x) (by simp [xfv, f4, mR_sR]) (fun j hj => by
      have : ¬ ((j : Int) = (k : Int)) := by omega
      simp [xfv, mI_sR, mL_sR, mR_sR, this])] at a1
    exact a1
theorem X.putL {index ci n k a : Nat} {x : Int64} (f : xFld own index ci n k 1) (hc : xCls ci) (hm : xMay own ini ci k) (hd : decode cc pc = .ok (.putfield index, 3)) (ha : mT h a = some (ci, n)) (hp : pc + 3 = pc') (kk : X Ω own cc nL ret ini R PR PX kc ks pc' ls st (sL h a k x)) : X Ω own cc nL ret ini R PR PX kc ks pc ls (vl x :: rf a :: st) h := by
  intro p e s m args below meth c H locs lr cx wd hS r hl
  obtain ⟨hx, hb, hr, hml, hown, hlocks, hts, hin, hexc⟩ := id cx
  subst hp
  obtain ⟨f1, C, T, f2, f3, f4, f5⟩ := f
  obtain ⟨q, q1, q2⟩ := hm
  cases f2.symm.trans q1
  obtain ⟨g1, g2, ty, g3, g4⟩ := id (hc _ f2)
  have hA := (r.2.2 a ci n ha)
  rw [xE_obj f1] at hA
  have hty : narrow (ty k) (.long x) = .long x ∧ fits (ty k) (.long x) = true := by
    rw [(g4 k f3).2.1 f4]
    exact ⟨rfl, rfl⟩
  refine xPutW hx hb hts hown hin hc f2 f3 f5 q2 wd.1 hA.2 (by simp [f3]) (g3 k f3) hty.1 hty.2 hd (fun H' j a1 a2 a3 => ?_)
  refine kk p e s m args below meth c H' _ lr cx wd (hS.put a2 a3 hA.1) (xRel_upd r a2 a3 rfl rfl (fun _ _ => rfl) (fun _ _ => rfl) (fun b hb => ?_) (fun j => r.2.1 _ _) (fun t n2 ht => ?_)) hl
  · funext j
    rw [mL_sL, if_neg (fun q => hb q.1)]
  · rw [ha] at ht
    cases ht
    rw [xE_obj f1]
    have a1 : va_at Ω.2.1 vwCl (a, .inr (ci, ((List.range n).map (xfv h a ci)).set k (.long x))) H' := a1
    rw [xfs_set (h' := sL h a k x) f3 (v := .long x) (by simp [xfv, f4, mL_sL]) (fun j hj => by
      have : ¬ ((j : Int) = (k : Int)) := by omega
      simp [xfv, mI_sL, mL_sL, mR_sL, this])] at a1
    exact a1

end XR
end
section
/-! ===== X: arrays, new cells, calls, ends ===== -/
section XR2
variable {Ω : xO} {own : String} {cc : ByteArray} {nL : Nat} {ret : Option FieldType} {ini : Bool} {R : Room} {PR : Option xV → xM → Prop} {PX : String → xM → Prop} {kc ks pc pc' : Nat} {ls : List (Option xV)} {st : List xV} {h : xM}
theorem xE_10 {cA : Nat → ClassId} {h : xM} {a n : Nat} : xE cA h a 10 n = .inl (cA 0, n, .inl (fun j => Int32.ofInt (mI h a j))) := rfl
theorem xE_11 {cA : Nat → ClassId} {h : xM} {a n : Nat} : xE cA h a 11 n = .inl (cA 1, n, .inl (fun j => Int32.ofInt (mI h a j))) := rfl
theorem xE_12 {cA : Nat → ClassId} {h : xM} {a n : Nat} : xE cA h a 12 n = .inl (cA 2, n, .inr (.inl (fun j => mL h a j))) := rfl
theorem xE_13 {cA : Nat → ClassId} {h : xM} {a n : Nat} : xE cA h a 13 n = .inl (cA 3, n, .inr (.inr (.inr (.inr (fun j => mR h a j))))) := rfl
theorem xE_14 {cA : Nat → ClassId} {h : xM} {a n : Nat} : xE cA h a 14 n = .inl (cA 4, n, .inr (.inr (.inr (.inr (fun j => mR h a j))))) := rfl
theorem x_toNat {i : Int} (h0 : 0 ≤ i) : ((i.toNat : Nat) : Int) = i := Int.toNat_of_nonneg h0
theorem X.iald {a n : Nat} {i x : Int} (hd : decode cc pc = .ok (.iaload, 1)) (ha : mT h a = some (10, n)) (h0 : 0 ≤ i) (h1 : i < n) (h2 : inR i) (hv : mI h a i = x) (hp : pc + 1 = pc') (kk : inR x → X Ω own cc nL ret ini R PR PX kc ks pc' ls (vi x :: st) h) : X Ω own cc nL ret ini R PR PX kc ks pc ls (vi i :: rf a :: st) h := by
  intro p e s m args below meth c H locs lr cx wd hS r hl
  obtain ⟨hx, hb, hr, hml, hown, hlocks, hts, hin, hexc⟩ := id cx
  subst hp
  subst hv
  have hA := (r.2.2 a 10 n ha).2
  rw [xE_10] at hA
  refine va_iald hx hb wd.1 (xP1 hA) 0 0 rfl rfl (i := Int32.ofInt i) (x_in h2 h0 h1) hd ?_
  have := kk (r.2.1 a i) p e s m args below meth c H locs lr cx wd hS r hl
  rw [x_nat h2, x_toNat h0]
  exact this
theorem X.cald {a n : Nat} {i x : Int} (hd : decode cc pc = .ok (.caload, 1)) (ha : mT h a = some (11, n)) (h0 : 0 ≤ i) (h1 : i < n) (h2 : inR i) (hv : mI h a i = x) (hp : pc + 1 = pc') (kk : inR x → X Ω own cc nL ret ini R PR PX kc ks pc' ls (vi x :: st) h) : X Ω own cc nL ret ini R PR PX kc ks pc ls (vi i :: rf a :: st) h := by
  intro p e s m args below meth c H locs lr cx wd hS r hl
  obtain ⟨hx, hb, hr, hml, hown, hlocks, hts, hin, hexc⟩ := id cx
  subst hp
  subst hv
  have hA := (r.2.2 a 11 n ha).2
  rw [xE_11] at hA
  refine va_cald hx hb wd.1 (xP1 hA) 0 1 rfl rfl (i := Int32.ofInt i) (x_in h2 h0 h1) hd ?_
  have := kk (r.2.1 a i) p e s m args below meth c H locs lr cx wd hS r hl
  rw [x_nat h2, x_toNat h0]
  exact this
theorem X.lald {a n : Nat} {i : Int} {x : Int64} (hd : decode cc pc = .ok (.laload, 1)) (ha : mT h a = some (12, n)) (h0 : 0 ≤ i) (h1 : i < n) (h2 : inR i) (hv : mL h a i = x) (hp : pc + 1 = pc') (kk : X Ω own cc nL ret ini R PR PX kc ks pc' ls (vl x :: st) h) : X Ω own cc nL ret ini R PR PX kc ks pc ls (vi i :: rf a :: st) h := by
  intro p e s m args below meth c H locs lr cx wd hS r hl
  obtain ⟨hx, hb, hr, hml, hown, hlocks, hts, hin, hexc⟩ := id cx
  subst hp
  subst hv
  have hA := (r.2.2 a 12 n ha).2
  rw [xE_12] at hA
  refine va_lald hx hb wd.1 (xP1 hA) 0 2 rfl rfl (i := Int32.ofInt i) (x_in h2 h0 h1) hd ?_
  have := kk p e s m args below meth c H locs lr cx wd hS r hl
  rw [x_nat h2, x_toNat h0]
  exact this
theorem xArr {Ω : xO} {s : State} (wd : xWd Ω s) {k : Nat} {q : ClassId × FieldType} (h : (xty Ω.2.2.1)[k]? = some q) : ArrOfT s q.1 q.2 := (wd.1.2 k q h).1
theorem X.aald13 {a n : Nat} {i : Int} {x : Option Nat} (hd : decode cc pc = .ok (.aaload, 1)) (ha : mT h a = some (13, n)) (h0 : 0 ≤ i) (h1 : i < n) (h2 : inR i) (hv : mR h a i = x) (hp : pc + 1 = pc') (kk : X Ω own cc nL ret ini R PR PX kc ks pc' ls (vr x :: st) h) : X Ω own cc nL ret ini R PR PX kc ks pc ls (vi i :: rf a :: st) h := by
  intro p e s m args below meth c H locs lr cx wd hS r hl
  obtain ⟨hx, hb, hr, hml, hown, hlocks, hts, hin, hexc⟩ := id cx
  subst hp
  subst hv
  have hA := (r.2.2 a 13 n ha).2
  rw [xE_13] at hA
  have hlt : i.toNat < n := by omega
  refine W.aald hx hb (a := a) (cell := arrV (Ω.2.2.1 3) n (fun j => va_rf (mR h a j))) (j := Int32.ofInt i) (v := va_rf (mR h a i)) (ty := .array .int) hA (xArr wd (k := 3) rfl n _) rfl (fun q => by cases q) (by rw [arrV_size]; exact x_in h2 h0 h1) ?_ rfl rfl hd (kk p e s m args below meth c H locs lr cx wd hS r hl)
  rw [x_nat h2, arrV_read _ _ hlt, x_toNat h0]
theorem X.aald14 {a n : Nat} {i : Int} {x : Option Nat} (hd : decode cc pc = .ok (.aaload, 1)) (ha : mT h a = some (14, n)) (h0 : 0 ≤ i) (h1 : i < n) (h2 : inR i) (hv : mR h a i = x) (hp : pc + 1 = pc') (kk : X Ω own cc nL ret ini R PR PX kc ks pc' ls (vr x :: st) h) : X Ω own cc nL ret ini R PR PX kc ks pc ls (vi i :: rf a :: st) h := by
  intro p e s m args below meth c H locs lr cx wd hS r hl
  obtain ⟨hx, hb, hr, hml, hown, hlocks, hts, hin, hexc⟩ := id cx
  subst hp
  subst hv
  have hA := (r.2.2 a 14 n ha).2
  rw [xE_14] at hA
  have hlt : i.toNat < n := by omega
  refine W.aald hx hb (a := a) (cell := arrV (Ω.2.2.1 4) n (fun j => va_rf (mR h a j))) (j := Int32.ofInt i) (v := va_rf (mR h a i)) (ty := .object RX0) hA (xArr wd (k := 4) rfl n _) rfl (fun q => by cases q) (by rw [arrV_size]; exact x_in h2 h0 h1) ?_ rfl rfl hd (kk p e s m args below meth c H locs lr cx wd hS r hl)
  rw [x_nat h2, arrV_read _ _ hlt, x_toNat h0]
theorem X.alen {a n t : Nat} (hd : decode cc pc = .ok (.arraylength, 1)) (ha : mT h a = some (t, n)) (ht : t = 10) (hp : pc + 1 = pc') (kk : X Ω own cc nL ret ini R PR PX kc ks pc' ls (vi n :: st) h) : X Ω own cc nL ret ini R PR PX kc ks pc ls (rf a :: st) h := by
  intro p e s m args below meth c H locs lr cx wd hS r hl
  obtain ⟨hx, hb, hr, hml, hown, hlocks, hts, hin, hexc⟩ := id cx
  subst hp
  subst ht
  have hA := (r.2.2 a 10 n ha).2
  rw [xE_10] at hA
  exact va_alen hx hb wd.1 (xP1 hA) 0 0 rfl rfl (v := Int32.ofInt n) rfl hd (kk p e s m args below meth c H locs lr cx wd hS r hl)
theorem X.iast {a n : Nat} {i x : Int} (hd : decode cc pc = .ok (.iastore, 1)) (ha : mT h a = some (10, n)) (h0 : 0 ≤ i) (h1 : i < n) (h2 : inR i) (hx0 : inR x) (hp : pc + 1 = pc') (kk : X Ω own cc nL ret ini R PR PX kc ks pc' ls st (sI h a i x)) : X Ω own cc nL ret ini R PR PX kc ks pc ls (vi x :: vi i :: rf a :: st) h := by
  intro p e s m args below meth c H locs lr cx wd hS r hl
  obtain ⟨hx, hb, hr, hml, hown, hlocks, hts, hin, hexc⟩ := id cx
  subst hp
  have hA := r.2.2 a 10 n ha
  rw [xE_10] at hA
  have hlt : i.toNat < n := by omega
  refine W.iast hx hb (a := a) (cell := arrV (Ω.2.2.1 0) n (fun j => .int (Int32.ofInt (mI h a j)))) (j := Int32.ofInt i) (x := Int32.ofInt x) hA.2 (xArr wd (k := 0) rfl n _) (fun q => by cases q) (by rw [arrV_size]; exact x_in h2 h0 h1) rfl rfl hd (fun H' e1 e2 e3 => ?_)
  refine kk p e s m args below meth c H' _ lr cx wd (hS.put e2 e3 hA.1) (xRel_upd r e2 e3 rfl rfl (fun b hb => ?_) (fun _ _ => rfl) (fun _ _ => rfl) (fun j => ?_) (fun t n2 ht => ?_)) hl
  · funext j
    rw [mI_sI, if_neg (fun q => hb q.1)]
  · rw [mI_sI]
    split
    · exact hx0
    · exact r.2.1 _ _
  · rw [ha] at ht
    cases ht
    rw [xE_10]
    show H'[a]? = some (vp_cell _ _)
    rw [e1, vp_cell_i, arrV_store, x_nat h2]
    congr 2
    funext j
    unfold updV
    rw [mI_sI]
    by_cases e : j = i.toNat
    · rw [if_pos e, if_pos ⟨rfl, by omega⟩]
    · rw [if_neg e, if_neg (fun q => e (by have := q.2; omega))]
theorem X.cast {a n : Nat} {i x : Int} (hd : decode cc pc = .ok (.castore, 1)) (ha : mT h a = some (11, n)) (h0 : 0 ≤ i) (h1 : i < n) (h2 : inR i) (hx0 : 0 ≤ x) (hx1 : x < 65536) (hp : pc + 1 = pc') (kk : X Ω own cc nL ret ini R PR PX kc ks pc' ls st (sI h a i x)) : X Ω own cc nL ret ini R PR PX kc ks pc ls (vi x :: vi i :: rf a :: st) h := by
  intro p e s m args below meth c H locs lr cx wd hS r hl
  obtain ⟨hx, hb, hr, hml, hown, hlocks, hts, hin, hexc⟩ := id cx
  subst hp
  have hA := r.2.2 a 11 n ha
  rw [xE_11] at hA
  have hlt : i.toNat < n := by omega
  have hnar : narrow .char (.int (Int32.ofInt x)) = .int (Int32.ofInt x) := by
    show Value.int ((Int32.ofInt x).toUInt32 % 65536).toInt32 = _
    rw [x_i2c hx0 hx1]
  refine W.cast hx hb (a := a) (cell := arrV (Ω.2.2.1 1) n (fun j => .int (Int32.ofInt (mI h a j)))) (j := Int32.ofInt i) (x := Int32.ofInt x) hA.2 (xArr wd (k := 1) rfl n _) (fun q => by cases q) (by rw [arrV_size]; exact x_in h2 h0 h1) rfl rfl hd (fun H' e1 e2 e3 => ?_)
  rw [hnar] at e1
  refine kk p e s m args below meth c H' _ lr cx wd (hS.put e2 e3 hA.1) (xRel_upd r e2 e3 rfl rfl (fun b hb => ?_) (fun _ _ => rfl) (fun _ _ => rfl) (fun j => ?_) (fun t n2 ht => ?_)) hl
  · funext j
    rw [mI_sI, if_neg (fun q => hb q.1)]
  · rw [mI_sI]
    split
    · exact ⟨by omega, by omega⟩
    · exact r.2.1 _ _
  · rw [ha] at ht
    cases ht
    rw [xE_11]
    show H'[a]? = some (vp_cell _ _)
    rw [e1, vp_cell_i, arrV_store, x_nat h2]
    congr 2
    funext j
    unfold updV
    rw [mI_sI]
    by_cases e : j = i.toNat
    · rw [if_pos e, if_pos ⟨rfl, by omega⟩]
    · rw [if_neg e, if_neg (fun q => e (by have := q.2; omega))]
theorem X.last {a n : Nat} {i : Int} {x : Int64} (hd : decode cc pc = .ok (.lastore, 1)) (ha : mT h a = some (12, n)) (h0 : 0 ≤ i) (h1 : i < n) (h2 : inR i) (hp : pc + 1 = pc') (kk : X Ω own cc nL ret ini R PR PX kc ks pc' ls st (sL h a i x)) : X Ω own cc nL ret ini R PR PX kc ks pc ls (vl x :: vi i :: rf a :: st) h := by
  intro p e s m args below meth c H locs lr cx wd hS r hl
  obtain ⟨hx, hb, hr, hml, hown, hlocks, hts, hin, hexc⟩ := id cx
  subst hp
  have hA := r.2.2 a 12 n ha
  rw [xE_12] at hA
  have hlt : i.toNat < n := by omega
  refine W.last hx hb (a := a) (cell := arrV (Ω.2.2.1 2) n (fun j => .long (mL h a j))) (j := Int32.ofInt i) (x := x) hA.2 (xArr wd (k := 2) rfl n _) (fun q => by cases q) (by rw [arrV_size]; exact x_in h2 h0 h1) rfl rfl hd (fun H' e1 e2 e3 => ?_)
  refine kk p e s m args below meth c H' _ lr cx wd (hS.put e2 e3 hA.1) (xRel_upd r e2 e3 rfl rfl (fun _ _ => rfl) (fun _ _ => rfl) (fun b hb => ?_) (fun j => r.2.1 _ _) (fun t n2 ht => ?_)) hl
  · funext j
    rw [mL_sL, if_neg (fun q => hb q.1)]
  · rw [ha] at ht
    cases ht
    rw [xE_12]
    show H'[a]? = some (vp_cell _ _)
    rw [e1, vp_cell_l, arrV_store, x_nat h2]
    congr 2
    funext j
    unfold updV
    rw [mL_sL]
    by_cases e : j = i.toNat
    · rw [if_pos e, if_pos ⟨rfl, by omega⟩]
    · rw [if_neg e, if_neg (fun q => e (by have := q.2; omega))]
end XR2
end
section
/-! ===== X: new cells, calls, ends ===== -/
theorem xr_outer (c : ClassId) (N h0 : Nat) : ∀ i : Nat, Jvm.Free.Multi.outerC c N h0 i = arrV c N (fun j => va_rf (if j < i then some (h0 + 1 + j) else none))
  | 0 => by
    show ({ cls := c, slots := Array.replicate N .null, vm := .none } : Cell) = _
    rw [arrV_new]
    refine congrArg (arrV c N) (funext fun j => ?_)
    simp [va_rf]
  | i + 1 => by
    show (Jvm.Free.Multi.outerC c N h0 i).setSlot i (.ref (h0 + 1 + i)) = _
    rw [xr_outer c N h0 i, arrV_store]
    refine congrArg (arrV c N) (funext fun j => ?_)
    by_cases e : j = i
    · subst e
      simp [updV, va_rf]
    · by_cases h : j < i
      · simp [updV, e, h, Nat.lt_succ_of_lt h]
      · simp [updV, e, h, show ¬ j < i + 1 by omega]
section XR3
variable {Ω : xO} {own : String} {cc : ByteArray} {nL : Nat} {ret : Option FieldType} {ini : Bool} {R : Room} {PR : Option xV → xM → Prop} {PX : String → xM → Prop} {kc ks pc pc' : Nat} {ls : List (Option xV)} {st : List xV} {h : xM}
theorem X.aast14 {a n v nv : Nat} {i : Int} (hd : decode cc pc = .ok (.aastore, 1)) (ha : mT h a = some (14, n)) (h0 : 0 ≤ i) (h1 : i < n) (h2 : inR i) (hv : mT h v = some (0, nv)) (hp : pc + 1 = pc') (kk : X Ω own cc nL ret ini R PR PX kc ks pc' ls st (sR h a i (some v))) : X Ω own cc nL ret ini R PR PX kc ks pc ls (rf v :: vi i :: rf a :: st) h := by
  intro p e s m args below meth c H locs lr cx wd hS r hl
  obtain ⟨hx, hb, hr, hml, hown, hlocks, hts, hin, hexc⟩ := id cx
  subst hp
  have hA := r.2.2 a 14 n ha
  rw [xE_14] at hA
  have hV := (r.2.2 v 0 nv hv).2
  rw [xE_obj (by omega)] at hV
  have hlt : i.toNat < n := by omega
  obtain ⟨r', hr', cellV, g1, g2, g3, -⟩ := hV
  have hcls := (wd.1.1 0 (RX0, TX0, 12) rfl).2
  obtain ⟨kA, comp, k1, k2, k3, -⟩ := (wd.1.2 4 (Ω.2.2.1 4, .object RX0) rfl).2
  have hcomp : comp = Ω.2.1.1 0 := Option.some.inj (k3.symm.trans hcls.1)
  subst hcomp
  obtain ⟨kC, hkC, -⟩ := hcls.2
  have hin9 := x_in (n := n) h2 h0 h1
  refine W.aast hx hb (a := a) (cell := arrV (Ω.2.2.1 4) n (fun j => va_rf (mR h a j))) (j := Int32.ofInt i) hA.2 (fun q h => by cases h) (fun h => by cases h) k1 k2 rfl hkC ⟨fun q => hin9 (Or.inl q), by rw [arrV_size, x_nat h2]; exact hlt⟩ g1 (fun q h => by rw [g3] at h; cases h) (by rw [g2]; exact hkC) (by rw [g2]; exact va_assign hcls) rfl rfl hd fun H' e1 e2 e3 => ?_
  refine kk p e s m args below meth c H' _ lr cx wd (hS.put e2 e3 hA.1) (xRel_upd r e2 e3 rfl rfl (fun _ _ => rfl) (fun b hb => ?_) (fun _ _ => rfl) (fun j => r.2.1 _ _) (fun t n2 ht => ?_)) hl
  · funext j
    rw [mR_sR, if_neg (fun q => hb q.1)]
  · rw [ha] at ht
    cases ht
    rw [xE_14]
    show H'[a]? = some (vp_cell _ _)
    rw [e1, vp_cell_q, arrV_store, x_nat h2]
    congr 2
    funext j
    unfold updV
    rw [mR_sR]
    by_cases e : j = i.toNat
    · rw [if_pos e, if_pos ⟨rfl, by omega⟩]
      rfl
    · rw [if_neg e, if_neg (fun q => e (by have := q.2; omega))]
/-- new: a cell of the class ci -/
theorem X.new {index ci n : Nat} {C : String} {T : u_T} (hd : decode cc pc = .ok (.new index, 3)) (hc : xCls ci) (hci : ci < 7) (hC : vwCl[ci]? = some (C, T, n)) (w1 : Cond.classLink own index C ∈ WG) (w2 : Cond.instantiable C n ∈ WG) (w3 : Cond.initialized C ∈ WG) (hkc : kc + 1 ≤ R.cells) (hks : ks + n ≤ R.slots) (hp : pc + 3 = pc')
    (kk : X Ω own cc nL ret ini R PR PX (kc + 1) (ks + n) pc' ls (rf (mN h) :: st) (aL h ci n)) : X Ω own cc nL ret ini R PR PX kc ks pc ls st h := by
  intro p e s m args below meth c H locs lr cx wd hS r hl
  obtain ⟨hx, hb, hr, hml, hown, hlocks, hts, hin, hexc⟩ := id cx
  subst hp
  obtain ⟨g1, g2, ty, g3, g4⟩ := hc _ hC
  have hKn := wd.1.1 ci _ hC
  refine W.newcK hx hb hown (hts _ w1) (hts _ w2) (hts _ w3) rfl hd hkc hks hKn.2.1 rfl fun H1 kC hkC e1 z1 o1 => ?_
  rw [r.1] at e1 z1 o1
  have e2 : Value.ref H.size = xc (rf (mN h)) := by rw [r.1]; rfl
  rw [e2]
  refine kk p e s m args below meth c H1 locs lr cx wd (xS_grow hS (by rw [r.1]; omega) (fun q hq => o1 q (by rw [← r.1]; exact hq))) (xRel_new r (xS_B wd hS) z1 (fun q hq => o1 q (by rw [← r.1]; exact hq)) (fun b hb => ?_) (fun b hb => ?_) (fun b hb => ?_) (fun b hb => ?_) (fun b k hb => ?_) (fun b t m2 hb ht => ?_)) hl
  · rw [mT_aL, if_neg (by omega)]
  · funext j
    rw [mI_aL, if_neg (by omega)]
  · funext j
    rw [mR_aL, if_neg (by omega)]
  · funext j
    rw [mL_aL, if_neg (by omega)]
  · rw [mI_aL]
    split
    · exact inR_0
    · exact r.2.1 _ _
  · rw [mT_aL] at ht
    by_cases e9 : b = mN h
    · rw [if_pos e9] at ht
      cases ht
      subst e9
      rw [xE_obj hci]
      refine ⟨_, hC, (u_born ty hts g1 hKn hkC e1 g3).to (fun k hk => ?_)⟩
      unfold vp_V
      rw [List.getD_eq_getElem?_getD, List.getElem?_map, List.getElem?_range hk]
      have h4 := g4 k hk
      simp only [Option.map_some, Option.getD_some, xfv, mI_aL, mR_aL, mL_aL, if_true]
      rcases (show xft ci k = 0 ∨ xft ci k = 1 ∨ xft ci k = 2 ∨ xft ci k = 3 by omega) with q | q | q | q
      · rw [h4.1 q, q]; rfl
      · rw [h4.2.1 q, q]; rfl
      · rw [q]
        rcases h4.2.2.1 q with ⟨C9, q9⟩ | ⟨t9, q9⟩ <;> rw [q9] <;> rfl
      · rw [h4.2.2.2.1 q, q]; rfl
    · rw [if_neg e9] at ht
      exact absurd (r.lt ht) (by omega)
/-- new array of a simple kind: t 10 int, 11 char, 12 long -/
theorem X.newa {at_ : ArrayType} {k : Int} {N t : Nat} (hd : decode cc pc = .ok (.newarray at_, 2)) (ht : (t = 10 ∧ newarray.typeOf at_ = .int) ∨ (t = 11 ∧ newarray.typeOf at_ = .char) ∨ (t = 12 ∧ newarray.typeOf at_ = .long)) (w : Cond.arrayClass (newarray.typeOf at_) ∈ WG) (hk : k = N) (hN : N ≤ 50000000) (hkc : kc + 1 ≤ R.cells) (hks : ks + N ≤ R.slots) (hp : pc + 2 = pc')
    (kk : X Ω own cc nL ret ini R PR PX (kc + 1) (ks + N) pc' ls (rf (mN h) :: st) (aL h t N)) : X Ω own cc nL ret ini R PR PX kc ks pc ls (vi k :: st) h := by
  intro p e s m args below meth c H locs lr cx wd hS r hl
  obtain ⟨hx, hb, hr, hml, hown, hlocks, hts, hin, hexc⟩ := id cx
  subst hp
  subst hk
  have hi : inR (N : Int) := ⟨by omega, by omega⟩
  have hn0 : ¬ Int32.ofInt (N : Int) < 0 := by
    rw [show (0 : Int32) = Int32.ofInt 0 from rfl, x_lt hi inR_0]
    omega
  refine va_newaK hx hb (hts _ w) rfl hd rfl hn0 (N := N) (by rw [x_nat hi]; omega) (by rcases ht with ⟨-, q⟩ | ⟨-, q⟩ | ⟨-, q⟩ <;> rw [q] <;> simp [componentBytes] <;> omega) hkc hks rfl fun H1 cA e1 z1 o1 hAr hNm => ?_
  rw [r.1] at e1 z1 o1
  have e2 : Value.ref H.size = xc (rf (mN h)) := by rw [r.1]; rfl
  rw [e2]
  refine kk p e s m args below meth c H1 locs lr cx wd (xS_grow hS (by rw [r.1]; omega) (fun q hq => o1 q (by rw [← r.1]; exact hq))) (xRel_new r (xS_B wd hS) z1 (fun q hq => o1 q (by rw [← r.1]; exact hq)) (fun b hb => ?_) (fun b hb => ?_) (fun b hb => ?_) (fun b hb => ?_) (fun b k hb => ?_) (fun b t9 m2 hb ht9 => ?_)) hl
  · rw [mT_aL, if_neg (by omega)]
  · funext j
    rw [mI_aL, if_neg (by omega)]
  · funext j
    rw [mR_aL, if_neg (by omega)]
  · funext j
    rw [mL_aL, if_neg (by omega)]
  · rw [mI_aL]
    split
    · exact inR_0
    · exact r.2.1 _ _
  · rw [mT_aL] at ht9
    by_cases e9 : b = mN h
    · rw [if_pos e9] at ht9
      cases ht9
      subst e9
      rcases ht with ⟨rfl, q⟩ | ⟨rfl, q⟩ | ⟨rfl, q⟩
      · rw [q] at hNm e1
        have q2 : cA = Ω.2.2.1 0 := Option.some.inj (hNm.symm.trans (wd.1.2 0 _ rfl).2)
        rw [xE_10]
        show H1[mN h]? = some (vp_cell _ _)
        rw [e1, vp_cell_i, q2]
        congr 2
        funext j
        rw [mI_aL, if_pos rfl]
        rfl
      · rw [q] at hNm e1
        have q2 : cA = Ω.2.2.1 1 := Option.some.inj (hNm.symm.trans (wd.1.2 1 _ rfl).2)
        rw [xE_11]
        show H1[mN h]? = some (vp_cell _ _)
        rw [e1, vp_cell_i, q2]
        congr 2
        funext j
        rw [mI_aL, if_pos rfl]
        rfl
      · rw [q] at hNm e1
        have q2 : cA = Ω.2.2.1 2 := Option.some.inj (hNm.symm.trans (wd.1.2 2 _ rfl).2)
        rw [xE_12]
        show H1[mN h]? = some (vp_cell _ _)
        rw [e1, vp_cell_l, q2]
        congr 2
        funext j
        rw [mL_aL, if_pos rfl]
        rfl
    · rw [if_neg e9] at ht9
      exact absurd (r.lt ht9) (by omega)
/-- new Chamber[N] -/
theorem X.anew {index : Nat} {k : Int} {N : Nat} (hd : decode cc pc = .ok (.anewarray index, 3)) (w : Cond.classLink own index RX0 ∈ WG) (hk : k = N) (hN : N ≤ 50000000) (hkc : kc + 1 ≤ R.cells) (hks : ks + N ≤ R.slots) (hp : pc + 3 = pc')
    (kk : X Ω own cc nL ret ini R PR PX (kc + 1) (ks + N) pc' ls (rf (mN h) :: st) (aL h 14 N)) : X Ω own cc nL ret ini R PR PX kc ks pc ls (vi k :: st) h := by
  intro p e s m args below meth c H locs lr cx wd hS r hl
  obtain ⟨hx, hb, hr, hml, hown, hlocks, hts, hin, hexc⟩ := id cx
  subst hp
  subst hk
  have hi : inR (N : Int) := ⟨by omega, by omega⟩
  have hn0 : ¬ Int32.ofInt (N : Int) < 0 := by
    rw [show (0 : Int32) = Int32.ofInt 0 from rfl, x_lt hi inR_0]
    omega
  have hN9 : (Int32.ofInt (N : Int)).toNatClampNeg = N := by rw [x_nat hi]; omega
  refine W.anew hx hb hown (hts _ w) (va_AO.use wd.2.2.2.2.1.1) rfl hd rfl hn0 (by rw [hN9]; omega) hkc (by rw [hN9]; exact hks) fun cA kA comp f1 f2 f3 f4 => ?_
  rw [hN9, arrV_new]
  have q2 : cA = Ω.2.2.1 4 := Option.some.inj (f1.symm.trans wd.2.1.2.2)
  have e2 : Value.ref H.size = xc (rf (mN h)) := by rw [r.1]; rfl
  have o1 : ∀ q : Nat, q < H.size → (H.push (arrV cA N (fun _ => .null)))[q]? = H[q]? := fun q hq => by rw [Array.getElem?_push, if_neg (Nat.ne_of_lt hq)]
  have e1 : (H.push (arrV cA N (fun _ => .null)))[mN h]? = some (arrV cA N (fun _ => .null)) := by rw [← r.1]; simp
  have z1 : (H.push (arrV cA N (fun _ => .null))).size = mN h + 1 := by rw [← r.1]; simp
  rw [e2]
  refine kk p e s m args below meth c _ locs lr cx wd (xS_grow hS (by rw [z1, r.1]; omega) o1) (xRel_new r (xS_B wd hS) z1 o1 (fun b hb => ?_) (fun b hb => ?_) (fun b hb => ?_) (fun b hb => ?_) (fun b k hb => ?_) (fun b t9 m2 hb ht9 => ?_)) hl
  · rw [mT_aL, if_neg (by omega)]
  · funext j
    rw [mI_aL, if_neg (by omega)]
  · funext j
    rw [mR_aL, if_neg (by omega)]
  · funext j
    rw [mL_aL, if_neg (by omega)]
  · rw [mI_aL]
    split
    · exact inR_0
    · exact r.2.1 _ _
  · rw [mT_aL] at ht9
    by_cases e9 : b = mN h
    · rw [if_pos e9] at ht9
      cases ht9
      subst e9
      rw [xE_14]
      show _ = some (vp_cell _ _)
      rw [e1, vp_cell_q, q2]
      congr 2
      funext j
      rw [mR_aL, if_pos rfl]
      rfl
    · rw [if_neg e9] at ht9
      exact absurd (r.lt ht9) (by omega)
/-- new int[K][N] -/
theorem X.mnew {index : Nat} {k1 k2 : Int} {K N : Nat} (hd : decode cc pc = .ok (.multianewarray index 2, 4)) (w : Cond.classLink own index ("[" ++ (FieldType.array .int).toString) ∈ WG) (w2 : Cond.arrayClass .int ∈ WG) (hk1 : k1 = K) (hk2 : k2 = N) (hK : K ≤ 1000) (hN : N ≤ 1000000) (hkc : kc + 1 + K ≤ R.cells) (hks : ks + K + K * N ≤ R.slots) (hp : pc + 4 = pc')
    (kk : X Ω own cc nL ret ini R PR PX (kc + 1 + K) (ks + K + K * N) pc' ls (rf (mN h) :: st) (aM h K N)) : X Ω own cc nL ret ini R PR PX kc ks pc ls (vi k2 :: vi k1 :: st) h := by
  intro p e s m args below meth c H locs lr cx wd hS r hl
  obtain ⟨hx, hb, hr, hml, hown, hlocks, hts, hin, hexc⟩ := id cx
  subst hp
  subst hk1
  subst hk2
  have hi1 : inR (K : Int) := ⟨by omega, by omega⟩
  have hi2 : inR (N : Int) := ⟨by omega, by omega⟩
  have hn1 : ¬ Int32.ofInt (K : Int) < 0 := by
    rw [show (0 : Int32) = Int32.ofInt 0 from rfl, x_lt hi1 inR_0]
    omega
  have hn2 : ¬ Int32.ofInt (N : Int) < 0 := by
    rw [show (0 : Int32) = Int32.ofInt 0 from rfl, x_lt hi2 inR_0]
    omega
  have c1 : (Int32.ofInt (K : Int)).toNatClampNeg = K := by rw [x_nat hi1]; omega
  have c2 : (Int32.ofInt (N : Int)).toNatClampNeg = N := by rw [x_nat hi2]; omega
  intro T hT Xs
  obtain ⟨vm₁, cA, comp, -, fA, fC, hO, hI9, X', step⟩ := Xs.multianewarray2F hx hown (hts _ w) wd.2.2.2.2.1.2 (hts _ w2) (g := F0 m pc lr (.int (Int32.ofInt N) :: .int (Int32.ofInt K) :: st.map xc)) rfl (by rw [hb]; exact hd) rfl hn1 hn2 (by rw [c1]; omega) (by rw [c2]; simp [componentBytes]; omega) (by rw [c2]; omega) rfl rfl (by rw [c1]; omega) (by rw [c1, c2]; omega)
  rw [c1, c2] at X' step
  have q1 : cA = Ω.2.2.1 3 := Option.some.inj (fA.symm.trans wd.2.1.1)
  have q2 : comp = Ω.2.2.1 0 := Option.some.inj (fC.symm.trans wd.2.1.2.1)
  subst q1
  subst q2
  generalize hF : Jvm.Free.Multi.fill (T.setVm vm₁) (Ω.2.2.1 3) (Ω.2.2.1 0) K N (defaultValue .int) K = F at X' step
  have hTh : (T.setVm vm₁).heap = H := hT
  obtain ⟨f1, f2, -, -⟩ := Jvm.Free.Multi.fill_facts (T.setVm vm₁) (Ω.2.2.1 3) (Ω.2.2.1 0) K N (defaultValue .int) K
  rw [hF, hTh] at f1 f2
  have hold : ∀ x : Nat, x < H.size → F.heap[x]? = H[x]? := fun x hx => by
    have := Jvm.Free.Multi.fill_old (T.setVm vm₁) (Ω.2.2.1 3) (Ω.2.2.1 0) K N (defaultValue .int) (a := x) (by rw [hTh]; exact hx) K
    rw [hF, hTh] at this
    exact this
  have hrow : ∀ j : Nat, j < K → F.heap[H.size + 1 + j]? = some (Jvm.Free.Multi.innerC (Ω.2.2.1 0) N (defaultValue .int)) := fun j hj => by
    have := Jvm.Free.Multi.fill_inner (T.setVm vm₁) (Ω.2.2.1 3) (Ω.2.2.1 0) K N (defaultValue .int) K j hj
    rw [hF, hTh] at this
    exact this
  have hz : F.heap.size = mN (aM h K N) := by rw [mN_aM, ← r.1, f1]
  have rr : xRel Ω (aM h K N) F.heap := by
    refine xRel_new r (xS_B wd hS) hz hold (fun b hb => ?_) (fun b hb => ?_) (fun b hb => ?_) (fun b hb => ?_) (fun b k hb => ?_) (fun b t9 m2 hb ht9 => ?_)
    · rw [mT_aM, if_neg (by omega), if_neg (by omega)]
    · funext j
      rw [mI_aM, if_neg (by omega)]
    · funext j
      rw [mR_aM, if_neg (by omega), if_neg (by omega)]
    · funext j
      rw [mL_aM, if_neg (by omega)]
    · rw [mI_aM]
      split
      · exact inR_0
      · exact r.2.1 _ _
    · rw [mT_aM] at ht9
      by_cases e9 : b = mN h
      · rw [if_pos e9] at ht9
        cases ht9
        subst e9
        rw [xE_13]
        show _ = some (vp_cell _ _)
        rw [← r.1, f2, vp_cell_q]
        congr 1
        rw [xr_outer]
        congr 1
        funext j
        rw [mR_aM, if_pos r.1]
        by_cases hj : j < K
        · rw [if_pos hj, if_pos ⟨by omega, by omega⟩, ← r.1]
          rfl
        · rw [if_neg hj, if_neg (by omega)]
      · rw [if_neg e9] at ht9
        by_cases e8 : mN h < b ∧ b < mN h + 1 + K
        · rw [if_pos e8] at ht9
          cases ht9
          have := hrow (b - mN h - 1) (by omega)
          rw [r.1, show mN h + 1 + (b - mN h - 1) = b by omega] at this
          rw [xE_10]
          show _ = some (vp_cell _ _)
          rw [this, vp_cell_i]
          show some ({ cls := _, slots := Array.replicate N _, vm := .none } : Cell) = _
          rw [arrV_new]
          congr 2
          funext j
          rw [mI_aM, if_pos ⟨by omega, by omega⟩]
          rfl
        · rw [if_neg e8] at ht9
          exact absurd (r.lt ht9) (by omega)
  obtain ⟨t, a1, b1⟩ := kk p e s m args below meth c F.heap locs lr cx wd (xS_grow hS (by rw [f1]; omega) hold) rr hl F rfl X'
  refine ⟨t, step t ?_, b1⟩
  have e9 : T.heap.size = mN h := by rw [hT, r.1]
  rw [e9]
  exact a1
end XR3
end
section
/-! ===== X: copies, statics, calls, ends ===== -/
section XR4
variable {Ω : xO} {own : String} {cc : ByteArray} {nL : Nat} {ret : Option FieldType} {ini : Bool} {R : Room} {PR : Option xV → xM → Prop} {PX : String → xM → Prop} {kc ks pc pc' : Nat} {ls : List (Option xV)} {st : List xV} {h : xM}
theorem x_cats (st : List xV) : ((st.map xc).map fun v => v.category).sum = (st.map xcat).sum := by
  rw [List.map_map]
  congr 1
  apply List.map_congr_left
  intro v _
  exact xc_cat v
theorem X.copy {index a0 a n0 n1 : Nat} {sp dp n : Int} (hd : decode cc pc = .ok (.invokestatic index, 3)) (w1 : Cond.methodLink own index arraycopyName ∈ WG) (w2 : Cond.native arraycopyName ∈ WG) (w3 : Cond.static arraycopyName ∈ WG) (w4 : Cond.initialized "java/lang/System" ∈ WG)
    (ha0 : mT h a0 = some (10, n0)) (ha : mT h a = some (10, n1)) (hsp : 0 ≤ sp) (hdp : 0 ≤ dp) (hn : 0 ≤ n) (h4 : sp + n ≤ n0) (h5 : dp + n ≤ n1) (hn0 : n0 < 1000000000) (hn1 : n1 < 1000000000) (hst : st = []) (hR : 1 ≤ R.frames ∧ 50 ≤ R.locals) (hp : pc + 3 = pc') (kk : X Ω own cc nL ret ini R PR PX kc ks pc' ls st (cI h a0 sp a dp n)) : X Ω own cc nL ret ini R PR PX kc ks pc ls (vi n :: vi dp :: rf a :: vi sp :: rf a0 :: st) h := by
  intro p e s m args below meth c H locs lr cx wd hS r hl
  obtain ⟨hx, hb, hr, hml, hown, hlocks, hts, hin, hexc⟩ := id cx
  subst hp
  subst hst
  have i1 : inR sp := ⟨by omega, by omega⟩
  have i2 : inR dp := ⟨by omega, by omega⟩
  have i3 : inR n := ⟨by omega, by omega⟩
  have nn : ∀ {z : Int}, inR z → 0 ≤ z → ¬ Int32.ofInt z < 0 := fun {z} iz hz => by
    rw [show (0 : Int32) = Int32.ofInt 0 from rfl, x_lt iz inR_0]
    omega
  have hc0 := (r.2.2 a0 10 n0 ha0).2
  have hc1' := (r.2.2 a 10 n1 ha)
  have hc1 := hc1'.2
  rw [xE_10] at hc0 hc1
  have hc0 : H[a0]? = some (vp_cell (Ω.2.2.1 0) (n0, .inl (fun j => Int32.ofInt (mI h a0 j)))) := hc0
  have hc1 : H[a]? = some (vp_cell (Ω.2.2.1 0) (n1, .inl (fun j => Int32.ofInt (mI h a j)))) := hc1
  obtain ⟨-, k0, hk0, cm0, hkk0⟩ := xArr wd (k := 0) rfl n0 (fun j => .int (Int32.ofInt (mI h a0 j)))
  obtain ⟨-, k1, hk1, cm1, hkk1⟩ := xArr wd (k := 0) rfl n1 (fun j => .int (Int32.ofInt (mI h a j)))
  have hc3 : ∀ {z : Int}, inR z → 0 ≤ z → ((Int32.ofInt z).toNatClampNeg : Int) = z := fun {z} iz hz => by rw [x_nat iz]; omega
  intro T hT Xs
  obtain ⟨vm', X', step⟩ := Xs.arraycopy hx hown (hts _ w1) (hts _ w2) (hts _ w3) (hts _ w4) (src := a0) (dst := a) (cs := vp_cell (Ω.2.2.1 0) (n0, .inl (fun j => Int32.ofInt (mI h a0 j)))) (cd := vp_cell (Ω.2.2.1 0) (n1, .inl (fun j => Int32.ofInt (mI h a j)))) (srcPos := Int32.ofInt sp) (destPos := Int32.ofInt dp) (n := Int32.ofInt n) (by rw [hT]; exact hc0) (by rw [hT]; exact hc1)
    (fun _ h => by cases h) (fun _ h => by cases h) (fun h => by cases h) (fun h => by cases h) hk0 hk1 hkk0 hkk1 (by simp [refKind]) (nn i1 hsp) (nn i2 hdp) (nn i3 hn)
    (by rw [inR_ofInt i1, inR_ofInt i3]; show ¬ _ > ((arrV (Ω.2.2.1 0) n0 (fun j => .int (Int32.ofInt (mI h a0 j)))).slots.size : Int); rw [arrV_size]; omega)
    (by rw [inR_ofInt i2, inR_ofInt i3]; show ¬ _ > ((arrV (Ω.2.2.1 0) n1 (fun j => .int (Int32.ofInt (mI h a j)))).slots.size : Int); rw [arrV_size]; omega)
    (fun vm₁ _ i hi => by
      have hlt : (Int32.ofInt sp).toNatClampNeg + i < n0 := by
        have q1 := hc3 i1 hsp
        have q2 := hc3 i3 hn
        omega
      have e : (vp_cell (Ω.2.2.1 0) (n0, .inl (fun j => Int32.ofInt (mI h a0 j)))).slots.getD ((Int32.ofInt sp).toNatClampNeg + i) .null = .int (Int32.ofInt (mI h a0 ((Int32.ofInt sp).toNatClampNeg + i : Nat))) := by
        show (arrV (Ω.2.2.1 0) n0 (fun j => .int (Int32.ofInt (mI h a0 j)))).slots.getD _ _ = _
        rw [Array.getD_eq_getD_getElem?, arrV_read _ _ hlt]
        rfl
      refine ⟨?_, ?_⟩
      · rw [e]
        rfl
      · rw [e]
        exact trivial)
    (g := F0 m pc lr (.int (Int32.ofInt n) :: .int (Int32.ofInt dp) :: .ref a :: .int (Int32.ofInt sp) :: .ref a0 :: [])) rfl (by rw [hml]; exact hl.1) (rest := []) rfl (by rw [hb]; exact hd) hR.1 (by
      have : nativeFrameWords "java/lang/System" "arraycopy" 5 + 11 ≤ 50 := by decide +kernel
      show 2 * 0 + 0 + _ ≤ _
      omega)
  have e1 : copied (vp_cell (Ω.2.2.1 0) (n0, .inl (fun j => Int32.ofInt (mI h a0 j)))) (vp_cell (Ω.2.2.1 0) (n1, .inl (fun j => Int32.ofInt (mI h a j)))) (Int32.ofInt sp) (Int32.ofInt dp) (Int32.ofInt n) = vp_cell (Ω.2.2.1 0) (n1, .inl (va_cpy (fun j => Int32.ofInt (mI h a0 j)) (fun j => Int32.ofInt (mI h a j)) (Int32.ofInt sp).toNatClampNeg (Int32.ofInt dp).toNatClampNeg (Int32.ofInt n).toNatClampNeg)) :=
    va_copied (fun z => .int z) (Ω.2.2.1 0) (Ω.2.2.1 0) (fun j : Nat => Int32.ofInt (mI h a0 j)) (fun j : Nat => Int32.ofInt (mI h a j)) (by
      have q1 := hc3 i1 hsp
      have q2 := hc3 i3 hn
      omega)
  rw [e1] at X' step
  have e2 : vp_cell (Ω.2.2.1 0) (n1, .inl (va_cpy (fun j => Int32.ofInt (mI h a0 j)) (fun j => Int32.ofInt (mI h a j)) (Int32.ofInt sp).toNatClampNeg (Int32.ofInt dp).toNatClampNeg (Int32.ofInt n).toNatClampNeg)) = vp_cell (Ω.2.2.1 0) (n1, .inl (fun j => Int32.ofInt (mI (cI h a0 sp a dp n) a j))) := by
    rw [vp_cell_i, vp_cell_i]
    congr 1
    funext j
    congr 1
    unfold va_cpy
    rw [mI_cI]
    have q1 := hc3 i1 hsp
    have q2 := hc3 i3 hn
    have q3 := hc3 i2 hdp
    by_cases hj : (Int32.ofInt dp).toNatClampNeg ≤ j ∧ j < (Int32.ofInt dp).toNatClampNeg + (Int32.ofInt n).toNatClampNeg
    · rw [if_pos hj, if_pos ⟨rfl, by omega, by omega⟩]
      exact congrArg (fun z => Int32.ofInt (mI h a0 z)) (by omega)
    · rw [if_neg hj, if_neg (by omega)]
  rw [e2] at X' step
  have hlt : a < H.size := (Array.getElem?_eq_some_iff.mp hc1).1
  have hheap : ((T.setVm vm').setCell a (vp_cell (Ω.2.2.1 0) (n1, .inl (fun j => Int32.ofInt (mI (cI h a0 sp a dp n) a j))))).heap = H.setIfInBounds a (vp_cell (Ω.2.2.1 0) (n1, .inl (fun j => Int32.ofInt (mI (cI h a0 sp a dp n) a j)))) := by rw [← hT]; rfl
  have oq : ∀ q : Nat, q ≠ a → (H.setIfInBounds a (vp_cell (Ω.2.2.1 0) (n1, .inl (fun j => Int32.ofInt (mI (cI h a0 sp a dp n) a j)))))[q]? = H[q]? := fun q hq => by simp [Array.getElem?_setIfInBounds, Ne.symm hq]
  obtain ⟨t, a1, b1⟩ := kk p e s m args below meth c _ _ lr cx wd ⟨by simp; exact hS.1, fun q g1 g2 => by
      rw [oq q (fun e => g2 (by rw [e]; exact hc1'.1))]
      exact hS.2.1 q g1 g2, fun q hq => by
      rcases List.mem_append.mp hq with h | h
      · exact hS.2.2 q h
      · obtain ⟨z, -, hz⟩ := List.mem_map.mp h
        rw [← hz]
        exact hc1'.1⟩ (xRel_upd r (H' := H.setIfInBounds a (vp_cell (Ω.2.2.1 0) (n1, .inl (fun j => Int32.ofInt (mI (cI h a0 sp a dp n) a j))))) (by simp) oq rfl rfl (fun b hb => by
          funext j
          rw [mI_cI, if_neg (fun q => hb q.1)]) (fun _ _ => rfl) (fun _ _ => rfl) (fun j => by
          rw [mI_cI]
          split
          · exact r.2.1 _ _
          · exact r.2.1 _ _) (fun t n2 ht => by
          rw [ha] at ht
          cases ht
          rw [xE_10]
          show (H.setIfInBounds a _)[a]? = some _
          simp [Array.getElem?_setIfInBounds, hlt])) hl _ hheap X'
  exact ⟨t, step t a1, b1⟩
theorem X.gets0 {index : Nat} (hd : decode cc pc = .ok (.getstatic index, 3)) (w : Cond.fieldLink own index RX5 "LOWEST_VALUE" "[I" ∈ WG) (hp : pc + 3 = pc') (kk : X Ω own cc nL ret ini R PR PX kc ks pc' ls (rf Ω.2.2.2.2.1 :: st) h) : X Ω own cc nL ret ini R PR PX kc ks pc ls st h := by
  intro p e s m args below meth c H locs lr cx wd hS r hl
  obtain ⟨hx, hb, hr, hml, hown, hlocks, hts, hin, hexc⟩ := id cx
  subst hp
  exact va_gets hx hb wd.2.2.2.2.2.2.2.2.1.1 hS hown (hts _ w) (fun _ q => q) hd (kk p e s m args below meth c H locs lr cx wd hS r hl)
theorem X.gets1 {index : Nat} (hd : decode cc pc = .ok (.getstatic index, 3)) (w : Cond.fieldLink own index RX5 "HIGHEST_VALUE" "[I" ∈ WG) (hp : pc + 3 = pc') (kk : X Ω own cc nL ret ini R PR PX kc ks pc' ls (rf Ω.2.2.2.2.2 :: st) h) : X Ω own cc nL ret ini R PR PX kc ks pc ls st h := by
  intro p e s m args below meth c H locs lr cx wd hS r hl
  obtain ⟨hx, hb, hr, hml, hown, hlocks, hts, hin, hexc⟩ := id cx
  subst hp
  exact va_gets hx hb wd.2.2.2.2.2.2.2.2.2.1.1 hS hown (hts _ w) (fun _ q => q) hd (kk p e s m args below meth c H locs lr cx wd hS r hl)
theorem X.tald0 {i : Int} (hd : decode cc pc = .ok (.iaload, 1)) (h0 : 0 ≤ i) (h1 : i < 3) (hp : pc + 1 = pc') (kk : X Ω own cc nL ret ini R PR PX kc ks pc' ls (vi (if i = 2 then 1 else 0) :: st) h) : X Ω own cc nL ret ini R PR PX kc ks pc ls (vi i :: rf Ω.2.2.2.2.1 :: st) h := by
  intro p e s m args below meth c H locs lr cx wd hS r hl
  obtain ⟨hx, hb, hr, hml, hown, hlocks, hts, hin, hexc⟩ := id cx
  subst hp
  have i1 : inR i := ⟨by omega, by omega⟩
  refine va_ti hx hb wd.2.2.2.2.2.2.2.2.1.2 hS (x_in i1 h0 (by omega)) ?_ hd (kk p e s m args below meth c H locs lr cx wd hS r hl)
  rw [x_nat i1]
  rcases (show i = 0 ∨ i = 1 ∨ i = 2 by omega) with rfl | rfl | rfl <;> rfl
theorem X.tald1 {i : Int} (hd : decode cc pc = .ok (.iaload, 1)) (h0 : 0 ≤ i) (h1 : i < 3) (hp : pc + 1 = pc') (kk : X Ω own cc nL ret ini R PR PX kc ks pc' ls (vi (if i = 0 then 5 else if i = 1 then 4 else 50) :: st) h) : X Ω own cc nL ret ini R PR PX kc ks pc ls (vi i :: rf Ω.2.2.2.2.2 :: st) h := by
  intro p e s m args below meth c H locs lr cx wd hS r hl
  obtain ⟨hx, hb, hr, hml, hown, hlocks, hts, hin, hexc⟩ := id cx
  subst hp
  have i1 : inR i := ⟨by omega, by omega⟩
  refine va_ti hx hb wd.2.2.2.2.2.2.2.2.2.1.2 hS (x_in i1 h0 (by omega)) ?_ hd (kk p e s m args below meth c H locs lr cx wd hS r hl)
  rw [x_nat i1]
  rcases (show i = 0 ∨ i = 1 ∨ i = 2 by omega) with rfl | rfl | rfl <;> rfl
theorem X.mmax {index : Nat} {x y : Int} (hd : decode cc pc = .ok (.invokestatic index, 3)) (w1 : Cond.methodLink own index Lib.Math.max.name ∈ WG) (w2 : Cond.static Lib.Math.max.name ∈ WG) (w3 : Cond.initialized "java/lang/Math" ∈ WG) (w4 : Cond.code Lib.Math.max.name Lib.Math.max.code 2 (some .int) ∈ WG) (hR : 1 ≤ R.frames ∧ (st.map xcat).sum + 13 ≤ R.locals ∧ kc ≤ R.cells ∧ ks ≤ R.slots) (hx0 : inR x) (hy0 : inR y) (hp : pc + 3 = pc')
    (kk : ∀ z, z = (if x < y then y else x) → X Ω own cc nL ret ini R PR PX kc ks pc' ls (vi z :: st) h) : X Ω own cc nL ret ini R PR PX kc ks pc ls (vi y :: vi x :: st) h := by
  intro p e s m args below meth c H locs lr cx wd hS r hl
  obtain ⟨hx, hb, hr, hml, hown, hlocks, hts, hin, hexc⟩ := id cx
  subst hp
  refine va_mmax hx hb (hml.trans hl.1.symm) hown (hts _ w1) (hts _ w2) (hts _ w3) (hts _ w4) hR.1 (by rw [x_cats]; exact hR.2.1) hR.2.2.1 hR.2.2.2 hd ?_
  have e9 : (if Int32.ofInt x < Int32.ofInt y then Int32.ofInt y else Int32.ofInt x) = Int32.ofInt (if x < y then y else x) := by
    by_cases q : x < y
    · rw [if_pos q, if_pos ((x_lt hx0 hy0).mpr q)]
    · rw [if_neg q, if_neg (fun z => q ((x_lt hx0 hy0).mp z))]
  rw [e9]
  exact kk _ rfl p e s m args below meth c H locs lr cx wd hS r hl
theorem X.mmin {index : Nat} {x y : Int} (hd : decode cc pc = .ok (.invokestatic index, 3)) (w1 : Cond.methodLink own index Lib.Math.min.name ∈ WG) (w2 : Cond.static Lib.Math.min.name ∈ WG) (w3 : Cond.initialized "java/lang/Math" ∈ WG) (w4 : Cond.code Lib.Math.min.name Lib.Math.min.code 2 (some .int) ∈ WG) (hR : 1 ≤ R.frames ∧ (st.map xcat).sum + 13 ≤ R.locals ∧ kc ≤ R.cells ∧ ks ≤ R.slots) (hx0 : inR x) (hy0 : inR y) (hp : pc + 3 = pc')
    (kk : ∀ z, z = (if y < x then y else x) → X Ω own cc nL ret ini R PR PX kc ks pc' ls (vi z :: st) h) : X Ω own cc nL ret ini R PR PX kc ks pc ls (vi y :: vi x :: st) h := by
  intro p e s m args below meth c H locs lr cx wd hS r hl
  obtain ⟨hx, hb, hr, hml, hown, hlocks, hts, hin, hexc⟩ := id cx
  subst hp
  refine va_mmin hx hb (hml.trans hl.1.symm) hown (hts _ w1) (hts _ w2) (hts _ w3) (hts _ w4) hR.1 (by rw [x_cats]; exact hR.2.1) hR.2.2.1 hR.2.2.2 hd ?_
  have e9 : (if Int32.ofInt y < Int32.ofInt x then Int32.ofInt y else Int32.ofInt x) = Int32.ofInt (if y < x then y else x) := by
    by_cases q : y < x
    · rw [if_pos q, if_pos ((x_lt hy0 hx0).mpr q)]
    · rw [if_neg q, if_neg (fun z => q ((x_lt hy0 hx0).mp z))]
  rw [e9]
  exact kk _ rfl p e s m args below meth c H locs lr cx wd hS r hl
theorem X.mabs {index : Nat} {x : Int} (hd : decode cc pc = .ok (.invokestatic index, 3)) (w1 : Cond.methodLink own index Lib.Math.abs.name ∈ WG) (w2 : Cond.static Lib.Math.abs.name ∈ WG) (w3 : Cond.initialized "java/lang/Math" ∈ WG) (w4 : Cond.code Lib.Math.abs.name Lib.Math.abs.code 1 (some .int) ∈ WG) (hR : 1 ≤ R.frames ∧ (st.map xcat).sum + 13 ≤ R.locals ∧ kc ≤ R.cells ∧ ks ≤ R.slots) (hx0 : inR x) (hp : pc + 3 = pc')
    (kk : ∀ z, z = (if 0 ≤ x then x else 0 - x) → X Ω own cc nL ret ini R PR PX kc ks pc' ls (vi z :: st) h) : X Ω own cc nL ret ini R PR PX kc ks pc ls (vi x :: st) h := by
  intro p e s m args below meth c H locs lr cx wd hS r hl
  obtain ⟨hx, hb, hr, hml, hown, hlocks, hts, hin, hexc⟩ := id cx
  subst hp
  refine va_mabs hx hb (hml.trans hl.1.symm) hown (hts _ w1) (hts _ w2) (hts _ w3) (hts _ w4) hR.1 (by rw [x_cats]; exact hR.2.1) hR.2.2.1 hR.2.2.2 hd ?_
  have e9 : (if 0 ≤ Int32.ofInt x then Int32.ofInt x else 0 - Int32.ofInt x) = Int32.ofInt (if 0 ≤ x then x else 0 - x) := by
    rw [show (0 : Int32) = Int32.ofInt 0 from rfl]
    by_cases q : 0 ≤ x
    · rw [if_pos q, if_pos ((x_le inR_0 hx0).mpr q)]
    · rw [if_neg q, if_neg (fun z => q ((x_le inR_0 hx0).mp z)), ← Int32.ofInt_sub]
  rw [e9]
  exact kk _ rfl p e s m args below meth c H locs lr cx wd hS r hl
end XR4
end
section
/-! ===== X: calls, ends, the entry ===== -/
section XR5
variable {Ω : xO} {own : String} {cc : ByteArray} {nL : Nat} {ret : Option FieldType} {ini : Bool} {R : Room} {PR : Option xV → xM → Prop} {PX : String → xM → Prop} {kc ks pc pc' : Nat} {ls : List (Option xV)} {st : List xV} {h : xM}
/-- a method's contract at one memory and one list of arguments -/
def xCt (Ω : xO) (y : MethodName) (bytes : ByteArray) (maxL : Nat) (ret : Option FieldType) (rm : Room) (args : List xV) (h : xM) (PR : Option xV → xM → Prop) (PX : String → xM → Prop) : Prop :=
  vx_Met Ω.1 y (Cond.code y bytes maxL ret :: WG) rm (va_Pc (args.map xc) (fun U => xWd Ω U ∧ xRel Ω h U.heap)) (xQ Ω PR) (xX Ω PX) rm.cells rm.slots (xA Ω)
def xNo : String → xM → Prop := fun _ _ => False
theorem xBlind {Ω : xO} {av : List Value} {h : xM} : FrameBlind (va_Pc av (fun U => xWd Ω U ∧ xRel Ω h U.heap)) := fun _ U g mk q => ⟨q.1, xWd.on q.2.1 (U := U.calling g mk _) (State.WarmedH.refl U) (Nat.le_refl _) (fun _ _ _ => rfl), q.2.2⟩
theorem xWd.heap {Ω : xO} {s U : State} {H : Heap} {locs : List Loc} (wd : xWd Ω s) (hS : va_S (xA Ω) s.heap H locs) (hU : U.heap = H) (hW : s.WarmedH U.vm) : xWd Ω U := wd.on hW (by rw [hU]; exact hS.1) (fun q h1 h2 => by rw [hU]; exact hS.2.1 q h1 h2)
theorem xGood {y : MethodName} {bytes : ByteArray} {maxL : Nat} {ret : Option FieldType} (hw : Cond.code y bytes maxL ret ∈ WG) : GoodIn WG (Cond.code y bytes maxL ret :: WG) := by
  intro w h
  rcases List.mem_cons.mp h with rfl | h
  · exact ⟨hw, good_of_word (xWG_good _ hw)⟩
  · exact ⟨h, good_of_word (xWG_good _ h)⟩
theorem xGoodL {ws : List Cond} (h : ∀ w ∈ ws, w ∈ WG) : GoodIn WG ws := fun w hw => ⟨h w hw, good_of_word (xWG_good _ (h w hw))⟩
theorem xOut {s : State} {m : MethodId} {args : Array Value} {below : List Frame} {meth : Method} {c : Code} (hexc : ∀ x ∈ c.exceptionTable.toList, False) (pc : Nat) : ∀ x ∈ c.exceptionTable.toList, covers x pc = false := fun x hx => (hexc x hx).elim
/-- what is static in a call of an instance method -/
def xCal (own : String) (index : Nat) (C : String) (y : MethodName) (bytes : ByteArray) (maxL : Nat) (ret : Option FieldType) (n : Nat) : Prop :=
  (Cond.methodLink own index y ∈ WG ∧ Cond.instanceMethod y ∈ WG ∧ Cond.selects C y y ∈ WG ∧ Cond.initialized C ∈ WG ∧ Cond.code y bytes maxL ret ∈ WG) ∧ y.cls = C ∧ y.cls ≠ "java/lang/invoke/MethodHandle" ∧ y.cls ≠ "java/lang/invoke/VarHandle" ∧ (parseMethodDescriptor y.desc).map (fun d => d.parameters.length) = some n
def xCaS (own : String) (index : Nat) (y : MethodName) (bytes : ByteArray) (maxL : Nat) (ret : Option FieldType) (n : Nat) : Prop :=
  (Cond.methodLink own index y ∈ WG ∧ Cond.static y ∈ WG ∧ Cond.initialized y.cls ∈ WG ∧ Cond.code y bytes maxL ret ∈ WG) ∧ y.cls ≠ "java/lang/invoke/MethodHandle" ∧ y.cls ≠ "java/lang/invoke/VarHandle" ∧ (parseMethodDescriptor y.desc).map (fun d => d.parameters.length) = some n
theorem xCal.good {index n maxL : Nat} {C : String} {y : MethodName} {bytes : ByteArray} {ret : Option FieldType} (w : xCal own index C y bytes maxL ret n) : GoodIn WG (wsV own index C y (Cond.code y bytes maxL ret :: WG)) := by
  refine xGoodL (fun v hv => ?_)
  unfold wsV at hv
  rcases List.mem_append.mp hv with hv | hv
  · simp only [List.mem_cons, List.not_mem_nil, or_false] at hv
    rcases hv with rfl | rfl | rfl | rfl
    · exact w.1.1
    · exact w.1.2.1
    · exact w.1.2.2.1
    · exact w.1.2.2.2.1
  · exact (xGood w.1.2.2.2.2 v hv).1
theorem xCaS.good {index n maxL : Nat} {y : MethodName} {bytes : ByteArray} {ret : Option FieldType} (w : xCaS own index y bytes maxL ret n) : GoodIn WG (va_wsS own index y (Cond.code y bytes maxL ret :: WG)) := by
  refine xGoodL (fun v hv => ?_)
  unfold va_wsS at hv
  rcases List.mem_append.mp hv with hv | hv
  · simp only [List.mem_cons, List.not_mem_nil, or_false] at hv
    rcases hv with rfl | rfl | rfl
    · exact w.1.1
    · exact w.1.2.1
    · exact w.1.2.2.1
  · exact (xGood w.1.2.2.2 v hv).1
/-- behind a call that returns or throws -/
theorem xBehind {p : Program} {e : Env} {s : State} {m : MethodId} {args : Array Value} {below : List Frame} {meth : Method} {c : Code} {H : Heap} {locs : List Loc} {lr : Array Slot} {mc ms : Nat} {PR' : Option xV → xM → Prop} {PX' : String → xM → Prop} {a : Array Value} {st0 : List Value}
    (cx : xCx own cc nL ret ini p s m args meth c) (wd : xWd Ω s) (hS : va_S (xA Ω) s.heap H locs) (hl : xLo lr nL ls) (hkc : kc + mc ≤ R.cells) (hks : ks + ms ≤ R.slots)
    (hr : vx_Run p Ω.1 e R s m args below meth c H locs kc ks mc ms (F0 m pc lr st0) (st.map xc) (xQ Ω PR' a) (xX Ω PX') (xA Ω))
    (kR : ∀ (q : Option xV) (h' : xM), PR' q h' → X Ω own cc nL ret ini R PR PX (kc + mc) (ks + ms) (pc + 3) ls (q.toList ++ st) h') (kX : ∀ (E : String) (h' : xM), PX' E h' → PX E h') :
    W p Ω.1 e R s m args below meth c H locs kc ks (vx_MQ below (xQ Ω PR) (xX Ω PX) args s R.cells R.slots (xA Ω)) (F0 m pc lr st0) := by
  obtain ⟨hx, hb, hrt, hml, hown, hlocks, hts, hin, hexc⟩ := id cx
  intro T hT Xs
  rcases hr T hT Xs with ⟨v, st₀, t, T', L, h0, X', hL, e1, e2, ⟨q, h', hv, hrel, hF, hPR⟩, stp⟩ | ⟨q, st₀, t, T', L, E, ce, h0, X', hL, e1, e2, ⟨h', hrel, hF, hPX⟩, hce, hcv, hcl, stp⟩
  · cases hv
    obtain ⟨-, -, k3⟩ := vx_keep h0 e1 hS (fun _ _ z => z) (fun _ z => z) hL hF
    obtain ⟨t2, a1, b1⟩ := kR q h' hPR p e s m args below meth c T'.heap (locs ++ L) lr cx wd k3 (by rw [e1]; exact hrel) hl T' rfl X'
    refine ⟨t2, stp t2 ?_, b1⟩
    cases q with
    | none => exact a1
    | some q => exact a1
  · obtain ⟨-, -, k3⟩ := vx_keep h0 e1 hS (fun _ _ z => z) (fun _ z => z) hL hF
    have hw := vx_out (p := p) (l := Ω.1) (e := e) (R := R) (s := s) (m := m) (args := args) (below := below) (meth := meth) (c := c) (H := T'.heap) (locs := locs ++ L) (cells := kc + mc) (slots := ks + ms) (Qc := xQ Ω PR) (XC := xX Ω PX) (mc := R.cells) (ms := R.slots) (free := xA Ω) (ls := lr) (rest := st.map xc) (pc := pc) (q := q) (xOut (s := s) (m := m) (args := args) (below := below) (meth := meth) hexc pc) hlocks (by rw [e1]; exact hce) hcv hcl
      (fun u hu hW => ⟨h', by rw [hu, e1]; exact hrel, k3.F hu, kX E h' hPX⟩) k3.2.2 hkc hks
    obtain ⟨t2, a1, b1⟩ := hw T' rfl X'
    exact ⟨t2, stp.trans a1, b1⟩
/-- behind a call that returns -/
theorem xBehindM {p : Program} {e : Env} {s : State} {m : MethodId} {args : Array Value} {below : List Frame} {meth : Method} {c : Code} {H : Heap} {locs : List Loc} {lr : Array Slot} {mc ms : Nat} {PR' : Option xV → xM → Prop} {a : Array Value} {st0 : List Value}
    (cx : xCx own cc nL ret ini p s m args meth c) (wd : xWd Ω s) (hS : va_S (xA Ω) s.heap H locs) (hl : xLo lr nL ls)
    (hr : va_Run p Ω.1 e R s m args below meth c H locs kc ks mc ms (F0 m pc lr st0) (st.map xc) (xQ Ω PR' a) (xA Ω))
    (kR : ∀ (q : Option xV) (h' : xM), PR' q h' → X Ω own cc nL ret ini R PR PX (kc + mc) (ks + ms) (pc + 3) ls (q.toList ++ st) h') :
    W p Ω.1 e R s m args below meth c H locs kc ks (vx_MQ below (xQ Ω PR) (xX Ω PX) args s R.cells R.slots (xA Ω)) (F0 m pc lr st0) := by
  obtain ⟨hx, hb, hrt, hml, hown, hlocks, hts, hin, hexc⟩ := id cx
  intro T hT Xs
  obtain ⟨v, st₀, t, T', L, h0, X', hL, e1, e2, ⟨q, h', hv, hrel, hF, hPR⟩, stp⟩ := hr T hT Xs
  cases hv
  obtain ⟨-, -, k3⟩ := vx_keep h0 e1 hS (fun _ _ z => z) (fun _ z => z) hL hF
  obtain ⟨t2, a1, b1⟩ := kR q h' hPR p e s m args below meth c T'.heap (locs ++ L) lr cx wd k3 (by rw [e1]; exact hrel) hl T' rfl X'
  refine ⟨t2, stp t2 ?_, b1⟩
  cases q with
  | none => exact a1
  | some q => exact a1
theorem xMet {y : MethodName} {bytes : ByteArray} {maxL : Nat} {ret : Option FieldType} {rm : Room} {args : List xV} {h : xM} {PR : Option xV → xM → Prop} (hc : xCt Ω y bytes maxL ret rm args h PR xNo) : Met Ω.1 y (Cond.code y bytes maxL ret :: WG) rm (va_Pc (args.map xc) (fun U => xWd Ω U ∧ xRel Ω h U.heap)) (xQ Ω PR) rm.cells rm.slots (xA Ω) := by
  intro p e ha hc' hk s m args below hf happ hP hK
  obtain ⟨n, o, h1, h2, h3, h4⟩ := hc p e ha hc' hk s m args below hf happ hP hK
  refine ⟨n, o, h1, h2, h3, ?_⟩
  rcases h4 with h4 | ⟨q, -, E, ce, L, ⟨h', -, -, hf⟩, -⟩
  · exact h4
  · exact hf.elim
/-- invokevirtual of a method of ours -/
theorem X.callV {index n maxL ci nf a : Nat} {C : String} {T : u_T} {y : MethodName} {bytes : ByteArray} {rt : Option FieldType} {rm : Room} {As sa : List xV} {PR' : Option xV → xM → Prop} {PX' : String → xM → Prop} (hd : decode cc pc = .ok (.invokevirtual index, 3)) (w : xCal own index C y bytes maxL rt n) (hC : vwCl[ci]? = some (C, T, nf)) (hci : ci < 7) (ha : mT h a = some (ci, nf))
    (hsa : As.reverse ++ (rf a :: st) = sa) (hn : As.length = n) (hR : rm.frames + 1 ≤ R.frames ∧ 8 + (maxL + 11) + rm.locals ≤ R.locals) (hkc : kc + rm.cells ≤ R.cells) (hks : ks + rm.slots ≤ R.slots) (hst : (st.map xcat).sum ≤ 8) (hp : pc + 3 = pc')
    (hct : xCt Ω y bytes maxL rt rm (rf a :: As) h PR' PX')
    (kR : ∀ (q : Option xV) (h' : xM), PR' q h' → X Ω own cc nL ret ini R PR PX (kc + rm.cells) (ks + rm.slots) pc' ls (q.toList ++ st) h') (kX : ∀ (E : String) (h' : xM), PX' E h' → PX E h') : X Ω own cc nL ret ini R PR PX kc ks pc ls sa h := by
  intro p e s m args below meth c H locs lr cx wd hS r hl
  obtain ⟨hx, hb, hrt, hml, hown, hlocks, hts, hin, hexc⟩ := id cx
  subst hp
  subst hsa
  have hA := (r.2.2 a ci nf ha).2
  rw [xE_obj hci] at hA
  refine xBehind cx wd hS hl hkc hks (vx_runV (As := As.map xc) (b := a) (C := C) (n := n) ⟨hx, hb, hml, hown, hts⟩ hct (cwV n hts w.good rfl rfl rfl ⟨w.2.1, w.2.2.1, w.2.2.2.1, w.2.2.2.2⟩ hR) ⟨xBlind, va_recv wd.1 (xP1 hA) hC (q0 := 0) rfl, fun U hU hW => ⟨rfl, wd.heap hS hU hW, by rw [hU]; exact r⟩⟩ rfl (by rw [List.length_map]; exact hn) hl.1 ?_ ?_ hd ⟨hkc, hks⟩) kR kX
  · show ((As.reverse ++ (rf a :: st)).map xc) = _
    rw [List.map_append, List.map_reverse]
    rfl
  · rw [x_cats]
    show 2 * 0 + _ ≤ _
    omega
/-- invokestatic of a method of ours -/
theorem X.callS {index n maxL : Nat} {y : MethodName} {bytes : ByteArray} {rt : Option FieldType} {rm : Room} {As sa : List xV} {PR' : Option xV → xM → Prop} {PX' : String → xM → Prop} (hd : decode cc pc = .ok (.invokestatic index, 3)) (w : xCaS own index y bytes maxL rt n)
    (hsa : As.reverse ++ st = sa) (hn : As.length = n) (hR : rm.frames + 1 ≤ R.frames ∧ 8 + (maxL + 11) + rm.locals ≤ R.locals) (hkc : kc + rm.cells ≤ R.cells) (hks : ks + rm.slots ≤ R.slots) (hst : (st.map xcat).sum ≤ 8) (hp : pc + 3 = pc')
    (hct : xCt Ω y bytes maxL rt rm As h PR' PX')
    (kR : ∀ (q : Option xV) (h' : xM), PR' q h' → X Ω own cc nL ret ini R PR PX (kc + rm.cells) (ks + rm.slots) pc' ls (q.toList ++ st) h') (kX : ∀ (E : String) (h' : xM), PX' E h' → PX E h') : X Ω own cc nL ret ini R PR PX kc ks pc ls sa h := by
  intro p e s m args below meth c H locs lr cx wd hS r hl
  obtain ⟨hx, hb, hrt, hml, hown, hlocks, hts, hin, hexc⟩ := id cx
  subst hp
  subst hsa
  refine xBehind cx wd hS hl hkc hks (vx_runS (As := As.map xc) (n := n) ⟨hx, hb, hml, hown, hts⟩ hct (va_cwS n hts w.good rfl rfl rfl w.2 hR) ⟨xBlind, fun U hU hW => ⟨rfl, wd.heap hS hU hW, by rw [hU]; exact r⟩⟩ rfl (by rw [List.length_map]; exact hn) hl.1 ?_ ?_ hd ⟨hkc, hks⟩) kR kX
  · show ((As.reverse ++ st).map xc) = _
    rw [List.map_append, List.map_reverse]
  · rw [x_cats]
    show 2 * 0 + _ ≤ _
    omega
/-- invokespecial of a constructor of ours -/
def xCaI (own : String) (index : Nat) (y : MethodName) (bytes : ByteArray) (maxL : Nat) (n : Nat) : Prop :=
  (Cond.methodLink own index y ∈ WG ∧ Cond.instanceMethod y ∈ WG ∧ Cond.initialized y.cls ∈ WG ∧ Cond.code y bytes maxL none ∈ WG) ∧ y.name = "<init>" ∧ y.cls ≠ "java/lang/invoke/MethodHandle" ∧ y.cls ≠ "java/lang/invoke/VarHandle" ∧ (parseMethodDescriptor y.desc).map (fun d => d.parameters.length) = some n
def xCaN (own : String) (index : Nat) (y : MethodName) (host : String) (bytes : ByteArray) (maxL : Nat) (rt : Option FieldType) (w0 : Cond) (n : Nat) : Prop :=
  (Cond.methodLinkNest own index y host ∈ WN ∧ w0 ∈ WG ∧ Cond.initialized y.cls ∈ WG ∧ Cond.code y bytes maxL rt ∈ WG) ∧ y.cls ≠ "java/lang/invoke/MethodHandle" ∧ y.cls ≠ "java/lang/invoke/VarHandle" ∧ (parseMethodDescriptor y.desc).map (fun d => d.parameters.length) = some n
theorem X.callI {index n maxL a : Nat} {y : MethodName} {bytes : ByteArray} {rm : Room} {As sa : List xV} {PR' : Option xV → xM → Prop} (hd : decode cc pc = .ok (.invokespecial index, 3)) (w : xCaI own index y bytes maxL n)
    (hsa : As.reverse ++ (rf a :: st) = sa) (hn : As.length = n) (hR : rm.frames + 1 ≤ R.frames ∧ 8 + (maxL + 11) + rm.locals ≤ R.locals) (hkc : kc + rm.cells ≤ R.cells) (hks : ks + rm.slots ≤ R.slots) (hst : (st.map xcat).sum ≤ 8) (hp : pc + 3 = pc')
    (hct : xCt Ω y bytes maxL none rm (rf a :: As) h PR' xNo)
    (kR : ∀ (q : Option xV) (h' : xM), PR' q h' → X Ω own cc nL ret ini R PR PX (kc + rm.cells) (ks + rm.slots) pc' ls (q.toList ++ st) h') : X Ω own cc nL ret ini R PR PX kc ks pc ls sa h := by
  intro p e s m args below meth c H locs lr cx wd hS r hl
  obtain ⟨hx, hb, hrt, hml, hown, hlocks, hts, hin, hexc⟩ := id cx
  subst hp
  subst hsa
  refine xBehindM cx wd hS hl (va_runI (As := As.map xc) (b := a) (n := n) ⟨hx, hb, hml, hown, hts⟩ (xMet hct) (cwI n hts (xGood w.1.2.2.2) rfl rfl rfl (hts _ w.1.2.2.1) (hts _ w.1.1) (hts _ w.1.2.1) w.2.1 w.2.2 hR) ⟨xBlind, fun U hU hW => ⟨rfl, wd.heap hS hU hW, by rw [hU]; exact r⟩⟩ rfl (by rw [List.length_map]; exact hn) hl.1 ?_ ?_ hd ⟨hkc, hks⟩) kR
  · show ((As.reverse ++ (rf a :: st)).map xc) = _
    rw [List.map_append, List.map_reverse]
    rfl
  · rw [x_cats]
    show 2 * 0 + _ ≤ _
    omega
theorem X.callIN {index n maxL a : Nat} {y : MethodName} {host : String} {bytes : ByteArray} {rm : Room} {As sa : List xV} {PR' : Option xV → xM → Prop} (hd : decode cc pc = .ok (.invokespecial index, 3)) (w : xCaN own index y host bytes maxL none (.instanceMethod y) n) (hy : y.name = "<init>")
    (hsa : As.reverse ++ (rf a :: st) = sa) (hn : As.length = n) (hR : rm.frames + 1 ≤ R.frames ∧ 8 + (maxL + 11) + rm.locals ≤ R.locals) (hkc : kc + rm.cells ≤ R.cells) (hks : ks + rm.slots ≤ R.slots) (hst : (st.map xcat).sum ≤ 8) (hp : pc + 3 = pc')
    (hct : xCt Ω y bytes maxL none rm (rf a :: As) h PR' xNo)
    (kR : ∀ (q : Option xV) (h' : xM), PR' q h' → X Ω own cc nL ret ini R PR PX (kc + rm.cells) (ks + rm.slots) pc' ls (q.toList ++ st) h') : X Ω own cc nL ret ini R PR PX kc ks pc ls sa h := by
  intro p e s m args below meth c H locs lr cx wd hS r hl
  obtain ⟨hx, hb, hrt, hml, hown, hlocks, hts, hin, hexc⟩ := id cx
  subst hp
  subst hsa
  refine xBehindM cx wd hS hl (va_runIN (As := As.map xc) (b := a) (n := n) ⟨hx, hb, hml, hown, hts⟩ (xMet hct) ⟨va_cnB n hts (xGood w.1.2.2.2) rfl rfl rfl (wd.2.2.1 _ w.1.1) (hts _ w.1.2.2.1) w.2 hR, hy, hts _ w.1.2.1⟩ ⟨xBlind, fun U hU hW => ⟨rfl, wd.heap hS hU hW, by rw [hU]; exact r⟩⟩ rfl (by rw [List.length_map]; exact hn) hl.1 ?_ ?_ hd ⟨hkc, hks⟩) kR
  · show ((As.reverse ++ (rf a :: st)).map xc) = _
    rw [List.map_append, List.map_reverse]
    rfl
  · rw [x_cats]
    show 2 * 0 + _ ≤ _
    omega
theorem X.callSN {index n maxL : Nat} {y : MethodName} {host : String} {bytes : ByteArray} {rt : Option FieldType} {rm : Room} {As sa : List xV} {PR' : Option xV → xM → Prop} (hd : decode cc pc = .ok (.invokestatic index, 3)) (w : xCaN own index y host bytes maxL rt (.static y) n)
    (hsa : As.reverse ++ st = sa) (hn : As.length = n) (hR : rm.frames + 1 ≤ R.frames ∧ 8 + (maxL + 11) + rm.locals ≤ R.locals) (hkc : kc + rm.cells ≤ R.cells) (hks : ks + rm.slots ≤ R.slots) (hst : (st.map xcat).sum ≤ 8) (hp : pc + 3 = pc')
    (hct : xCt Ω y bytes maxL rt rm As h PR' xNo)
    (kR : ∀ (q : Option xV) (h' : xM), PR' q h' → X Ω own cc nL ret ini R PR PX (kc + rm.cells) (ks + rm.slots) pc' ls (q.toList ++ st) h') : X Ω own cc nL ret ini R PR PX kc ks pc ls sa h := by
  intro p e s m args below meth c H locs lr cx wd hS r hl
  obtain ⟨hx, hb, hrt, hml, hown, hlocks, hts, hin, hexc⟩ := id cx
  subst hp
  subst hsa
  refine xBehindM cx wd hS hl (va_runSN (As := As.map xc) (n := n) ⟨hx, hb, hml, hown, hts⟩ (xMet hct) ⟨va_cnB n hts (xGood w.1.2.2.2) rfl rfl rfl (wd.2.2.1 _ w.1.1) (hts _ w.1.2.2.1) w.2 hR, hts _ w.1.2.1, trivial⟩ ⟨xBlind, fun U hU hW => ⟨rfl, wd.heap hS hU hW, by rw [hU]; exact r⟩⟩ rfl (by rw [List.length_map]; exact hn) hl.1 ?_ ?_ hd ⟨hkc, hks⟩) kR
  · show ((As.reverse ++ st).map xc) = _
    rw [List.map_append, List.map_reverse]
  · rw [x_cats]
    show 2 * 0 + _ ≤ _
    omega
theorem X.objInit {index a : Nat} (hd : decode cc pc = .ok (.invokespecial index, 3)) (w1 : Cond.methodLink own index Lib.objectInit ∈ WG) (w2 : Cond.instanceMethod Lib.objectInit ∈ WG) (w3 : Cond.code Lib.objectInit ⟨#[0xb1]⟩ 1 none ∈ WG) (hR : 1 ≤ R.frames ∧ (st.map xcat).sum + 12 ≤ R.locals) (hp : pc + 3 = pc') (k : X Ω own cc nL ret ini R PR PX kc ks pc' ls st h) : X Ω own cc nL ret ini R PR PX kc ks pc ls (rf a :: st) h := by
  intro p e s m args below meth c H locs lr cx wd hS r hl
  obtain ⟨hx, hb, hrt, hml, hown, hlocks, hts, hin, hexc⟩ := id cx
  subst hp
  refine W.objInit hx hb hown (hts _ w1) (hts _ w2) (hts _ w3) rfl (hl.1.trans hml.symm) rfl hd hR.1 ?_ (k p e s m args below meth c H locs lr cx wd hS r hl)
  rw [x_cats]
  show 2 * 0 + _ + _ ≤ _
  omega
/-! ends -/
theorem X.iret {x : Int} (hd : decode cc pc = .ok (.ireturn, 1)) (hr0 : ret = some .int ∨ (ret = some .boolean ∧ (x = 0 ∨ x = 1))) (hkc : kc ≤ R.cells) (hks : ks ≤ R.slots) (q : PR (some (vi x)) h) : X Ω own cc nL ret ini R PR PX kc ks pc ls [vi x] h := by
  intro p e s m args below meth c H locs lr cx wd hS r hl
  obtain ⟨hx, hb, hrt, hml, hown, hlocks, hts, hin, hexc⟩ := id cx
  refine W.widen hkc hks (vx_ret ?_)
  rcases hr0 with e1 | ⟨e1, e2⟩
  · exact W.iret hx hb (hrt.trans e1) (fun t ht hW => ⟨some (vi x), h, rfl, by rw [ht]; exact r, hS.F ht, q⟩) (fun q hq => hS.2.2 q hq) hd hlocks
  · exact W.zret (ty := .boolean) hx hb (hrt.trans e1) (by rcases e2 with rfl | rfl <;> decide) (fun t ht hW => ⟨some (vi x), h, rfl, by rw [ht]; exact r, hS.F ht, q⟩) (fun q hq => hS.2.2 q hq) hd hlocks
theorem X.lret {x : Int64} (hd : decode cc pc = .ok (.lreturn, 1)) (hr0 : ret = some .long) (hkc : kc ≤ R.cells) (hks : ks ≤ R.slots) (q : PR (some (vl x)) h) : X Ω own cc nL ret ini R PR PX kc ks pc ls [vl x] h := by
  intro p e s m args below meth c H locs lr cx wd hS r hl
  obtain ⟨hx, hb, hrt, hml, hown, hlocks, hts, hin, hexc⟩ := id cx
  refine W.widen hkc hks (vx_ret ?_)
  exact W.lret hx hb (hrt.trans hr0) (fun t ht hW => ⟨some (vl x), h, rfl, by rw [ht]; exact r, hS.F ht, q⟩) (fun q hq => hS.2.2 q hq) hd hlocks
theorem X.dret {x : UInt64} (hd : decode cc pc = .ok (.dreturn, 1)) (hr0 : ret = some .double) (hkc : kc ≤ R.cells) (hks : ks ≤ R.slots) (q : PR (some (vd x)) h) : X Ω own cc nL ret ini R PR PX kc ks pc ls [vd x] h := by
  intro p e s m args below meth c H locs lr cx wd hS r hl
  obtain ⟨hx, hb, hrt, hml, hown, hlocks, hts, hin, hexc⟩ := id cx
  refine W.widen hkc hks (vx_ret ?_)
  exact W.dret hx hb (hrt.trans hr0) (fun t ht hW => ⟨some (vd x), h, rfl, by rw [ht]; exact r, hS.F ht, q⟩) (fun q hq => hS.2.2 q hq) hd hlocks
theorem X.aret {x : Option Nat} {C : String} (hd : decode cc pc = .ok (.areturn, 1)) (hr0 : ret = some (.object C)) (hkc : kc ≤ R.cells) (hks : ks ≤ R.slots) (q : PR (some (vr x)) h) : X Ω own cc nL ret ini R PR PX kc ks pc ls [vr x] h := by
  intro p e s m args below meth c H locs lr cx wd hS r hl
  obtain ⟨hx, hb, hrt, hml, hown, hlocks, hts, hin, hexc⟩ := id cx
  refine W.widen hkc hks (vx_ret ?_)
  exact W.aret hx hb (hrt.trans hr0) (Or.inl ⟨_, rfl⟩) (by cases x with
    | none => exact Or.inl rfl
    | some x => exact Or.inr ⟨_, rfl⟩) (fun t ht hW => ⟨some (vr x), h, rfl, by rw [ht]; exact r, hS.F ht, q⟩) (fun q hq => hS.2.2 q hq) hd hlocks
theorem X.vret (hd : decode cc pc = .ok (.return_, 1)) (hr0 : ret = none) (hkc : kc ≤ R.cells) (hks : ks ≤ R.slots) (q : PR none h) : X Ω own cc nL ret ini R PR PX kc ks pc ls [] h := by
  intro p e s m args below meth c H locs lr cx wd hS r hl
  obtain ⟨hx, hb, hrt, hml, hown, hlocks, hts, hin, hexc⟩ := id cx
  refine W.widen hkc hks (vx_ret ?_)
  exact W.vret hx hb (hrt.trans hr0) (fun t ht hW => ⟨none, h, rfl, by rw [ht]; exact r, hS.F ht, q⟩) (fun q hq => hS.2.2 q hq) hd hlocks
/-- static facts of: throw new cls(text) -/
def xThr (own : String) (ik is ic : Nat) (cls text : String) : Prop := own = RX5 ∧ Bundle.fit cls = true ∧ (Cond.classLink own ik cls ∈ WG ∧ Cond.initialized cls ∈ WG) ∧ (is, text) ∈ xTx ∧
  (∀ w ∈ (vx_atS own ic cls ["java/lang/RuntimeException", "java/lang/Exception"]).filter goodWord, w ∈ WG) ∧ (∀ w ∈ (vx_atS own ic cls ["java/lang/RuntimeException", "java/lang/Exception"]).filter (fun w => !goodWord w), w ∈ WN) ∧
  (∀ w ∈ Cond.classLink own ik cls :: Cond.initialized cls :: vx_atS own ic cls ["java/lang/RuntimeException", "java/lang/Exception"], vx_ot w = true)
theorem xnw_on {w : Cond} (h : xnw w = true) : w.onTables = true := by
  cases w <;> first | rfl | (simp only [xnw, Bool.and_eq_true] at h; exact h.2)
theorem xThr.hat {ik is ic : Nat} {cls text : String} (t : xThr own ik is ic cls text) {s : State} {args : Array Value} (hts : ∀ w ∈ WG, w.before args s = true) (wd : xWd Ω s) : ∀ w ∈ vx_atS own ic cls ["java/lang/RuntimeException", "java/lang/Exception"], w.before args s = true :=
  vx_hat (B := WN) (fun w hw => hts w (t.2.2.2.2.1 w hw)) t.2.2.2.2.2.1 (fun w hw => va_Nw.use (xnw_on (List.mem_filter.mp hw).2) (wd.2.2.1 w hw))
theorem xGn {h : xM} {H : Heap} {t : State} (r : xRel Ω h H) (hz : H.size ≤ t.heap.size) (ho : ∀ q : Nat, q < H.size → t.heap[q]? = H[q]?) : xRel Ω (gN h t.heap.size) t.heap :=
  ⟨rfl, r.2.1, fun a t2 n ha => ⟨(r.2.2 a t2 n ha).1, (r.2.2 a t2 n ha).2.kept (ho a (by rw [r.1]; exact r.lt ha))⟩⟩
theorem X.throw {ik is ic : Nat} {cls text : String} (w : xThr own ik is ic cls text) (d0 : decode cc pc = .ok (.new ik, 3)) (d3 : decode cc (pc + 3) = .ok (.dup, 1)) (d4 : decode cc (pc + 4) = .ok (.ldc is, 2)) (d6 : decode cc (pc + 6) = .ok (.invokespecial ic, 3)) (d9 : decode cc (pc + 9) = .ok (.athrow, 1))
    (hR : 6 ≤ R.frames ∧ 82 ≤ R.locals) (hkc : kc + 1 ≤ R.cells) (hks : ks + 6 ≤ R.slots) (q : ∀ n', mN h ≤ n' → PX cls (gN h n')) : X Ω own cc nL ret ini R PR PX kc ks pc ls [] h := by
  intro p e s m args below meth c H locs lr cx wd hS r hl
  obtain ⟨hx, hb, hrt, hml, hown, hlocks, hts, hin, hexc⟩ := id cx
  have hat := w.hat hts wd
  obtain ⟨w1, w2, ⟨w3, w4⟩, w5, w6, w7, w8⟩ := w
  subst w1
  obtain ⟨sa, hsa⟩ := wd.2.2.2.1 _ w5
  refine vx_throwS (names := ["java/lang/RuntimeException", "java/lang/Exception"]) (A := xA Ω) hx hb wd.2.2.2.2.2.2.2.2.2.2 hown w2 (by decide +kernel) (hts _ w3) (hts _ w4) hsa hat w8 wd.2.2.2.2.2.2.2.1.1 wd.2.2.2.2.2.2.2.1.2 hS (hl.1.trans hml.symm) d0 d3 d4 d6 d9 (xOut (s := s) (m := m) (args := args) (below := below) (meth := meth) hexc _) (by simp; omega) (by simp; omega) (by omega) (by omega) hlocks (fun t hal hz ho => ?_) hS.2.2 hkc hks
  exact ⟨gN h t.heap.size, xGn r hz ho, ⟨Nat.le_trans hS.1 hz, fun q h1 h2 => (ho q (Nat.lt_of_lt_of_le h1 hS.1)).trans (hS.2.1 q h1 h2)⟩, q _ (by rw [← r.1]; exact hz)⟩
/-! the entry -/
def xar : List xV → List (Option xV)
  | [] => []
  | v :: vs => if xcat v = 2 then some v :: none :: xar vs else some v :: xar vs
theorem xar_at (vs : List xV) : ∀ (o k : Nat) (v : xV), (xar vs)[k]? = some (some v) → (o + k, xc v) ∈ lv_args o (vs.map xc) := by
  induction vs with
  | nil => intro o k v h; simp [xar] at h
  | cons w vs ih =>
    intro o k v h
    show _ ∈ (o, xc w) :: lv_args (if (xc w).category = 2 then o + 2 else o + 1) (vs.map xc)
    rw [xc_cat]
    unfold xar at h
    by_cases hc : xcat w = 2
    · rw [if_pos hc] at h ⊢
      match k, h with
      | 0, h => cases h; exact List.mem_cons_self
      | 1, h => cases h
      | k + 2, h =>
        have := ih (o + 2) k v (by simpa using h)
        rw [show o + 2 + k = o + (k + 2) by omega] at this
        exact List.mem_cons_of_mem _ this
    · rw [if_neg hc] at h ⊢
      match k, h with
      | 0, h => cases h; exact List.mem_cons_self
      | k + 1, h =>
        have := ih (o + 1) k v (by simpa using h)
        rw [show o + 1 + k = o + (k + 1) by omega] at this
        exact List.mem_cons_of_mem _ this
theorem xsl_len (vs : List xV) : (lg_sl (vs.map xc)).length = (xar vs).length := by
  induction vs with
  | nil => rfl
  | cons w vs ih =>
    show (lg_sl (xc w :: vs.map xc)).length = _
    unfold lg_sl at ih ⊢
    rw [List.flatMap_cons, List.length_append, ih, xc_cat]
    show _ = (if xcat w = 2 then some w :: none :: xar vs else some w :: xar vs).length
    by_cases hc : xcat w = 2
    · rw [if_pos hc, if_pos hc]; simp; omega
    · rw [if_neg hc, if_neg hc]; simp; omega
theorem xCt_of {y : MethodName} {bytes : ByteArray} {maxL : Nat} {rt : Option FieldType} {rm : Room} {args : List xV} (hy : plainName y.cls = true) (hn : (xar args).length ≤ maxL) (hini : ini = true → y.name = "<init>")
    (K : X Ω y.cls bytes maxL rt ini rm PR PX 0 0 0 (xar args ++ List.replicate (maxL - (xar args).length) none) [] h) : xCt Ω y bytes maxL rt rm args h PR PX := by
  refine vx_ofW (cc := bytes) (maxL := maxL) (ret := rt) hy rfl ?_
  intro p e s m args9 below meth c s₁ B hml hexc hv
  obtain ⟨rfl, hwd, hrel⟩ := hv
  have hts := atoms_spec (ws := Cond.code y bytes maxL rt :: WG) B.pre
  have hl := lv_entry (args.map xc) (n := maxL) (by rw [xsl_len]; exact hn)
  rw [lg_entry_eq]
  refine K p e s m _ below meth c s.heap [] _ ⟨B.exec, B.bytes, B.returns, hml, findClass_of_methodNamed B.named, B.notSynchronized, fun w h => hts w (List.mem_cons_of_mem _ h), fun q => (name_of_methodNamed B.named B.method).1.trans (hini q), hexc⟩ hwd va_S.rf hrel ⟨hl.1, hl.2.1, fun k v hk => ?_⟩
  have hk2 : (xar args)[k]? = some (some v) := by
    by_cases e1 : k < (xar args).length
    · rw [List.getElem?_append_left e1] at hk
      exact hk
    · rw [List.getElem?_append_right (by omega)] at hk
      rw [List.getElem?_replicate] at hk
      split at hk <;> cases hk
  have := xar_at args 0 k v hk2
  rw [Nat.zero_add] at this
  exact hl.2.2 _ this
end XR5
end
