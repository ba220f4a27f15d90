/-! ===== the law: class and model side by side ===== -/
theorem ML.sam {h g : xM} {m : Nat} {L : lS} (H : ML h m L) (hs : ∀ q, m ≤ q → q < m + 4 → Sam h g q) : ML g m L := by
  obtain ⟨a1, a2, a3, a4, a5, a6, a7, a8, a9⟩ := H
  have s0 := hs m (by omega) (by omega)
  have s1 := hs (m + 1) (by omega) (by omega)
  have s2 := hs (m + 2) (by omega) (by omega)
  have s3 := hs (m + 3) (by omega) (by omega)
  have hr : ∀ o A, aOK A → RM h (m + 1) o A → RM g (m + 1) o A := fun o A hA hR => RM_keep hR hA (fun j _ _ => by rw [s1.2.1])
  obtain ⟨b1, b2, b3, b4, b5, b6, b7⟩ := a1
  exact ⟨⟨by rw [s0.1]; exact b1, by rw [s0.2.2.1]; exact b2, by rw [s1.1]; exact b3, by rw [s0.2.2.1]; exact b4, by rw [s2.1]; exact b5, by rw [s0.2.2.1]; exact b6, by rw [s3.1]; exact b7⟩, hr _ _ a9.2.1.1 a2, by rw [s0.2.1]; exact a3, fun i z1 z2 => hr _ _ (a9.2.1.2.1 i z1 z2) (a4 i z1 z2), by rw [s0.2.1]; exact a5, fun z => hr _ _ (a9.2.1.2.2 z) (a6 z), by rw [s0.2.1]; exact a7, by rw [s2.2.1]; exact a8, a9⟩
/-- what lies between the line and its chambers may change -/
theorem EL.out {h g : xM} {x lo : Nat} {L : lS} (H : EL h x lo L) (hN : mN h ≤ mN g) (hs : ∀ q, q < mN h → (q < x + 35 ∨ lo ≤ q) → Sam h g q) : EL g x lo L := by
  obtain ⟨a1, a2, a3, a4, a5, a6, a7, a8⟩ := H
  refine ⟨a1.sam (fun q z1 z2 => (hs q (by omega) (by omega)).1) (fun q j z1 z2 _ _ => by rw [(hs q (by omega) (by omega)).2.2.1]), a2.sam (fun q z1 z2 => hs q (by omega) (by omega)), a3.sam hN (hs _ (by omega) (by omega)) (hs _ (by omega) (by omega)) (fun i b z1 z2 z3 q z4 z5 => hs q (by have := (a3.blk z1 z2 z3).2.1; omega) (by have := (a3.blk z1 z2 z3).1; omega)), ?_, a5.sam (hs _ (by omega) (by omega)) (hs _ (by omega) (by omega)), a6, a7, by omega⟩
  unfold KR
  rw [(hs x (by omega) (by omega)).2.2.1]
  rcases a4 with e | ⟨b, e1, e2, e3, e4, e5, e6⟩
  · exact Or.inl e
  · refine Or.inr ⟨b, e1, e2, e3, by omega, e5.sam (fun q z1 z2 => hs q (by omega) (by omega)), ?_⟩
    rw [(hs (x + 31 + 1) (by omega) (by omega)).2.2.1]
    exact e6
theorem EL.fm {h g : xM} {x lo m : Nat} {L : lS} (H : EL h x lo L) (hF : FM h g m) (hm : x + 35 ≤ m ∧ m + 4 ≤ lo) : EL g x lo L := H.out (Nat.le_of_eq hF.1.symm) (fun q z1 z2 => hF.sam (by omega))
/-- a new line: its chambers lie farther on -/
theorem EL.lift {h g : xM} {x lo : Nat} {L : lS} (H : EL h x (x + 35) L) (hN : mN h = x + 35) (hlo : x + 35 ≤ lo ∧ lo ≤ mN g) (hs : ∀ q, q < x + 35 → Sam h g q) : EL g x lo L := by
  have H2 := (H.up (g := g) (by omega) (fun q z => hs q (by omega))).1
  obtain ⟨a1, a2, a3, a4, a5, a6, a7, a8⟩ := H
  obtain ⟨b1, b2, b3, b4, b5, b6, b7, b8⟩ := H2
  refine ⟨b1, b2, ⟨b3.1, b3.2.1, b3.2.2.1, fun i z1 z2 => ?_, b3.2.2.2.2⟩, ?_, b5, b6, hlo.1, hlo.2⟩
  · rcases a3.2.2.2.1 i z1 z2 with e | ⟨b, e1, e2, e3, e4⟩
    · left
      rw [(hs (x + 31 + 1) (by omega)).2.2.1]
      exact e
    · omega
  · rcases a4 with e | ⟨b, e1, e2, e3, e4, e5⟩
    · left
      rw [(hs x (by omega)).2.2.1]
      exact e
    · omega
theorem py3_rng {p q r : Prop} {c : Int} (h : py3 p q r c) : 1 ≤ c ∧ c ≤ 3 := by
  unfold py3 at h
  rcases h with h | h | h <;> omega
theorem py3_no {p q r : Prop} {c : Int} (h : py3 p q r c) (h2 : p ∧ q ∧ r) : False := by
  unfold py3 at h
  rcases h with h | h | h
  · exact h.1 h2.1
  · exact h.2.1 h2.2.1
  · exact h.2.2.1 h2.2.2
theorem py3_uniq {p q r : Prop} {c c' : Int} (h : py3 p q r c) (h' : py3 p q r c') : c = c' := by
  unfold py3 at h h'
  rcases h with ⟨a1, a2⟩ | ⟨a1, a2, a3⟩ | ⟨a1, a2, a3, a4⟩ <;> rcases h' with ⟨b1, b2⟩ | ⟨b1, b2, b3⟩ | ⟨b1, b2, b3, b4⟩
  · omega
  · exact absurd b1 a1
  · exact absurd b1 a1
  · exact absurd a1 b1
  · omega
  · exact absurd b2 a2
  · exact absurd a1 b1
  · exact absurd a2 b2
  · omega
def LI (h : xM) (x m o lo : Nat) (L : lS) : Prop := EL h x lo L ∧ ML h m L ∧ mT h o = some (12, 1) ∧ (x + 35 ≤ m ∧ m + 4 ≤ o ∧ o < lo)
/-- the script -/
def yScr (Ω : xO) (s : State) (b Ls : Nat) (xs : Nat → Int32) : Prop := va_X b Ls xs s s.heap ∧ b < s.heap.size ∧ ¬ xA Ω b
theorem y_and (a : Int32) : ∃ z, a &&& Int32.ofInt 31 = Int32.ofInt z ∧ 0 ≤ z ∧ z ≤ 31 := by
  refine ⟨(a &&& Int32.ofInt 31).toInt, (Int32.ofInt_toInt _).symm, ?_⟩
  have hn : (a &&& Int32.ofInt 31).toBitVec.toNat ≤ 31 := by
    show (a.toBitVec &&& (Int32.ofInt 31).toBitVec).toNat ≤ 31
    rw [BitVec.toNat_and]
    exact Nat.and_le_right
  have hi : (a &&& Int32.ofInt 31).toInt = ((a &&& Int32.ofInt 31).toBitVec.toNat : Int) := by
    show (a &&& Int32.ofInt 31).toBitVec.toInt = _
    rw [BitVec.toInt_eq_toNat_cond, if_pos (by omega)]
  omega
section YRL
variable {Ω : xO} {own : String} {cc : ByteArray} {nL : Nat} {ret : Option FieldType} {R : Room} {Q : State → Prop} {p : Program} {e : Env} {s : State} {m : MethodId} {args : Array Value} {below : List Frame} {meth : Method} {c : Code} {kc ks pc pc' : Nat} {ls : List (Option xV)} {st : List xV} {h : xM} {b Ls : Nat} {xs : Nat → Int32}
theorem Y.sald (cx : yCx own cc nL ret p s m args meth c) (sc : yScr Ω s b Ls xs) {i : Int} (hd : decode cc pc = .ok (.iaload, 1)) (h0 : 0 ≤ i) (h1 : i < Ls) (h2 : inR i) (hp : pc + 1 = pc') (k : ∀ z, z = (xs i.toNat).toInt → inR z → Y Ω R Q p e s m args below meth c nL kc ks pc' ls (vi z :: st) h) : Y Ω R Q p e s m args below meth c nL kc ks pc ls (vi i :: rf b :: st) h := by
  intro H locs lr hS r hl
  obtain ⟨hx, hb, hrt, hml, hown, hlocks, hts⟩ := id cx
  subst hp
  have hz : inR (xs i.toNat).toInt := ⟨Int32.le_toInt _, Int32.toInt_lt _⟩
  have := k _ rfl hz H locs lr hS r hl
  refine va_sld hx hb sc.1 sc.2.1 sc.2.2 hS (x_in h2 h0 h1) hd ?_
  rw [x_nat h2]
  have e1 : Value.int (xs i.toNat) = xc (vi (xs i.toNat).toInt) := by
    show _ = Value.int (Int32.ofInt _)
    rw [Int32.ofInt_toInt]
  rw [e1]
  exact this
theorem Y.slen (cx : yCx own cc nL ret p s m args meth c) (sc : yScr Ω s b Ls xs) (hd : decode cc pc = .ok (.arraylength, 1)) (hp : pc + 1 = pc') (k : Y Ω R Q p e s m args below meth c nL kc ks pc' ls (vi (Ls : Int) :: st) h) : Y Ω R Q p e s m args below meth c nL kc ks pc ls (rf b :: st) h := by
  intro H locs lr hS r hl
  obtain ⟨hx, hb, hrt, hml, hown, hlocks, hts⟩ := id cx
  subst hp
  exact va_slen hx hb sc.1 sc.2.1 sc.2.2 hS hd (k H locs lr hS r hl)
end YRL
theorem wS_408 : (Jvm.Cond.methodLink "EchoLineLaw" (74 : Nat) ({ cls := "EchoLineLaw", name := "say", desc := "(LEchoLine;III[J)I" } : Jvm.MethodName)) ∈ WG := xWG (List.mem_of_getElem? (i := 408) (by decide +kernel)) (by decide +kernel)
theorem wS_409 : (Jvm.Cond.static ({ cls := "EchoLineLaw", name := "say", desc := "(LEchoLine;III[J)I" } : Jvm.MethodName)) ∈ WG := xWG (List.mem_of_getElem? (i := 409) (by decide +kernel)) (by decide +kernel)
theorem wS_59 : (Jvm.Cond.initialized "EchoLineLaw") ∈ WG := xWG (List.mem_of_getElem? (i := 59) (by decide +kernel)) (by decide +kernel)
theorem wS_410 : (Jvm.Cond.codeWith ({ cls := "EchoLineLaw", name := "say", desc := "(LEchoLine;III[J)I" } : Jvm.MethodName) method_3_code (6 : Nat) (Option.some Jvm.ClassFile.FieldType.int) [((0 : Nat), (12 : Nat), (15 : Nat), (13 : Nat)), ((0 : Nat), (12 : Nat), (19 : Nat), (15 : Nat)), ((0 : Nat), (12 : Nat), (23 : Nat), (17 : Nat))]) ∈ WG := xWG (List.mem_of_getElem? (i := 410) (by decide +kernel)) (by decide +kernel)
theorem ckS_say : yCaS RL 74 yL_say cL_say 6 (some .int) [(0, 12, 15, 13), (0, 12, 19, 15), (0, 12, 23, 17)] 5 := ⟨⟨wS_408, wS_409, wS_59, wS_410⟩, by decide +kernel, by decide +kernel, by decide +kernel⟩
theorem wS_550 : (Jvm.Cond.methodLink "EchoLineLaw" (83 : Nat) ({ cls := "EchoLineLaw", name := "pass", desc := "(LEchoLine;I[J)I" } : Jvm.MethodName)) ∈ WG := xWG (List.mem_of_getElem? (i := 550) (by decide +kernel)) (by decide +kernel)
theorem wS_551 : (Jvm.Cond.static ({ cls := "EchoLineLaw", name := "pass", desc := "(LEchoLine;I[J)I" } : Jvm.MethodName)) ∈ WG := xWG (List.mem_of_getElem? (i := 551) (by decide +kernel)) (by decide +kernel)
theorem wS_552 : (Jvm.Cond.codeWith ({ cls := "EchoLineLaw", name := "pass", desc := "(LEchoLine;I[J)I" } : Jvm.MethodName) method_4_code (4 : Nat) (Option.some Jvm.ClassFile.FieldType.int) [((0 : Nat), (9 : Nat), (12 : Nat), (15 : Nat)), ((0 : Nat), (9 : Nat), (15 : Nat), (17 : Nat))]) ∈ WG := xWG (List.mem_of_getElem? (i := 552) (by decide +kernel)) (by decide +kernel)
theorem ckS_pass : yCaS RL 83 yL_pass cL_pass 4 (some .int) [(0, 9, 12, 15), (0, 9, 15, 17)] 3 := ⟨⟨wS_550, wS_551, wS_59, wS_552⟩, by decide +kernel, by decide +kernel, by decide +kernel⟩
theorem wS_566 : (Jvm.Cond.methodLink "EchoLineLaw" (87 : Nat) ({ cls := "EchoLineLaw", name := "wall", desc := "(LEchoLine;II[J)I" } : Jvm.MethodName)) ∈ WG := xWG (List.mem_of_getElem? (i := 566) (by decide +kernel)) (by decide +kernel)
theorem wS_567 : (Jvm.Cond.static ({ cls := "EchoLineLaw", name := "wall", desc := "(LEchoLine;II[J)I" } : Jvm.MethodName)) ∈ WG := xWG (List.mem_of_getElem? (i := 567) (by decide +kernel)) (by decide +kernel)
theorem wS_568 : (Jvm.Cond.codeWith ({ cls := "EchoLineLaw", name := "wall", desc := "(LEchoLine;II[J)I" } : Jvm.MethodName) method_5_code (5 : Nat) (Option.some Jvm.ClassFile.FieldType.int) [((0 : Nat), (10 : Nat), (13 : Nat), (13 : Nat)), ((0 : Nat), (10 : Nat), (17 : Nat), (15 : Nat))]) ∈ WG := xWG (List.mem_of_getElem? (i := 568) (by decide +kernel)) (by decide +kernel)
theorem ckS_wall : yCaS RL 87 yL_wall cL_wall 5 (some .int) [(0, 10, 13, 13), (0, 10, 17, 15)] 4 := ⟨⟨wS_566, wS_567, wS_59, wS_568⟩, by decide +kernel, by decide +kernel, by decide +kernel⟩
theorem wS_573 : (Jvm.Cond.methodLink "EchoLineLaw" (91 : Nat) ({ cls := "EchoLineLaw", name := "set", desc := "(LEchoLine;II[J)I" } : Jvm.MethodName)) ∈ WG := xWG (List.mem_of_getElem? (i := 573) (by decide +kernel)) (by decide +kernel)
theorem wS_574 : (Jvm.Cond.static ({ cls := "EchoLineLaw", name := "set", desc := "(LEchoLine;II[J)I" } : Jvm.MethodName)) ∈ WG := xWG (List.mem_of_getElem? (i := 574) (by decide +kernel)) (by decide +kernel)
theorem wS_575 : (Jvm.Cond.codeWith ({ cls := "EchoLineLaw", name := "set", desc := "(LEchoLine;II[J)I" } : Jvm.MethodName) method_6_code (5 : Nat) (Option.some Jvm.ClassFile.FieldType.int) [((0 : Nat), (10 : Nat), (13 : Nat), (13 : Nat)), ((0 : Nat), (10 : Nat), (17 : Nat), (15 : Nat))]) ∈ WG := xWG (List.mem_of_getElem? (i := 575) (by decide +kernel)) (by decide +kernel)
theorem ckS_set : yCaS RL 91 yL_set cL_set 5 (some .int) [(0, 10, 13, 13), (0, 10, 17, 15)] 4 := ⟨⟨wS_573, wS_574, wS_59, wS_575⟩, by decide +kernel, by decide +kernel, by decide +kernel⟩
theorem wS_585 : (Jvm.Cond.methodLink "EchoLineLaw" (94 : Nat) ({ cls := "EchoLineLaw", name := "append", desc := "(LEchoLine;I[J)I" } : Jvm.MethodName)) ∈ WG := xWG (List.mem_of_getElem? (i := 585) (by decide +kernel)) (by decide +kernel)
theorem wS_586 : (Jvm.Cond.static ({ cls := "EchoLineLaw", name := "append", desc := "(LEchoLine;I[J)I" } : Jvm.MethodName)) ∈ WG := xWG (List.mem_of_getElem? (i := 586) (by decide +kernel)) (by decide +kernel)
theorem wS_587 : (Jvm.Cond.codeWith ({ cls := "EchoLineLaw", name := "append", desc := "(LEchoLine;I[J)I" } : Jvm.MethodName) method_7_code (4 : Nat) (Option.some Jvm.ClassFile.FieldType.int) [((0 : Nat), (9 : Nat), (12 : Nat), (15 : Nat)), ((0 : Nat), (9 : Nat), (15 : Nat), (17 : Nat))]) ∈ WG := xWG (List.mem_of_getElem? (i := 587) (by decide +kernel)) (by decide +kernel)
theorem ckS_append : yCaS RL 94 yL_append cL_append 4 (some .int) [(0, 9, 12, 15), (0, 9, 15, 17)] 3 := ⟨⟨wS_585, wS_586, wS_59, wS_587⟩, by decide +kernel, by decide +kernel, by decide +kernel⟩
theorem wS_597 : (Jvm.Cond.methodLink "EchoLineLaw" (105 : Nat) ({ cls := "EchoLineLaw", name := "talk", desc := "(LEchoLine;[J)I" } : Jvm.MethodName)) ∈ WG := xWG (List.mem_of_getElem? (i := 597) (by decide +kernel)) (by decide +kernel)
theorem wS_598 : (Jvm.Cond.static ({ cls := "EchoLineLaw", name := "talk", desc := "(LEchoLine;[J)I" } : Jvm.MethodName)) ∈ WG := xWG (List.mem_of_getElem? (i := 598) (by decide +kernel)) (by decide +kernel)
theorem wS_599 : (Jvm.Cond.codeWith ({ cls := "EchoLineLaw", name := "talk", desc := "(LEchoLine;[J)I" } : Jvm.MethodName) method_8_code (3 : Nat) (Option.some Jvm.ClassFile.FieldType.int) [((0 : Nat), (8 : Nat), (11 : Nat), (15 : Nat))]) ∈ WG := xWG (List.mem_of_getElem? (i := 599) (by decide +kernel)) (by decide +kernel)
theorem ckS_talk : yCaS RL 105 yL_talk cL_talk 3 (some .int) [(0, 8, 11, 15)] 2 := ⟨⟨wS_597, wS_598, wS_59, wS_599⟩, by decide +kernel, by decide +kernel, by decide +kernel⟩
theorem wS_628 : (Jvm.Cond.methodLink "EchoLineLaw" (109 : Nat) ({ cls := "EchoLineLaw", name := "undo", desc := "(LEchoLine;[J)I" } : Jvm.MethodName)) ∈ WG := xWG (List.mem_of_getElem? (i := 628) (by decide +kernel)) (by decide +kernel)
theorem wS_629 : (Jvm.Cond.static ({ cls := "EchoLineLaw", name := "undo", desc := "(LEchoLine;[J)I" } : Jvm.MethodName)) ∈ WG := xWG (List.mem_of_getElem? (i := 629) (by decide +kernel)) (by decide +kernel)
theorem wS_630 : (Jvm.Cond.codeWith ({ cls := "EchoLineLaw", name := "undo", desc := "(LEchoLine;[J)I" } : Jvm.MethodName) method_9_code (3 : Nat) (Option.some Jvm.ClassFile.FieldType.int) [((0 : Nat), (8 : Nat), (11 : Nat), (17 : Nat))]) ∈ WG := xWG (List.mem_of_getElem? (i := 630) (by decide +kernel)) (by decide +kernel)
theorem ckS_undo : yCaS RL 109 yL_undo cL_undo 3 (some .int) [(0, 8, 11, 17)] 2 := ⟨⟨wS_628, wS_629, wS_59, wS_630⟩, by decide +kernel, by decide +kernel, by decide +kernel⟩
theorem wS_644 : (Jvm.Cond.methodLink "EchoLineLaw" (116 : Nat) ({ cls := "EchoLineLaw", name := "restore", desc := "(LEchoLine;[J)I" } : Jvm.MethodName)) ∈ WG := xWG (List.mem_of_getElem? (i := 644) (by decide +kernel)) (by decide +kernel)
theorem wS_645 : (Jvm.Cond.static ({ cls := "EchoLineLaw", name := "restore", desc := "(LEchoLine;[J)I" } : Jvm.MethodName)) ∈ WG := xWG (List.mem_of_getElem? (i := 645) (by decide +kernel)) (by decide +kernel)
theorem wS_646 : (Jvm.Cond.codeWith ({ cls := "EchoLineLaw", name := "restore", desc := "(LEchoLine;[J)I" } : Jvm.MethodName) method_10_code (3 : Nat) (Option.some Jvm.ClassFile.FieldType.int) [((0 : Nat), (8 : Nat), (11 : Nat), (17 : Nat))]) ∈ WG := xWG (List.mem_of_getElem? (i := 646) (by decide +kernel)) (by decide +kernel)
theorem ckS_restore : yCaS RL 116 yL_restore cL_restore 3 (some .int) [(0, 8, 11, 17)] 2 := ⟨⟨wS_644, wS_645, wS_59, wS_646⟩, by decide +kernel, by decide +kernel, by decide +kernel⟩
theorem wS_652 : (Jvm.Cond.methodLink "EchoLineLaw" (119 : Nat) ({ cls := "EchoLineLaw", name := "said", desc := "(LEchoLine;II[J)I" } : Jvm.MethodName)) ∈ WG := xWG (List.mem_of_getElem? (i := 652) (by decide +kernel)) (by decide +kernel)
theorem wS_653 : (Jvm.Cond.static ({ cls := "EchoLineLaw", name := "said", desc := "(LEchoLine;II[J)I" } : Jvm.MethodName)) ∈ WG := xWG (List.mem_of_getElem? (i := 653) (by decide +kernel)) (by decide +kernel)
theorem wS_654 : (Jvm.Cond.codeWith ({ cls := "EchoLineLaw", name := "said", desc := "(LEchoLine;II[J)I" } : Jvm.MethodName) method_11_code (5 : Nat) (Option.some Jvm.ClassFile.FieldType.int) [((0 : Nat), (10 : Nat), (13 : Nat), (15 : Nat))]) ∈ WG := xWG (List.mem_of_getElem? (i := 654) (by decide +kernel)) (by decide +kernel)
theorem ckS_said : yCaS RL 119 yL_said cL_said 5 (some .int) [(0, 10, 13, 15)] 4 := ⟨⟨wS_652, wS_653, wS_59, wS_654⟩, by decide +kernel, by decide +kernel, by decide +kernel⟩
theorem wS_659 : (Jvm.Cond.methodLink "EchoLineLaw" (122 : Nat) ({ cls := "EchoLineLaw", name := "comes", desc := "(LEchoLine;II[J)I" } : Jvm.MethodName)) ∈ WG := xWG (List.mem_of_getElem? (i := 659) (by decide +kernel)) (by decide +kernel)
theorem wS_660 : (Jvm.Cond.static ({ cls := "EchoLineLaw", name := "comes", desc := "(LEchoLine;II[J)I" } : Jvm.MethodName)) ∈ WG := xWG (List.mem_of_getElem? (i := 660) (by decide +kernel)) (by decide +kernel)
theorem wS_661 : (Jvm.Cond.codeWith ({ cls := "EchoLineLaw", name := "comes", desc := "(LEchoLine;II[J)I" } : Jvm.MethodName) method_12_code (5 : Nat) (Option.some Jvm.ClassFile.FieldType.int) [((0 : Nat), (10 : Nat), (13 : Nat), (13 : Nat)), ((0 : Nat), (10 : Nat), (17 : Nat), (15 : Nat))]) ∈ WG := xWG (List.mem_of_getElem? (i := 661) (by decide +kernel)) (by decide +kernel)
theorem ckS_comes : yCaS RL 122 yL_comes cL_comes 5 (some .int) [(0, 10, 13, 13), (0, 10, 17, 15)] 4 := ⟨⟨wS_659, wS_660, wS_59, wS_661⟩, by decide +kernel, by decide +kernel, by decide +kernel⟩
theorem wS_666 : (Jvm.Cond.methodLink "EchoLineLaw" (125 : Nat) ({ cls := "EchoLineLaw", name := "heard", desc := "(LEchoLine;III[J)I" } : Jvm.MethodName)) ∈ WG := xWG (List.mem_of_getElem? (i := 666) (by decide +kernel)) (by decide +kernel)
theorem wS_667 : (Jvm.Cond.static ({ cls := "EchoLineLaw", name := "heard", desc := "(LEchoLine;III[J)I" } : Jvm.MethodName)) ∈ WG := xWG (List.mem_of_getElem? (i := 667) (by decide +kernel)) (by decide +kernel)
theorem wS_668 : (Jvm.Cond.codeWith ({ cls := "EchoLineLaw", name := "heard", desc := "(LEchoLine;III[J)I" } : Jvm.MethodName) method_13_code (6 : Nat) (Option.some Jvm.ClassFile.FieldType.int) [((0 : Nat), (12 : Nat), (15 : Nat), (13 : Nat)), ((0 : Nat), (12 : Nat), (19 : Nat), (15 : Nat))]) ∈ WG := xWG (List.mem_of_getElem? (i := 668) (by decide +kernel)) (by decide +kernel)
theorem ckS_heard : yCaS RL 125 yL_heard cL_heard 6 (some .int) [(0, 12, 15, 13), (0, 12, 19, 15)] 5 := ⟨⟨wS_666, wS_667, wS_59, wS_668⟩, by decide +kernel, by decide +kernel, by decide +kernel⟩
theorem wS_673 : (Jvm.Cond.methodLink "EchoLineLaw" (128 : Nat) ({ cls := "EchoLineLaw", name := "speaker", desc := "(LEchoLine;II[J)I" } : Jvm.MethodName)) ∈ WG := xWG (List.mem_of_getElem? (i := 673) (by decide +kernel)) (by decide +kernel)
theorem wS_674 : (Jvm.Cond.static ({ cls := "EchoLineLaw", name := "speaker", desc := "(LEchoLine;II[J)I" } : Jvm.MethodName)) ∈ WG := xWG (List.mem_of_getElem? (i := 674) (by decide +kernel)) (by decide +kernel)
theorem wS_675 : (Jvm.Cond.codeWith ({ cls := "EchoLineLaw", name := "speaker", desc := "(LEchoLine;II[J)I" } : Jvm.MethodName) method_14_code (5 : Nat) (Option.some Jvm.ClassFile.FieldType.int) [((0 : Nat), (10 : Nat), (13 : Nat), (13 : Nat)), ((0 : Nat), (10 : Nat), (17 : Nat), (15 : Nat))]) ∈ WG := xWG (List.mem_of_getElem? (i := 675) (by decide +kernel)) (by decide +kernel)
theorem ckS_speaker : yCaS RL 128 yL_speaker cL_speaker 5 (some .int) [(0, 10, 13, 13), (0, 10, 17, 15)] 4 := ⟨⟨wS_673, wS_674, wS_59, wS_675⟩, by decide +kernel, by decide +kernel, by decide +kernel⟩
theorem wS_680 : (Jvm.Cond.methodLink "EchoLineLaw" (131 : Nat) ({ cls := "EchoLineLaw", name := "message", desc := "(LEchoLine;III[J)I" } : Jvm.MethodName)) ∈ WG := xWG (List.mem_of_getElem? (i := 680) (by decide +kernel)) (by decide +kernel)
theorem wS_681 : (Jvm.Cond.static ({ cls := "EchoLineLaw", name := "message", desc := "(LEchoLine;III[J)I" } : Jvm.MethodName)) ∈ WG := xWG (List.mem_of_getElem? (i := 681) (by decide +kernel)) (by decide +kernel)
theorem wS_682 : (Jvm.Cond.codeWith ({ cls := "EchoLineLaw", name := "message", desc := "(LEchoLine;III[J)I" } : Jvm.MethodName) method_15_code (6 : Nat) (Option.some Jvm.ClassFile.FieldType.int) [((0 : Nat), (12 : Nat), (15 : Nat), (13 : Nat)), ((0 : Nat), (12 : Nat), (19 : Nat), (15 : Nat))]) ∈ WG := xWG (List.mem_of_getElem? (i := 682) (by decide +kernel)) (by decide +kernel)
theorem ckS_message : yCaS RL 131 yL_message cL_message 6 (some .int) [(0, 12, 15, 13), (0, 12, 19, 15)] 5 := ⟨⟨wS_680, wS_681, wS_59, wS_682⟩, by decide +kernel, by decide +kernel, by decide +kernel⟩
theorem wS_687 : (Jvm.Cond.methodLink "EchoLineLaw" (134 : Nat) ({ cls := "EchoLineLaw", name := "count", desc := "(LEchoLine;I[J)I" } : Jvm.MethodName)) ∈ WG := xWG (List.mem_of_getElem? (i := 687) (by decide +kernel)) (by decide +kernel)
theorem wS_688 : (Jvm.Cond.static ({ cls := "EchoLineLaw", name := "count", desc := "(LEchoLine;I[J)I" } : Jvm.MethodName)) ∈ WG := xWG (List.mem_of_getElem? (i := 688) (by decide +kernel)) (by decide +kernel)
theorem wS_689 : (Jvm.Cond.codeWith ({ cls := "EchoLineLaw", name := "count", desc := "(LEchoLine;I[J)I" } : Jvm.MethodName) method_16_code (4 : Nat) (Option.some Jvm.ClassFile.FieldType.int) [((0 : Nat), (9 : Nat), (12 : Nat), (15 : Nat))]) ∈ WG := xWG (List.mem_of_getElem? (i := 689) (by decide +kernel)) (by decide +kernel)
theorem ckS_count : yCaS RL 134 yL_count cL_count 4 (some .int) [(0, 9, 12, 15)] 3 := ⟨⟨wS_687, wS_688, wS_59, wS_689⟩, by decide +kernel, by decide +kernel, by decide +kernel⟩
theorem wS_694 : (Jvm.Cond.methodLink "EchoLineLaw" (137 : Nat) ({ cls := "EchoLineLaw", name := "whyNot", desc := "(LEchoLine;II[J)I" } : Jvm.MethodName)) ∈ WG := xWG (List.mem_of_getElem? (i := 694) (by decide +kernel)) (by decide +kernel)
theorem wS_695 : (Jvm.Cond.static ({ cls := "EchoLineLaw", name := "whyNot", desc := "(LEchoLine;II[J)I" } : Jvm.MethodName)) ∈ WG := xWG (List.mem_of_getElem? (i := 695) (by decide +kernel)) (by decide +kernel)
theorem wS_696 : (Jvm.Cond.codeWith ({ cls := "EchoLineLaw", name := "whyNot", desc := "(LEchoLine;II[J)I" } : Jvm.MethodName) method_17_code (5 : Nat) (Option.some Jvm.ClassFile.FieldType.int) [((0 : Nat), (10 : Nat), (13 : Nat), (13 : Nat)), ((0 : Nat), (10 : Nat), (17 : Nat), (15 : Nat))]) ∈ WG := xWG (List.mem_of_getElem? (i := 696) (by decide +kernel)) (by decide +kernel)
theorem ckS_whyNot : yCaS RL 137 yL_whyNot cL_whyNot 5 (some .int) [(0, 10, 13, 13), (0, 10, 17, 15)] 4 := ⟨⟨wS_694, wS_695, wS_59, wS_696⟩, by decide +kernel, by decide +kernel, by decide +kernel⟩
theorem wS_701 : (Jvm.Cond.methodLink "EchoLineLaw" (140 : Nat) ({ cls := "EchoLineLaw", name := "ifSilent", desc := "(LEchoLine;I[J)I" } : Jvm.MethodName)) ∈ WG := xWG (List.mem_of_getElem? (i := 701) (by decide +kernel)) (by decide +kernel)
theorem wS_702 : (Jvm.Cond.static ({ cls := "EchoLineLaw", name := "ifSilent", desc := "(LEchoLine;I[J)I" } : Jvm.MethodName)) ∈ WG := xWG (List.mem_of_getElem? (i := 702) (by decide +kernel)) (by decide +kernel)
theorem wS_703 : (Jvm.Cond.codeWith ({ cls := "EchoLineLaw", name := "ifSilent", desc := "(LEchoLine;I[J)I" } : Jvm.MethodName) method_18_code (4 : Nat) (Option.some Jvm.ClassFile.FieldType.int) [((0 : Nat), (9 : Nat), (12 : Nat), (13 : Nat))]) ∈ WG := xWG (List.mem_of_getElem? (i := 703) (by decide +kernel)) (by decide +kernel)
theorem ckS_ifSilent : yCaS RL 140 yL_ifSilent cL_ifSilent 4 (some .int) [(0, 9, 12, 13)] 3 := ⟨⟨wS_701, wS_702, wS_59, wS_703⟩, by decide +kernel, by decide +kernel, by decide +kernel⟩
theorem wS_708 : (Jvm.Cond.methodLink "EchoLineLaw" (143 : Nat) ({ cls := "EchoLineLaw", name := "heardIn", desc := "(LEchoLine;II[J)I" } : Jvm.MethodName)) ∈ WG := xWG (List.mem_of_getElem? (i := 708) (by decide +kernel)) (by decide +kernel)
theorem wS_709 : (Jvm.Cond.static ({ cls := "EchoLineLaw", name := "heardIn", desc := "(LEchoLine;II[J)I" } : Jvm.MethodName)) ∈ WG := xWG (List.mem_of_getElem? (i := 709) (by decide +kernel)) (by decide +kernel)
theorem wS_710 : (Jvm.Cond.codeWith ({ cls := "EchoLineLaw", name := "heardIn", desc := "(LEchoLine;II[J)I" } : Jvm.MethodName) method_19_code (5 : Nat) (Option.some Jvm.ClassFile.FieldType.int) [((0 : Nat), (10 : Nat), (13 : Nat), (13 : Nat)), ((0 : Nat), (10 : Nat), (17 : Nat), (15 : Nat))]) ∈ WG := xWG (List.mem_of_getElem? (i := 710) (by decide +kernel)) (by decide +kernel)
theorem ckS_heardIn : yCaS RL 143 yL_heardIn cL_heardIn 5 (some .int) [(0, 10, 13, 13), (0, 10, 17, 15)] 4 := ⟨⟨wS_708, wS_709, wS_59, wS_710⟩, by decide +kernel, by decide +kernel, by decide +kernel⟩
set_option maxHeartbeats 4000000 in
set_option maxRecDepth 100000 in
theorem y_say {Ω : xO} {Q : State → Prop} {p : Program} {e : Env} {s : State} {m0 : MethodId} {args : Array Value} {below : List Frame} {meth : Method} {c : Code} {kc ks b Ls x m o lo : Nat} {xs : Nat → Int32} {i : Int} {h : xM} {L : lS} (cx : yCx RL cL_law 9 (some .boolean) p s m0 args meth c) (wd : xWd Ω s) (sc : yScr Ω s b Ls xs) (hi : 0 ≤ i ∧ i + 4 ≤ Ls ∧ Ls ≤ 2048) (hL : LI h x m o lo L) (hkc : kc + 40 ≤ 601024) (hks : ks + 6000 ≤ 7293034)
    (kk : ∀ (kc' ks' : Nat) (h' : xM) (L' : lS), kc' ≤ kc + 40 → ks' ≤ ks + 6000 → LI h' x m o lo L' → Y Ω room_1 Q p e s m0 args below meth c 9 kc' ks' 1323 [some (rf b), some (rf x), some (rf m), some (rf o), some (vi i), none, none, none, none] [] h') : Y Ω room_1 Q p e s m0 args below meth c 9 kc ks 144 [some (rf b), some (rf x), some (rf m), some (rf o), some (vi i), none, none, none, none] [] h := by
  have hlay := hL.2.2.2
  refine Y.aload_n cx wd (i := 1) rfl rfl dL_law_144 (pc' := 145) rfl ?_
  refine Y.aload_n cx wd (i := 0) rfl rfl dL_law_145 (pc' := 146) rfl ?_
  refine Y.iload cx wd (i := 4) rfl dL_law_146 (pc' := 148) rfl ?_
  refine Y.iconst cx wd dL_law_148 (pc' := 149) rfl ?_
  refine Y.iadd cx wd dL_law_149 (pc' := 150) rfl ?_
  refine Y.sald cx sc dL_law_150 (by omega) (by omega) ⟨by omega, by omega⟩ (pc' := 151) rfl (fun z1 ez1 irz1 => ?_)
  refine Y.aload_n cx wd (i := 0) rfl rfl dL_law_151 (pc' := 152) rfl ?_
  refine Y.iload cx wd (i := 4) rfl dL_law_152 (pc' := 154) rfl ?_
  refine Y.iconst cx wd dL_law_154 (pc' := 155) rfl ?_
  refine Y.iadd cx wd dL_law_155 (pc' := 156) rfl ?_
  refine Y.sald cx sc dL_law_156 (by omega) (by omega) ⟨by omega, by omega⟩ (pc' := 157) rfl (fun z2 ez2 irz2 => ?_)
  refine Y.aload_n cx wd (i := 0) rfl rfl dL_law_157 (pc' := 158) rfl ?_
  refine Y.iload cx wd (i := 4) rfl dL_law_158 (pc' := 160) rfl ?_
  refine Y.iconst cx wd dL_law_160 (pc' := 161) rfl ?_
  refine Y.iadd cx wd dL_law_161 (pc' := 162) rfl ?_
  refine Y.sald cx sc dL_law_162 (by omega) (by omega) ⟨by omega, by omega⟩ (pc' := 163) rfl (fun z3 ez3 irz3 => ?_)
  refine Y.aload_n cx wd (i := 3) rfl rfl dL_law_163 (pc' := 164) rfl ?_
  refine Y.callSW cx wd (rm := rm_L_say) (As := [rf x, vi z1, vi z2, vi z3, rf o]) (st := []) dL_law_164 ckS_say rfl rfl ⟨Nat.le_of_ble_eq_true rfl, Nat.le_of_ble_eq_true rfl⟩ (show kc + 32 ≤ 601024 by omega) (show ks + 5717 ≤ 7293034 by omega) (Nat.le_of_ble_eq_true rfl) (pc' := 167) rfl (k_L_say hL.1 hL.2.2.1 ⟨by omega, by omega⟩ irz1 irz2 irz3) (fun q1 h1 e1 => ?_)
  obtain ⟨r, rfl, hFL, hcs⟩ := e1
  have hM1 : ML h1 m L := hL.2.1.sam (fun q z1 z2 => hFL.2.2 q (by omega) (Or.inr (by omega)) (by omega))
  have hr03 : 0 ≤ r ∧ r ≤ 3 := by
    rcases hcs with z | z
    · have := z.2.1; omega
    · have := py3_rng z.1; omega
  refine Y.istore cx wd (i := 5) (ls' := [some (rf b), some (rf x), some (rf m), some (rf o), some (vi i), some (vi r), none, none, none]) (hd := dL_law_167) (by decide) rfl rfl (pc' := 169) rfl ?_
  refine Y.aload_n cx wd (i := 2) rfl rfl dL_law_169 (pc' := 170) rfl ?_
  refine Y.aload_n cx wd (i := 0) rfl rfl dL_law_170 (pc' := 171) rfl ?_
  refine Y.iload cx wd (i := 4) rfl dL_law_171 (pc' := 173) rfl ?_
  refine Y.iconst cx wd dL_law_173 (pc' := 174) rfl ?_
  refine Y.iadd cx wd dL_law_174 (pc' := 175) rfl ?_
  refine Y.sald cx sc dL_law_175 (by omega) (by omega) ⟨by omega, by omega⟩ (pc' := 176) rfl (fun z9 e9 ir9 => ?_)
  obtain rfl : z1 = z9 := ez1.trans e9.symm
  refine Y.aload_n cx wd (i := 0) rfl rfl dL_law_176 (pc' := 177) rfl ?_
  refine Y.iload cx wd (i := 4) rfl dL_law_177 (pc' := 179) rfl ?_
  refine Y.iconst cx wd dL_law_179 (pc' := 180) rfl ?_
  refine Y.iadd cx wd dL_law_180 (pc' := 181) rfl ?_
  refine Y.sald cx sc dL_law_181 (by omega) (by omega) ⟨by omega, by omega⟩ (pc' := 182) rfl (fun z9 e9 ir9 => ?_)
  obtain rfl : z2 = z9 := ez2.trans e9.symm
  refine Y.aload_n cx wd (i := 0) rfl rfl dL_law_182 (pc' := 183) rfl ?_
  refine Y.iload cx wd (i := 4) rfl dL_law_183 (pc' := 185) rfl ?_
  refine Y.iconst cx wd dL_law_185 (pc' := 186) rfl ?_
  refine Y.iadd cx wd dL_law_186 (pc' := 187) rfl ?_
  refine Y.sald cx sc dL_law_187 (by omega) (by omega) ⟨by omega, by omega⟩ (pc' := 188) rfl (fun z9 e9 ir9 => ?_)
  obtain rfl : z3 = z9 := ez3.trans e9.symm
  refine Y.callV cx wd (ci := 6) (a := m) (rm := rm_X6_say) (As := [vi z1, vi z2, vi z3]) (st := []) dL_law_188 ck_L_79 rfl (by decide) hM1.1.1 rfl rfl ⟨Nat.le_of_ble_eq_true rfl, Nat.le_of_ble_eq_true rfl⟩ (show kc + 32 + 0 ≤ 601024 by omega) (show ks + 5717 + 0 ≤ 7293034 by omega) (Nat.le_of_ble_eq_true rfl) (pc' := 191) rfl (k_X6_say hM1 irz1 irz2 irz3) (fun q2 h2 e2 => ?_)
  obtain ⟨hFM, v, rfl, hcm⟩ := e2
  refine Y.istore cx wd (i := 6) (ls' := [some (rf b), some (rf x), some (rf m), some (rf o), some (vi i), some (vi r), some (vi v), none, none]) (hd := dL_law_191) (by decide) rfl rfl (pc' := 193) rfl ?_
  refine Y.aload_n cx wd (i := 2) rfl rfl dL_law_193 (pc' := 194) rfl ?_
  refine Y.callV cx wd (ci := 6) (a := m) (rm := rm_X6_thrown) (As := []) (st := []) dL_law_194 ck_L_80 rfl (by decide) (hM1.1.ft hFM).1 rfl rfl ⟨Nat.le_of_ble_eq_true rfl, Nat.le_of_ble_eq_true rfl⟩ (show kc + 32 + 0 + 0 ≤ 601024 by omega) (show ks + 5717 + 0 + 0 ≤ 7293034 by omega) (Nat.le_of_ble_eq_true rfl) (pc' := 197) rfl (k_X6_thrown (hM1.1.ft hFM)) (fun q3 h3 e3 => ?_)
  obtain ⟨rfl, t, rfl, ht⟩ := e3
  have key : t = r := by
    rcases hcs with ⟨c1, c2, c3, c4, c5⟩ | ⟨c1, c2⟩ <;> rcases hcm with ⟨d1, d2, d3, d4⟩ | ⟨d1, d2, d3⟩
    · rw [ht, d2, c2]
    · exact (py3_no d1 c1).elim
    · exact (py3_no c1 d1).elim
    · rw [ht]; exact py3_uniq d1 c1
  have hvr : inR v := by
    rcases hcs with ⟨c1, c2, c3, c4, c5⟩ | ⟨c1, c2⟩ <;> rcases hcm with ⟨d1, d2, d3, d4⟩ | ⟨d1, d2, d3⟩
    · rw [d3]; exact c4
    · rw [d2]; exact inR_0
    · exact (py3_no c1 d1).elim
    · rw [d2]; exact inR_0
  obtain ⟨L9, hL9⟩ : ∃ L9, LI h2 x m o lo L9 := by
    have hO2 : mT h2 o = some (12, 1) := by rw [hFM.2.1, hFL.2.1]; exact hL.2.2.1
    rcases hcs with ⟨c1, c2, c3, c4, c5⟩ | ⟨c1, c2⟩ <;> rcases hcm with ⟨d1, d2, d3, d4⟩ | ⟨d1, d2, d3⟩
    · exact ⟨_, c5.fm hFM (by omega), d4, hO2, hlay⟩
    · exact (py3_no d1 c1).elim
    · exact (py3_no c1 d1).elim
    · exact ⟨_, c2.fm hFM (by omega), d3, hO2, hlay⟩
  refine Y.iload cx wd (i := 5) rfl dL_law_197 (pc' := 199) rfl ?_
  refine Y.icmp_eq cx wd (tgt := 204) dL_law_199 ⟨by omega, by omega⟩ ⟨by omega, by omega⟩ (by decide) (pc' := 202) rfl (fun c1 => ?_) (fun c1 => absurd key c1)
  refine Y.iload cx wd (i := 5) rfl dL_law_204 (pc' := 206) rfl ?_
  refine Y.if_ne cx wd (tgt := 221) dL_law_206 ⟨by omega, by omega⟩ (by decide) (pc' := 209) rfl (fun c2 => ?_) (fun c2 => ?_)
  · refine Y.goto cx wd (tgt := 1323) dL_law_221 (by decide) ?_
    refine Y.mask (bs := [true, true, true, true, true, false, false, false, false]) (ls' := [some (rf b), some (rf x), some (rf m), some (rf o), some (vi i), none, none, none, none]) rfl ?_
    exact kk _ _ _ L9 (show kc + 32 + 0 + 0 ≤ kc + 40 by omega) (show ks + 5717 + 0 + 0 ≤ ks + 6000 by omega) hL9
  have hv2 : mL h2 o 0 = Int64.ofInt v := by
    rw [hFM.2.2.2.1]
    rcases hcs with ⟨c1, c2, c3, c4, c5⟩ | ⟨c1, c2⟩ <;> rcases hcm with ⟨d1, d2, d3, d4⟩ | ⟨d1, d2, d3⟩
    · rw [c3, d3]
    · exact (py3_no d1 c1).elim
    · exact (py3_no c1 d1).elim
    · have := py3_rng c1; omega
  refine Y.aload_n cx wd (i := 3) rfl rfl dL_law_209 (pc' := 210) rfl ?_
  refine Y.iconst cx wd dL_law_210 (pc' := 211) rfl ?_
  refine Y.lald cx wd dL_law_211 hL9.2.2.1 (by omega) (by omega) ⟨by omega, by omega⟩ hv2 (pc' := 212) rfl ?_
  refine Y.iload cx wd (i := 6) rfl dL_law_212 (pc' := 214) rfl ?_
  refine Y.i2l cx wd hvr dL_law_214 (pc' := 215) rfl ?_
  refine Y.lcmp cx wd dL_law_215 (pc' := 216) rfl (fun _ => ?_) (fun ne => absurd rfl ne)
  refine Y.if_eq cx wd (tgt := 221) dL_law_216 ⟨by omega, by omega⟩ (by decide) (pc' := 219) rfl (fun _ => ?_) (fun ne => absurd rfl ne)
  refine Y.goto cx wd (tgt := 1323) dL_law_221 (by decide) ?_
  refine Y.mask (bs := [true, true, true, true, true, false, false, false, false]) (ls' := [some (rf b), some (rf x), some (rf m), some (rf o), some (vi i), none, none, none, none]) rfl ?_
  exact kk _ _ _ L9 (show kc + 32 + 0 + 0 ≤ kc + 40 by omega) (show ks + 5717 + 0 + 0 ≤ ks + 6000 by omega) hL9
set_option maxHeartbeats 4000000 in
set_option maxRecDepth 100000 in
theorem y_pass {Ω : xO} {Q : State → Prop} {p : Program} {e : Env} {s : State} {m0 : MethodId} {args : Array Value} {below : List Frame} {meth : Method} {c : Code} {kc ks b Ls x m o lo : Nat} {xs : Nat → Int32} {i : Int} {h : xM} {L : lS} (cx : yCx RL cL_law 9 (some .boolean) p s m0 args meth c) (wd : xWd Ω s) (sc : yScr Ω s b Ls xs) (hi : 0 ≤ i ∧ i + 4 ≤ Ls ∧ Ls ≤ 2048) (hL : LI h x m o lo L) (hkc : kc + 40 ≤ 601024) (hks : ks + 6000 ≤ 7293034)
    (kk : ∀ (kc' ks' : Nat) (h' : xM) (L' : lS), kc' ≤ kc + 40 → ks' ≤ ks + 6000 → LI h' x m o lo L' → Y Ω room_1 Q p e s m0 args below meth c 9 kc' ks' 1323 [some (rf b), some (rf x), some (rf m), some (rf o), some (vi i), none, none, none, none] [] h') : Y Ω room_1 Q p e s m0 args below meth c 9 kc ks 224 [some (rf b), some (rf x), some (rf m), some (rf o), some (vi i), none, none, none, none] [] h := by
  have hlay := hL.2.2.2
  refine Y.aload_n cx wd (i := 1) rfl rfl dL_law_224 (pc' := 225) rfl ?_
  refine Y.aload_n cx wd (i := 0) rfl rfl dL_law_225 (pc' := 226) rfl ?_
  refine Y.iload cx wd (i := 4) rfl dL_law_226 (pc' := 228) rfl ?_
  refine Y.iconst cx wd dL_law_228 (pc' := 229) rfl ?_
  refine Y.iadd cx wd dL_law_229 (pc' := 230) rfl ?_
  refine Y.sald cx sc dL_law_230 (by omega) (by omega) ⟨by omega, by omega⟩ (pc' := 231) rfl (fun z1 ez1 irz1 => ?_)
  refine Y.aload_n cx wd (i := 3) rfl rfl dL_law_231 (pc' := 232) rfl ?_
  refine Y.callSW cx wd (rm := rm_L_pass) (As := [rf x, vi z1, rf o]) (st := []) dL_law_232 ckS_pass rfl rfl ⟨Nat.le_of_ble_eq_true rfl, Nat.le_of_ble_eq_true rfl⟩ (show kc + 31 ≤ 601024 by omega) (show ks + 5711 ≤ 7293034 by omega) (Nat.le_of_ble_eq_true rfl) (pc' := 235) rfl (k_L_pass hL.1 hL.2.2.1 ⟨by omega, by omega⟩ irz1) (fun q1 h1 e1 => ?_)
  obtain ⟨r, rfl, hFL, hcs⟩ := e1
  have hM1 : ML h1 m L := hL.2.1.sam (fun q z1 z2 => hFL.2.2 q (by omega) (Or.inr (by omega)) (by omega))
  have hr03 : 0 ≤ r ∧ r ≤ 3 := by
    rcases hcs with z | z
    · have := z.2.1; omega
    · have := py3_rng z.1; omega
  refine Y.istore cx wd (i := 5) (ls' := [some (rf b), some (rf x), some (rf m), some (rf o), some (vi i), some (vi r), none, none, none]) (hd := dL_law_235) (by decide) rfl rfl (pc' := 237) rfl ?_
  refine Y.aload_n cx wd (i := 2) rfl rfl dL_law_237 (pc' := 238) rfl ?_
  refine Y.aload_n cx wd (i := 0) rfl rfl dL_law_238 (pc' := 239) rfl ?_
  refine Y.iload cx wd (i := 4) rfl dL_law_239 (pc' := 241) rfl ?_
  refine Y.iconst cx wd dL_law_241 (pc' := 242) rfl ?_
  refine Y.iadd cx wd dL_law_242 (pc' := 243) rfl ?_
  refine Y.sald cx sc dL_law_243 (by omega) (by omega) ⟨by omega, by omega⟩ (pc' := 244) rfl (fun z9 e9 ir9 => ?_)
  obtain rfl : z1 = z9 := ez1.trans e9.symm
  refine Y.callV cx wd (ci := 6) (a := m) (rm := rm_X6_pass) (As := [vi z1]) (st := []) dL_law_244 ck_L_86 rfl (by decide) hM1.1.1 rfl rfl ⟨Nat.le_of_ble_eq_true rfl, Nat.le_of_ble_eq_true rfl⟩ (show kc + 31 + 0 ≤ 601024 by omega) (show ks + 5711 + 0 ≤ 7293034 by omega) (Nat.le_of_ble_eq_true rfl) (pc' := 247) rfl (k_X6_pass hM1 irz1) (fun q2 h2 e2 => ?_)
  obtain ⟨hFM, v, rfl, hcm⟩ := e2
  refine Y.istore cx wd (i := 6) (ls' := [some (rf b), some (rf x), some (rf m), some (rf o), some (vi i), some (vi r), some (vi v), none, none]) (hd := dL_law_247) (by decide) rfl rfl (pc' := 249) rfl ?_
  refine Y.aload_n cx wd (i := 2) rfl rfl dL_law_249 (pc' := 250) rfl ?_
  refine Y.callV cx wd (ci := 6) (a := m) (rm := rm_X6_thrown) (As := []) (st := []) dL_law_250 ck_L_80 rfl (by decide) (hM1.1.ft hFM).1 rfl rfl ⟨Nat.le_of_ble_eq_true rfl, Nat.le_of_ble_eq_true rfl⟩ (show kc + 31 + 0 + 0 ≤ 601024 by omega) (show ks + 5711 + 0 + 0 ≤ 7293034 by omega) (Nat.le_of_ble_eq_true rfl) (pc' := 253) rfl (k_X6_thrown (hM1.1.ft hFM)) (fun q3 h3 e3 => ?_)
  obtain ⟨rfl, t, rfl, ht⟩ := e3
  have key : t = r := by
    rcases hcs with ⟨c1, c2, c3, c4, c5⟩ | ⟨c1, c2⟩ <;> rcases hcm with ⟨d1, d2, d3, d4⟩ | ⟨d1, d2, d3⟩
    · rw [ht, d2, c2]
    · exact (py3_no d1 c1).elim
    · exact (py3_no c1 d1).elim
    · rw [ht]; exact py3_uniq d1 c1
  have hvr : inR v := by
    rcases hcs with ⟨c1, c2, c3, c4, c5⟩ | ⟨c1, c2⟩ <;> rcases hcm with ⟨d1, d2, d3, d4⟩ | ⟨d1, d2, d3⟩
    · rw [d3]; exact c4
    · rw [d2]; exact inR_0
    · exact (py3_no c1 d1).elim
    · rw [d2]; exact inR_0
  obtain ⟨L9, hL9⟩ : ∃ L9, LI h2 x m o lo L9 := by
    have hO2 : mT h2 o = some (12, 1) := by rw [hFM.2.1, hFL.2.1]; exact hL.2.2.1
    rcases hcs with ⟨c1, c2, c3, c4, c5⟩ | ⟨c1, c2⟩ <;> rcases hcm with ⟨d1, d2, d3, d4⟩ | ⟨d1, d2, d3⟩
    · exact ⟨_, c5.fm hFM (by omega), d4, hO2, hlay⟩
    · exact (py3_no d1 c1).elim
    · exact (py3_no c1 d1).elim
    · exact ⟨_, c2.fm hFM (by omega), d3, hO2, hlay⟩
  refine Y.iload cx wd (i := 5) rfl dL_law_253 (pc' := 255) rfl ?_
  refine Y.icmp_eq cx wd (tgt := 260) dL_law_255 ⟨by omega, by omega⟩ ⟨by omega, by omega⟩ (by decide) (pc' := 258) rfl (fun c1 => ?_) (fun c1 => absurd key c1)
  refine Y.iload cx wd (i := 5) rfl dL_law_260 (pc' := 262) rfl ?_
  refine Y.if_ne cx wd (tgt := 277) dL_law_262 ⟨by omega, by omega⟩ (by decide) (pc' := 265) rfl (fun c2 => ?_) (fun c2 => ?_)
  · refine Y.goto cx wd (tgt := 1323) dL_law_277 (by decide) ?_
    refine Y.mask (bs := [true, true, true, true, true, false, false, false, false]) (ls' := [some (rf b), some (rf x), some (rf m), some (rf o), some (vi i), none, none, none, none]) rfl ?_
    exact kk _ _ _ L9 (show kc + 31 + 0 + 0 ≤ kc + 40 by omega) (show ks + 5711 + 0 + 0 ≤ ks + 6000 by omega) hL9
  have hv2 : mL h2 o 0 = Int64.ofInt v := by
    rw [hFM.2.2.2.1]
    rcases hcs with ⟨c1, c2, c3, c4, c5⟩ | ⟨c1, c2⟩ <;> rcases hcm with ⟨d1, d2, d3, d4⟩ | ⟨d1, d2, d3⟩
    · rw [c3, d3]
    · exact (py3_no d1 c1).elim
    · exact (py3_no c1 d1).elim
    · have := py3_rng c1; omega
  refine Y.aload_n cx wd (i := 3) rfl rfl dL_law_265 (pc' := 266) rfl ?_
  refine Y.iconst cx wd dL_law_266 (pc' := 267) rfl ?_
  refine Y.lald cx wd dL_law_267 hL9.2.2.1 (by omega) (by omega) ⟨by omega, by omega⟩ hv2 (pc' := 268) rfl ?_
  refine Y.iload cx wd (i := 6) rfl dL_law_268 (pc' := 270) rfl ?_
  refine Y.i2l cx wd hvr dL_law_270 (pc' := 271) rfl ?_
  refine Y.lcmp cx wd dL_law_271 (pc' := 272) rfl (fun _ => ?_) (fun ne => absurd rfl ne)
  refine Y.if_eq cx wd (tgt := 277) dL_law_272 ⟨by omega, by omega⟩ (by decide) (pc' := 275) rfl (fun _ => ?_) (fun ne => absurd rfl ne)
  refine Y.goto cx wd (tgt := 1323) dL_law_277 (by decide) ?_
  refine Y.mask (bs := [true, true, true, true, true, false, false, false, false]) (ls' := [some (rf b), some (rf x), some (rf m), some (rf o), some (vi i), none, none, none, none]) rfl ?_
  exact kk _ _ _ L9 (show kc + 31 + 0 + 0 ≤ kc + 40 by omega) (show ks + 5711 + 0 + 0 ≤ ks + 6000 by omega) hL9
set_option maxHeartbeats 4000000 in
set_option maxRecDepth 100000 in
theorem y_wall {Ω : xO} {Q : State → Prop} {p : Program} {e : Env} {s : State} {m0 : MethodId} {args : Array Value} {below : List Frame} {meth : Method} {c : Code} {kc ks b Ls x m o lo : Nat} {xs : Nat → Int32} {i : Int} {h : xM} {L : lS} (cx : yCx RL cL_law 9 (some .boolean) p s m0 args meth c) (wd : xWd Ω s) (sc : yScr Ω s b Ls xs) (hi : 0 ≤ i ∧ i + 4 ≤ Ls ∧ Ls ≤ 2048) (hL : LI h x m o lo L) (hkc : kc + 40 ≤ 601024) (hks : ks + 6000 ≤ 7293034)
    (kk : ∀ (kc' ks' : Nat) (h' : xM) (L' : lS), kc' ≤ kc + 40 → ks' ≤ ks + 6000 → LI h' x m o lo L' → Y Ω room_1 Q p e s m0 args below meth c 9 kc' ks' 1323 [some (rf b), some (rf x), some (rf m), some (rf o), some (vi i), none, none, none, none] [] h') : Y Ω room_1 Q p e s m0 args below meth c 9 kc ks 280 [some (rf b), some (rf x), some (rf m), some (rf o), some (vi i), none, none, none, none] [] h := by
  have hlay := hL.2.2.2
  refine Y.aload_n cx wd (i := 1) rfl rfl dL_law_280 (pc' := 281) rfl ?_
  refine Y.aload_n cx wd (i := 0) rfl rfl dL_law_281 (pc' := 282) rfl ?_
  refine Y.iload cx wd (i := 4) rfl dL_law_282 (pc' := 284) rfl ?_
  refine Y.iconst cx wd dL_law_284 (pc' := 285) rfl ?_
  refine Y.iadd cx wd dL_law_285 (pc' := 286) rfl ?_
  refine Y.sald cx sc dL_law_286 (by omega) (by omega) ⟨by omega, by omega⟩ (pc' := 287) rfl (fun z1 ez1 irz1 => ?_)
  refine Y.aload_n cx wd (i := 0) rfl rfl dL_law_287 (pc' := 288) rfl ?_
  refine Y.iload cx wd (i := 4) rfl dL_law_288 (pc' := 290) rfl ?_
  refine Y.iconst cx wd dL_law_290 (pc' := 291) rfl ?_
  refine Y.iadd cx wd dL_law_291 (pc' := 292) rfl ?_
  refine Y.sald cx sc dL_law_292 (by omega) (by omega) ⟨by omega, by omega⟩ (pc' := 293) rfl (fun z2 ez2 irz2 => ?_)
  refine Y.aload_n cx wd (i := 3) rfl rfl dL_law_293 (pc' := 294) rfl ?_
  refine Y.callSW cx wd (rm := rm_L_wall) (As := [rf x, vi z1, vi z2, rf o]) (st := []) dL_law_294 ckS_wall rfl rfl ⟨Nat.le_of_ble_eq_true rfl, Nat.le_of_ble_eq_true rfl⟩ (show kc + 31 ≤ 601024 by omega) (show ks + 5711 ≤ 7293034 by omega) (Nat.le_of_ble_eq_true rfl) (pc' := 297) rfl (k_L_wall hL.1 hL.2.2.1 ⟨by omega, by omega⟩ irz1 irz2) (fun q1 h1 e1 => ?_)
  obtain ⟨r, rfl, hFL, hcs⟩ := e1
  have hM1 : ML h1 m L := hL.2.1.sam (fun q z1 z2 => hFL.2.2 q (by omega) (Or.inr (by omega)) (by omega))
  have hr03 : 0 ≤ r ∧ r ≤ 3 := by
    rcases hcs with z | z
    · have := z.2.1; omega
    · have := py3_rng z.1; omega
  refine Y.istore cx wd (i := 5) (ls' := [some (rf b), some (rf x), some (rf m), some (rf o), some (vi i), some (vi r), none, none, none]) (hd := dL_law_297) (by decide) rfl rfl (pc' := 299) rfl ?_
  refine Y.aload_n cx wd (i := 2) rfl rfl dL_law_299 (pc' := 300) rfl ?_
  refine Y.aload_n cx wd (i := 0) rfl rfl dL_law_300 (pc' := 301) rfl ?_
  refine Y.iload cx wd (i := 4) rfl dL_law_301 (pc' := 303) rfl ?_
  refine Y.iconst cx wd dL_law_303 (pc' := 304) rfl ?_
  refine Y.iadd cx wd dL_law_304 (pc' := 305) rfl ?_
  refine Y.sald cx sc dL_law_305 (by omega) (by omega) ⟨by omega, by omega⟩ (pc' := 306) rfl (fun z9 e9 ir9 => ?_)
  obtain rfl : z1 = z9 := ez1.trans e9.symm
  refine Y.aload_n cx wd (i := 0) rfl rfl dL_law_306 (pc' := 307) rfl ?_
  refine Y.iload cx wd (i := 4) rfl dL_law_307 (pc' := 309) rfl ?_
  refine Y.iconst cx wd dL_law_309 (pc' := 310) rfl ?_
  refine Y.iadd cx wd dL_law_310 (pc' := 311) rfl ?_
  refine Y.sald cx sc dL_law_311 (by omega) (by omega) ⟨by omega, by omega⟩ (pc' := 312) rfl (fun z9 e9 ir9 => ?_)
  obtain rfl : z2 = z9 := ez2.trans e9.symm
  refine Y.callV cx wd (ci := 6) (a := m) (rm := rm_X6_wall) (As := [vi z1, vi z2]) (st := []) dL_law_312 ck_L_90 rfl (by decide) hM1.1.1 rfl rfl ⟨Nat.le_of_ble_eq_true rfl, Nat.le_of_ble_eq_true rfl⟩ (show kc + 31 + 0 ≤ 601024 by omega) (show ks + 5711 + 0 ≤ 7293034 by omega) (Nat.le_of_ble_eq_true rfl) (pc' := 315) rfl (k_X6_wall hM1 irz1 irz2) (fun q2 h2 e2 => ?_)
  obtain ⟨hFM, v, rfl, hcm⟩ := e2
  refine Y.istore cx wd (i := 6) (ls' := [some (rf b), some (rf x), some (rf m), some (rf o), some (vi i), some (vi r), some (vi v), none, none]) (hd := dL_law_315) (by decide) rfl rfl (pc' := 317) rfl ?_
  refine Y.aload_n cx wd (i := 2) rfl rfl dL_law_317 (pc' := 318) rfl ?_
  refine Y.callV cx wd (ci := 6) (a := m) (rm := rm_X6_thrown) (As := []) (st := []) dL_law_318 ck_L_80 rfl (by decide) (hM1.1.ft hFM).1 rfl rfl ⟨Nat.le_of_ble_eq_true rfl, Nat.le_of_ble_eq_true rfl⟩ (show kc + 31 + 0 + 0 ≤ 601024 by omega) (show ks + 5711 + 0 + 0 ≤ 7293034 by omega) (Nat.le_of_ble_eq_true rfl) (pc' := 321) rfl (k_X6_thrown (hM1.1.ft hFM)) (fun q3 h3 e3 => ?_)
  obtain ⟨rfl, t, rfl, ht⟩ := e3
  have key : t = r := by
    rcases hcs with ⟨c1, c2, c3, c4, c5⟩ | ⟨c1, c2⟩ <;> rcases hcm with ⟨d1, d2, d3, d4⟩ | ⟨d1, d2, d3⟩
    · rw [ht, d2, c2]
    · exact (py3_no d1 c1).elim
    · exact (py3_no c1 d1).elim
    · rw [ht]; exact py3_uniq d1 c1
  have hvr : inR v := by
    rcases hcs with ⟨c1, c2, c3, c4, c5⟩ | ⟨c1, c2⟩ <;> rcases hcm with ⟨d1, d2, d3, d4⟩ | ⟨d1, d2, d3⟩
    · rw [d3]; exact c4
    · rw [d2]; exact inR_0
    · exact (py3_no c1 d1).elim
    · rw [d2]; exact inR_0
  obtain ⟨L9, hL9⟩ : ∃ L9, LI h2 x m o lo L9 := by
    have hO2 : mT h2 o = some (12, 1) := by rw [hFM.2.1, hFL.2.1]; exact hL.2.2.1
    rcases hcs with ⟨c1, c2, c3, c4, c5⟩ | ⟨c1, c2⟩ <;> rcases hcm with ⟨d1, d2, d3, d4⟩ | ⟨d1, d2, d3⟩
    · exact ⟨_, c5.fm hFM (by omega), d4, hO2, hlay⟩
    · exact (py3_no d1 c1).elim
    · exact (py3_no c1 d1).elim
    · exact ⟨_, c2.fm hFM (by omega), d3, hO2, hlay⟩
  refine Y.iload cx wd (i := 5) rfl dL_law_321 (pc' := 323) rfl ?_
  refine Y.icmp_eq cx wd (tgt := 328) dL_law_323 ⟨by omega, by omega⟩ ⟨by omega, by omega⟩ (by decide) (pc' := 326) rfl (fun c1 => ?_) (fun c1 => absurd key c1)
  refine Y.iload cx wd (i := 5) rfl dL_law_328 (pc' := 330) rfl ?_
  refine Y.if_ne cx wd (tgt := 345) dL_law_330 ⟨by omega, by omega⟩ (by decide) (pc' := 333) rfl (fun c2 => ?_) (fun c2 => ?_)
  · refine Y.goto cx wd (tgt := 1323) dL_law_345 (by decide) ?_
    refine Y.mask (bs := [true, true, true, true, true, false, false, false, false]) (ls' := [some (rf b), some (rf x), some (rf m), some (rf o), some (vi i), none, none, none, none]) rfl ?_
    exact kk _ _ _ L9 (show kc + 31 + 0 + 0 ≤ kc + 40 by omega) (show ks + 5711 + 0 + 0 ≤ ks + 6000 by omega) hL9
  have hv2 : mL h2 o 0 = Int64.ofInt v := by
    rw [hFM.2.2.2.1]
    rcases hcs with ⟨c1, c2, c3, c4, c5⟩ | ⟨c1, c2⟩ <;> rcases hcm with ⟨d1, d2, d3, d4⟩ | ⟨d1, d2, d3⟩
    · rw [c3, d3]
    · exact (py3_no d1 c1).elim
    · exact (py3_no c1 d1).elim
    · have := py3_rng c1; omega
  refine Y.aload_n cx wd (i := 3) rfl rfl dL_law_333 (pc' := 334) rfl ?_
  refine Y.iconst cx wd dL_law_334 (pc' := 335) rfl ?_
  refine Y.lald cx wd dL_law_335 hL9.2.2.1 (by omega) (by omega) ⟨by omega, by omega⟩ hv2 (pc' := 336) rfl ?_
  refine Y.iload cx wd (i := 6) rfl dL_law_336 (pc' := 338) rfl ?_
  refine Y.i2l cx wd hvr dL_law_338 (pc' := 339) rfl ?_
  refine Y.lcmp cx wd dL_law_339 (pc' := 340) rfl (fun _ => ?_) (fun ne => absurd rfl ne)
  refine Y.if_eq cx wd (tgt := 345) dL_law_340 ⟨by omega, by omega⟩ (by decide) (pc' := 343) rfl (fun _ => ?_) (fun ne => absurd rfl ne)
  refine Y.goto cx wd (tgt := 1323) dL_law_345 (by decide) ?_
  refine Y.mask (bs := [true, true, true, true, true, false, false, false, false]) (ls' := [some (rf b), some (rf x), some (rf m), some (rf o), some (vi i), none, none, none, none]) rfl ?_
  exact kk _ _ _ L9 (show kc + 31 + 0 + 0 ≤ kc + 40 by omega) (show ks + 5711 + 0 + 0 ≤ ks + 6000 by omega) hL9
set_option maxHeartbeats 4000000 in
set_option maxRecDepth 100000 in
theorem y_set {Ω : xO} {Q : State → Prop} {p : Program} {e : Env} {s : State} {m0 : MethodId} {args : Array Value} {below : List Frame} {meth : Method} {c : Code} {kc ks b Ls x m o lo : Nat} {xs : Nat → Int32} {i : Int} {h : xM} {L : lS} (cx : yCx RL cL_law 9 (some .boolean) p s m0 args meth c) (wd : xWd Ω s) (sc : yScr Ω s b Ls xs) (hi : 0 ≤ i ∧ i + 4 ≤ Ls ∧ Ls ≤ 2048) (hL : LI h x m o lo L) (hkc : kc + 40 ≤ 601024) (hks : ks + 6000 ≤ 7293034)
    (kk : ∀ (kc' ks' : Nat) (h' : xM) (L' : lS), kc' ≤ kc + 40 → ks' ≤ ks + 6000 → LI h' x m o lo L' → Y Ω room_1 Q p e s m0 args below meth c 9 kc' ks' 1323 [some (rf b), some (rf x), some (rf m), some (rf o), some (vi i), none, none, none, none] [] h') : Y Ω room_1 Q p e s m0 args below meth c 9 kc ks 348 [some (rf b), some (rf x), some (rf m), some (rf o), some (vi i), none, none, none, none] [] h := by
  have hlay := hL.2.2.2
  refine Y.aload_n cx wd (i := 1) rfl rfl dL_law_348 (pc' := 349) rfl ?_
  refine Y.aload_n cx wd (i := 0) rfl rfl dL_law_349 (pc' := 350) rfl ?_
  refine Y.iload cx wd (i := 4) rfl dL_law_350 (pc' := 352) rfl ?_
  refine Y.iconst cx wd dL_law_352 (pc' := 353) rfl ?_
  refine Y.iadd cx wd dL_law_353 (pc' := 354) rfl ?_
  refine Y.sald cx sc dL_law_354 (by omega) (by omega) ⟨by omega, by omega⟩ (pc' := 355) rfl (fun z1 ez1 irz1 => ?_)
  refine Y.aload_n cx wd (i := 0) rfl rfl dL_law_355 (pc' := 356) rfl ?_
  refine Y.iload cx wd (i := 4) rfl dL_law_356 (pc' := 358) rfl ?_
  refine Y.iconst cx wd dL_law_358 (pc' := 359) rfl ?_
  refine Y.iadd cx wd dL_law_359 (pc' := 360) rfl ?_
  refine Y.sald cx sc dL_law_360 (by omega) (by omega) ⟨by omega, by omega⟩ (pc' := 361) rfl (fun z2 ez2 irz2 => ?_)
  refine Y.aload_n cx wd (i := 3) rfl rfl dL_law_361 (pc' := 362) rfl ?_
  refine Y.callSW cx wd (rm := rm_L_set) (As := [rf x, vi z1, vi z2, rf o]) (st := []) dL_law_362 ckS_set rfl rfl ⟨Nat.le_of_ble_eq_true rfl, Nat.le_of_ble_eq_true rfl⟩ (show kc + 31 ≤ 601024 by omega) (show ks + 5711 ≤ 7293034 by omega) (Nat.le_of_ble_eq_true rfl) (pc' := 365) rfl (k_L_set hL.1 hL.2.2.1 ⟨by omega, by omega⟩ irz1 irz2) (fun q1 h1 e1 => ?_)
  obtain ⟨r, rfl, hFL, hcs⟩ := e1
  have hM1 : ML h1 m L := hL.2.1.sam (fun q z1 z2 => hFL.2.2 q (by omega) (Or.inr (by omega)) (by omega))
  have hr03 : 0 ≤ r ∧ r ≤ 3 := by
    rcases hcs with z | z
    · have := z.2.1; omega
    · have := py3_rng z.1; omega
  refine Y.istore cx wd (i := 5) (ls' := [some (rf b), some (rf x), some (rf m), some (rf o), some (vi i), some (vi r), none, none, none]) (hd := dL_law_365) (by decide) rfl rfl (pc' := 367) rfl ?_
  refine Y.aload_n cx wd (i := 2) rfl rfl dL_law_367 (pc' := 368) rfl ?_
  refine Y.aload_n cx wd (i := 0) rfl rfl dL_law_368 (pc' := 369) rfl ?_
  refine Y.iload cx wd (i := 4) rfl dL_law_369 (pc' := 371) rfl ?_
  refine Y.iconst cx wd dL_law_371 (pc' := 372) rfl ?_
  refine Y.iadd cx wd dL_law_372 (pc' := 373) rfl ?_
  refine Y.sald cx sc dL_law_373 (by omega) (by omega) ⟨by omega, by omega⟩ (pc' := 374) rfl (fun z9 e9 ir9 => ?_)
  obtain rfl : z1 = z9 := ez1.trans e9.symm
  refine Y.aload_n cx wd (i := 0) rfl rfl dL_law_374 (pc' := 375) rfl ?_
  refine Y.iload cx wd (i := 4) rfl dL_law_375 (pc' := 377) rfl ?_
  refine Y.iconst cx wd dL_law_377 (pc' := 378) rfl ?_
  refine Y.iadd cx wd dL_law_378 (pc' := 379) rfl ?_
  refine Y.sald cx sc dL_law_379 (by omega) (by omega) ⟨by omega, by omega⟩ (pc' := 380) rfl (fun z9 e9 ir9 => ?_)
  obtain rfl : z2 = z9 := ez2.trans e9.symm
  refine Y.callV cx wd (ci := 6) (a := m) (rm := rm_X6_set) (As := [vi z1, vi z2]) (st := []) dL_law_380 ck_L_93 rfl (by decide) hM1.1.1 rfl rfl ⟨Nat.le_of_ble_eq_true rfl, Nat.le_of_ble_eq_true rfl⟩ (show kc + 31 + 0 ≤ 601024 by omega) (show ks + 5711 + 0 ≤ 7293034 by omega) (Nat.le_of_ble_eq_true rfl) (pc' := 383) rfl (k_X6_set hM1 irz1 irz2) (fun q2 h2 e2 => ?_)
  obtain ⟨hFM, v, rfl, hcm⟩ := e2
  refine Y.istore cx wd (i := 6) (ls' := [some (rf b), some (rf x), some (rf m), some (rf o), some (vi i), some (vi r), some (vi v), none, none]) (hd := dL_law_383) (by decide) rfl rfl (pc' := 385) rfl ?_
  refine Y.aload_n cx wd (i := 2) rfl rfl dL_law_385 (pc' := 386) rfl ?_
  refine Y.callV cx wd (ci := 6) (a := m) (rm := rm_X6_thrown) (As := []) (st := []) dL_law_386 ck_L_80 rfl (by decide) (hM1.1.ft hFM).1 rfl rfl ⟨Nat.le_of_ble_eq_true rfl, Nat.le_of_ble_eq_true rfl⟩ (show kc + 31 + 0 + 0 ≤ 601024 by omega) (show ks + 5711 + 0 + 0 ≤ 7293034 by omega) (Nat.le_of_ble_eq_true rfl) (pc' := 389) rfl (k_X6_thrown (hM1.1.ft hFM)) (fun q3 h3 e3 => ?_)
  obtain ⟨rfl, t, rfl, ht⟩ := e3
  have key : t = r := by
    rcases hcs with ⟨c1, c2, c3, c4, c5⟩ | ⟨c1, c2⟩ <;> rcases hcm with ⟨d1, d2, d3, d4⟩ | ⟨d1, d2, d3⟩
    · rw [ht, d2, c2]
    · exact (py3_no d1 c1).elim
    · exact (py3_no c1 d1).elim
    · rw [ht]; exact py3_uniq d1 c1
  have hvr : inR v := by
    rcases hcs with ⟨c1, c2, c3, c4, c5⟩ | ⟨c1, c2⟩ <;> rcases hcm with ⟨d1, d2, d3, d4⟩ | ⟨d1, d2, d3⟩
    · rw [d3]; exact c4
    · rw [d2]; exact inR_0
    · exact (py3_no c1 d1).elim
    · rw [d2]; exact inR_0
  obtain ⟨L9, hL9⟩ : ∃ L9, LI h2 x m o lo L9 := by
    have hO2 : mT h2 o = some (12, 1) := by rw [hFM.2.1, hFL.2.1]; exact hL.2.2.1
    rcases hcs with ⟨c1, c2, c3, c4, c5⟩ | ⟨c1, c2⟩ <;> rcases hcm with ⟨d1, d2, d3, d4⟩ | ⟨d1, d2, d3⟩
    · exact ⟨_, c5.fm hFM (by omega), d4, hO2, hlay⟩
    · exact (py3_no d1 c1).elim
    · exact (py3_no c1 d1).elim
    · exact ⟨_, c2.fm hFM (by omega), d3, hO2, hlay⟩
  refine Y.iload cx wd (i := 5) rfl dL_law_389 (pc' := 391) rfl ?_
  refine Y.icmp_eq cx wd (tgt := 396) dL_law_391 ⟨by omega, by omega⟩ ⟨by omega, by omega⟩ (by decide) (pc' := 394) rfl (fun c1 => ?_) (fun c1 => absurd key c1)
  refine Y.iload cx wd (i := 5) rfl dL_law_396 (pc' := 398) rfl ?_
  refine Y.if_ne cx wd (tgt := 413) dL_law_398 ⟨by omega, by omega⟩ (by decide) (pc' := 401) rfl (fun c2 => ?_) (fun c2 => ?_)
  · refine Y.goto cx wd (tgt := 1323) dL_law_413 (by decide) ?_
    refine Y.mask (bs := [true, true, true, true, true, false, false, false, false]) (ls' := [some (rf b), some (rf x), some (rf m), some (rf o), some (vi i), none, none, none, none]) rfl ?_
    exact kk _ _ _ L9 (show kc + 31 + 0 + 0 ≤ kc + 40 by omega) (show ks + 5711 + 0 + 0 ≤ ks + 6000 by omega) hL9
  have hv2 : mL h2 o 0 = Int64.ofInt v := by
    rw [hFM.2.2.2.1]
    rcases hcs with ⟨c1, c2, c3, c4, c5⟩ | ⟨c1, c2⟩ <;> rcases hcm with ⟨d1, d2, d3, d4⟩ | ⟨d1, d2, d3⟩
    · rw [c3, d3]
    · exact (py3_no d1 c1).elim
    · exact (py3_no c1 d1).elim
    · have := py3_rng c1; omega
  refine Y.aload_n cx wd (i := 3) rfl rfl dL_law_401 (pc' := 402) rfl ?_
  refine Y.iconst cx wd dL_law_402 (pc' := 403) rfl ?_
  refine Y.lald cx wd dL_law_403 hL9.2.2.1 (by omega) (by omega) ⟨by omega, by omega⟩ hv2 (pc' := 404) rfl ?_
  refine Y.iload cx wd (i := 6) rfl dL_law_404 (pc' := 406) rfl ?_
  refine Y.i2l cx wd hvr dL_law_406 (pc' := 407) rfl ?_
  refine Y.lcmp cx wd dL_law_407 (pc' := 408) rfl (fun _ => ?_) (fun ne => absurd rfl ne)
  refine Y.if_eq cx wd (tgt := 413) dL_law_408 ⟨by omega, by omega⟩ (by decide) (pc' := 411) rfl (fun _ => ?_) (fun ne => absurd rfl ne)
  refine Y.goto cx wd (tgt := 1323) dL_law_413 (by decide) ?_
  refine Y.mask (bs := [true, true, true, true, true, false, false, false, false]) (ls' := [some (rf b), some (rf x), some (rf m), some (rf o), some (vi i), none, none, none, none]) rfl ?_
  exact kk _ _ _ L9 (show kc + 31 + 0 + 0 ≤ kc + 40 by omega) (show ks + 5711 + 0 + 0 ≤ ks + 6000 by omega) hL9
set_option maxHeartbeats 4000000 in
set_option maxRecDepth 100000 in
theorem y_append {Ω : xO} {Q : State → Prop} {p : Program} {e : Env} {s : State} {m0 : MethodId} {args : Array Value} {below : List Frame} {meth : Method} {c : Code} {kc ks b Ls x m o lo : Nat} {xs : Nat → Int32} {i : Int} {h : xM} {L : lS} (cx : yCx RL cL_law 9 (some .boolean) p s m0 args meth c) (wd : xWd Ω s) (sc : yScr Ω s b Ls xs) (hi : 0 ≤ i ∧ i + 4 ≤ Ls ∧ Ls ≤ 2048) (hL : LI h x m o lo L) (hkc : kc + 40 ≤ 601024) (hks : ks + 6000 ≤ 7293034)
    (kk : ∀ (kc' ks' : Nat) (h' : xM) (L' : lS), kc' ≤ kc + 40 → ks' ≤ ks + 6000 → LI h' x m o lo L' → Y Ω room_1 Q p e s m0 args below meth c 9 kc' ks' 1323 [some (rf b), some (rf x), some (rf m), some (rf o), some (vi i), none, none, none, none] [] h') : Y Ω room_1 Q p e s m0 args below meth c 9 kc ks 416 [some (rf b), some (rf x), some (rf m), some (rf o), some (vi i), none, none, none, none] [] h := by
  have hlay := hL.2.2.2
  refine Y.aload_n cx wd (i := 1) rfl rfl dL_law_416 (pc' := 417) rfl ?_
  refine Y.aload_n cx wd (i := 0) rfl rfl dL_law_417 (pc' := 418) rfl ?_
  refine Y.iload cx wd (i := 4) rfl dL_law_418 (pc' := 420) rfl ?_
  refine Y.iconst cx wd dL_law_420 (pc' := 421) rfl ?_
  refine Y.iadd cx wd dL_law_421 (pc' := 422) rfl ?_
  refine Y.sald cx sc dL_law_422 (by omega) (by omega) ⟨by omega, by omega⟩ (pc' := 423) rfl (fun z1 ez1 irz1 => ?_)
  refine Y.aload_n cx wd (i := 3) rfl rfl dL_law_423 (pc' := 424) rfl ?_
  refine Y.callSW cx wd (rm := rm_L_append) (As := [rf x, vi z1, rf o]) (st := []) dL_law_424 ckS_append rfl rfl ⟨Nat.le_of_ble_eq_true rfl, Nat.le_of_ble_eq_true rfl⟩ (show kc + 2 ≤ 601024 by omega) (show ks + 12 ≤ 7293034 by omega) (Nat.le_of_ble_eq_true rfl) (pc' := 427) rfl (k_L_append hL.1 hL.2.2.1 ⟨by omega, by omega⟩ irz1) (fun q1 h1 e1 => ?_)
  obtain ⟨r, rfl, hFL, hcs⟩ := e1
  have hM1 : ML h1 m L := hL.2.1.sam (fun q z1 z2 => hFL.2.2 q (by omega) (Or.inr (by omega)) (by omega))
  have hr03 : 0 ≤ r ∧ r ≤ 3 := by
    rcases hcs with z | z
    · have := z.2.1; omega
    · have := py3_rng z.1; omega
  refine Y.istore cx wd (i := 5) (ls' := [some (rf b), some (rf x), some (rf m), some (rf o), some (vi i), some (vi r), none, none, none]) (hd := dL_law_427) (by decide) rfl rfl (pc' := 429) rfl ?_
  refine Y.aload_n cx wd (i := 2) rfl rfl dL_law_429 (pc' := 430) rfl ?_
  refine Y.aload_n cx wd (i := 0) rfl rfl dL_law_430 (pc' := 431) rfl ?_
  refine Y.iload cx wd (i := 4) rfl dL_law_431 (pc' := 433) rfl ?_
  refine Y.iconst cx wd dL_law_433 (pc' := 434) rfl ?_
  refine Y.iadd cx wd dL_law_434 (pc' := 435) rfl ?_
  refine Y.sald cx sc dL_law_435 (by omega) (by omega) ⟨by omega, by omega⟩ (pc' := 436) rfl (fun z9 e9 ir9 => ?_)
  obtain rfl : z1 = z9 := ez1.trans e9.symm
  refine Y.callV cx wd (ci := 6) (a := m) (rm := rm_X6_append) (As := [vi z1]) (st := []) dL_law_436 ck_L_96 rfl (by decide) hM1.1.1 rfl rfl ⟨Nat.le_of_ble_eq_true rfl, Nat.le_of_ble_eq_true rfl⟩ (show kc + 2 + 0 ≤ 601024 by omega) (show ks + 12 + 0 ≤ 7293034 by omega) (Nat.le_of_ble_eq_true rfl) (pc' := 439) rfl (k_X6_append hM1 irz1) (fun q2 h2 e2 => ?_)
  obtain ⟨hFM, v, rfl, hcm⟩ := e2
  refine Y.istore cx wd (i := 6) (ls' := [some (rf b), some (rf x), some (rf m), some (rf o), some (vi i), some (vi r), some (vi v), none, none]) (hd := dL_law_439) (by decide) rfl rfl (pc' := 441) rfl ?_
  refine Y.aload_n cx wd (i := 2) rfl rfl dL_law_441 (pc' := 442) rfl ?_
  refine Y.callV cx wd (ci := 6) (a := m) (rm := rm_X6_thrown) (As := []) (st := []) dL_law_442 ck_L_80 rfl (by decide) (hM1.1.ft hFM).1 rfl rfl ⟨Nat.le_of_ble_eq_true rfl, Nat.le_of_ble_eq_true rfl⟩ (show kc + 2 + 0 + 0 ≤ 601024 by omega) (show ks + 12 + 0 + 0 ≤ 7293034 by omega) (Nat.le_of_ble_eq_true rfl) (pc' := 445) rfl (k_X6_thrown (hM1.1.ft hFM)) (fun q3 h3 e3 => ?_)
  obtain ⟨rfl, t, rfl, ht⟩ := e3
  have key : t = r := by
    rcases hcs with ⟨c1, c2, c3, c4, c5⟩ | ⟨c1, c2⟩ <;> rcases hcm with ⟨d1, d2, d3, d4⟩ | ⟨d1, d2, d3⟩
    · rw [ht, d2, c2]
    · exact (py3_no d1 c1).elim
    · exact (py3_no c1 d1).elim
    · rw [ht]; exact py3_uniq d1 c1
  have hvr : inR v := by
    rcases hcs with ⟨c1, c2, c3, c4, c5⟩ | ⟨c1, c2⟩ <;> rcases hcm with ⟨d1, d2, d3, d4⟩ | ⟨d1, d2, d3⟩
    · rw [d3]; exact c4
    · rw [d2]; exact inR_0
    · exact (py3_no c1 d1).elim
    · rw [d2]; exact inR_0
  obtain ⟨L9, hL9⟩ : ∃ L9, LI h2 x m o lo L9 := by
    have hO2 : mT h2 o = some (12, 1) := by rw [hFM.2.1, hFL.2.1]; exact hL.2.2.1
    rcases hcs with ⟨c1, c2, c3, c4, c5⟩ | ⟨c1, c2⟩ <;> rcases hcm with ⟨d1, d2, d3, d4⟩ | ⟨d1, d2, d3⟩
    · exact ⟨_, c5.fm hFM (by omega), d4, hO2, hlay⟩
    · exact (py3_no d1 c1).elim
    · exact (py3_no c1 d1).elim
    · exact ⟨_, c2.fm hFM (by omega), d3, hO2, hlay⟩
  refine Y.iload cx wd (i := 5) rfl dL_law_445 (pc' := 447) rfl ?_
  refine Y.icmp_eq cx wd (tgt := 452) dL_law_447 ⟨by omega, by omega⟩ ⟨by omega, by omega⟩ (by decide) (pc' := 450) rfl (fun c1 => ?_) (fun c1 => absurd key c1)
  refine Y.iload cx wd (i := 5) rfl dL_law_452 (pc' := 454) rfl ?_
  refine Y.if_ne cx wd (tgt := 469) dL_law_454 ⟨by omega, by omega⟩ (by decide) (pc' := 457) rfl (fun c2 => ?_) (fun c2 => ?_)
  · refine Y.goto cx wd (tgt := 1323) dL_law_469 (by decide) ?_
    refine Y.mask (bs := [true, true, true, true, true, false, false, false, false]) (ls' := [some (rf b), some (rf x), some (rf m), some (rf o), some (vi i), none, none, none, none]) rfl ?_
    exact kk _ _ _ L9 (show kc + 2 + 0 + 0 ≤ kc + 40 by omega) (show ks + 12 + 0 + 0 ≤ ks + 6000 by omega) hL9
  have hv2 : mL h2 o 0 = Int64.ofInt v := by
    rw [hFM.2.2.2.1]
    rcases hcs with ⟨c1, c2, c3, c4, c5⟩ | ⟨c1, c2⟩ <;> rcases hcm with ⟨d1, d2, d3, d4⟩ | ⟨d1, d2, d3⟩
    · rw [c3, d3]
    · exact (py3_no d1 c1).elim
    · exact (py3_no c1 d1).elim
    · have := py3_rng c1; omega
  refine Y.aload_n cx wd (i := 3) rfl rfl dL_law_457 (pc' := 458) rfl ?_
  refine Y.iconst cx wd dL_law_458 (pc' := 459) rfl ?_
  refine Y.lald cx wd dL_law_459 hL9.2.2.1 (by omega) (by omega) ⟨by omega, by omega⟩ hv2 (pc' := 460) rfl ?_
  refine Y.iload cx wd (i := 6) rfl dL_law_460 (pc' := 462) rfl ?_
  refine Y.i2l cx wd hvr dL_law_462 (pc' := 463) rfl ?_
  refine Y.lcmp cx wd dL_law_463 (pc' := 464) rfl (fun _ => ?_) (fun ne => absurd rfl ne)
  refine Y.if_eq cx wd (tgt := 469) dL_law_464 ⟨by omega, by omega⟩ (by decide) (pc' := 467) rfl (fun _ => ?_) (fun ne => absurd rfl ne)
  refine Y.goto cx wd (tgt := 1323) dL_law_469 (by decide) ?_
  refine Y.mask (bs := [true, true, true, true, true, false, false, false, false]) (ls' := [some (rf b), some (rf x), some (rf m), some (rf o), some (vi i), none, none, none, none]) rfl ?_
  exact kk _ _ _ L9 (show kc + 2 + 0 + 0 ≤ kc + 40 by omega) (show ks + 12 + 0 + 0 ≤ ks + 6000 by omega) hL9
set_option maxHeartbeats 4000000 in
set_option maxRecDepth 100000 in
theorem y_clearBuffer {Ω : xO} {Q : State → Prop} {p : Program} {e : Env} {s : State} {m0 : MethodId} {args : Array Value} {below : List Frame} {meth : Method} {c : Code} {kc ks b Ls x m o lo : Nat} {xs : Nat → Int32} {i : Int} {h : xM} {L : lS} (cx : yCx RL cL_law 9 (some .boolean) p s m0 args meth c) (wd : xWd Ω s) (sc : yScr Ω s b Ls xs) (hi : 0 ≤ i ∧ i + 4 ≤ Ls ∧ Ls ≤ 2048) (hL : LI h x m o lo L) (hkc : kc + 40 ≤ 601024) (hks : ks + 6000 ≤ 7293034)
    (kk : ∀ (kc' ks' : Nat) (h' : xM) (L' : lS), kc' ≤ kc + 40 → ks' ≤ ks + 6000 → LI h' x m o lo L' → Y Ω room_1 Q p e s m0 args below meth c 9 kc' ks' 1323 [some (rf b), some (rf x), some (rf m), some (rf o), some (vi i), none, none, none, none] [] h') : Y Ω room_1 Q p e s m0 args below meth c 9 kc ks 472 [some (rf b), some (rf x), some (rf m), some (rf o), some (vi i), none, none, none, none] [] h := by
  have hlay := hL.2.2.2
  refine Y.aload_n cx wd (i := 1) rfl rfl dL_law_472 (pc' := 473) rfl ?_
  refine Y.callV cx wd (ci := 5) (a := x) (rm := rm_X5_clearBuffer) (As := []) (st := []) dL_law_473 ck_L_97 rfl (by decide) hL.1.1.1 rfl rfl ⟨Nat.le_of_ble_eq_true rfl, Nat.le_of_ble_eq_true rfl⟩ (show kc + 0 ≤ 601024 by omega) (show ks + 0 ≤ 7293034 by omega) (Nat.le_of_ble_eq_true rfl) (pc' := 476) rfl (k_X5_clearBuffer hL.1) (fun q1 h1 e1 => ?_)
  obtain ⟨rfl, hE1, hF1⟩ := e1
  have hM1 : ML h1 m L := hL.2.1.sam (fun q z1 z2 => hF1.2 q (by omega) (Or.inr (by omega)))
  have hO1 : mT h1 o = some (12, 1) := by rw [(hF1.2 o (by omega) (Or.inr (by omega))).1]; exact hL.2.2.1
  refine Y.aload_n cx wd (i := 2) rfl rfl dL_law_476 (pc' := 477) rfl ?_
  refine Y.callV cx wd (ci := 6) (a := m) (rm := rm_X6_clearBuffer) (As := []) (st := [vi (lTn L)]) dL_law_477 ck_L_100 rfl (by decide) hM1.1.1 rfl rfl ⟨Nat.le_of_ble_eq_true rfl, Nat.le_of_ble_eq_true rfl⟩ (show kc + 0 + 0 ≤ 601024 by omega) (show ks + 0 + 0 ≤ 7293034 by omega) (Nat.le_of_ble_eq_true rfl) (pc' := 480) rfl (k_X6_clearBuffer hM1) (fun q2 h2 e2 => ?_)
  obtain ⟨hFM, rfl, hth, hM2⟩ := e2
  obtain ⟨L9, hL9⟩ : ∃ L9, LI h2 x m o lo L9 := ⟨_, hE1.fm hFM (by omega), hM2, by rw [hFM.2.1]; exact hO1, hlay⟩
  have okT := hL.1.2.2.2.2.1.2.1
  refine Y.icmp_eq cx wd (tgt := 1323) dL_law_480 ⟨by omega, by omega⟩ ⟨by omega, by omega⟩ (by decide) (pc' := 483) rfl (fun c1 => ?_) (fun c1 => absurd rfl c1)
  refine Y.mask (bs := [true, true, true, true, true, false, false, false, false]) (ls' := [some (rf b), some (rf x), some (rf m), some (rf o), some (vi i), none, none, none, none]) rfl ?_
  exact kk _ _ _ L9 (show kc + 0 + 0 ≤ kc + 40 by omega) (show ks + 0 + 0 ≤ ks + 6000 by omega) hL9
set_option maxHeartbeats 4000000 in
set_option maxRecDepth 100000 in
theorem y_firstError {Ω : xO} {Q : State → Prop} {p : Program} {e : Env} {s : State} {m0 : MethodId} {args : Array Value} {below : List Frame} {meth : Method} {c : Code} {kc ks b Ls x m o lo : Nat} {xs : Nat → Int32} {i : Int} {h : xM} {L : lS} (cx : yCx RL cL_law 9 (some .boolean) p s m0 args meth c) (wd : xWd Ω s) (sc : yScr Ω s b Ls xs) (hi : 0 ≤ i ∧ i + 4 ≤ Ls ∧ Ls ≤ 2048) (hL : LI h x m o lo L) (hkc : kc + 40 ≤ 601024) (hks : ks + 6000 ≤ 7293034)
    (kk : ∀ (kc' ks' : Nat) (h' : xM) (L' : lS), kc' ≤ kc + 40 → ks' ≤ ks + 6000 → LI h' x m o lo L' → Y Ω room_1 Q p e s m0 args below meth c 9 kc' ks' 1323 [some (rf b), some (rf x), some (rf m), some (rf o), some (vi i), none, none, none, none] [] h') : Y Ω room_1 Q p e s m0 args below meth c 9 kc ks 485 [some (rf b), some (rf x), some (rf m), some (rf o), some (vi i), none, none, none, none] [] h := by
  have hlay := hL.2.2.2
  refine Y.aload_n cx wd (i := 1) rfl rfl dL_law_485 (pc' := 486) rfl ?_
  refine Y.callV cx wd (ci := 5) (a := x) (rm := rm_X5_firstError) (As := []) (st := []) dL_law_486 ck_L_101 rfl (by decide) hL.1.1.1 rfl rfl ⟨Nat.le_of_ble_eq_true rfl, Nat.le_of_ble_eq_true rfl⟩ (show kc + 0 ≤ 601024 by omega) (show ks + 0 ≤ 7293034 by omega) (Nat.le_of_ble_eq_true rfl) (pc' := 489) rfl (k_X5_firstError hL.1) (fun q1 h1 e1 => ?_)
  obtain ⟨rfl, r1, rfl, ep1⟩ := e1
  have hE1 := hL.1
  have hM1 := hL.2.1
  have hO1 := hL.2.2.1
  refine Y.aload_n cx wd (i := 2) rfl rfl dL_law_489 (pc' := 490) rfl ?_
  refine Y.callV cx wd (ci := 6) (a := m) (rm := rm_X6_firstError) (As := []) (st := [vi r1]) dL_law_490 ck_L_104 rfl (by decide) hM1.1.1 rfl rfl ⟨Nat.le_of_ble_eq_true rfl, Nat.le_of_ble_eq_true rfl⟩ (show kc + 0 + 0 ≤ 601024 by omega) (show ks + 0 + 0 ≤ 7293034 by omega) (Nat.le_of_ble_eq_true rfl) (pc' := 493) rfl (k_X6_firstError hM1) (fun q2 h2 e2 => ?_)
  obtain ⟨hFM, r2, rfl, ep2, hth, hM2⟩ := e2
  obtain rfl : r2 = r1 := ep2.uniq ep1
  obtain ⟨L9, hL9⟩ : ∃ L9, LI h2 x m o lo L9 := ⟨_, hE1.fm hFM (by omega), hM2, by rw [hFM.2.1]; exact hO1, hlay⟩
  have okT := hL.1.2.2.2.2.1.2.1
  have okE := ep1.1
  refine Y.icmp_eq cx wd (tgt := 1323) dL_law_493 ⟨by omega, by omega⟩ ⟨by omega, by omega⟩ (by decide) (pc' := 496) rfl (fun c1 => ?_) (fun c1 => absurd rfl c1)
  refine Y.mask (bs := [true, true, true, true, true, false, false, false, false]) (ls' := [some (rf b), some (rf x), some (rf m), some (rf o), some (vi i), none, none, none, none]) rfl ?_
  exact kk _ _ _ L9 (show kc + 0 + 0 ≤ kc + 40 by omega) (show ks + 0 + 0 ≤ ks + 6000 by omega) hL9
set_option maxHeartbeats 4000000 in
set_option maxRecDepth 100000 in
theorem y_talk {Ω : xO} {Q : State → Prop} {p : Program} {e : Env} {s : State} {m0 : MethodId} {args : Array Value} {below : List Frame} {meth : Method} {c : Code} {kc ks b Ls x m o lo : Nat} {xs : Nat → Int32} {i : Int} {h : xM} {L : lS} (cx : yCx RL cL_law 9 (some .boolean) p s m0 args meth c) (wd : xWd Ω s) (sc : yScr Ω s b Ls xs) (hi : 0 ≤ i ∧ i + 4 ≤ Ls ∧ Ls ≤ 2048) (hL : LI h x m o lo L) (hkc : kc + 40 ≤ 601024) (hks : ks + 6000 ≤ 7293034)
    (kk : ∀ (kc' ks' : Nat) (h' : xM) (L' : lS), kc' ≤ kc + 40 → ks' ≤ ks + 6000 → LI h' x m o lo L' → Y Ω room_1 Q p e s m0 args below meth c 9 kc' ks' 1323 [some (rf b), some (rf x), some (rf m), some (rf o), some (vi i), none, none, none, none] [] h') : Y Ω room_1 Q p e s m0 args below meth c 9 kc ks 498 [some (rf b), some (rf x), some (rf m), some (rf o), some (vi i), none, none, none, none] [] h := by
  have hlay := hL.2.2.2
  refine Y.aload_n cx wd (i := 1) rfl rfl dL_law_498 (pc' := 499) rfl ?_
  refine Y.aload_n cx wd (i := 3) rfl rfl dL_law_499 (pc' := 500) rfl ?_
  refine Y.callSW cx wd (rm := rm_L_talk) (As := [rf x, rf o]) (st := []) dL_law_500 ckS_talk rfl rfl ⟨Nat.le_of_ble_eq_true rfl, Nat.le_of_ble_eq_true rfl⟩ (show kc + 30 ≤ 601024 by omega) (show ks + 5705 ≤ 7293034 by omega) (Nat.le_of_ble_eq_true rfl) (pc' := 503) rfl (k_L_talk hL.1 hL.2.2.1 ⟨by omega, by omega⟩) (fun q1 h1 e1 => ?_)
  obtain ⟨r, rfl, hFL, hcs⟩ := e1
  have hM1 : ML h1 m L := hL.2.1.sam (fun q z1 z2 => hFL.2.2 q (by omega) (Or.inr (by omega)) (by omega))
  have hr03 : 0 ≤ r ∧ r ≤ 3 := by
    rcases hcs with z | z
    · have := z.2.1; omega
    · have := py3_rng z.1; omega
  refine Y.istore cx wd (i := 5) (ls' := [some (rf b), some (rf x), some (rf m), some (rf o), some (vi i), some (vi r), none, none, none]) (hd := dL_law_503) (by decide) rfl rfl (pc' := 505) rfl ?_
  refine Y.aload_n cx wd (i := 2) rfl rfl dL_law_505 (pc' := 506) rfl ?_
  refine Y.callV cx wd (ci := 6) (a := m) (rm := rm_X6_talk) (As := []) (st := []) dL_law_506 ck_L_108 rfl (by decide) hM1.1.1 rfl rfl ⟨Nat.le_of_ble_eq_true rfl, Nat.le_of_ble_eq_true rfl⟩ (show kc + 30 + 0 ≤ 601024 by omega) (show ks + 5705 + 0 ≤ 7293034 by omega) (Nat.le_of_ble_eq_true rfl) (pc' := 509) rfl (k_X6_talk hM1) (fun q2 h2 e2 => ?_)
  obtain ⟨hFM, v, rfl, hcm⟩ := e2
  refine Y.istore cx wd (i := 6) (ls' := [some (rf b), some (rf x), some (rf m), some (rf o), some (vi i), some (vi r), some (vi v), none, none]) (hd := dL_law_509) (by decide) rfl rfl (pc' := 511) rfl ?_
  refine Y.aload_n cx wd (i := 2) rfl rfl dL_law_511 (pc' := 512) rfl ?_
  refine Y.callV cx wd (ci := 6) (a := m) (rm := rm_X6_thrown) (As := []) (st := []) dL_law_512 ck_L_80 rfl (by decide) (hM1.1.ft hFM).1 rfl rfl ⟨Nat.le_of_ble_eq_true rfl, Nat.le_of_ble_eq_true rfl⟩ (show kc + 30 + 0 + 0 ≤ 601024 by omega) (show ks + 5705 + 0 + 0 ≤ 7293034 by omega) (Nat.le_of_ble_eq_true rfl) (pc' := 515) rfl (k_X6_thrown (hM1.1.ft hFM)) (fun q3 h3 e3 => ?_)
  obtain ⟨rfl, t, rfl, ht⟩ := e3
  have key : t = r := by
    rcases hcs with ⟨c1, c2, c3, c4, c5⟩ | ⟨c1, c2⟩ <;> rcases hcm with ⟨d1, d2, d3, d4⟩ | ⟨d1, d2, d3⟩
    · rw [ht, d2, c2]
    · exact (py3_no d1 c1).elim
    · exact (py3_no c1 d1).elim
    · rw [ht]; exact py3_uniq d1 c1
  have hvr : inR v := by
    rcases hcs with ⟨c1, c2, c3, c4, c5⟩ | ⟨c1, c2⟩ <;> rcases hcm with ⟨d1, d2, d3, d4⟩ | ⟨d1, d2, d3⟩
    · rw [d3]; exact c4
    · rw [d2]; exact inR_0
    · exact (py3_no c1 d1).elim
    · rw [d2]; exact inR_0
  obtain ⟨L9, hL9⟩ : ∃ L9, LI h2 x m o lo L9 := by
    have hO2 : mT h2 o = some (12, 1) := by rw [hFM.2.1, hFL.2.1]; exact hL.2.2.1
    rcases hcs with ⟨c1, c2, c3, c4, c5⟩ | ⟨c1, c2⟩ <;> rcases hcm with ⟨d1, d2, d3, d4⟩ | ⟨d1, d2, d3⟩
    · exact ⟨_, c5.fm hFM (by omega), d4, hO2, hlay⟩
    · exact (py3_no d1 c1).elim
    · exact (py3_no c1 d1).elim
    · exact ⟨_, c2.fm hFM (by omega), d3, hO2, hlay⟩
  refine Y.iload cx wd (i := 5) rfl dL_law_515 (pc' := 517) rfl ?_
  refine Y.icmp_eq cx wd (tgt := 522) dL_law_517 ⟨by omega, by omega⟩ ⟨by omega, by omega⟩ (by decide) (pc' := 520) rfl (fun c1 => ?_) (fun c1 => absurd key c1)
  refine Y.iload cx wd (i := 5) rfl dL_law_522 (pc' := 524) rfl ?_
  refine Y.if_ne cx wd (tgt := 539) dL_law_524 ⟨by omega, by omega⟩ (by decide) (pc' := 527) rfl (fun c2 => ?_) (fun c2 => ?_)
  · refine Y.goto cx wd (tgt := 1323) dL_law_539 (by decide) ?_
    refine Y.mask (bs := [true, true, true, true, true, false, false, false, false]) (ls' := [some (rf b), some (rf x), some (rf m), some (rf o), some (vi i), none, none, none, none]) rfl ?_
    exact kk _ _ _ L9 (show kc + 30 + 0 + 0 ≤ kc + 40 by omega) (show ks + 5705 + 0 + 0 ≤ ks + 6000 by omega) hL9
  have hv2 : mL h2 o 0 = Int64.ofInt v := by
    rw [hFM.2.2.2.1]
    rcases hcs with ⟨c1, c2, c3, c4, c5⟩ | ⟨c1, c2⟩ <;> rcases hcm with ⟨d1, d2, d3, d4⟩ | ⟨d1, d2, d3⟩
    · rw [c3, d3]
    · exact (py3_no d1 c1).elim
    · exact (py3_no c1 d1).elim
    · have := py3_rng c1; omega
  refine Y.aload_n cx wd (i := 3) rfl rfl dL_law_527 (pc' := 528) rfl ?_
  refine Y.iconst cx wd dL_law_528 (pc' := 529) rfl ?_
  refine Y.lald cx wd dL_law_529 hL9.2.2.1 (by omega) (by omega) ⟨by omega, by omega⟩ hv2 (pc' := 530) rfl ?_
  refine Y.iload cx wd (i := 6) rfl dL_law_530 (pc' := 532) rfl ?_
  refine Y.i2l cx wd hvr dL_law_532 (pc' := 533) rfl ?_
  refine Y.lcmp cx wd dL_law_533 (pc' := 534) rfl (fun _ => ?_) (fun ne => absurd rfl ne)
  refine Y.if_eq cx wd (tgt := 539) dL_law_534 ⟨by omega, by omega⟩ (by decide) (pc' := 537) rfl (fun _ => ?_) (fun ne => absurd rfl ne)
  refine Y.goto cx wd (tgt := 1323) dL_law_539 (by decide) ?_
  refine Y.mask (bs := [true, true, true, true, true, false, false, false, false]) (ls' := [some (rf b), some (rf x), some (rf m), some (rf o), some (vi i), none, none, none, none]) rfl ?_
  exact kk _ _ _ L9 (show kc + 30 + 0 + 0 ≤ kc + 40 by omega) (show ks + 5705 + 0 + 0 ≤ ks + 6000 by omega) hL9
set_option maxHeartbeats 4000000 in
set_option maxRecDepth 100000 in
theorem y_undo {Ω : xO} {Q : State → Prop} {p : Program} {e : Env} {s : State} {m0 : MethodId} {args : Array Value} {below : List Frame} {meth : Method} {c : Code} {kc ks b Ls x m o lo : Nat} {xs : Nat → Int32} {i : Int} {h : xM} {L : lS} (cx : yCx RL cL_law 9 (some .boolean) p s m0 args meth c) (wd : xWd Ω s) (sc : yScr Ω s b Ls xs) (hi : 0 ≤ i ∧ i + 4 ≤ Ls ∧ Ls ≤ 2048) (hL : LI h x m o lo L) (hkc : kc + 40 ≤ 601024) (hks : ks + 6000 ≤ 7293034)
    (kk : ∀ (kc' ks' : Nat) (h' : xM) (L' : lS), kc' ≤ kc + 40 → ks' ≤ ks + 6000 → LI h' x m o lo L' → Y Ω room_1 Q p e s m0 args below meth c 9 kc' ks' 1323 [some (rf b), some (rf x), some (rf m), some (rf o), some (vi i), none, none, none, none] [] h') : Y Ω room_1 Q p e s m0 args below meth c 9 kc ks 542 [some (rf b), some (rf x), some (rf m), some (rf o), some (vi i), none, none, none, none] [] h := by
  have hlay := hL.2.2.2
  refine Y.aload_n cx wd (i := 1) rfl rfl dL_law_542 (pc' := 543) rfl ?_
  refine Y.aload_n cx wd (i := 3) rfl rfl dL_law_543 (pc' := 544) rfl ?_
  refine Y.callSW cx wd (rm := rm_L_undo) (As := [rf x, rf o]) (st := []) dL_law_544 ckS_undo rfl rfl ⟨Nat.le_of_ble_eq_true rfl, Nat.le_of_ble_eq_true rfl⟩ (show kc + 1 ≤ 601024 by omega) (show ks + 6 ≤ 7293034 by omega) (Nat.le_of_ble_eq_true rfl) (pc' := 547) rfl (k_L_undo hL.1 hL.2.2.1 ⟨by omega, by omega⟩) (fun q1 h1 e1 => ?_)
  obtain ⟨r, rfl, hFL, hcs⟩ := e1
  have hM1 : ML h1 m L := hL.2.1.sam (fun q z1 z2 => hFL.2.2 q (by omega) (Or.inr (by omega)) (by omega))
  have hr03 : 0 ≤ r ∧ r ≤ 3 := by
    rcases hcs with z | z
    · have := z.2.1; omega
    · have := py3_rng z.1; omega
  refine Y.istore cx wd (i := 5) (ls' := [some (rf b), some (rf x), some (rf m), some (rf o), some (vi i), some (vi r), none, none, none]) (hd := dL_law_547) (by decide) rfl rfl (pc' := 549) rfl ?_
  refine Y.aload_n cx wd (i := 2) rfl rfl dL_law_549 (pc' := 550) rfl ?_
  refine Y.callV cx wd (ci := 6) (a := m) (rm := rm_X6_undo) (As := []) (st := []) dL_law_550 ck_L_111 rfl (by decide) hM1.1.1 rfl rfl ⟨Nat.le_of_ble_eq_true rfl, Nat.le_of_ble_eq_true rfl⟩ (show kc + 1 + 0 ≤ 601024 by omega) (show ks + 6 + 0 ≤ 7293034 by omega) (Nat.le_of_ble_eq_true rfl) (pc' := 553) rfl (k_X6_undo hM1) (fun q2 h2 e2 => ?_)
  obtain ⟨hFM, v, rfl, hcm⟩ := e2
  refine Y.istore cx wd (i := 6) (ls' := [some (rf b), some (rf x), some (rf m), some (rf o), some (vi i), some (vi r), some (vi v), none, none]) (hd := dL_law_553) (by decide) rfl rfl (pc' := 555) rfl ?_
  refine Y.aload_n cx wd (i := 2) rfl rfl dL_law_555 (pc' := 556) rfl ?_
  refine Y.callV cx wd (ci := 6) (a := m) (rm := rm_X6_thrown) (As := []) (st := []) dL_law_556 ck_L_80 rfl (by decide) (hM1.1.ft hFM).1 rfl rfl ⟨Nat.le_of_ble_eq_true rfl, Nat.le_of_ble_eq_true rfl⟩ (show kc + 1 + 0 + 0 ≤ 601024 by omega) (show ks + 6 + 0 + 0 ≤ 7293034 by omega) (Nat.le_of_ble_eq_true rfl) (pc' := 559) rfl (k_X6_thrown (hM1.1.ft hFM)) (fun q3 h3 e3 => ?_)
  obtain ⟨rfl, t, rfl, ht⟩ := e3
  have key : t = r := by
    rcases hcs with ⟨c1, c2, c3, c4, c5⟩ | ⟨c1, c2⟩ <;> rcases hcm with ⟨d1, d2, d3, d4⟩ | ⟨d1, d2, d3⟩
    · rw [ht, d2, c2]
    · exact (py3_no d1 c1).elim
    · exact (py3_no c1 d1).elim
    · rw [ht]; exact py3_uniq d1 c1
  have hvr : inR v := by
    rcases hcs with ⟨c1, c2, c3, c4, c5⟩ | ⟨c1, c2⟩ <;> rcases hcm with ⟨d1, d2, d3, d4⟩ | ⟨d1, d2, d3⟩
    · rw [d3]; exact c4
    · rw [d2]; exact inR_0
    · exact (py3_no c1 d1).elim
    · rw [d2]; exact inR_0
  obtain ⟨L9, hL9⟩ : ∃ L9, LI h2 x m o lo L9 := by
    have hO2 : mT h2 o = some (12, 1) := by rw [hFM.2.1, hFL.2.1]; exact hL.2.2.1
    rcases hcs with ⟨c1, c2, c3, c4, c5⟩ | ⟨c1, c2⟩ <;> rcases hcm with ⟨d1, d2, d3, d4⟩ | ⟨d1, d2, d3⟩
    · exact ⟨_, c5.fm hFM (by omega), d4, hO2, hlay⟩
    · exact (py3_no d1 c1).elim
    · exact (py3_no c1 d1).elim
    · exact ⟨_, c2.fm hFM (by omega), d3, hO2, hlay⟩
  refine Y.iload cx wd (i := 5) rfl dL_law_559 (pc' := 561) rfl ?_
  refine Y.icmp_eq cx wd (tgt := 566) dL_law_561 ⟨by omega, by omega⟩ ⟨by omega, by omega⟩ (by decide) (pc' := 564) rfl (fun c1 => ?_) (fun c1 => absurd key c1)
  refine Y.iload cx wd (i := 5) rfl dL_law_566 (pc' := 568) rfl ?_
  refine Y.if_ne cx wd (tgt := 583) dL_law_568 ⟨by omega, by omega⟩ (by decide) (pc' := 571) rfl (fun c2 => ?_) (fun c2 => ?_)
  · refine Y.goto cx wd (tgt := 1323) dL_law_583 (by decide) ?_
    refine Y.mask (bs := [true, true, true, true, true, false, false, false, false]) (ls' := [some (rf b), some (rf x), some (rf m), some (rf o), some (vi i), none, none, none, none]) rfl ?_
    exact kk _ _ _ L9 (show kc + 1 + 0 + 0 ≤ kc + 40 by omega) (show ks + 6 + 0 + 0 ≤ ks + 6000 by omega) hL9
  have hv2 : mL h2 o 0 = Int64.ofInt v := by
    rw [hFM.2.2.2.1]
    rcases hcs with ⟨c1, c2, c3, c4, c5⟩ | ⟨c1, c2⟩ <;> rcases hcm with ⟨d1, d2, d3, d4⟩ | ⟨d1, d2, d3⟩
    · rw [c3, d3]
    · exact (py3_no d1 c1).elim
    · exact (py3_no c1 d1).elim
    · have := py3_rng c1; omega
  refine Y.aload_n cx wd (i := 3) rfl rfl dL_law_571 (pc' := 572) rfl ?_
  refine Y.iconst cx wd dL_law_572 (pc' := 573) rfl ?_
  refine Y.lald cx wd dL_law_573 hL9.2.2.1 (by omega) (by omega) ⟨by omega, by omega⟩ hv2 (pc' := 574) rfl ?_
  refine Y.iload cx wd (i := 6) rfl dL_law_574 (pc' := 576) rfl ?_
  refine Y.i2l cx wd hvr dL_law_576 (pc' := 577) rfl ?_
  refine Y.lcmp cx wd dL_law_577 (pc' := 578) rfl (fun _ => ?_) (fun ne => absurd rfl ne)
  refine Y.if_eq cx wd (tgt := 583) dL_law_578 ⟨by omega, by omega⟩ (by decide) (pc' := 581) rfl (fun _ => ?_) (fun ne => absurd rfl ne)
  refine Y.goto cx wd (tgt := 1323) dL_law_583 (by decide) ?_
  refine Y.mask (bs := [true, true, true, true, true, false, false, false, false]) (ls' := [some (rf b), some (rf x), some (rf m), some (rf o), some (vi i), none, none, none, none]) rfl ?_
  exact kk _ _ _ L9 (show kc + 1 + 0 + 0 ≤ kc + 40 by omega) (show ks + 6 + 0 + 0 ≤ ks + 6000 by omega) hL9
set_option maxHeartbeats 4000000 in
set_option maxRecDepth 100000 in
theorem y_keep {Ω : xO} {Q : State → Prop} {p : Program} {e : Env} {s : State} {m0 : MethodId} {args : Array Value} {below : List Frame} {meth : Method} {c : Code} {kc ks b Ls x m o lo : Nat} {xs : Nat → Int32} {i : Int} {h : xM} {L : lS} (cx : yCx RL cL_law 9 (some .boolean) p s m0 args meth c) (wd : xWd Ω s) (sc : yScr Ω s b Ls xs) (hi : 0 ≤ i ∧ i + 4 ≤ Ls ∧ Ls ≤ 2048) (hL : LI h x m o lo L) (hkc : kc + 40 ≤ 601024) (hks : ks + 6000 ≤ 7293034)
    (kk : ∀ (kc' ks' : Nat) (h' : xM) (L' : lS), kc' ≤ kc + 40 → ks' ≤ ks + 6000 → LI h' x m o lo L' → Y Ω room_1 Q p e s m0 args below meth c 9 kc' ks' 1323 [some (rf b), some (rf x), some (rf m), some (rf o), some (vi i), none, none, none, none] [] h') : Y Ω room_1 Q p e s m0 args below meth c 9 kc ks 586 [some (rf b), some (rf x), some (rf m), some (rf o), some (vi i), none, none, none, none] [] h := by
  have hlay := hL.2.2.2
  refine Y.aload_n cx wd (i := 1) rfl rfl dL_law_586 (pc' := 587) rfl ?_
  refine Y.callV cx wd (ci := 5) (a := x) (rm := rm_X5_keep) (As := []) (st := []) dL_law_587 ck_L_112 rfl (by decide) hL.1.1.1 rfl rfl ⟨Nat.le_of_ble_eq_true rfl, Nat.le_of_ble_eq_true rfl⟩ (show kc + 29 ≤ 601024 by omega) (show ks + 5699 ≤ 7293034 by omega) (Nat.le_of_ble_eq_true rfl) (pc' := 590) rfl (k_X5_keep hL.1) (fun q1 h1 e1 => ?_)
  obtain ⟨rfl, hE1, hF1⟩ := e1
  have hM1 : ML h1 m L := hL.2.1.sam (fun q z1 z2 => hF1.2 q (by omega) (Or.inr (by omega)))
  have hO1 : mT h1 o = some (12, 1) := by rw [(hF1.2 o (by omega) (Or.inr (by omega))).1]; exact hL.2.2.1
  refine Y.aload_n cx wd (i := 2) rfl rfl dL_law_590 (pc' := 591) rfl ?_
  refine Y.callV cx wd (ci := 6) (a := m) (rm := rm_X6_keep) (As := []) (st := [vi (aB (lA L))]) dL_law_591 ck_L_115 rfl (by decide) hM1.1.1 rfl rfl ⟨Nat.le_of_ble_eq_true rfl, Nat.le_of_ble_eq_true rfl⟩ (show kc + 29 + 0 ≤ 601024 by omega) (show ks + 5699 + 0 ≤ 7293034 by omega) (Nat.le_of_ble_eq_true rfl) (pc' := 594) rfl (k_X6_keep hM1) (fun q2 h2 e2 => ?_)
  obtain ⟨hFM, rfl, hth, hM2⟩ := e2
  obtain ⟨L9, hL9⟩ : ∃ L9, LI h2 x m o lo L9 := ⟨_, hE1.fm hFM (by omega), hM2, by rw [hFM.2.1]; exact hO1, hlay⟩
  have okB := hL.1.2.1.1.2.1.1
  refine Y.icmp_eq cx wd (tgt := 1323) dL_law_594 ⟨by omega, by omega⟩ ⟨by omega, by omega⟩ (by decide) (pc' := 597) rfl (fun c1 => ?_) (fun c1 => absurd rfl c1)
  refine Y.mask (bs := [true, true, true, true, true, false, false, false, false]) (ls' := [some (rf b), some (rf x), some (rf m), some (rf o), some (vi i), none, none, none, none]) rfl ?_
  exact kk _ _ _ L9 (show kc + 29 + 0 ≤ kc + 40 by omega) (show ks + 5699 + 0 ≤ ks + 6000 by omega) hL9
set_option maxHeartbeats 4000000 in
set_option maxRecDepth 100000 in
theorem y_restore {Ω : xO} {Q : State → Prop} {p : Program} {e : Env} {s : State} {m0 : MethodId} {args : Array Value} {below : List Frame} {meth : Method} {c : Code} {kc ks b Ls x m o lo : Nat} {xs : Nat → Int32} {i : Int} {h : xM} {L : lS} (cx : yCx RL cL_law 9 (some .boolean) p s m0 args meth c) (wd : xWd Ω s) (sc : yScr Ω s b Ls xs) (hi : 0 ≤ i ∧ i + 4 ≤ Ls ∧ Ls ≤ 2048) (hL : LI h x m o lo L) (hkc : kc + 40 ≤ 601024) (hks : ks + 6000 ≤ 7293034)
    (kk : ∀ (kc' ks' : Nat) (h' : xM) (L' : lS), kc' ≤ kc + 40 → ks' ≤ ks + 6000 → LI h' x m o lo L' → Y Ω room_1 Q p e s m0 args below meth c 9 kc' ks' 1323 [some (rf b), some (rf x), some (rf m), some (rf o), some (vi i), none, none, none, none] [] h') : Y Ω room_1 Q p e s m0 args below meth c 9 kc ks 599 [some (rf b), some (rf x), some (rf m), some (rf o), some (vi i), none, none, none, none] [] h := by
  have hlay := hL.2.2.2
  refine Y.aload_n cx wd (i := 1) rfl rfl dL_law_599 (pc' := 600) rfl ?_
  refine Y.aload_n cx wd (i := 3) rfl rfl dL_law_600 (pc' := 601) rfl ?_
  refine Y.callSW cx wd (rm := rm_L_restore) (As := [rf x, rf o]) (st := []) dL_law_601 ckS_restore rfl rfl ⟨Nat.le_of_ble_eq_true rfl, Nat.le_of_ble_eq_true rfl⟩ (show kc + 30 ≤ 601024 by omega) (show ks + 5705 ≤ 7293034 by omega) (Nat.le_of_ble_eq_true rfl) (pc' := 604) rfl (k_L_restore hL.1 hL.2.2.1 ⟨by omega, by omega⟩) (fun q1 h1 e1 => ?_)
  obtain ⟨r, rfl, hFL, hcs⟩ := e1
  have hM1 : ML h1 m L := hL.2.1.sam (fun q z1 z2 => hFL.2.2 q (by omega) (Or.inr (by omega)) (by omega))
  have hr03 : 0 ≤ r ∧ r ≤ 3 := by
    rcases hcs with z | z
    · have := z.2.1; omega
    · have := py3_rng z.1; omega
  refine Y.istore cx wd (i := 5) (ls' := [some (rf b), some (rf x), some (rf m), some (rf o), some (vi i), some (vi r), none, none, none]) (hd := dL_law_604) (by decide) rfl rfl (pc' := 606) rfl ?_
  refine Y.aload_n cx wd (i := 2) rfl rfl dL_law_606 (pc' := 607) rfl ?_
  refine Y.callV cx wd (ci := 6) (a := m) (rm := rm_X6_restore) (As := []) (st := []) dL_law_607 ck_L_118 rfl (by decide) hM1.1.1 rfl rfl ⟨Nat.le_of_ble_eq_true rfl, Nat.le_of_ble_eq_true rfl⟩ (show kc + 30 + 0 ≤ 601024 by omega) (show ks + 5705 + 0 ≤ 7293034 by omega) (Nat.le_of_ble_eq_true rfl) (pc' := 610) rfl (k_X6_restore hM1) (fun q2 h2 e2 => ?_)
  obtain ⟨hFM, v, rfl, hcm⟩ := e2
  refine Y.istore cx wd (i := 6) (ls' := [some (rf b), some (rf x), some (rf m), some (rf o), some (vi i), some (vi r), some (vi v), none, none]) (hd := dL_law_610) (by decide) rfl rfl (pc' := 612) rfl ?_
  refine Y.aload_n cx wd (i := 2) rfl rfl dL_law_612 (pc' := 613) rfl ?_
  refine Y.callV cx wd (ci := 6) (a := m) (rm := rm_X6_thrown) (As := []) (st := []) dL_law_613 ck_L_80 rfl (by decide) (hM1.1.ft hFM).1 rfl rfl ⟨Nat.le_of_ble_eq_true rfl, Nat.le_of_ble_eq_true rfl⟩ (show kc + 30 + 0 + 0 ≤ 601024 by omega) (show ks + 5705 + 0 + 0 ≤ 7293034 by omega) (Nat.le_of_ble_eq_true rfl) (pc' := 616) rfl (k_X6_thrown (hM1.1.ft hFM)) (fun q3 h3 e3 => ?_)
  obtain ⟨rfl, t, rfl, ht⟩ := e3
  have key : t = r := by
    rcases hcs with ⟨c1, c2, c3, c4, c5⟩ | ⟨c1, c2⟩ <;> rcases hcm with ⟨d1, d2, d3, d4⟩ | ⟨d1, d2, d3⟩
    · rw [ht, d2, c2]
    · exact (py3_no d1 c1).elim
    · exact (py3_no c1 d1).elim
    · rw [ht]; exact py3_uniq d1 c1
  have hvr : inR v := by
    rcases hcs with ⟨c1, c2, c3, c4, c5⟩ | ⟨c1, c2⟩ <;> rcases hcm with ⟨d1, d2, d3, d4⟩ | ⟨d1, d2, d3⟩
    · rw [d3]; exact c4
    · rw [d2]; exact inR_0
    · exact (py3_no c1 d1).elim
    · rw [d2]; exact inR_0
  obtain ⟨L9, hL9⟩ : ∃ L9, LI h2 x m o lo L9 := by
    have hO2 : mT h2 o = some (12, 1) := by rw [hFM.2.1, hFL.2.1]; exact hL.2.2.1
    rcases hcs with ⟨c1, c2, c3, c4, c5⟩ | ⟨c1, c2⟩ <;> rcases hcm with ⟨d1, d2, d3, d4⟩ | ⟨d1, d2, d3⟩
    · exact ⟨_, c5.fm hFM (by omega), d4, hO2, hlay⟩
    · exact (py3_no d1 c1).elim
    · exact (py3_no c1 d1).elim
    · exact ⟨_, c2.fm hFM (by omega), d3, hO2, hlay⟩
  refine Y.iload cx wd (i := 5) rfl dL_law_616 (pc' := 618) rfl ?_
  refine Y.icmp_eq cx wd (tgt := 623) dL_law_618 ⟨by omega, by omega⟩ ⟨by omega, by omega⟩ (by decide) (pc' := 621) rfl (fun c1 => ?_) (fun c1 => absurd key c1)
  refine Y.iload cx wd (i := 5) rfl dL_law_623 (pc' := 625) rfl ?_
  refine Y.if_ne cx wd (tgt := 640) dL_law_625 ⟨by omega, by omega⟩ (by decide) (pc' := 628) rfl (fun c2 => ?_) (fun c2 => ?_)
  · refine Y.goto cx wd (tgt := 1323) dL_law_640 (by decide) ?_
    refine Y.mask (bs := [true, true, true, true, true, false, false, false, false]) (ls' := [some (rf b), some (rf x), some (rf m), some (rf o), some (vi i), none, none, none, none]) rfl ?_
    exact kk _ _ _ L9 (show kc + 30 + 0 + 0 ≤ kc + 40 by omega) (show ks + 5705 + 0 + 0 ≤ ks + 6000 by omega) hL9
  have hv2 : mL h2 o 0 = Int64.ofInt v := by
    rw [hFM.2.2.2.1]
    rcases hcs with ⟨c1, c2, c3, c4, c5⟩ | ⟨c1, c2⟩ <;> rcases hcm with ⟨d1, d2, d3, d4⟩ | ⟨d1, d2, d3⟩
    · rw [c3, d3]
    · exact (py3_no d1 c1).elim
    · exact (py3_no c1 d1).elim
    · have := py3_rng c1; omega
  refine Y.aload_n cx wd (i := 3) rfl rfl dL_law_628 (pc' := 629) rfl ?_
  refine Y.iconst cx wd dL_law_629 (pc' := 630) rfl ?_
  refine Y.lald cx wd dL_law_630 hL9.2.2.1 (by omega) (by omega) ⟨by omega, by omega⟩ hv2 (pc' := 631) rfl ?_
  refine Y.iload cx wd (i := 6) rfl dL_law_631 (pc' := 633) rfl ?_
  refine Y.i2l cx wd hvr dL_law_633 (pc' := 634) rfl ?_
  refine Y.lcmp cx wd dL_law_634 (pc' := 635) rfl (fun _ => ?_) (fun ne => absurd rfl ne)
  refine Y.if_eq cx wd (tgt := 640) dL_law_635 ⟨by omega, by omega⟩ (by decide) (pc' := 638) rfl (fun _ => ?_) (fun ne => absurd rfl ne)
  refine Y.goto cx wd (tgt := 1323) dL_law_640 (by decide) ?_
  refine Y.mask (bs := [true, true, true, true, true, false, false, false, false]) (ls' := [some (rf b), some (rf x), some (rf m), some (rf o), some (vi i), none, none, none, none]) rfl ?_
  exact kk _ _ _ L9 (show kc + 30 + 0 + 0 ≤ kc + 40 by omega) (show ks + 5705 + 0 + 0 ≤ ks + 6000 by omega) hL9
set_option maxHeartbeats 4000000 in
set_option maxRecDepth 100000 in
theorem y_said {Ω : xO} {Q : State → Prop} {p : Program} {e : Env} {s : State} {m0 : MethodId} {args : Array Value} {below : List Frame} {meth : Method} {c : Code} {kc ks b Ls x m o lo : Nat} {xs : Nat → Int32} {i : Int} {h : xM} {L : lS} (cx : yCx RL cL_law 9 (some .boolean) p s m0 args meth c) (wd : xWd Ω s) (sc : yScr Ω s b Ls xs) (hi : 0 ≤ i ∧ i + 4 ≤ Ls ∧ Ls ≤ 2048) (hL : LI h x m o lo L) (hkc : kc + 40 ≤ 601024) (hks : ks + 6000 ≤ 7293034)
    (kk : ∀ (kc' ks' : Nat) (h' : xM) (L' : lS), kc' ≤ kc + 40 → ks' ≤ ks + 6000 → LI h' x m o lo L' → Y Ω room_1 Q p e s m0 args below meth c 9 kc' ks' 1323 [some (rf b), some (rf x), some (rf m), some (rf o), some (vi i), none, none, none, none] [] h') : Y Ω room_1 Q p e s m0 args below meth c 9 kc ks 643 [some (rf b), some (rf x), some (rf m), some (rf o), some (vi i), none, none, none, none] [] h := by
  have hlay := hL.2.2.2
  refine Y.aload_n cx wd (i := 1) rfl rfl dL_law_643 (pc' := 644) rfl ?_
  refine Y.aload_n cx wd (i := 0) rfl rfl dL_law_644 (pc' := 645) rfl ?_
  refine Y.iload cx wd (i := 4) rfl dL_law_645 (pc' := 647) rfl ?_
  refine Y.iconst cx wd dL_law_647 (pc' := 648) rfl ?_
  refine Y.iadd cx wd dL_law_648 (pc' := 649) rfl ?_
  refine Y.sald cx sc dL_law_649 (by omega) (by omega) ⟨by omega, by omega⟩ (pc' := 650) rfl (fun z1 ez1 irz1 => ?_)
  refine Y.aload_n cx wd (i := 0) rfl rfl dL_law_650 (pc' := 651) rfl ?_
  refine Y.iload cx wd (i := 4) rfl dL_law_651 (pc' := 653) rfl ?_
  refine Y.iconst cx wd dL_law_653 (pc' := 654) rfl ?_
  refine Y.iadd cx wd dL_law_654 (pc' := 655) rfl ?_
  refine Y.sald cx sc dL_law_655 (by omega) (by omega) ⟨by omega, by omega⟩ (pc' := 656) rfl (fun z2 ez2 irz2 => ?_)
  refine Y.aload_n cx wd (i := 3) rfl rfl dL_law_656 (pc' := 657) rfl ?_
  refine Y.callSW cx wd (rm := rm_L_said) (As := [rf x, vi z1, vi z2, rf o]) (st := []) dL_law_657 ckS_said rfl rfl ⟨Nat.le_of_ble_eq_true rfl, Nat.le_of_ble_eq_true rfl⟩ (show kc + 1 ≤ 601024 by omega) (show ks + 6 ≤ 7293034 by omega) (Nat.le_of_ble_eq_true rfl) (pc' := 660) rfl (k_L_said hL.1 hL.2.2.1 ⟨by omega, by omega⟩ irz1 irz2) (fun q1 h1 e1 => ?_)
  obtain ⟨r, rfl, hFL, hcs⟩ := e1
  have hM1 : ML h1 m L := hL.2.1.sam (fun q z1 z2 => hFL.2.2 q (by omega) (Or.inr (by omega)) (by omega))
  have hr03 : 0 ≤ r ∧ r ≤ 3 := by
    rcases hcs with z | z
    · have := z.2.1; omega
    · have := py3_rng z.1; omega
  refine Y.istore cx wd (i := 5) (ls' := [some (rf b), some (rf x), some (rf m), some (rf o), some (vi i), some (vi r), none, none, none]) (hd := dL_law_660) (by decide) rfl rfl (pc' := 662) rfl ?_
  refine Y.aload_n cx wd (i := 2) rfl rfl dL_law_662 (pc' := 663) rfl ?_
  refine Y.aload_n cx wd (i := 0) rfl rfl dL_law_663 (pc' := 664) rfl ?_
  refine Y.iload cx wd (i := 4) rfl dL_law_664 (pc' := 666) rfl ?_
  refine Y.iconst cx wd dL_law_666 (pc' := 667) rfl ?_
  refine Y.iadd cx wd dL_law_667 (pc' := 668) rfl ?_
  refine Y.sald cx sc dL_law_668 (by omega) (by omega) ⟨by omega, by omega⟩ (pc' := 669) rfl (fun z9 e9 ir9 => ?_)
  obtain rfl : z1 = z9 := ez1.trans e9.symm
  refine Y.aload_n cx wd (i := 0) rfl rfl dL_law_669 (pc' := 670) rfl ?_
  refine Y.iload cx wd (i := 4) rfl dL_law_670 (pc' := 672) rfl ?_
  refine Y.iconst cx wd dL_law_672 (pc' := 673) rfl ?_
  refine Y.iadd cx wd dL_law_673 (pc' := 674) rfl ?_
  refine Y.sald cx sc dL_law_674 (by omega) (by omega) ⟨by omega, by omega⟩ (pc' := 675) rfl (fun z9 e9 ir9 => ?_)
  obtain rfl : z2 = z9 := ez2.trans e9.symm
  refine Y.callV cx wd (ci := 6) (a := m) (rm := rm_X6_said) (As := [vi z1, vi z2]) (st := []) dL_law_675 ck_L_121 rfl (by decide) hM1.1.1 rfl rfl ⟨Nat.le_of_ble_eq_true rfl, Nat.le_of_ble_eq_true rfl⟩ (show kc + 1 + 0 ≤ 601024 by omega) (show ks + 6 + 0 ≤ 7293034 by omega) (Nat.le_of_ble_eq_true rfl) (pc' := 678) rfl (k_X6_said hM1 irz1 irz2) (fun q2 h2 e2 => ?_)
  obtain ⟨hFM, v, rfl, hcm⟩ := e2
  refine Y.istore cx wd (i := 6) (ls' := [some (rf b), some (rf x), some (rf m), some (rf o), some (vi i), some (vi r), some (vi v), none, none]) (hd := dL_law_678) (by decide) rfl rfl (pc' := 680) rfl ?_
  refine Y.aload_n cx wd (i := 2) rfl rfl dL_law_680 (pc' := 681) rfl ?_
  refine Y.callV cx wd (ci := 6) (a := m) (rm := rm_X6_thrown) (As := []) (st := []) dL_law_681 ck_L_80 rfl (by decide) (hM1.1.ft hFM).1 rfl rfl ⟨Nat.le_of_ble_eq_true rfl, Nat.le_of_ble_eq_true rfl⟩ (show kc + 1 + 0 + 0 ≤ 601024 by omega) (show ks + 6 + 0 + 0 ≤ 7293034 by omega) (Nat.le_of_ble_eq_true rfl) (pc' := 684) rfl (k_X6_thrown (hM1.1.ft hFM)) (fun q3 h3 e3 => ?_)
  obtain ⟨rfl, t, rfl, ht⟩ := e3
  have key : t = r := by
    rcases hcs with ⟨c1, c2, c3, c4, c5⟩ | ⟨c1, c2⟩ <;> rcases hcm with ⟨d1, d2, d3, d4⟩ | ⟨d1, d2, d3⟩
    · rw [ht, d2, c2]
    · exact (py3_no d1 c1).elim
    · exact (py3_no c1 d1).elim
    · rw [ht]; exact py3_uniq d1 c1
  have hvr : inR v := by
    rcases hcs with ⟨c1, c2, c3, c4, c5⟩ | ⟨c1, c2⟩ <;> rcases hcm with ⟨d1, d2, d3, d4⟩ | ⟨d1, d2, d3⟩
    · rw [d3]; exact c4
    · rw [d2]; exact inR_0
    · exact (py3_no c1 d1).elim
    · rw [d2]; exact inR_0
  obtain ⟨L9, hL9⟩ : ∃ L9, LI h2 x m o lo L9 := by
    have hO2 : mT h2 o = some (12, 1) := by rw [hFM.2.1, hFL.2.1]; exact hL.2.2.1
    rcases hcs with ⟨c1, c2, c3, c4, c5⟩ | ⟨c1, c2⟩ <;> rcases hcm with ⟨d1, d2, d3, d4⟩ | ⟨d1, d2, d3⟩
    · exact ⟨_, c5.fm hFM (by omega), d4, hO2, hlay⟩
    · exact (py3_no d1 c1).elim
    · exact (py3_no c1 d1).elim
    · exact ⟨_, c2.fm hFM (by omega), d3, hO2, hlay⟩
  refine Y.iload cx wd (i := 5) rfl dL_law_684 (pc' := 686) rfl ?_
  refine Y.icmp_eq cx wd (tgt := 691) dL_law_686 ⟨by omega, by omega⟩ ⟨by omega, by omega⟩ (by decide) (pc' := 689) rfl (fun c1 => ?_) (fun c1 => absurd key c1)
  refine Y.iload cx wd (i := 5) rfl dL_law_691 (pc' := 693) rfl ?_
  refine Y.if_ne cx wd (tgt := 708) dL_law_693 ⟨by omega, by omega⟩ (by decide) (pc' := 696) rfl (fun c2 => ?_) (fun c2 => ?_)
  · refine Y.goto cx wd (tgt := 1323) dL_law_708 (by decide) ?_
    refine Y.mask (bs := [true, true, true, true, true, false, false, false, false]) (ls' := [some (rf b), some (rf x), some (rf m), some (rf o), some (vi i), none, none, none, none]) rfl ?_
    exact kk _ _ _ L9 (show kc + 1 + 0 + 0 ≤ kc + 40 by omega) (show ks + 6 + 0 + 0 ≤ ks + 6000 by omega) hL9
  have hv2 : mL h2 o 0 = Int64.ofInt v := by
    rw [hFM.2.2.2.1]
    rcases hcs with ⟨c1, c2, c3, c4, c5⟩ | ⟨c1, c2⟩ <;> rcases hcm with ⟨d1, d2, d3, d4⟩ | ⟨d1, d2, d3⟩
    · rw [c3, d3]
    · exact (py3_no d1 c1).elim
    · exact (py3_no c1 d1).elim
    · have := py3_rng c1; omega
  refine Y.aload_n cx wd (i := 3) rfl rfl dL_law_696 (pc' := 697) rfl ?_
  refine Y.iconst cx wd dL_law_697 (pc' := 698) rfl ?_
  refine Y.lald cx wd dL_law_698 hL9.2.2.1 (by omega) (by omega) ⟨by omega, by omega⟩ hv2 (pc' := 699) rfl ?_
  refine Y.iload cx wd (i := 6) rfl dL_law_699 (pc' := 701) rfl ?_
  refine Y.i2l cx wd hvr dL_law_701 (pc' := 702) rfl ?_
  refine Y.lcmp cx wd dL_law_702 (pc' := 703) rfl (fun _ => ?_) (fun ne => absurd rfl ne)
  refine Y.if_eq cx wd (tgt := 708) dL_law_703 ⟨by omega, by omega⟩ (by decide) (pc' := 706) rfl (fun _ => ?_) (fun ne => absurd rfl ne)
  refine Y.goto cx wd (tgt := 1323) dL_law_708 (by decide) ?_
  refine Y.mask (bs := [true, true, true, true, true, false, false, false, false]) (ls' := [some (rf b), some (rf x), some (rf m), some (rf o), some (vi i), none, none, none, none]) rfl ?_
  exact kk _ _ _ L9 (show kc + 1 + 0 + 0 ≤ kc + 40 by omega) (show ks + 6 + 0 + 0 ≤ ks + 6000 by omega) hL9
set_option maxHeartbeats 4000000 in
set_option maxRecDepth 100000 in
theorem y_comes {Ω : xO} {Q : State → Prop} {p : Program} {e : Env} {s : State} {m0 : MethodId} {args : Array Value} {below : List Frame} {meth : Method} {c : Code} {kc ks b Ls x m o lo : Nat} {xs : Nat → Int32} {i : Int} {h : xM} {L : lS} (cx : yCx RL cL_law 9 (some .boolean) p s m0 args meth c) (wd : xWd Ω s) (sc : yScr Ω s b Ls xs) (hi : 0 ≤ i ∧ i + 4 ≤ Ls ∧ Ls ≤ 2048) (hL : LI h x m o lo L) (hkc : kc + 40 ≤ 601024) (hks : ks + 6000 ≤ 7293034)
    (kk : ∀ (kc' ks' : Nat) (h' : xM) (L' : lS), kc' ≤ kc + 40 → ks' ≤ ks + 6000 → LI h' x m o lo L' → Y Ω room_1 Q p e s m0 args below meth c 9 kc' ks' 1323 [some (rf b), some (rf x), some (rf m), some (rf o), some (vi i), none, none, none, none] [] h') : Y Ω room_1 Q p e s m0 args below meth c 9 kc ks 711 [some (rf b), some (rf x), some (rf m), some (rf o), some (vi i), none, none, none, none] [] h := by
  have hlay := hL.2.2.2
  refine Y.aload_n cx wd (i := 1) rfl rfl dL_law_711 (pc' := 712) rfl ?_
  refine Y.aload_n cx wd (i := 0) rfl rfl dL_law_712 (pc' := 713) rfl ?_
  refine Y.iload cx wd (i := 4) rfl dL_law_713 (pc' := 715) rfl ?_
  refine Y.iconst cx wd dL_law_715 (pc' := 716) rfl ?_
  refine Y.iadd cx wd dL_law_716 (pc' := 717) rfl ?_
  refine Y.sald cx sc dL_law_717 (by omega) (by omega) ⟨by omega, by omega⟩ (pc' := 718) rfl (fun z1 ez1 irz1 => ?_)
  refine Y.aload_n cx wd (i := 0) rfl rfl dL_law_718 (pc' := 719) rfl ?_
  refine Y.iload cx wd (i := 4) rfl dL_law_719 (pc' := 721) rfl ?_
  refine Y.iconst cx wd dL_law_721 (pc' := 722) rfl ?_
  refine Y.iadd cx wd dL_law_722 (pc' := 723) rfl ?_
  refine Y.sald cx sc dL_law_723 (by omega) (by omega) ⟨by omega, by omega⟩ (pc' := 724) rfl (fun z2 ez2 irz2 => ?_)
  refine Y.aload_n cx wd (i := 3) rfl rfl dL_law_724 (pc' := 725) rfl ?_
  refine Y.callSW cx wd (rm := rm_L_comes) (As := [rf x, vi z1, vi z2, rf o]) (st := []) dL_law_725 ckS_comes rfl rfl ⟨Nat.le_of_ble_eq_true rfl, Nat.le_of_ble_eq_true rfl⟩ (show kc + 2 ≤ 601024 by omega) (show ks + 12 ≤ 7293034 by omega) (Nat.le_of_ble_eq_true rfl) (pc' := 728) rfl (k_L_comes hL.1 hL.2.2.1 ⟨by omega, by omega⟩ irz1 irz2) (fun q1 h1 e1 => ?_)
  obtain ⟨r, rfl, hFL, hcs⟩ := e1
  have hM1 : ML h1 m L := hL.2.1.sam (fun q z1 z2 => hFL.2.2 q (by omega) (Or.inr (by omega)) (by omega))
  have hr03 : 0 ≤ r ∧ r ≤ 3 := by
    rcases hcs with z | z
    · have := z.2.1; omega
    · have := py3_rng z.1; omega
  refine Y.istore cx wd (i := 5) (ls' := [some (rf b), some (rf x), some (rf m), some (rf o), some (vi i), some (vi r), none, none, none]) (hd := dL_law_728) (by decide) rfl rfl (pc' := 730) rfl ?_
  refine Y.aload_n cx wd (i := 2) rfl rfl dL_law_730 (pc' := 731) rfl ?_
  refine Y.aload_n cx wd (i := 0) rfl rfl dL_law_731 (pc' := 732) rfl ?_
  refine Y.iload cx wd (i := 4) rfl dL_law_732 (pc' := 734) rfl ?_
  refine Y.iconst cx wd dL_law_734 (pc' := 735) rfl ?_
  refine Y.iadd cx wd dL_law_735 (pc' := 736) rfl ?_
  refine Y.sald cx sc dL_law_736 (by omega) (by omega) ⟨by omega, by omega⟩ (pc' := 737) rfl (fun z9 e9 ir9 => ?_)
  obtain rfl : z1 = z9 := ez1.trans e9.symm
  refine Y.aload_n cx wd (i := 0) rfl rfl dL_law_737 (pc' := 738) rfl ?_
  refine Y.iload cx wd (i := 4) rfl dL_law_738 (pc' := 740) rfl ?_
  refine Y.iconst cx wd dL_law_740 (pc' := 741) rfl ?_
  refine Y.iadd cx wd dL_law_741 (pc' := 742) rfl ?_
  refine Y.sald cx sc dL_law_742 (by omega) (by omega) ⟨by omega, by omega⟩ (pc' := 743) rfl (fun z9 e9 ir9 => ?_)
  obtain rfl : z2 = z9 := ez2.trans e9.symm
  refine Y.callV cx wd (ci := 6) (a := m) (rm := rm_X6_comes) (As := [vi z1, vi z2]) (st := []) dL_law_743 ck_L_124 rfl (by decide) hM1.1.1 rfl rfl ⟨Nat.le_of_ble_eq_true rfl, Nat.le_of_ble_eq_true rfl⟩ (show kc + 2 + 0 ≤ 601024 by omega) (show ks + 12 + 0 ≤ 7293034 by omega) (Nat.le_of_ble_eq_true rfl) (pc' := 746) rfl (k_X6_comes hM1 irz1 irz2) (fun q2 h2 e2 => ?_)
  obtain ⟨hFM, v, rfl, hcm⟩ := e2
  refine Y.istore cx wd (i := 6) (ls' := [some (rf b), some (rf x), some (rf m), some (rf o), some (vi i), some (vi r), some (vi v), none, none]) (hd := dL_law_746) (by decide) rfl rfl (pc' := 748) rfl ?_
  refine Y.aload_n cx wd (i := 2) rfl rfl dL_law_748 (pc' := 749) rfl ?_
  refine Y.callV cx wd (ci := 6) (a := m) (rm := rm_X6_thrown) (As := []) (st := []) dL_law_749 ck_L_80 rfl (by decide) (hM1.1.ft hFM).1 rfl rfl ⟨Nat.le_of_ble_eq_true rfl, Nat.le_of_ble_eq_true rfl⟩ (show kc + 2 + 0 + 0 ≤ 601024 by omega) (show ks + 12 + 0 + 0 ≤ 7293034 by omega) (Nat.le_of_ble_eq_true rfl) (pc' := 752) rfl (k_X6_thrown (hM1.1.ft hFM)) (fun q3 h3 e3 => ?_)
  obtain ⟨rfl, t, rfl, ht⟩ := e3
  have key : t = r := by
    rcases hcs with ⟨c1, c2, c3, c4, c5⟩ | ⟨c1, c2⟩ <;> rcases hcm with ⟨d1, d2, d3, d4⟩ | ⟨d1, d2, d3⟩
    · rw [ht, d2, c2]
    · exact (py3_no d1 c1).elim
    · exact (py3_no c1 d1).elim
    · rw [ht]; exact py3_uniq d1 c1
  have hvr : inR v := by
    rcases hcs with ⟨c1, c2, c3, c4, c5⟩ | ⟨c1, c2⟩ <;> rcases hcm with ⟨d1, d2, d3, d4⟩ | ⟨d1, d2, d3⟩
    · rw [d3]; exact c4
    · rw [d2]; exact inR_0
    · exact (py3_no c1 d1).elim
    · rw [d2]; exact inR_0
  obtain ⟨L9, hL9⟩ : ∃ L9, LI h2 x m o lo L9 := by
    have hO2 : mT h2 o = some (12, 1) := by rw [hFM.2.1, hFL.2.1]; exact hL.2.2.1
    rcases hcs with ⟨c1, c2, c3, c4, c5⟩ | ⟨c1, c2⟩ <;> rcases hcm with ⟨d1, d2, d3, d4⟩ | ⟨d1, d2, d3⟩
    · exact ⟨_, c5.fm hFM (by omega), d4, hO2, hlay⟩
    · exact (py3_no d1 c1).elim
    · exact (py3_no c1 d1).elim
    · exact ⟨_, c2.fm hFM (by omega), d3, hO2, hlay⟩
  refine Y.iload cx wd (i := 5) rfl dL_law_752 (pc' := 754) rfl ?_
  refine Y.icmp_eq cx wd (tgt := 759) dL_law_754 ⟨by omega, by omega⟩ ⟨by omega, by omega⟩ (by decide) (pc' := 757) rfl (fun c1 => ?_) (fun c1 => absurd key c1)
  refine Y.iload cx wd (i := 5) rfl dL_law_759 (pc' := 761) rfl ?_
  refine Y.if_ne cx wd (tgt := 776) dL_law_761 ⟨by omega, by omega⟩ (by decide) (pc' := 764) rfl (fun c2 => ?_) (fun c2 => ?_)
  · refine Y.goto cx wd (tgt := 1323) dL_law_776 (by decide) ?_
    refine Y.mask (bs := [true, true, true, true, true, false, false, false, false]) (ls' := [some (rf b), some (rf x), some (rf m), some (rf o), some (vi i), none, none, none, none]) rfl ?_
    exact kk _ _ _ L9 (show kc + 2 + 0 + 0 ≤ kc + 40 by omega) (show ks + 12 + 0 + 0 ≤ ks + 6000 by omega) hL9
  have hv2 : mL h2 o 0 = Int64.ofInt v := by
    rw [hFM.2.2.2.1]
    rcases hcs with ⟨c1, c2, c3, c4, c5⟩ | ⟨c1, c2⟩ <;> rcases hcm with ⟨d1, d2, d3, d4⟩ | ⟨d1, d2, d3⟩
    · rw [c3, d3]
    · exact (py3_no d1 c1).elim
    · exact (py3_no c1 d1).elim
    · have := py3_rng c1; omega
  refine Y.aload_n cx wd (i := 3) rfl rfl dL_law_764 (pc' := 765) rfl ?_
  refine Y.iconst cx wd dL_law_765 (pc' := 766) rfl ?_
  refine Y.lald cx wd dL_law_766 hL9.2.2.1 (by omega) (by omega) ⟨by omega, by omega⟩ hv2 (pc' := 767) rfl ?_
  refine Y.iload cx wd (i := 6) rfl dL_law_767 (pc' := 769) rfl ?_
  refine Y.i2l cx wd hvr dL_law_769 (pc' := 770) rfl ?_
  refine Y.lcmp cx wd dL_law_770 (pc' := 771) rfl (fun _ => ?_) (fun ne => absurd rfl ne)
  refine Y.if_eq cx wd (tgt := 776) dL_law_771 ⟨by omega, by omega⟩ (by decide) (pc' := 774) rfl (fun _ => ?_) (fun ne => absurd rfl ne)
  refine Y.goto cx wd (tgt := 1323) dL_law_776 (by decide) ?_
  refine Y.mask (bs := [true, true, true, true, true, false, false, false, false]) (ls' := [some (rf b), some (rf x), some (rf m), some (rf o), some (vi i), none, none, none, none]) rfl ?_
  exact kk _ _ _ L9 (show kc + 2 + 0 + 0 ≤ kc + 40 by omega) (show ks + 12 + 0 + 0 ≤ ks + 6000 by omega) hL9
set_option maxHeartbeats 4000000 in
set_option maxRecDepth 100000 in
theorem y_heard {Ω : xO} {Q : State → Prop} {p : Program} {e : Env} {s : State} {m0 : MethodId} {args : Array Value} {below : List Frame} {meth : Method} {c : Code} {kc ks b Ls x m o lo : Nat} {xs : Nat → Int32} {i : Int} {h : xM} {L : lS} (cx : yCx RL cL_law 9 (some .boolean) p s m0 args meth c) (wd : xWd Ω s) (sc : yScr Ω s b Ls xs) (hi : 0 ≤ i ∧ i + 4 ≤ Ls ∧ Ls ≤ 2048) (hL : LI h x m o lo L) (hkc : kc + 40 ≤ 601024) (hks : ks + 6000 ≤ 7293034)
    (kk : ∀ (kc' ks' : Nat) (h' : xM) (L' : lS), kc' ≤ kc + 40 → ks' ≤ ks + 6000 → LI h' x m o lo L' → Y Ω room_1 Q p e s m0 args below meth c 9 kc' ks' 1323 [some (rf b), some (rf x), some (rf m), some (rf o), some (vi i), none, none, none, none] [] h') : Y Ω room_1 Q p e s m0 args below meth c 9 kc ks 779 [some (rf b), some (rf x), some (rf m), some (rf o), some (vi i), none, none, none, none] [] h := by
  have hlay := hL.2.2.2
  refine Y.aload_n cx wd (i := 1) rfl rfl dL_law_779 (pc' := 780) rfl ?_
  refine Y.aload_n cx wd (i := 0) rfl rfl dL_law_780 (pc' := 781) rfl ?_
  refine Y.iload cx wd (i := 4) rfl dL_law_781 (pc' := 783) rfl ?_
  refine Y.iconst cx wd dL_law_783 (pc' := 784) rfl ?_
  refine Y.iadd cx wd dL_law_784 (pc' := 785) rfl ?_
  refine Y.sald cx sc dL_law_785 (by omega) (by omega) ⟨by omega, by omega⟩ (pc' := 786) rfl (fun z1 ez1 irz1 => ?_)
  refine Y.aload_n cx wd (i := 0) rfl rfl dL_law_786 (pc' := 787) rfl ?_
  refine Y.iload cx wd (i := 4) rfl dL_law_787 (pc' := 789) rfl ?_
  refine Y.iconst cx wd dL_law_789 (pc' := 790) rfl ?_
  refine Y.iadd cx wd dL_law_790 (pc' := 791) rfl ?_
  refine Y.sald cx sc dL_law_791 (by omega) (by omega) ⟨by omega, by omega⟩ (pc' := 792) rfl (fun z2 ez2 irz2 => ?_)
  refine Y.aload_n cx wd (i := 0) rfl rfl dL_law_792 (pc' := 793) rfl ?_
  refine Y.iload cx wd (i := 4) rfl dL_law_793 (pc' := 795) rfl ?_
  refine Y.iconst cx wd dL_law_795 (pc' := 796) rfl ?_
  refine Y.iadd cx wd dL_law_796 (pc' := 797) rfl ?_
  refine Y.sald cx sc dL_law_797 (by omega) (by omega) ⟨by omega, by omega⟩ (pc' := 798) rfl (fun z3 ez3 irz3 => ?_)
  refine Y.aload_n cx wd (i := 3) rfl rfl dL_law_798 (pc' := 799) rfl ?_
  refine Y.callSW cx wd (rm := rm_L_heard) (As := [rf x, vi z1, vi z2, vi z3, rf o]) (st := []) dL_law_799 ckS_heard rfl rfl ⟨Nat.le_of_ble_eq_true rfl, Nat.le_of_ble_eq_true rfl⟩ (show kc + 2 ≤ 601024 by omega) (show ks + 12 ≤ 7293034 by omega) (Nat.le_of_ble_eq_true rfl) (pc' := 802) rfl (k_L_heard hL.1 hL.2.2.1 ⟨by omega, by omega⟩ irz1 irz2 irz3) (fun q1 h1 e1 => ?_)
  obtain ⟨r, rfl, hFL, hcs⟩ := e1
  have hM1 : ML h1 m L := hL.2.1.sam (fun q z1 z2 => hFL.2.2 q (by omega) (Or.inr (by omega)) (by omega))
  have hr03 : 0 ≤ r ∧ r ≤ 3 := by
    rcases hcs with z | z
    · have := z.2.1; omega
    · have := py3_rng z.1; omega
  refine Y.istore cx wd (i := 5) (ls' := [some (rf b), some (rf x), some (rf m), some (rf o), some (vi i), some (vi r), none, none, none]) (hd := dL_law_802) (by decide) rfl rfl (pc' := 804) rfl ?_
  refine Y.aload_n cx wd (i := 2) rfl rfl dL_law_804 (pc' := 805) rfl ?_
  refine Y.aload_n cx wd (i := 0) rfl rfl dL_law_805 (pc' := 806) rfl ?_
  refine Y.iload cx wd (i := 4) rfl dL_law_806 (pc' := 808) rfl ?_
  refine Y.iconst cx wd dL_law_808 (pc' := 809) rfl ?_
  refine Y.iadd cx wd dL_law_809 (pc' := 810) rfl ?_
  refine Y.sald cx sc dL_law_810 (by omega) (by omega) ⟨by omega, by omega⟩ (pc' := 811) rfl (fun z9 e9 ir9 => ?_)
  obtain rfl : z1 = z9 := ez1.trans e9.symm
  refine Y.aload_n cx wd (i := 0) rfl rfl dL_law_811 (pc' := 812) rfl ?_
  refine Y.iload cx wd (i := 4) rfl dL_law_812 (pc' := 814) rfl ?_
  refine Y.iconst cx wd dL_law_814 (pc' := 815) rfl ?_
  refine Y.iadd cx wd dL_law_815 (pc' := 816) rfl ?_
  refine Y.sald cx sc dL_law_816 (by omega) (by omega) ⟨by omega, by omega⟩ (pc' := 817) rfl (fun z9 e9 ir9 => ?_)
  obtain rfl : z2 = z9 := ez2.trans e9.symm
  refine Y.aload_n cx wd (i := 0) rfl rfl dL_law_817 (pc' := 818) rfl ?_
  refine Y.iload cx wd (i := 4) rfl dL_law_818 (pc' := 820) rfl ?_
  refine Y.iconst cx wd dL_law_820 (pc' := 821) rfl ?_
  refine Y.iadd cx wd dL_law_821 (pc' := 822) rfl ?_
  refine Y.sald cx sc dL_law_822 (by omega) (by omega) ⟨by omega, by omega⟩ (pc' := 823) rfl (fun z9 e9 ir9 => ?_)
  obtain rfl : z3 = z9 := ez3.trans e9.symm
  refine Y.callV cx wd (ci := 6) (a := m) (rm := rm_X6_heard) (As := [vi z1, vi z2, vi z3]) (st := []) dL_law_823 ck_L_127 rfl (by decide) hM1.1.1 rfl rfl ⟨Nat.le_of_ble_eq_true rfl, Nat.le_of_ble_eq_true rfl⟩ (show kc + 2 + 0 ≤ 601024 by omega) (show ks + 12 + 0 ≤ 7293034 by omega) (Nat.le_of_ble_eq_true rfl) (pc' := 826) rfl (k_X6_heard hM1 irz1 irz2 irz3) (fun q2 h2 e2 => ?_)
  obtain ⟨hFM, v, rfl, hcm⟩ := e2
  refine Y.istore cx wd (i := 6) (ls' := [some (rf b), some (rf x), some (rf m), some (rf o), some (vi i), some (vi r), some (vi v), none, none]) (hd := dL_law_826) (by decide) rfl rfl (pc' := 828) rfl ?_
  refine Y.aload_n cx wd (i := 2) rfl rfl dL_law_828 (pc' := 829) rfl ?_
  refine Y.callV cx wd (ci := 6) (a := m) (rm := rm_X6_thrown) (As := []) (st := []) dL_law_829 ck_L_80 rfl (by decide) (hM1.1.ft hFM).1 rfl rfl ⟨Nat.le_of_ble_eq_true rfl, Nat.le_of_ble_eq_true rfl⟩ (show kc + 2 + 0 + 0 ≤ 601024 by omega) (show ks + 12 + 0 + 0 ≤ 7293034 by omega) (Nat.le_of_ble_eq_true rfl) (pc' := 832) rfl (k_X6_thrown (hM1.1.ft hFM)) (fun q3 h3 e3 => ?_)
  obtain ⟨rfl, t, rfl, ht⟩ := e3
  have key : t = r := by
    rcases hcs with ⟨c1, c2, c3, c4, c5⟩ | ⟨c1, c2⟩ <;> rcases hcm with ⟨d1, d2, d3, d4⟩ | ⟨d1, d2, d3⟩
    · rw [ht, d2, c2]
    · exact (py3_no d1 c1).elim
    · exact (py3_no c1 d1).elim
    · rw [ht]; exact py3_uniq d1 c1
  have hvr : inR v := by
    rcases hcs with ⟨c1, c2, c3, c4, c5⟩ | ⟨c1, c2⟩ <;> rcases hcm with ⟨d1, d2, d3, d4⟩ | ⟨d1, d2, d3⟩
    · rw [d3]; exact c4
    · rw [d2]; exact inR_0
    · exact (py3_no c1 d1).elim
    · rw [d2]; exact inR_0
  obtain ⟨L9, hL9⟩ : ∃ L9, LI h2 x m o lo L9 := by
    have hO2 : mT h2 o = some (12, 1) := by rw [hFM.2.1, hFL.2.1]; exact hL.2.2.1
    rcases hcs with ⟨c1, c2, c3, c4, c5⟩ | ⟨c1, c2⟩ <;> rcases hcm with ⟨d1, d2, d3, d4⟩ | ⟨d1, d2, d3⟩
    · exact ⟨_, c5.fm hFM (by omega), d4, hO2, hlay⟩
    · exact (py3_no d1 c1).elim
    · exact (py3_no c1 d1).elim
    · exact ⟨_, c2.fm hFM (by omega), d3, hO2, hlay⟩
  refine Y.iload cx wd (i := 5) rfl dL_law_832 (pc' := 834) rfl ?_
  refine Y.icmp_eq cx wd (tgt := 839) dL_law_834 ⟨by omega, by omega⟩ ⟨by omega, by omega⟩ (by decide) (pc' := 837) rfl (fun c1 => ?_) (fun c1 => absurd key c1)
  refine Y.iload cx wd (i := 5) rfl dL_law_839 (pc' := 841) rfl ?_
  refine Y.if_ne cx wd (tgt := 856) dL_law_841 ⟨by omega, by omega⟩ (by decide) (pc' := 844) rfl (fun c2 => ?_) (fun c2 => ?_)
  · refine Y.goto cx wd (tgt := 1323) dL_law_856 (by decide) ?_
    refine Y.mask (bs := [true, true, true, true, true, false, false, false, false]) (ls' := [some (rf b), some (rf x), some (rf m), some (rf o), some (vi i), none, none, none, none]) rfl ?_
    exact kk _ _ _ L9 (show kc + 2 + 0 + 0 ≤ kc + 40 by omega) (show ks + 12 + 0 + 0 ≤ ks + 6000 by omega) hL9
  have hv2 : mL h2 o 0 = Int64.ofInt v := by
    rw [hFM.2.2.2.1]
    rcases hcs with ⟨c1, c2, c3, c4, c5⟩ | ⟨c1, c2⟩ <;> rcases hcm with ⟨d1, d2, d3, d4⟩ | ⟨d1, d2, d3⟩
    · rw [c3, d3]
    · exact (py3_no d1 c1).elim
    · exact (py3_no c1 d1).elim
    · have := py3_rng c1; omega
  refine Y.aload_n cx wd (i := 3) rfl rfl dL_law_844 (pc' := 845) rfl ?_
  refine Y.iconst cx wd dL_law_845 (pc' := 846) rfl ?_
  refine Y.lald cx wd dL_law_846 hL9.2.2.1 (by omega) (by omega) ⟨by omega, by omega⟩ hv2 (pc' := 847) rfl ?_
  refine Y.iload cx wd (i := 6) rfl dL_law_847 (pc' := 849) rfl ?_
  refine Y.i2l cx wd hvr dL_law_849 (pc' := 850) rfl ?_
  refine Y.lcmp cx wd dL_law_850 (pc' := 851) rfl (fun _ => ?_) (fun ne => absurd rfl ne)
  refine Y.if_eq cx wd (tgt := 856) dL_law_851 ⟨by omega, by omega⟩ (by decide) (pc' := 854) rfl (fun _ => ?_) (fun ne => absurd rfl ne)
  refine Y.goto cx wd (tgt := 1323) dL_law_856 (by decide) ?_
  refine Y.mask (bs := [true, true, true, true, true, false, false, false, false]) (ls' := [some (rf b), some (rf x), some (rf m), some (rf o), some (vi i), none, none, none, none]) rfl ?_
  exact kk _ _ _ L9 (show kc + 2 + 0 + 0 ≤ kc + 40 by omega) (show ks + 12 + 0 + 0 ≤ ks + 6000 by omega) hL9
set_option maxHeartbeats 4000000 in
set_option maxRecDepth 100000 in
theorem y_speaker {Ω : xO} {Q : State → Prop} {p : Program} {e : Env} {s : State} {m0 : MethodId} {args : Array Value} {below : List Frame} {meth : Method} {c : Code} {kc ks b Ls x m o lo : Nat} {xs : Nat → Int32} {i : Int} {h : xM} {L : lS} (cx : yCx RL cL_law 9 (some .boolean) p s m0 args meth c) (wd : xWd Ω s) (sc : yScr Ω s b Ls xs) (hi : 0 ≤ i ∧ i + 4 ≤ Ls ∧ Ls ≤ 2048) (hL : LI h x m o lo L) (hkc : kc + 40 ≤ 601024) (hks : ks + 6000 ≤ 7293034)
    (kk : ∀ (kc' ks' : Nat) (h' : xM) (L' : lS), kc' ≤ kc + 40 → ks' ≤ ks + 6000 → LI h' x m o lo L' → Y Ω room_1 Q p e s m0 args below meth c 9 kc' ks' 1323 [some (rf b), some (rf x), some (rf m), some (rf o), some (vi i), none, none, none, none] [] h') : Y Ω room_1 Q p e s m0 args below meth c 9 kc ks 859 [some (rf b), some (rf x), some (rf m), some (rf o), some (vi i), none, none, none, none] [] h := by
  have hlay := hL.2.2.2
  refine Y.aload_n cx wd (i := 1) rfl rfl dL_law_859 (pc' := 860) rfl ?_
  refine Y.aload_n cx wd (i := 0) rfl rfl dL_law_860 (pc' := 861) rfl ?_
  refine Y.iload cx wd (i := 4) rfl dL_law_861 (pc' := 863) rfl ?_
  refine Y.iconst cx wd dL_law_863 (pc' := 864) rfl ?_
  refine Y.iadd cx wd dL_law_864 (pc' := 865) rfl ?_
  refine Y.sald cx sc dL_law_865 (by omega) (by omega) ⟨by omega, by omega⟩ (pc' := 866) rfl (fun z1 ez1 irz1 => ?_)
  refine Y.aload_n cx wd (i := 0) rfl rfl dL_law_866 (pc' := 867) rfl ?_
  refine Y.iload cx wd (i := 4) rfl dL_law_867 (pc' := 869) rfl ?_
  refine Y.iconst cx wd dL_law_869 (pc' := 870) rfl ?_
  refine Y.iadd cx wd dL_law_870 (pc' := 871) rfl ?_
  refine Y.sald cx sc dL_law_871 (by omega) (by omega) ⟨by omega, by omega⟩ (pc' := 872) rfl (fun z2 ez2 irz2 => ?_)
  refine Y.aload_n cx wd (i := 3) rfl rfl dL_law_872 (pc' := 873) rfl ?_
  refine Y.callSW cx wd (rm := rm_L_speaker) (As := [rf x, vi z1, vi z2, rf o]) (st := []) dL_law_873 ckS_speaker rfl rfl ⟨Nat.le_of_ble_eq_true rfl, Nat.le_of_ble_eq_true rfl⟩ (show kc + 2 ≤ 601024 by omega) (show ks + 12 ≤ 7293034 by omega) (Nat.le_of_ble_eq_true rfl) (pc' := 876) rfl (k_L_speaker hL.1 hL.2.2.1 ⟨by omega, by omega⟩ irz1 irz2) (fun q1 h1 e1 => ?_)
  obtain ⟨r, rfl, hFL, hcs⟩ := e1
  have hM1 : ML h1 m L := hL.2.1.sam (fun q z1 z2 => hFL.2.2 q (by omega) (Or.inr (by omega)) (by omega))
  have hr03 : 0 ≤ r ∧ r ≤ 3 := by
    rcases hcs with z | z
    · have := z.2.1; omega
    · have := py3_rng z.1; omega
  refine Y.istore cx wd (i := 5) (ls' := [some (rf b), some (rf x), some (rf m), some (rf o), some (vi i), some (vi r), none, none, none]) (hd := dL_law_876) (by decide) rfl rfl (pc' := 878) rfl ?_
  refine Y.aload_n cx wd (i := 2) rfl rfl dL_law_878 (pc' := 879) rfl ?_
  refine Y.aload_n cx wd (i := 0) rfl rfl dL_law_879 (pc' := 880) rfl ?_
  refine Y.iload cx wd (i := 4) rfl dL_law_880 (pc' := 882) rfl ?_
  refine Y.iconst cx wd dL_law_882 (pc' := 883) rfl ?_
  refine Y.iadd cx wd dL_law_883 (pc' := 884) rfl ?_
  refine Y.sald cx sc dL_law_884 (by omega) (by omega) ⟨by omega, by omega⟩ (pc' := 885) rfl (fun z9 e9 ir9 => ?_)
  obtain rfl : z1 = z9 := ez1.trans e9.symm
  refine Y.aload_n cx wd (i := 0) rfl rfl dL_law_885 (pc' := 886) rfl ?_
  refine Y.iload cx wd (i := 4) rfl dL_law_886 (pc' := 888) rfl ?_
  refine Y.iconst cx wd dL_law_888 (pc' := 889) rfl ?_
  refine Y.iadd cx wd dL_law_889 (pc' := 890) rfl ?_
  refine Y.sald cx sc dL_law_890 (by omega) (by omega) ⟨by omega, by omega⟩ (pc' := 891) rfl (fun z9 e9 ir9 => ?_)
  obtain rfl : z2 = z9 := ez2.trans e9.symm
  refine Y.callV cx wd (ci := 6) (a := m) (rm := rm_X6_speaker) (As := [vi z1, vi z2]) (st := []) dL_law_891 ck_L_130 rfl (by decide) hM1.1.1 rfl rfl ⟨Nat.le_of_ble_eq_true rfl, Nat.le_of_ble_eq_true rfl⟩ (show kc + 2 + 0 ≤ 601024 by omega) (show ks + 12 + 0 ≤ 7293034 by omega) (Nat.le_of_ble_eq_true rfl) (pc' := 894) rfl (k_X6_speaker hM1 irz1 irz2) (fun q2 h2 e2 => ?_)
  obtain ⟨hFM, v, rfl, hcm⟩ := e2
  refine Y.istore cx wd (i := 6) (ls' := [some (rf b), some (rf x), some (rf m), some (rf o), some (vi i), some (vi r), some (vi v), none, none]) (hd := dL_law_894) (by decide) rfl rfl (pc' := 896) rfl ?_
  refine Y.aload_n cx wd (i := 2) rfl rfl dL_law_896 (pc' := 897) rfl ?_
  refine Y.callV cx wd (ci := 6) (a := m) (rm := rm_X6_thrown) (As := []) (st := []) dL_law_897 ck_L_80 rfl (by decide) (hM1.1.ft hFM).1 rfl rfl ⟨Nat.le_of_ble_eq_true rfl, Nat.le_of_ble_eq_true rfl⟩ (show kc + 2 + 0 + 0 ≤ 601024 by omega) (show ks + 12 + 0 + 0 ≤ 7293034 by omega) (Nat.le_of_ble_eq_true rfl) (pc' := 900) rfl (k_X6_thrown (hM1.1.ft hFM)) (fun q3 h3 e3 => ?_)
  obtain ⟨rfl, t, rfl, ht⟩ := e3
  have key : t = r := by
    rcases hcs with ⟨c1, c2, c3, c4, c5⟩ | ⟨c1, c2⟩ <;> rcases hcm with ⟨d1, d2, d3, d4⟩ | ⟨d1, d2, d3⟩
    · rw [ht, d2, c2]
    · exact (py3_no d1 c1).elim
    · exact (py3_no c1 d1).elim
    · rw [ht]; exact py3_uniq d1 c1
  have hvr : inR v := by
    rcases hcs with ⟨c1, c2, c3, c4, c5⟩ | ⟨c1, c2⟩ <;> rcases hcm with ⟨d1, d2, d3, d4⟩ | ⟨d1, d2, d3⟩
    · rw [d3]; exact c4
    · rw [d2]; exact inR_0
    · exact (py3_no c1 d1).elim
    · rw [d2]; exact inR_0
  obtain ⟨L9, hL9⟩ : ∃ L9, LI h2 x m o lo L9 := by
    have hO2 : mT h2 o = some (12, 1) := by rw [hFM.2.1, hFL.2.1]; exact hL.2.2.1
    rcases hcs with ⟨c1, c2, c3, c4, c5⟩ | ⟨c1, c2⟩ <;> rcases hcm with ⟨d1, d2, d3, d4⟩ | ⟨d1, d2, d3⟩
    · exact ⟨_, c5.fm hFM (by omega), d4, hO2, hlay⟩
    · exact (py3_no d1 c1).elim
    · exact (py3_no c1 d1).elim
    · exact ⟨_, c2.fm hFM (by omega), d3, hO2, hlay⟩
  refine Y.iload cx wd (i := 5) rfl dL_law_900 (pc' := 902) rfl ?_
  refine Y.icmp_eq cx wd (tgt := 907) dL_law_902 ⟨by omega, by omega⟩ ⟨by omega, by omega⟩ (by decide) (pc' := 905) rfl (fun c1 => ?_) (fun c1 => absurd key c1)
  refine Y.iload cx wd (i := 5) rfl dL_law_907 (pc' := 909) rfl ?_
  refine Y.if_ne cx wd (tgt := 924) dL_law_909 ⟨by omega, by omega⟩ (by decide) (pc' := 912) rfl (fun c2 => ?_) (fun c2 => ?_)
  · refine Y.goto cx wd (tgt := 1323) dL_law_924 (by decide) ?_
    refine Y.mask (bs := [true, true, true, true, true, false, false, false, false]) (ls' := [some (rf b), some (rf x), some (rf m), some (rf o), some (vi i), none, none, none, none]) rfl ?_
    exact kk _ _ _ L9 (show kc + 2 + 0 + 0 ≤ kc + 40 by omega) (show ks + 12 + 0 + 0 ≤ ks + 6000 by omega) hL9
  have hv2 : mL h2 o 0 = Int64.ofInt v := by
    rw [hFM.2.2.2.1]
    rcases hcs with ⟨c1, c2, c3, c4, c5⟩ | ⟨c1, c2⟩ <;> rcases hcm with ⟨d1, d2, d3, d4⟩ | ⟨d1, d2, d3⟩
    · rw [c3, d3]
    · exact (py3_no d1 c1).elim
    · exact (py3_no c1 d1).elim
    · have := py3_rng c1; omega
  refine Y.aload_n cx wd (i := 3) rfl rfl dL_law_912 (pc' := 913) rfl ?_
  refine Y.iconst cx wd dL_law_913 (pc' := 914) rfl ?_
  refine Y.lald cx wd dL_law_914 hL9.2.2.1 (by omega) (by omega) ⟨by omega, by omega⟩ hv2 (pc' := 915) rfl ?_
  refine Y.iload cx wd (i := 6) rfl dL_law_915 (pc' := 917) rfl ?_
  refine Y.i2l cx wd hvr dL_law_917 (pc' := 918) rfl ?_
  refine Y.lcmp cx wd dL_law_918 (pc' := 919) rfl (fun _ => ?_) (fun ne => absurd rfl ne)
  refine Y.if_eq cx wd (tgt := 924) dL_law_919 ⟨by omega, by omega⟩ (by decide) (pc' := 922) rfl (fun _ => ?_) (fun ne => absurd rfl ne)
  refine Y.goto cx wd (tgt := 1323) dL_law_924 (by decide) ?_
  refine Y.mask (bs := [true, true, true, true, true, false, false, false, false]) (ls' := [some (rf b), some (rf x), some (rf m), some (rf o), some (vi i), none, none, none, none]) rfl ?_
  exact kk _ _ _ L9 (show kc + 2 + 0 + 0 ≤ kc + 40 by omega) (show ks + 12 + 0 + 0 ≤ ks + 6000 by omega) hL9
set_option maxHeartbeats 4000000 in
set_option maxRecDepth 100000 in
theorem y_message {Ω : xO} {Q : State → Prop} {p : Program} {e : Env} {s : State} {m0 : MethodId} {args : Array Value} {below : List Frame} {meth : Method} {c : Code} {kc ks b Ls x m o lo : Nat} {xs : Nat → Int32} {i : Int} {h : xM} {L : lS} (cx : yCx RL cL_law 9 (some .boolean) p s m0 args meth c) (wd : xWd Ω s) (sc : yScr Ω s b Ls xs) (hi : 0 ≤ i ∧ i + 4 ≤ Ls ∧ Ls ≤ 2048) (hL : LI h x m o lo L) (hkc : kc + 40 ≤ 601024) (hks : ks + 6000 ≤ 7293034)
    (kk : ∀ (kc' ks' : Nat) (h' : xM) (L' : lS), kc' ≤ kc + 40 → ks' ≤ ks + 6000 → LI h' x m o lo L' → Y Ω room_1 Q p e s m0 args below meth c 9 kc' ks' 1323 [some (rf b), some (rf x), some (rf m), some (rf o), some (vi i), none, none, none, none] [] h') : Y Ω room_1 Q p e s m0 args below meth c 9 kc ks 927 [some (rf b), some (rf x), some (rf m), some (rf o), some (vi i), none, none, none, none] [] h := by
  have hlay := hL.2.2.2
  refine Y.aload_n cx wd (i := 1) rfl rfl dL_law_927 (pc' := 928) rfl ?_
  refine Y.aload_n cx wd (i := 0) rfl rfl dL_law_928 (pc' := 929) rfl ?_
  refine Y.iload cx wd (i := 4) rfl dL_law_929 (pc' := 931) rfl ?_
  refine Y.iconst cx wd dL_law_931 (pc' := 932) rfl ?_
  refine Y.iadd cx wd dL_law_932 (pc' := 933) rfl ?_
  refine Y.sald cx sc dL_law_933 (by omega) (by omega) ⟨by omega, by omega⟩ (pc' := 934) rfl (fun z1 ez1 irz1 => ?_)
  refine Y.aload_n cx wd (i := 0) rfl rfl dL_law_934 (pc' := 935) rfl ?_
  refine Y.iload cx wd (i := 4) rfl dL_law_935 (pc' := 937) rfl ?_
  refine Y.iconst cx wd dL_law_937 (pc' := 938) rfl ?_
  refine Y.iadd cx wd dL_law_938 (pc' := 939) rfl ?_
  refine Y.sald cx sc dL_law_939 (by omega) (by omega) ⟨by omega, by omega⟩ (pc' := 940) rfl (fun z2 ez2 irz2 => ?_)
  refine Y.aload_n cx wd (i := 0) rfl rfl dL_law_940 (pc' := 941) rfl ?_
  refine Y.iload cx wd (i := 4) rfl dL_law_941 (pc' := 943) rfl ?_
  refine Y.iconst cx wd dL_law_943 (pc' := 944) rfl ?_
  refine Y.iadd cx wd dL_law_944 (pc' := 945) rfl ?_
  refine Y.sald cx sc dL_law_945 (by omega) (by omega) ⟨by omega, by omega⟩ (pc' := 946) rfl (fun z3 ez3 irz3 => ?_)
  refine Y.aload_n cx wd (i := 3) rfl rfl dL_law_946 (pc' := 947) rfl ?_
  refine Y.callSW cx wd (rm := rm_L_message) (As := [rf x, vi z1, vi z2, vi z3, rf o]) (st := []) dL_law_947 ckS_message rfl rfl ⟨Nat.le_of_ble_eq_true rfl, Nat.le_of_ble_eq_true rfl⟩ (show kc + 3 ≤ 601024 by omega) (show ks + 18 ≤ 7293034 by omega) (Nat.le_of_ble_eq_true rfl) (pc' := 950) rfl (k_L_message hL.1 hL.2.2.1 ⟨by omega, by omega⟩ irz1 irz2 irz3) (fun q1 h1 e1 => ?_)
  obtain ⟨r, rfl, hFL, hcs⟩ := e1
  have hM1 : ML h1 m L := hL.2.1.sam (fun q z1 z2 => hFL.2.2 q (by omega) (Or.inr (by omega)) (by omega))
  have hr03 : 0 ≤ r ∧ r ≤ 3 := by
    rcases hcs with z | z
    · have := z.2.1; omega
    · have := py3_rng z.1; omega
  refine Y.istore cx wd (i := 5) (ls' := [some (rf b), some (rf x), some (rf m), some (rf o), some (vi i), some (vi r), none, none, none]) (hd := dL_law_950) (by decide) rfl rfl (pc' := 952) rfl ?_
  refine Y.aload_n cx wd (i := 2) rfl rfl dL_law_952 (pc' := 953) rfl ?_
  refine Y.aload_n cx wd (i := 0) rfl rfl dL_law_953 (pc' := 954) rfl ?_
  refine Y.iload cx wd (i := 4) rfl dL_law_954 (pc' := 956) rfl ?_
  refine Y.iconst cx wd dL_law_956 (pc' := 957) rfl ?_
  refine Y.iadd cx wd dL_law_957 (pc' := 958) rfl ?_
  refine Y.sald cx sc dL_law_958 (by omega) (by omega) ⟨by omega, by omega⟩ (pc' := 959) rfl (fun z9 e9 ir9 => ?_)
  obtain rfl : z1 = z9 := ez1.trans e9.symm
  refine Y.aload_n cx wd (i := 0) rfl rfl dL_law_959 (pc' := 960) rfl ?_
  refine Y.iload cx wd (i := 4) rfl dL_law_960 (pc' := 962) rfl ?_
  refine Y.iconst cx wd dL_law_962 (pc' := 963) rfl ?_
  refine Y.iadd cx wd dL_law_963 (pc' := 964) rfl ?_
  refine Y.sald cx sc dL_law_964 (by omega) (by omega) ⟨by omega, by omega⟩ (pc' := 965) rfl (fun z9 e9 ir9 => ?_)
  obtain rfl : z2 = z9 := ez2.trans e9.symm
  refine Y.aload_n cx wd (i := 0) rfl rfl dL_law_965 (pc' := 966) rfl ?_
  refine Y.iload cx wd (i := 4) rfl dL_law_966 (pc' := 968) rfl ?_
  refine Y.iconst cx wd dL_law_968 (pc' := 969) rfl ?_
  refine Y.iadd cx wd dL_law_969 (pc' := 970) rfl ?_
  refine Y.sald cx sc dL_law_970 (by omega) (by omega) ⟨by omega, by omega⟩ (pc' := 971) rfl (fun z9 e9 ir9 => ?_)
  obtain rfl : z3 = z9 := ez3.trans e9.symm
  refine Y.callV cx wd (ci := 6) (a := m) (rm := rm_X6_message) (As := [vi z1, vi z2, vi z3]) (st := []) dL_law_971 ck_L_133 rfl (by decide) hM1.1.1 rfl rfl ⟨Nat.le_of_ble_eq_true rfl, Nat.le_of_ble_eq_true rfl⟩ (show kc + 3 + 0 ≤ 601024 by omega) (show ks + 18 + 0 ≤ 7293034 by omega) (Nat.le_of_ble_eq_true rfl) (pc' := 974) rfl (k_X6_message hM1 irz1 irz2 irz3) (fun q2 h2 e2 => ?_)
  obtain ⟨hFM, v, rfl, hcm⟩ := e2
  refine Y.istore cx wd (i := 6) (ls' := [some (rf b), some (rf x), some (rf m), some (rf o), some (vi i), some (vi r), some (vi v), none, none]) (hd := dL_law_974) (by decide) rfl rfl (pc' := 976) rfl ?_
  refine Y.aload_n cx wd (i := 2) rfl rfl dL_law_976 (pc' := 977) rfl ?_
  refine Y.callV cx wd (ci := 6) (a := m) (rm := rm_X6_thrown) (As := []) (st := []) dL_law_977 ck_L_80 rfl (by decide) (hM1.1.ft hFM).1 rfl rfl ⟨Nat.le_of_ble_eq_true rfl, Nat.le_of_ble_eq_true rfl⟩ (show kc + 3 + 0 + 0 ≤ 601024 by omega) (show ks + 18 + 0 + 0 ≤ 7293034 by omega) (Nat.le_of_ble_eq_true rfl) (pc' := 980) rfl (k_X6_thrown (hM1.1.ft hFM)) (fun q3 h3 e3 => ?_)
  obtain ⟨rfl, t, rfl, ht⟩ := e3
  have key : t = r := by
    rcases hcs with ⟨c1, c2, c3, c4, c5⟩ | ⟨c1, c2⟩ <;> rcases hcm with ⟨d1, d2, d3, d4⟩ | ⟨d1, d2, d3⟩
    · rw [ht, d2, c2]
    · exact (py3_no d1 c1).elim
    · exact (py3_no c1 d1).elim
    · rw [ht]; exact py3_uniq d1 c1
  have hvr : inR v := by
    rcases hcs with ⟨c1, c2, c3, c4, c5⟩ | ⟨c1, c2⟩ <;> rcases hcm with ⟨d1, d2, d3, d4⟩ | ⟨d1, d2, d3⟩
    · rw [d3]; exact c4
    · rw [d2]; exact inR_0
    · exact (py3_no c1 d1).elim
    · rw [d2]; exact inR_0
  obtain ⟨L9, hL9⟩ : ∃ L9, LI h2 x m o lo L9 := by
    have hO2 : mT h2 o = some (12, 1) := by rw [hFM.2.1, hFL.2.1]; exact hL.2.2.1
    rcases hcs with ⟨c1, c2, c3, c4, c5⟩ | ⟨c1, c2⟩ <;> rcases hcm with ⟨d1, d2, d3, d4⟩ | ⟨d1, d2, d3⟩
    · exact ⟨_, c5.fm hFM (by omega), d4, hO2, hlay⟩
    · exact (py3_no d1 c1).elim
    · exact (py3_no c1 d1).elim
    · exact ⟨_, c2.fm hFM (by omega), d3, hO2, hlay⟩
  refine Y.iload cx wd (i := 5) rfl dL_law_980 (pc' := 982) rfl ?_
  refine Y.icmp_eq cx wd (tgt := 987) dL_law_982 ⟨by omega, by omega⟩ ⟨by omega, by omega⟩ (by decide) (pc' := 985) rfl (fun c1 => ?_) (fun c1 => absurd key c1)
  refine Y.iload cx wd (i := 5) rfl dL_law_987 (pc' := 989) rfl ?_
  refine Y.if_ne cx wd (tgt := 1004) dL_law_989 ⟨by omega, by omega⟩ (by decide) (pc' := 992) rfl (fun c2 => ?_) (fun c2 => ?_)
  · refine Y.goto cx wd (tgt := 1323) dL_law_1004 (by decide) ?_
    refine Y.mask (bs := [true, true, true, true, true, false, false, false, false]) (ls' := [some (rf b), some (rf x), some (rf m), some (rf o), some (vi i), none, none, none, none]) rfl ?_
    exact kk _ _ _ L9 (show kc + 3 + 0 + 0 ≤ kc + 40 by omega) (show ks + 18 + 0 + 0 ≤ ks + 6000 by omega) hL9
  have hv2 : mL h2 o 0 = Int64.ofInt v := by
    rw [hFM.2.2.2.1]
    rcases hcs with ⟨c1, c2, c3, c4, c5⟩ | ⟨c1, c2⟩ <;> rcases hcm with ⟨d1, d2, d3, d4⟩ | ⟨d1, d2, d3⟩
    · rw [c3, d3]
    · exact (py3_no d1 c1).elim
    · exact (py3_no c1 d1).elim
    · have := py3_rng c1; omega
  refine Y.aload_n cx wd (i := 3) rfl rfl dL_law_992 (pc' := 993) rfl ?_
  refine Y.iconst cx wd dL_law_993 (pc' := 994) rfl ?_
  refine Y.lald cx wd dL_law_994 hL9.2.2.1 (by omega) (by omega) ⟨by omega, by omega⟩ hv2 (pc' := 995) rfl ?_
  refine Y.iload cx wd (i := 6) rfl dL_law_995 (pc' := 997) rfl ?_
  refine Y.i2l cx wd hvr dL_law_997 (pc' := 998) rfl ?_
  refine Y.lcmp cx wd dL_law_998 (pc' := 999) rfl (fun _ => ?_) (fun ne => absurd rfl ne)
  refine Y.if_eq cx wd (tgt := 1004) dL_law_999 ⟨by omega, by omega⟩ (by decide) (pc' := 1002) rfl (fun _ => ?_) (fun ne => absurd rfl ne)
  refine Y.goto cx wd (tgt := 1323) dL_law_1004 (by decide) ?_
  refine Y.mask (bs := [true, true, true, true, true, false, false, false, false]) (ls' := [some (rf b), some (rf x), some (rf m), some (rf o), some (vi i), none, none, none, none]) rfl ?_
  exact kk _ _ _ L9 (show kc + 3 + 0 + 0 ≤ kc + 40 by omega) (show ks + 18 + 0 + 0 ≤ ks + 6000 by omega) hL9
set_option maxHeartbeats 4000000 in
set_option maxRecDepth 100000 in
theorem y_count {Ω : xO} {Q : State → Prop} {p : Program} {e : Env} {s : State} {m0 : MethodId} {args : Array Value} {below : List Frame} {meth : Method} {c : Code} {kc ks b Ls x m o lo : Nat} {xs : Nat → Int32} {i : Int} {h : xM} {L : lS} (cx : yCx RL cL_law 9 (some .boolean) p s m0 args meth c) (wd : xWd Ω s) (sc : yScr Ω s b Ls xs) (hi : 0 ≤ i ∧ i + 4 ≤ Ls ∧ Ls ≤ 2048) (hL : LI h x m o lo L) (hkc : kc + 40 ≤ 601024) (hks : ks + 6000 ≤ 7293034)
    (kk : ∀ (kc' ks' : Nat) (h' : xM) (L' : lS), kc' ≤ kc + 40 → ks' ≤ ks + 6000 → LI h' x m o lo L' → Y Ω room_1 Q p e s m0 args below meth c 9 kc' ks' 1323 [some (rf b), some (rf x), some (rf m), some (rf o), some (vi i), none, none, none, none] [] h') : Y Ω room_1 Q p e s m0 args below meth c 9 kc ks 1007 [some (rf b), some (rf x), some (rf m), some (rf o), some (vi i), none, none, none, none] [] h := by
  have hlay := hL.2.2.2
  refine Y.aload_n cx wd (i := 1) rfl rfl dL_law_1007 (pc' := 1008) rfl ?_
  refine Y.aload_n cx wd (i := 0) rfl rfl dL_law_1008 (pc' := 1009) rfl ?_
  refine Y.iload cx wd (i := 4) rfl dL_law_1009 (pc' := 1011) rfl ?_
  refine Y.iconst cx wd dL_law_1011 (pc' := 1012) rfl ?_
  refine Y.iadd cx wd dL_law_1012 (pc' := 1013) rfl ?_
  refine Y.sald cx sc dL_law_1013 (by omega) (by omega) ⟨by omega, by omega⟩ (pc' := 1014) rfl (fun z1 ez1 irz1 => ?_)
  refine Y.aload_n cx wd (i := 3) rfl rfl dL_law_1014 (pc' := 1015) rfl ?_
  refine Y.callSW cx wd (rm := rm_L_count) (As := [rf x, vi z1, rf o]) (st := []) dL_law_1015 ckS_count rfl rfl ⟨Nat.le_of_ble_eq_true rfl, Nat.le_of_ble_eq_true rfl⟩ (show kc + 1 ≤ 601024 by omega) (show ks + 6 ≤ 7293034 by omega) (Nat.le_of_ble_eq_true rfl) (pc' := 1018) rfl (k_L_count hL.1 hL.2.2.1 ⟨by omega, by omega⟩ irz1) (fun q1 h1 e1 => ?_)
  obtain ⟨r, rfl, hFL, hcs⟩ := e1
  have hM1 : ML h1 m L := hL.2.1.sam (fun q z1 z2 => hFL.2.2 q (by omega) (Or.inr (by omega)) (by omega))
  have hr03 : 0 ≤ r ∧ r ≤ 3 := by
    rcases hcs with z | z
    · have := z.2.1; omega
    · have := py3_rng z.1; omega
  refine Y.istore cx wd (i := 5) (ls' := [some (rf b), some (rf x), some (rf m), some (rf o), some (vi i), some (vi r), none, none, none]) (hd := dL_law_1018) (by decide) rfl rfl (pc' := 1020) rfl ?_
  refine Y.aload_n cx wd (i := 2) rfl rfl dL_law_1020 (pc' := 1021) rfl ?_
  refine Y.aload_n cx wd (i := 0) rfl rfl dL_law_1021 (pc' := 1022) rfl ?_
  refine Y.iload cx wd (i := 4) rfl dL_law_1022 (pc' := 1024) rfl ?_
  refine Y.iconst cx wd dL_law_1024 (pc' := 1025) rfl ?_
  refine Y.iadd cx wd dL_law_1025 (pc' := 1026) rfl ?_
  refine Y.sald cx sc dL_law_1026 (by omega) (by omega) ⟨by omega, by omega⟩ (pc' := 1027) rfl (fun z9 e9 ir9 => ?_)
  obtain rfl : z1 = z9 := ez1.trans e9.symm
  refine Y.callV cx wd (ci := 6) (a := m) (rm := rm_X6_count) (As := [vi z1]) (st := []) dL_law_1027 ck_L_136 rfl (by decide) hM1.1.1 rfl rfl ⟨Nat.le_of_ble_eq_true rfl, Nat.le_of_ble_eq_true rfl⟩ (show kc + 1 + 0 ≤ 601024 by omega) (show ks + 6 + 0 ≤ 7293034 by omega) (Nat.le_of_ble_eq_true rfl) (pc' := 1030) rfl (k_X6_count hM1 irz1) (fun q2 h2 e2 => ?_)
  obtain ⟨hFM, v, rfl, hcm⟩ := e2
  refine Y.istore cx wd (i := 6) (ls' := [some (rf b), some (rf x), some (rf m), some (rf o), some (vi i), some (vi r), some (vi v), none, none]) (hd := dL_law_1030) (by decide) rfl rfl (pc' := 1032) rfl ?_
  refine Y.aload_n cx wd (i := 2) rfl rfl dL_law_1032 (pc' := 1033) rfl ?_
  refine Y.callV cx wd (ci := 6) (a := m) (rm := rm_X6_thrown) (As := []) (st := []) dL_law_1033 ck_L_80 rfl (by decide) (hM1.1.ft hFM).1 rfl rfl ⟨Nat.le_of_ble_eq_true rfl, Nat.le_of_ble_eq_true rfl⟩ (show kc + 1 + 0 + 0 ≤ 601024 by omega) (show ks + 6 + 0 + 0 ≤ 7293034 by omega) (Nat.le_of_ble_eq_true rfl) (pc' := 1036) rfl (k_X6_thrown (hM1.1.ft hFM)) (fun q3 h3 e3 => ?_)
  obtain ⟨rfl, t, rfl, ht⟩ := e3
  have key : t = r := by
    rcases hcs with ⟨c1, c2, c3, c4, c5⟩ | ⟨c1, c2⟩ <;> rcases hcm with ⟨d1, d2, d3, d4⟩ | ⟨d1, d2, d3⟩
    · rw [ht, d2, c2]
    · exact (py3_no d1 c1).elim
    · exact (py3_no c1 d1).elim
    · rw [ht]; exact py3_uniq d1 c1
  have hvr : inR v := by
    rcases hcs with ⟨c1, c2, c3, c4, c5⟩ | ⟨c1, c2⟩ <;> rcases hcm with ⟨d1, d2, d3, d4⟩ | ⟨d1, d2, d3⟩
    · rw [d3]; exact c4
    · rw [d2]; exact inR_0
    · exact (py3_no c1 d1).elim
    · rw [d2]; exact inR_0
  obtain ⟨L9, hL9⟩ : ∃ L9, LI h2 x m o lo L9 := by
    have hO2 : mT h2 o = some (12, 1) := by rw [hFM.2.1, hFL.2.1]; exact hL.2.2.1
    rcases hcs with ⟨c1, c2, c3, c4, c5⟩ | ⟨c1, c2⟩ <;> rcases hcm with ⟨d1, d2, d3, d4⟩ | ⟨d1, d2, d3⟩
    · exact ⟨_, c5.fm hFM (by omega), d4, hO2, hlay⟩
    · exact (py3_no d1 c1).elim
    · exact (py3_no c1 d1).elim
    · exact ⟨_, c2.fm hFM (by omega), d3, hO2, hlay⟩
  refine Y.iload cx wd (i := 5) rfl dL_law_1036 (pc' := 1038) rfl ?_
  refine Y.icmp_eq cx wd (tgt := 1043) dL_law_1038 ⟨by omega, by omega⟩ ⟨by omega, by omega⟩ (by decide) (pc' := 1041) rfl (fun c1 => ?_) (fun c1 => absurd key c1)
  refine Y.iload cx wd (i := 5) rfl dL_law_1043 (pc' := 1045) rfl ?_
  refine Y.if_ne cx wd (tgt := 1060) dL_law_1045 ⟨by omega, by omega⟩ (by decide) (pc' := 1048) rfl (fun c2 => ?_) (fun c2 => ?_)
  · refine Y.goto cx wd (tgt := 1323) dL_law_1060 (by decide) ?_
    refine Y.mask (bs := [true, true, true, true, true, false, false, false, false]) (ls' := [some (rf b), some (rf x), some (rf m), some (rf o), some (vi i), none, none, none, none]) rfl ?_
    exact kk _ _ _ L9 (show kc + 1 + 0 + 0 ≤ kc + 40 by omega) (show ks + 6 + 0 + 0 ≤ ks + 6000 by omega) hL9
  have hv2 : mL h2 o 0 = Int64.ofInt v := by
    rw [hFM.2.2.2.1]
    rcases hcs with ⟨c1, c2, c3, c4, c5⟩ | ⟨c1, c2⟩ <;> rcases hcm with ⟨d1, d2, d3, d4⟩ | ⟨d1, d2, d3⟩
    · rw [c3, d3]
    · exact (py3_no d1 c1).elim
    · exact (py3_no c1 d1).elim
    · have := py3_rng c1; omega
  refine Y.aload_n cx wd (i := 3) rfl rfl dL_law_1048 (pc' := 1049) rfl ?_
  refine Y.iconst cx wd dL_law_1049 (pc' := 1050) rfl ?_
  refine Y.lald cx wd dL_law_1050 hL9.2.2.1 (by omega) (by omega) ⟨by omega, by omega⟩ hv2 (pc' := 1051) rfl ?_
  refine Y.iload cx wd (i := 6) rfl dL_law_1051 (pc' := 1053) rfl ?_
  refine Y.i2l cx wd hvr dL_law_1053 (pc' := 1054) rfl ?_
  refine Y.lcmp cx wd dL_law_1054 (pc' := 1055) rfl (fun _ => ?_) (fun ne => absurd rfl ne)
  refine Y.if_eq cx wd (tgt := 1060) dL_law_1055 ⟨by omega, by omega⟩ (by decide) (pc' := 1058) rfl (fun _ => ?_) (fun ne => absurd rfl ne)
  refine Y.goto cx wd (tgt := 1323) dL_law_1060 (by decide) ?_
  refine Y.mask (bs := [true, true, true, true, true, false, false, false, false]) (ls' := [some (rf b), some (rf x), some (rf m), some (rf o), some (vi i), none, none, none, none]) rfl ?_
  exact kk _ _ _ L9 (show kc + 1 + 0 + 0 ≤ kc + 40 by omega) (show ks + 6 + 0 + 0 ≤ ks + 6000 by omega) hL9
set_option maxHeartbeats 4000000 in
set_option maxRecDepth 100000 in
theorem y_whyNot {Ω : xO} {Q : State → Prop} {p : Program} {e : Env} {s : State} {m0 : MethodId} {args : Array Value} {below : List Frame} {meth : Method} {c : Code} {kc ks b Ls x m o lo : Nat} {xs : Nat → Int32} {i : Int} {h : xM} {L : lS} (cx : yCx RL cL_law 9 (some .boolean) p s m0 args meth c) (wd : xWd Ω s) (sc : yScr Ω s b Ls xs) (hi : 0 ≤ i ∧ i + 4 ≤ Ls ∧ Ls ≤ 2048) (hL : LI h x m o lo L) (hkc : kc + 40 ≤ 601024) (hks : ks + 6000 ≤ 7293034)
    (kk : ∀ (kc' ks' : Nat) (h' : xM) (L' : lS), kc' ≤ kc + 40 → ks' ≤ ks + 6000 → LI h' x m o lo L' → Y Ω room_1 Q p e s m0 args below meth c 9 kc' ks' 1323 [some (rf b), some (rf x), some (rf m), some (rf o), some (vi i), none, none, none, none] [] h') : Y Ω room_1 Q p e s m0 args below meth c 9 kc ks 1063 [some (rf b), some (rf x), some (rf m), some (rf o), some (vi i), none, none, none, none] [] h := by
  have hlay := hL.2.2.2
  refine Y.aload_n cx wd (i := 1) rfl rfl dL_law_1063 (pc' := 1064) rfl ?_
  refine Y.aload_n cx wd (i := 0) rfl rfl dL_law_1064 (pc' := 1065) rfl ?_
  refine Y.iload cx wd (i := 4) rfl dL_law_1065 (pc' := 1067) rfl ?_
  refine Y.iconst cx wd dL_law_1067 (pc' := 1068) rfl ?_
  refine Y.iadd cx wd dL_law_1068 (pc' := 1069) rfl ?_
  refine Y.sald cx sc dL_law_1069 (by omega) (by omega) ⟨by omega, by omega⟩ (pc' := 1070) rfl (fun z1 ez1 irz1 => ?_)
  refine Y.aload_n cx wd (i := 0) rfl rfl dL_law_1070 (pc' := 1071) rfl ?_
  refine Y.iload cx wd (i := 4) rfl dL_law_1071 (pc' := 1073) rfl ?_
  refine Y.iconst cx wd dL_law_1073 (pc' := 1074) rfl ?_
  refine Y.iadd cx wd dL_law_1074 (pc' := 1075) rfl ?_
  refine Y.sald cx sc dL_law_1075 (by omega) (by omega) ⟨by omega, by omega⟩ (pc' := 1076) rfl (fun z2 ez2 irz2 => ?_)
  refine Y.aload_n cx wd (i := 3) rfl rfl dL_law_1076 (pc' := 1077) rfl ?_
  refine Y.callSW cx wd (rm := rm_L_whyNot) (As := [rf x, vi z1, vi z2, rf o]) (st := []) dL_law_1077 ckS_whyNot rfl rfl ⟨Nat.le_of_ble_eq_true rfl, Nat.le_of_ble_eq_true rfl⟩ (show kc + 2 ≤ 601024 by omega) (show ks + 12 ≤ 7293034 by omega) (Nat.le_of_ble_eq_true rfl) (pc' := 1080) rfl (k_L_whyNot hL.1 hL.2.2.1 ⟨by omega, by omega⟩ irz1 irz2) (fun q1 h1 e1 => ?_)
  obtain ⟨r, rfl, hFL, hcs⟩ := e1
  have hM1 : ML h1 m L := hL.2.1.sam (fun q z1 z2 => hFL.2.2 q (by omega) (Or.inr (by omega)) (by omega))
  have hr03 : 0 ≤ r ∧ r ≤ 3 := by
    rcases hcs with z | z
    · have := z.2.1; omega
    · have := py3_rng z.1; omega
  refine Y.istore cx wd (i := 5) (ls' := [some (rf b), some (rf x), some (rf m), some (rf o), some (vi i), some (vi r), none, none, none]) (hd := dL_law_1080) (by decide) rfl rfl (pc' := 1082) rfl ?_
  refine Y.aload_n cx wd (i := 2) rfl rfl dL_law_1082 (pc' := 1083) rfl ?_
  refine Y.aload_n cx wd (i := 0) rfl rfl dL_law_1083 (pc' := 1084) rfl ?_
  refine Y.iload cx wd (i := 4) rfl dL_law_1084 (pc' := 1086) rfl ?_
  refine Y.iconst cx wd dL_law_1086 (pc' := 1087) rfl ?_
  refine Y.iadd cx wd dL_law_1087 (pc' := 1088) rfl ?_
  refine Y.sald cx sc dL_law_1088 (by omega) (by omega) ⟨by omega, by omega⟩ (pc' := 1089) rfl (fun z9 e9 ir9 => ?_)
  obtain rfl : z1 = z9 := ez1.trans e9.symm
  refine Y.aload_n cx wd (i := 0) rfl rfl dL_law_1089 (pc' := 1090) rfl ?_
  refine Y.iload cx wd (i := 4) rfl dL_law_1090 (pc' := 1092) rfl ?_
  refine Y.iconst cx wd dL_law_1092 (pc' := 1093) rfl ?_
  refine Y.iadd cx wd dL_law_1093 (pc' := 1094) rfl ?_
  refine Y.sald cx sc dL_law_1094 (by omega) (by omega) ⟨by omega, by omega⟩ (pc' := 1095) rfl (fun z9 e9 ir9 => ?_)
  obtain rfl : z2 = z9 := ez2.trans e9.symm
  refine Y.callV cx wd (ci := 6) (a := m) (rm := rm_X6_whyNot) (As := [vi z1, vi z2]) (st := []) dL_law_1095 ck_L_139 rfl (by decide) hM1.1.1 rfl rfl ⟨Nat.le_of_ble_eq_true rfl, Nat.le_of_ble_eq_true rfl⟩ (show kc + 2 + 0 ≤ 601024 by omega) (show ks + 12 + 0 ≤ 7293034 by omega) (Nat.le_of_ble_eq_true rfl) (pc' := 1098) rfl (k_X6_whyNot hM1 irz1 irz2) (fun q2 h2 e2 => ?_)
  obtain ⟨hFM, v, rfl, hcm⟩ := e2
  refine Y.istore cx wd (i := 6) (ls' := [some (rf b), some (rf x), some (rf m), some (rf o), some (vi i), some (vi r), some (vi v), none, none]) (hd := dL_law_1098) (by decide) rfl rfl (pc' := 1100) rfl ?_
  refine Y.aload_n cx wd (i := 2) rfl rfl dL_law_1100 (pc' := 1101) rfl ?_
  refine Y.callV cx wd (ci := 6) (a := m) (rm := rm_X6_thrown) (As := []) (st := []) dL_law_1101 ck_L_80 rfl (by decide) (hM1.1.ft hFM).1 rfl rfl ⟨Nat.le_of_ble_eq_true rfl, Nat.le_of_ble_eq_true rfl⟩ (show kc + 2 + 0 + 0 ≤ 601024 by omega) (show ks + 12 + 0 + 0 ≤ 7293034 by omega) (Nat.le_of_ble_eq_true rfl) (pc' := 1104) rfl (k_X6_thrown (hM1.1.ft hFM)) (fun q3 h3 e3 => ?_)
  obtain ⟨rfl, t, rfl, ht⟩ := e3
  have key : t = r := by
    rcases hcs with ⟨c1, c2, c3, c4, c5⟩ | ⟨c1, c2⟩ <;> rcases hcm with ⟨d1, d2, d3, d4⟩ | ⟨d1, d2, d3⟩
    · rw [ht, d2, c2]
    · exact (py3_no d1 c1).elim
    · exact (py3_no c1 d1).elim
    · rw [ht]; exact py3_uniq d1 c1
  have hvr : inR v := by
    rcases hcs with ⟨c1, c2, c3, c4, c5⟩ | ⟨c1, c2⟩ <;> rcases hcm with ⟨d1, d2, d3, d4⟩ | ⟨d1, d2, d3⟩
    · rw [d3]; exact c4
    · rw [d2]; exact inR_0
    · exact (py3_no c1 d1).elim
    · rw [d2]; exact inR_0
  obtain ⟨L9, hL9⟩ : ∃ L9, LI h2 x m o lo L9 := by
    have hO2 : mT h2 o = some (12, 1) := by rw [hFM.2.1, hFL.2.1]; exact hL.2.2.1
    rcases hcs with ⟨c1, c2, c3, c4, c5⟩ | ⟨c1, c2⟩ <;> rcases hcm with ⟨d1, d2, d3, d4⟩ | ⟨d1, d2, d3⟩
    · exact ⟨_, c5.fm hFM (by omega), d4, hO2, hlay⟩
    · exact (py3_no d1 c1).elim
    · exact (py3_no c1 d1).elim
    · exact ⟨_, c2.fm hFM (by omega), d3, hO2, hlay⟩
  refine Y.iload cx wd (i := 5) rfl dL_law_1104 (pc' := 1106) rfl ?_
  refine Y.icmp_eq cx wd (tgt := 1111) dL_law_1106 ⟨by omega, by omega⟩ ⟨by omega, by omega⟩ (by decide) (pc' := 1109) rfl (fun c1 => ?_) (fun c1 => absurd key c1)
  refine Y.iload cx wd (i := 5) rfl dL_law_1111 (pc' := 1113) rfl ?_
  refine Y.if_ne cx wd (tgt := 1128) dL_law_1113 ⟨by omega, by omega⟩ (by decide) (pc' := 1116) rfl (fun c2 => ?_) (fun c2 => ?_)
  · refine Y.goto cx wd (tgt := 1323) dL_law_1128 (by decide) ?_
    refine Y.mask (bs := [true, true, true, true, true, false, false, false, false]) (ls' := [some (rf b), some (rf x), some (rf m), some (rf o), some (vi i), none, none, none, none]) rfl ?_
    exact kk _ _ _ L9 (show kc + 2 + 0 + 0 ≤ kc + 40 by omega) (show ks + 12 + 0 + 0 ≤ ks + 6000 by omega) hL9
  have hv2 : mL h2 o 0 = Int64.ofInt v := by
    rw [hFM.2.2.2.1]
    rcases hcs with ⟨c1, c2, c3, c4, c5⟩ | ⟨c1, c2⟩ <;> rcases hcm with ⟨d1, d2, d3, d4⟩ | ⟨d1, d2, d3⟩
    · rw [c3, d3]
    · exact (py3_no d1 c1).elim
    · exact (py3_no c1 d1).elim
    · have := py3_rng c1; omega
  refine Y.aload_n cx wd (i := 3) rfl rfl dL_law_1116 (pc' := 1117) rfl ?_
  refine Y.iconst cx wd dL_law_1117 (pc' := 1118) rfl ?_
  refine Y.lald cx wd dL_law_1118 hL9.2.2.1 (by omega) (by omega) ⟨by omega, by omega⟩ hv2 (pc' := 1119) rfl ?_
  refine Y.iload cx wd (i := 6) rfl dL_law_1119 (pc' := 1121) rfl ?_
  refine Y.i2l cx wd hvr dL_law_1121 (pc' := 1122) rfl ?_
  refine Y.lcmp cx wd dL_law_1122 (pc' := 1123) rfl (fun _ => ?_) (fun ne => absurd rfl ne)
  refine Y.if_eq cx wd (tgt := 1128) dL_law_1123 ⟨by omega, by omega⟩ (by decide) (pc' := 1126) rfl (fun _ => ?_) (fun ne => absurd rfl ne)
  refine Y.goto cx wd (tgt := 1323) dL_law_1128 (by decide) ?_
  refine Y.mask (bs := [true, true, true, true, true, false, false, false, false]) (ls' := [some (rf b), some (rf x), some (rf m), some (rf o), some (vi i), none, none, none, none]) rfl ?_
  exact kk _ _ _ L9 (show kc + 2 + 0 + 0 ≤ kc + 40 by omega) (show ks + 12 + 0 + 0 ≤ ks + 6000 by omega) hL9
set_option maxHeartbeats 4000000 in
set_option maxRecDepth 100000 in
theorem y_ifSilent {Ω : xO} {Q : State → Prop} {p : Program} {e : Env} {s : State} {m0 : MethodId} {args : Array Value} {below : List Frame} {meth : Method} {c : Code} {kc ks b Ls x m o lo : Nat} {xs : Nat → Int32} {i : Int} {h : xM} {L : lS} (cx : yCx RL cL_law 9 (some .boolean) p s m0 args meth c) (wd : xWd Ω s) (sc : yScr Ω s b Ls xs) (hi : 0 ≤ i ∧ i + 4 ≤ Ls ∧ Ls ≤ 2048) (hL : LI h x m o lo L) (hkc : kc + 40 ≤ 601024) (hks : ks + 6000 ≤ 7293034)
    (kk : ∀ (kc' ks' : Nat) (h' : xM) (L' : lS), kc' ≤ kc + 40 → ks' ≤ ks + 6000 → LI h' x m o lo L' → Y Ω room_1 Q p e s m0 args below meth c 9 kc' ks' 1323 [some (rf b), some (rf x), some (rf m), some (rf o), some (vi i), none, none, none, none] [] h') : Y Ω room_1 Q p e s m0 args below meth c 9 kc ks 1131 [some (rf b), some (rf x), some (rf m), some (rf o), some (vi i), none, none, none, none] [] h := by
  have hlay := hL.2.2.2
  refine Y.aload_n cx wd (i := 1) rfl rfl dL_law_1131 (pc' := 1132) rfl ?_
  refine Y.aload_n cx wd (i := 0) rfl rfl dL_law_1132 (pc' := 1133) rfl ?_
  refine Y.iload cx wd (i := 4) rfl dL_law_1133 (pc' := 1135) rfl ?_
  refine Y.iconst cx wd dL_law_1135 (pc' := 1136) rfl ?_
  refine Y.iadd cx wd dL_law_1136 (pc' := 1137) rfl ?_
  refine Y.sald cx sc dL_law_1137 (by omega) (by omega) ⟨by omega, by omega⟩ (pc' := 1138) rfl (fun z1 ez1 irz1 => ?_)
  refine Y.aload_n cx wd (i := 3) rfl rfl dL_law_1138 (pc' := 1139) rfl ?_
  refine Y.callSW cx wd (rm := rm_L_ifSilent) (As := [rf x, vi z1, rf o]) (st := []) dL_law_1139 ckS_ifSilent rfl rfl ⟨Nat.le_of_ble_eq_true rfl, Nat.le_of_ble_eq_true rfl⟩ (show kc + 1 ≤ 601024 by omega) (show ks + 6 ≤ 7293034 by omega) (Nat.le_of_ble_eq_true rfl) (pc' := 1142) rfl (k_L_ifSilent hL.1 hL.2.2.1 ⟨by omega, by omega⟩ irz1) (fun q1 h1 e1 => ?_)
  obtain ⟨r, rfl, hFL, hcs⟩ := e1
  have hM1 : ML h1 m L := hL.2.1.sam (fun q z1 z2 => hFL.2.2 q (by omega) (Or.inr (by omega)) (by omega))
  have hr03 : 0 ≤ r ∧ r ≤ 3 := by
    rcases hcs with z | z
    · have := z.2.1; omega
    · have := py3_rng z.1; omega
  refine Y.istore cx wd (i := 5) (ls' := [some (rf b), some (rf x), some (rf m), some (rf o), some (vi i), some (vi r), none, none, none]) (hd := dL_law_1142) (by decide) rfl rfl (pc' := 1144) rfl ?_
  refine Y.aload_n cx wd (i := 2) rfl rfl dL_law_1144 (pc' := 1145) rfl ?_
  refine Y.aload_n cx wd (i := 0) rfl rfl dL_law_1145 (pc' := 1146) rfl ?_
  refine Y.iload cx wd (i := 4) rfl dL_law_1146 (pc' := 1148) rfl ?_
  refine Y.iconst cx wd dL_law_1148 (pc' := 1149) rfl ?_
  refine Y.iadd cx wd dL_law_1149 (pc' := 1150) rfl ?_
  refine Y.sald cx sc dL_law_1150 (by omega) (by omega) ⟨by omega, by omega⟩ (pc' := 1151) rfl (fun z9 e9 ir9 => ?_)
  obtain rfl : z1 = z9 := ez1.trans e9.symm
  refine Y.callV cx wd (ci := 6) (a := m) (rm := rm_X6_ifSilent) (As := [vi z1]) (st := []) dL_law_1151 ck_L_142 rfl (by decide) hM1.1.1 rfl rfl ⟨Nat.le_of_ble_eq_true rfl, Nat.le_of_ble_eq_true rfl⟩ (show kc + 1 + 0 ≤ 601024 by omega) (show ks + 6 + 0 ≤ 7293034 by omega) (Nat.le_of_ble_eq_true rfl) (pc' := 1154) rfl (k_X6_ifSilent hM1 irz1) (fun q2 h2 e2 => ?_)
  obtain ⟨hFM, v, rfl, hcm⟩ := e2
  refine Y.istore cx wd (i := 6) (ls' := [some (rf b), some (rf x), some (rf m), some (rf o), some (vi i), some (vi r), some (vi v), none, none]) (hd := dL_law_1154) (by decide) rfl rfl (pc' := 1156) rfl ?_
  refine Y.aload_n cx wd (i := 2) rfl rfl dL_law_1156 (pc' := 1157) rfl ?_
  refine Y.callV cx wd (ci := 6) (a := m) (rm := rm_X6_thrown) (As := []) (st := []) dL_law_1157 ck_L_80 rfl (by decide) (hM1.1.ft hFM).1 rfl rfl ⟨Nat.le_of_ble_eq_true rfl, Nat.le_of_ble_eq_true rfl⟩ (show kc + 1 + 0 + 0 ≤ 601024 by omega) (show ks + 6 + 0 + 0 ≤ 7293034 by omega) (Nat.le_of_ble_eq_true rfl) (pc' := 1160) rfl (k_X6_thrown (hM1.1.ft hFM)) (fun q3 h3 e3 => ?_)
  obtain ⟨rfl, t, rfl, ht⟩ := e3
  have key : t = r := by
    rcases hcs with ⟨c1, c2, c3, c4, c5⟩ | ⟨c1, c2⟩ <;> rcases hcm with ⟨d1, d2, d3, d4⟩ | ⟨d1, d2, d3⟩
    · rw [ht, d2, c2]
    · exact (py3_no d1 c1).elim
    · exact (py3_no c1 d1).elim
    · rw [ht]; exact py3_uniq d1 c1
  have hvr : inR v := by
    rcases hcs with ⟨c1, c2, c3, c4, c5⟩ | ⟨c1, c2⟩ <;> rcases hcm with ⟨d1, d2, d3, d4⟩ | ⟨d1, d2, d3⟩
    · rw [d3]; exact c4
    · rw [d2]; exact inR_0
    · exact (py3_no c1 d1).elim
    · rw [d2]; exact inR_0
  obtain ⟨L9, hL9⟩ : ∃ L9, LI h2 x m o lo L9 := by
    have hO2 : mT h2 o = some (12, 1) := by rw [hFM.2.1, hFL.2.1]; exact hL.2.2.1
    rcases hcs with ⟨c1, c2, c3, c4, c5⟩ | ⟨c1, c2⟩ <;> rcases hcm with ⟨d1, d2, d3, d4⟩ | ⟨d1, d2, d3⟩
    · exact ⟨_, c5.fm hFM (by omega), d4, hO2, hlay⟩
    · exact (py3_no d1 c1).elim
    · exact (py3_no c1 d1).elim
    · exact ⟨_, c2.fm hFM (by omega), d3, hO2, hlay⟩
  refine Y.iload cx wd (i := 5) rfl dL_law_1160 (pc' := 1162) rfl ?_
  refine Y.icmp_eq cx wd (tgt := 1167) dL_law_1162 ⟨by omega, by omega⟩ ⟨by omega, by omega⟩ (by decide) (pc' := 1165) rfl (fun c1 => ?_) (fun c1 => absurd key c1)
  refine Y.iload cx wd (i := 5) rfl dL_law_1167 (pc' := 1169) rfl ?_
  refine Y.if_ne cx wd (tgt := 1184) dL_law_1169 ⟨by omega, by omega⟩ (by decide) (pc' := 1172) rfl (fun c2 => ?_) (fun c2 => ?_)
  · refine Y.goto cx wd (tgt := 1323) dL_law_1184 (by decide) ?_
    refine Y.mask (bs := [true, true, true, true, true, false, false, false, false]) (ls' := [some (rf b), some (rf x), some (rf m), some (rf o), some (vi i), none, none, none, none]) rfl ?_
    exact kk _ _ _ L9 (show kc + 1 + 0 + 0 ≤ kc + 40 by omega) (show ks + 6 + 0 + 0 ≤ ks + 6000 by omega) hL9
  have hv2 : mL h2 o 0 = Int64.ofInt v := by
    rw [hFM.2.2.2.1]
    rcases hcs with ⟨c1, c2, c3, c4, c5⟩ | ⟨c1, c2⟩ <;> rcases hcm with ⟨d1, d2, d3, d4⟩ | ⟨d1, d2, d3⟩
    · rw [c3, d3]
    · exact (py3_no d1 c1).elim
    · exact (py3_no c1 d1).elim
    · have := py3_rng c1; omega
  refine Y.aload_n cx wd (i := 3) rfl rfl dL_law_1172 (pc' := 1173) rfl ?_
  refine Y.iconst cx wd dL_law_1173 (pc' := 1174) rfl ?_
  refine Y.lald cx wd dL_law_1174 hL9.2.2.1 (by omega) (by omega) ⟨by omega, by omega⟩ hv2 (pc' := 1175) rfl ?_
  refine Y.iload cx wd (i := 6) rfl dL_law_1175 (pc' := 1177) rfl ?_
  refine Y.i2l cx wd hvr dL_law_1177 (pc' := 1178) rfl ?_
  refine Y.lcmp cx wd dL_law_1178 (pc' := 1179) rfl (fun _ => ?_) (fun ne => absurd rfl ne)
  refine Y.if_eq cx wd (tgt := 1184) dL_law_1179 ⟨by omega, by omega⟩ (by decide) (pc' := 1182) rfl (fun _ => ?_) (fun ne => absurd rfl ne)
  refine Y.goto cx wd (tgt := 1323) dL_law_1184 (by decide) ?_
  refine Y.mask (bs := [true, true, true, true, true, false, false, false, false]) (ls' := [some (rf b), some (rf x), some (rf m), some (rf o), some (vi i), none, none, none, none]) rfl ?_
  exact kk _ _ _ L9 (show kc + 1 + 0 + 0 ≤ kc + 40 by omega) (show ks + 6 + 0 + 0 ≤ ks + 6000 by omega) hL9
set_option maxHeartbeats 4000000 in
set_option maxRecDepth 100000 in
theorem y_heardIn {Ω : xO} {Q : State → Prop} {p : Program} {e : Env} {s : State} {m0 : MethodId} {args : Array Value} {below : List Frame} {meth : Method} {c : Code} {kc ks b Ls x m o lo : Nat} {xs : Nat → Int32} {i : Int} {h : xM} {L : lS} (cx : yCx RL cL_law 9 (some .boolean) p s m0 args meth c) (wd : xWd Ω s) (sc : yScr Ω s b Ls xs) (hi : 0 ≤ i ∧ i + 4 ≤ Ls ∧ Ls ≤ 2048) (hL : LI h x m o lo L) (hkc : kc + 40 ≤ 601024) (hks : ks + 6000 ≤ 7293034)
    (kk : ∀ (kc' ks' : Nat) (h' : xM) (L' : lS), kc' ≤ kc + 40 → ks' ≤ ks + 6000 → LI h' x m o lo L' → Y Ω room_1 Q p e s m0 args below meth c 9 kc' ks' 1323 [some (rf b), some (rf x), some (rf m), some (rf o), some (vi i), none, none, none, none] [] h') : Y Ω room_1 Q p e s m0 args below meth c 9 kc ks 1187 [some (rf b), some (rf x), some (rf m), some (rf o), some (vi i), none, none, none, none] [] h := by
  have hlay := hL.2.2.2
  refine Y.aload_n cx wd (i := 1) rfl rfl dL_law_1187 (pc' := 1188) rfl ?_
  refine Y.aload_n cx wd (i := 0) rfl rfl dL_law_1188 (pc' := 1189) rfl ?_
  refine Y.iload cx wd (i := 4) rfl dL_law_1189 (pc' := 1191) rfl ?_
  refine Y.iconst cx wd dL_law_1191 (pc' := 1192) rfl ?_
  refine Y.iadd cx wd dL_law_1192 (pc' := 1193) rfl ?_
  refine Y.sald cx sc dL_law_1193 (by omega) (by omega) ⟨by omega, by omega⟩ (pc' := 1194) rfl (fun z1 ez1 irz1 => ?_)
  refine Y.aload_n cx wd (i := 0) rfl rfl dL_law_1194 (pc' := 1195) rfl ?_
  refine Y.iload cx wd (i := 4) rfl dL_law_1195 (pc' := 1197) rfl ?_
  refine Y.iconst cx wd dL_law_1197 (pc' := 1198) rfl ?_
  refine Y.iadd cx wd dL_law_1198 (pc' := 1199) rfl ?_
  refine Y.sald cx sc dL_law_1199 (by omega) (by omega) ⟨by omega, by omega⟩ (pc' := 1200) rfl (fun z2 ez2 irz2 => ?_)
  refine Y.aload_n cx wd (i := 3) rfl rfl dL_law_1200 (pc' := 1201) rfl ?_
  refine Y.callSW cx wd (rm := rm_L_heardIn) (As := [rf x, vi z1, vi z2, rf o]) (st := []) dL_law_1201 ckS_heardIn rfl rfl ⟨Nat.le_of_ble_eq_true rfl, Nat.le_of_ble_eq_true rfl⟩ (show kc + 2 ≤ 601024 by omega) (show ks + 12 ≤ 7293034 by omega) (Nat.le_of_ble_eq_true rfl) (pc' := 1204) rfl (k_L_heardIn hL.1 hL.2.2.1 ⟨by omega, by omega⟩ irz1 irz2) (fun q1 h1 e1 => ?_)
  obtain ⟨r, rfl, hFL, hcs⟩ := e1
  have hM1 : ML h1 m L := hL.2.1.sam (fun q z1 z2 => hFL.2.2 q (by omega) (Or.inr (by omega)) (by omega))
  have hr03 : 0 ≤ r ∧ r ≤ 3 := by
    rcases hcs with z | z
    · have := z.2.1; omega
    · have := py3_rng z.1; omega
  refine Y.istore cx wd (i := 5) (ls' := [some (rf b), some (rf x), some (rf m), some (rf o), some (vi i), some (vi r), none, none, none]) (hd := dL_law_1204) (by decide) rfl rfl (pc' := 1206) rfl ?_
  refine Y.aload_n cx wd (i := 2) rfl rfl dL_law_1206 (pc' := 1207) rfl ?_
  refine Y.aload_n cx wd (i := 0) rfl rfl dL_law_1207 (pc' := 1208) rfl ?_
  refine Y.iload cx wd (i := 4) rfl dL_law_1208 (pc' := 1210) rfl ?_
  refine Y.iconst cx wd dL_law_1210 (pc' := 1211) rfl ?_
  refine Y.iadd cx wd dL_law_1211 (pc' := 1212) rfl ?_
  refine Y.sald cx sc dL_law_1212 (by omega) (by omega) ⟨by omega, by omega⟩ (pc' := 1213) rfl (fun z9 e9 ir9 => ?_)
  obtain rfl : z1 = z9 := ez1.trans e9.symm
  refine Y.aload_n cx wd (i := 0) rfl rfl dL_law_1213 (pc' := 1214) rfl ?_
  refine Y.iload cx wd (i := 4) rfl dL_law_1214 (pc' := 1216) rfl ?_
  refine Y.iconst cx wd dL_law_1216 (pc' := 1217) rfl ?_
  refine Y.iadd cx wd dL_law_1217 (pc' := 1218) rfl ?_
  refine Y.sald cx sc dL_law_1218 (by omega) (by omega) ⟨by omega, by omega⟩ (pc' := 1219) rfl (fun z9 e9 ir9 => ?_)
  obtain rfl : z2 = z9 := ez2.trans e9.symm
  refine Y.callV cx wd (ci := 6) (a := m) (rm := rm_X6_heardIn) (As := [vi z1, vi z2]) (st := []) dL_law_1219 ck_L_145 rfl (by decide) hM1.1.1 rfl rfl ⟨Nat.le_of_ble_eq_true rfl, Nat.le_of_ble_eq_true rfl⟩ (show kc + 2 + 0 ≤ 601024 by omega) (show ks + 12 + 0 ≤ 7293034 by omega) (Nat.le_of_ble_eq_true rfl) (pc' := 1222) rfl (k_X6_heardIn hM1 irz1 irz2) (fun q2 h2 e2 => ?_)
  obtain ⟨hFM, v, rfl, hcm⟩ := e2
  refine Y.istore cx wd (i := 6) (ls' := [some (rf b), some (rf x), some (rf m), some (rf o), some (vi i), some (vi r), some (vi v), none, none]) (hd := dL_law_1222) (by decide) rfl rfl (pc' := 1224) rfl ?_
  refine Y.aload_n cx wd (i := 2) rfl rfl dL_law_1224 (pc' := 1225) rfl ?_
  refine Y.callV cx wd (ci := 6) (a := m) (rm := rm_X6_thrown) (As := []) (st := []) dL_law_1225 ck_L_80 rfl (by decide) (hM1.1.ft hFM).1 rfl rfl ⟨Nat.le_of_ble_eq_true rfl, Nat.le_of_ble_eq_true rfl⟩ (show kc + 2 + 0 + 0 ≤ 601024 by omega) (show ks + 12 + 0 + 0 ≤ 7293034 by omega) (Nat.le_of_ble_eq_true rfl) (pc' := 1228) rfl (k_X6_thrown (hM1.1.ft hFM)) (fun q3 h3 e3 => ?_)
  obtain ⟨rfl, t, rfl, ht⟩ := e3
  have key : t = r := by
    rcases hcs with ⟨c1, c2, c3, c4, c5⟩ | ⟨c1, c2⟩ <;> rcases hcm with ⟨d1, d2, d3, d4⟩ | ⟨d1, d2, d3⟩
    · rw [ht, d2, c2]
    · exact (py3_no d1 c1).elim
    · exact (py3_no c1 d1).elim
    · rw [ht]; exact py3_uniq d1 c1
  have hvr : inR v := by
    rcases hcs with ⟨c1, c2, c3, c4, c5⟩ | ⟨c1, c2⟩ <;> rcases hcm with ⟨d1, d2, d3, d4⟩ | ⟨d1, d2, d3⟩
    · rw [d3]; exact c4
    · rw [d2]; exact inR_0
    · exact (py3_no c1 d1).elim
    · rw [d2]; exact inR_0
  obtain ⟨L9, hL9⟩ : ∃ L9, LI h2 x m o lo L9 := by
    have hO2 : mT h2 o = some (12, 1) := by rw [hFM.2.1, hFL.2.1]; exact hL.2.2.1
    rcases hcs with ⟨c1, c2, c3, c4, c5⟩ | ⟨c1, c2⟩ <;> rcases hcm with ⟨d1, d2, d3, d4⟩ | ⟨d1, d2, d3⟩
    · exact ⟨_, c5.fm hFM (by omega), d4, hO2, hlay⟩
    · exact (py3_no d1 c1).elim
    · exact (py3_no c1 d1).elim
    · exact ⟨_, c2.fm hFM (by omega), d3, hO2, hlay⟩
  refine Y.iload cx wd (i := 5) rfl dL_law_1228 (pc' := 1230) rfl ?_
  refine Y.icmp_eq cx wd (tgt := 1235) dL_law_1230 ⟨by omega, by omega⟩ ⟨by omega, by omega⟩ (by decide) (pc' := 1233) rfl (fun c1 => ?_) (fun c1 => absurd key c1)
  refine Y.iload cx wd (i := 5) rfl dL_law_1235 (pc' := 1237) rfl ?_
  refine Y.if_ne cx wd (tgt := 1252) dL_law_1237 ⟨by omega, by omega⟩ (by decide) (pc' := 1240) rfl (fun c2 => ?_) (fun c2 => ?_)
  · refine Y.goto cx wd (tgt := 1323) dL_law_1252 (by decide) ?_
    refine Y.mask (bs := [true, true, true, true, true, false, false, false, false]) (ls' := [some (rf b), some (rf x), some (rf m), some (rf o), some (vi i), none, none, none, none]) rfl ?_
    exact kk _ _ _ L9 (show kc + 2 + 0 + 0 ≤ kc + 40 by omega) (show ks + 12 + 0 + 0 ≤ ks + 6000 by omega) hL9
  have hv2 : mL h2 o 0 = Int64.ofInt v := by
    rw [hFM.2.2.2.1]
    rcases hcs with ⟨c1, c2, c3, c4, c5⟩ | ⟨c1, c2⟩ <;> rcases hcm with ⟨d1, d2, d3, d4⟩ | ⟨d1, d2, d3⟩
    · rw [c3, d3]
    · exact (py3_no d1 c1).elim
    · exact (py3_no c1 d1).elim
    · have := py3_rng c1; omega
  refine Y.aload_n cx wd (i := 3) rfl rfl dL_law_1240 (pc' := 1241) rfl ?_
  refine Y.iconst cx wd dL_law_1241 (pc' := 1242) rfl ?_
  refine Y.lald cx wd dL_law_1242 hL9.2.2.1 (by omega) (by omega) ⟨by omega, by omega⟩ hv2 (pc' := 1243) rfl ?_
  refine Y.iload cx wd (i := 6) rfl dL_law_1243 (pc' := 1245) rfl ?_
  refine Y.i2l cx wd hvr dL_law_1245 (pc' := 1246) rfl ?_
  refine Y.lcmp cx wd dL_law_1246 (pc' := 1247) rfl (fun _ => ?_) (fun ne => absurd rfl ne)
  refine Y.if_eq cx wd (tgt := 1252) dL_law_1247 ⟨by omega, by omega⟩ (by decide) (pc' := 1250) rfl (fun _ => ?_) (fun ne => absurd rfl ne)
  refine Y.goto cx wd (tgt := 1323) dL_law_1252 (by decide) ?_
  refine Y.mask (bs := [true, true, true, true, true, false, false, false, false]) (ls' := [some (rf b), some (rf x), some (rf m), some (rf o), some (vi i), none, none, none, none]) rfl ?_
  exact kk _ _ _ L9 (show kc + 2 + 0 + 0 ≤ kc + 40 by omega) (show ks + 12 + 0 + 0 ≤ ks + 6000 by omega) hL9
set_option maxHeartbeats 4000000 in
set_option maxRecDepth 100000 in
theorem y_bestSeat {Ω : xO} {Q : State → Prop} {p : Program} {e : Env} {s : State} {m0 : MethodId} {args : Array Value} {below : List Frame} {meth : Method} {c : Code} {kc ks b Ls x m o lo : Nat} {xs : Nat → Int32} {i : Int} {h : xM} {L : lS} (cx : yCx RL cL_law 9 (some .boolean) p s m0 args meth c) (wd : xWd Ω s) (sc : yScr Ω s b Ls xs) (hi : 0 ≤ i ∧ i + 4 ≤ Ls ∧ Ls ≤ 2048) (hL : LI h x m o lo L) (hkc : kc + 40 ≤ 601024) (hks : ks + 6000 ≤ 7293034)
    (kk : ∀ (kc' ks' : Nat) (h' : xM) (L' : lS), kc' ≤ kc + 40 → ks' ≤ ks + 6000 → LI h' x m o lo L' → Y Ω room_1 Q p e s m0 args below meth c 9 kc' ks' 1323 [some (rf b), some (rf x), some (rf m), some (rf o), some (vi i), none, none, none, none] [] h') : Y Ω room_1 Q p e s m0 args below meth c 9 kc ks 1255 [some (rf b), some (rf x), some (rf m), some (rf o), some (vi i), none, none, none, none] [] h := by
  have hlay := hL.2.2.2
  refine Y.aload_n cx wd (i := 1) rfl rfl dL_law_1255 (pc' := 1256) rfl ?_
  refine Y.callV cx wd (ci := 5) (a := x) (rm := rm_X5_bestSeat) (As := []) (st := []) dL_law_1256 ck_L_146 rfl (by decide) hL.1.1.1 rfl rfl ⟨Nat.le_of_ble_eq_true rfl, Nat.le_of_ble_eq_true rfl⟩ (show kc + 0 ≤ 601024 by omega) (show ks + 0 ≤ 7293034 by omega) (Nat.le_of_ble_eq_true rfl) (pc' := 1259) rfl (k_X5_bestSeat hL.1) (fun q1 h1 e1 => ?_)
  obtain ⟨rfl, rfl⟩ := e1
  have hE1 := hL.1
  have hM1 := hL.2.1
  have hO1 := hL.2.2.1
  refine Y.aload_n cx wd (i := 2) rfl rfl dL_law_1259 (pc' := 1260) rfl ?_
  refine Y.callV cx wd (ci := 6) (a := m) (rm := rm_X6_bestSeat) (As := []) (st := [vi (bst (lA L))]) dL_law_1260 ck_L_149 rfl (by decide) hM1.1.1 rfl rfl ⟨Nat.le_of_ble_eq_true rfl, Nat.le_of_ble_eq_true rfl⟩ (show kc + 0 + 0 ≤ 601024 by omega) (show ks + 0 + 0 ≤ 7293034 by omega) (Nat.le_of_ble_eq_true rfl) (pc' := 1263) rfl (k_X6_bestSeat hM1) (fun q2 h2 e2 => ?_)
  obtain ⟨hFM, rfl, hth, hM2⟩ := e2
  obtain ⟨L9, hL9⟩ : ∃ L9, LI h2 x m o lo L9 := ⟨_, hE1.fm hFM (by omega), hM2, by rw [hFM.2.1]; exact hO1, hlay⟩
  have okB := bst_rng hL.1.2.1.1.2.1
  refine Y.icmp_eq cx wd (tgt := 1323) dL_law_1263 ⟨by omega, by omega⟩ ⟨by omega, by omega⟩ (by decide) (pc' := 1266) rfl (fun c1 => ?_) (fun c1 => absurd rfl c1)
  refine Y.mask (bs := [true, true, true, true, true, false, false, false, false]) (ls' := [some (rf b), some (rf x), some (rf m), some (rf o), some (vi i), none, none, none, none]) rfl ?_
  exact kk _ _ _ L9 (show kc + 0 + 0 ≤ kc + 40 by omega) (show ks + 0 + 0 ≤ ks + 6000 by omega) hL9
set_option maxHeartbeats 4000000 in
set_option maxRecDepth 100000 in
theorem y_heardShare {Ω : xO} {Q : State → Prop} {p : Program} {e : Env} {s : State} {m0 : MethodId} {args : Array Value} {below : List Frame} {meth : Method} {c : Code} {kc ks b Ls x m o lo : Nat} {xs : Nat → Int32} {i : Int} {h : xM} {L : lS} (cx : yCx RL cL_law 9 (some .boolean) p s m0 args meth c) (wd : xWd Ω s) (sc : yScr Ω s b Ls xs) (hi : 0 ≤ i ∧ i + 4 ≤ Ls ∧ Ls ≤ 2048) (hL : LI h x m o lo L) (hkc : kc + 40 ≤ 601024) (hks : ks + 6000 ≤ 7293034)
    (kk : ∀ (kc' ks' : Nat) (h' : xM) (L' : lS), kc' ≤ kc + 40 → ks' ≤ ks + 6000 → LI h' x m o lo L' → Y Ω room_1 Q p e s m0 args below meth c 9 kc' ks' 1323 [some (rf b), some (rf x), some (rf m), some (rf o), some (vi i), none, none, none, none] [] h') : Y Ω room_1 Q p e s m0 args below meth c 9 kc ks 1268 [some (rf b), some (rf x), some (rf m), some (rf o), some (vi i), none, none, none, none] [] h := by
  have hlay := hL.2.2.2
  refine Y.aload_n cx wd (i := 1) rfl rfl dL_law_1268 (pc' := 1269) rfl ?_
  refine Y.callV cx wd (ci := 5) (a := x) (rm := rm_X5_heardShare) (As := []) (st := []) dL_law_1269 ck_L_150 rfl (by decide) hL.1.1.1 rfl rfl ⟨Nat.le_of_ble_eq_true rfl, Nat.le_of_ble_eq_true rfl⟩ (show kc + 0 ≤ 601024 by omega) (show ks + 0 ≤ 7293034 by omega) (Nat.le_of_ble_eq_true rfl) (pc' := 1272) rfl (k_X5_heardShare hL.1) (fun q1 h1 e1 => ?_)
  obtain ⟨rfl, rfl⟩ := e1
  have hE1 := hL.1
  have hM1 := hL.2.1
  have hO1 := hL.2.2.1
  refine Y.dstore cx wd (i := 5) (ls' := [some (rf b), some (rf x), some (rf m), some (rf o), some (vi i), some (vd (shr (lA L))), none, none, none]) (hd := dL_law_1272) (by decide) rfl rfl (pc' := 1274) rfl ?_
  refine Y.aload_n cx wd (i := 2) rfl rfl dL_law_1274 (pc' := 1275) rfl ?_
  refine Y.callV cx wd (ci := 6) (a := m) (rm := rm_X6_heardShare) (As := []) (st := []) dL_law_1275 ck_L_154 rfl (by decide) hM1.1.1 rfl rfl ⟨Nat.le_of_ble_eq_true rfl, Nat.le_of_ble_eq_true rfl⟩ (show kc + 0 + 0 ≤ 601024 by omega) (show ks + 0 + 0 ≤ 7293034 by omega) (Nat.le_of_ble_eq_true rfl) (pc' := 1278) rfl (k_X6_heardShare hM1) (fun q2 h2 e2 => ?_)
  obtain ⟨hFM, rfl, hth, hM2⟩ := e2
  obtain ⟨L9, hL9⟩ : ∃ L9, LI h2 x m o lo L9 := ⟨_, hE1.fm hFM (by omega), hM2, by rw [hFM.2.1]; exact hO1, hlay⟩
  refine Y.dstore cx wd (i := 7) (ls' := [some (rf b), some (rf x), some (rf m), some (rf o), some (vi i), some (vd (shr (lA L))), none, some (vd (shr (lA L))), none]) (hd := dL_law_1278) (by decide) rfl rfl (pc' := 1280) rfl ?_
  refine Y.dload cx wd (i := 5) rfl dL_law_1280 (pc' := 1282) rfl ?_
  refine Y.dload cx wd (i := 7) rfl dL_law_1282 (pc' := 1284) rfl ?_
  refine Y.dcmp cx wd (z := 0) (fp_self (shr_ok hL.1.2.1.1.2.1)) dL_law_1284 (pc' := 1285) rfl ?_
  refine Y.if_eq cx wd (tgt := 1306) dL_law_1285 ⟨by omega, by omega⟩ (by decide) (pc' := 1288) rfl (fun _ => ?_) (fun ne => absurd rfl ne)
  refine Y.goto cx wd (tgt := 1323) dL_law_1306 (by decide) ?_
  refine Y.mask (bs := [true, true, true, true, true, false, false, false, false]) (ls' := [some (rf b), some (rf x), some (rf m), some (rf o), some (vi i), none, none, none, none]) rfl ?_
  exact kk _ _ _ L9 (show kc + 0 + 0 ≤ kc + 40 by omega) (show ks + 0 + 0 ≤ ks + 6000 by omega) hL9
set_option maxHeartbeats 4000000 in
set_option maxRecDepth 100000 in
theorem y_digest {Ω : xO} {Q : State → Prop} {p : Program} {e : Env} {s : State} {m0 : MethodId} {args : Array Value} {below : List Frame} {meth : Method} {c : Code} {kc ks b Ls x m o lo : Nat} {xs : Nat → Int32} {i : Int} {h : xM} {L : lS} (cx : yCx RL cL_law 9 (some .boolean) p s m0 args meth c) (wd : xWd Ω s) (sc : yScr Ω s b Ls xs) (hi : 0 ≤ i ∧ i + 4 ≤ Ls ∧ Ls ≤ 2048) (hL : LI h x m o lo L) (hkc : kc + 40 ≤ 601024) (hks : ks + 6000 ≤ 7293034)
    (kk : ∀ (kc' ks' : Nat) (h' : xM) (L' : lS), kc' ≤ kc + 40 → ks' ≤ ks + 6000 → LI h' x m o lo L' → Y Ω room_1 Q p e s m0 args below meth c 9 kc' ks' 1323 [some (rf b), some (rf x), some (rf m), some (rf o), some (vi i), none, none, none, none] [] h') : Y Ω room_1 Q p e s m0 args below meth c 9 kc ks 1309 [some (rf b), some (rf x), some (rf m), some (rf o), some (vi i), none, none, none, none] [] h := by
  have hlay := hL.2.2.2
  refine Y.aload_n cx wd (i := 1) rfl rfl dL_law_1309 (pc' := 1310) rfl ?_
  refine Y.callV cx wd (ci := 5) (a := x) (rm := rm_X5_digest) (As := []) (st := []) dL_law_1310 ck_L_155 rfl (by decide) hL.1.1.1 rfl rfl ⟨Nat.le_of_ble_eq_true rfl, Nat.le_of_ble_eq_true rfl⟩ (show kc + 1 ≤ 601024 by omega) (show ks + 1 ≤ 7293034 by omega) (Nat.le_of_ble_eq_true rfl) (pc' := 1313) rfl (k_X5_digest hL.1) (fun q1 h1 e1 => ?_)
  obtain ⟨rfl, hE1, hF1⟩ := e1
  have hM1 : ML h1 m L := hL.2.1.sam (fun q z1 z2 => hF1.2 q (by omega) (Or.inr (by omega)))
  have hO1 : mT h1 o = some (12, 1) := by rw [(hF1.2 o (by omega) (Or.inr (by omega))).1]; exact hL.2.2.1
  refine Y.aload_n cx wd (i := 2) rfl rfl dL_law_1313 (pc' := 1314) rfl ?_
  refine Y.callV cx wd (ci := 6) (a := m) (rm := rm_X6_digest) (As := []) (st := [vl (dig L)]) dL_law_1314 ck_L_159 rfl (by decide) hM1.1.1 rfl rfl ⟨Nat.le_of_ble_eq_true rfl, Nat.le_of_ble_eq_true rfl⟩ (show kc + 1 + 0 ≤ 601024 by omega) (show ks + 1 + 0 ≤ 7293034 by omega) (Nat.le_of_ble_eq_true rfl) (pc' := 1317) rfl (k_X6_digest hM1) (fun q2 h2 e2 => ?_)
  obtain ⟨hFM, rfl, hth, hM2⟩ := e2
  obtain ⟨L9, hL9⟩ : ∃ L9, LI h2 x m o lo L9 := ⟨_, hE1.fm hFM (by omega), hM2, by rw [hFM.2.1]; exact hO1, hlay⟩
  refine Y.lcmp cx wd dL_law_1317 (pc' := 1318) rfl (fun _ => ?_) (fun ne => absurd rfl ne)
  refine Y.if_eq cx wd (tgt := 1323) dL_law_1318 ⟨by omega, by omega⟩ (by decide) (pc' := 1321) rfl (fun _ => ?_) (fun ne => absurd rfl ne)
  refine Y.mask (bs := [true, true, true, true, true, false, false, false, false]) (ls' := [some (rf b), some (rf x), some (rf m), some (rf o), some (vi i), none, none, none, none]) rfl ?_
  exact kk _ _ _ L9 (show kc + 1 + 0 ≤ kc + 40 by omega) (show ks + 1 + 0 ≤ ks + 6000 by omega) hL9
