/-! ===== rules beside ===== -/
section XRZ
variable {Ω : xO} {own : String} {cc : ByteArray} {nL : Nat} {ret : Option FieldType} {ini : Bool} {R : Room} {PR : Option xV → xM → Prop} {PX : String → xM → Prop} {kc ks pc pc' : Nat} {ls : List (Option xV)} {st : List xV} {h : xM}
theorem X.ishr {x y z : Int} (hz : Int32.ofInt x >>> (Int32.ofInt y &&& 31) = Int32.ofInt z) (hd : decode cc pc = .ok (.ishr, 1)) (hp : pc + 1 = pc') (k : X Ω own cc nL ret ini R PR PX kc ks pc' ls (vi z :: st) h) : X Ω own cc nL ret ini R PR PX kc ks pc ls (vi y :: vi x :: st) h := by
  intro p e s m args below meth c H locs lr cx wd hS r hl
  obtain ⟨hx, hb, hr, hml, hown, hlocks, hts, hin, hexc⟩ := id cx
  subst hp
  refine lv_ishr hx hb hd ?_
  rw [hz]
  exact (k p e s m args below meth c H locs lr cx wd hS r hl)
theorem X.ixor {x y z : Int} (hz : Int32.ofInt x ^^^ Int32.ofInt y = Int32.ofInt z) (hd : decode cc pc = .ok (.ixor, 1)) (hp : pc + 1 = pc') (k : X Ω own cc nL ret ini R PR PX kc ks pc' ls (vi z :: st) h) : X Ω own cc nL ret ini R PR PX kc ks pc ls (vi y :: vi x :: st) h := by
  intro p e s m args below meth c H locs lr cx wd hS r hl
  obtain ⟨hx, hb, hr, hml, hown, hlocks, hts, hin, hexc⟩ := id cx
  subst hp
  refine lv_ixor hx hb hd ?_
  rw [hz]
  exact (k p e s m args below meth c H locs lr cx wd hS r hl)
theorem X.callSW {index n maxL : Nat} {y : MethodName} {bytes : ByteArray} {rt : Option FieldType} {hh : List (Nat × Nat × Nat × Nat)} {rm : Room} {As sa : List xV} {PR' : Option xV → xM → Prop} (hd : decode cc pc = .ok (.invokestatic index, 3)) (w : yCaS own index y bytes maxL rt hh n)
    (hsa : As.reverse ++ st = sa) (hn : As.length = n) (hR : rm.frames + 1 ≤ R.frames ∧ 8 + (maxL + 11) + rm.locals ≤ R.locals) (hkc : kc + rm.cells ≤ R.cells) (hks : ks + rm.slots ≤ R.slots) (hst : (st.map xcat).sum ≤ 8) (hp : pc + 3 = pc')
    (hct : yCt Ω y bytes maxL rt hh rm As h PR')
    (kR : ∀ (q : Option xV) (h' : xM), PR' q h' → X Ω own cc nL ret ini R PR PX (kc + rm.cells) (ks + rm.slots) pc' ls (q.toList ++ st) h') : X Ω own cc nL ret ini R PR PX kc ks pc ls sa h := by
  intro p e s m args below meth c H locs lr cx wd hS r hl
  obtain ⟨hx, hb, hrt, hml, hown, hlocks, hts, hin, hexc⟩ := id cx
  subst hp
  subst hsa
  have hMet : Met Ω.1 y (Cond.codeWith y bytes maxL rt hh :: WG) rm (va_Pc (As.map xc) (fun U => xWd Ω U ∧ xRel Ω h U.heap)) (xQ Ω PR') rm.cells rm.slots (xA Ω) := by
    intro p e ha hc' hk s m args below hf happ hP hK
    obtain ⟨n, o, h1, h2, h3, h4⟩ := hct p e ha hc' hk s m args below hf happ hP hK
    refine ⟨n, o, h1, h2, h3, ?_⟩
    rcases h4 with h4 | ⟨q, -, E, ce, L, ⟨h', -, -, hf⟩, -⟩
    · exact h4
    · exact hf.elim
  refine xBehindM cx wd hS hl (vx_runSW (As := As.map xc) (n := n) ⟨hx, hb, hml, hown, hts⟩ hMet (vx_cwSW n hts w.good rfl rfl rfl w.2 hR) ⟨xBlind, fun U hU hW => ⟨rfl, wd.heap hS hU hW, by rw [hU]; exact r⟩⟩ rfl (by rw [List.length_map]; exact hn) hl.1 ?_ ?_ hd ⟨hkc, hks⟩) kR
  · show ((As.reverse ++ st).map xc) = _
    rw [List.map_append, List.map_reverse]
  · rw [x_cats]
    show 2 * 0 + _ ≤ _
    omega
end XRZ
section YRS
variable {Ω : xO} {own : String} {cc : ByteArray} {nL : Nat} {ret : Option FieldType} {R : Room} {Q : State → Prop} {p : Program} {e : Env} {s : State} {m : MethodId} {args : Array Value} {below : List Frame} {meth : Method} {c : Code} {kc ks pc pc' : Nat} {ls : List (Option xV)} {st : List xV} {h : xM}
theorem Y.callS (cx : yCx own cc nL ret p s m args meth c) (wd : xWd Ω s) {index n maxL : Nat} {y : MethodName} {bytes : ByteArray} {rt : Option FieldType} {rm : Room} {As sa : List xV} {PR' : Option xV → xM → Prop} (hd : decode cc pc = .ok (.invokestatic index, 3)) (w : xCaS own index y bytes maxL rt n)
    (hsa : As.reverse ++ st = sa) (hn : As.length = n) (hR : rm.frames + 1 ≤ R.frames ∧ 8 + (maxL + 11) + rm.locals ≤ R.locals) (hkc : kc + rm.cells ≤ R.cells) (hks : ks + rm.slots ≤ R.slots) (hst : (st.map xcat).sum ≤ 8) (hp : pc + 3 = pc')
    (hct : xCt Ω y bytes maxL rt rm As h PR' xNo)
    (kR : ∀ (q : Option xV) (h' : xM), PR' q h' → Y Ω R Q p e s m args below meth c nL (kc + rm.cells) (ks + rm.slots) pc' ls (q.toList ++ st) h') : Y Ω R Q p e s m args below meth c nL kc ks pc ls sa h := by
  intro H locs lr hS r hl
  obtain ⟨hx, hb, hrt, hml, hown, hlocks, hts⟩ := id cx
  subst hp
  subst hsa
  refine yBehind hS hl (va_runS (As := As.map xc) (n := n) ⟨hx, hb, hml, hown, hts⟩ (xMet hct) (va_cwS n hts w.good rfl rfl rfl w.2 hR) ⟨xBlind, fun U hU hW => ⟨rfl, wd.heap hS hU hW, by rw [hU]; exact r⟩⟩ rfl (by rw [List.length_map]; exact hn) hl.1 ?_ ?_ hd ⟨hkc, hks⟩) kR
  · show ((As.reverse ++ st).map xc) = _
    rw [List.map_append, List.map_reverse]
  · rw [x_cats]
    show 2 * 0 + _ ≤ _
    omega
/-- the script -/
def yScr (Ω : xO) (s : State) (b Ls : Nat) (xs : Nat → Int32) : Prop := va_X b Ls xs s s.heap ∧ b < s.heap.size ∧ ¬ xA Ω b
theorem yScr.on {s U : State} {b Ls : Nat} {xs : Nat → Int32} (sc : yScr Ω s b Ls xs) (hvm : s.vm.Alike U.vm) (hz : s.heap.size ≤ U.heap.size) (hk : U.heap[b]? = s.heap[b]?) : yScr Ω U b Ls xs := ⟨(sc.1.kept hk).moved hvm, Nat.lt_of_lt_of_le sc.2.1 hz, sc.2.2⟩
theorem y_and (a : Int32) : ∃ z, a &&& Int32.ofInt 2147483647 = Int32.ofInt z ∧ 0 ≤ z ∧ z ≤ 2147483647 := by
  refine ⟨(a &&& Int32.ofInt 2147483647).toInt, (Int32.ofInt_toInt _).symm, ?_⟩
  have hn : (a &&& Int32.ofInt 2147483647).toBitVec.toNat ≤ 2147483647 := by
    show (a.toBitVec &&& (Int32.ofInt 2147483647).toBitVec).toNat ≤ 2147483647
    rw [BitVec.toNat_and]
    exact Nat.and_le_right
  have hi : (a &&& Int32.ofInt 2147483647).toInt = ((a &&& Int32.ofInt 2147483647).toBitVec.toNat : Int) := by
    show (a &&& Int32.ofInt 2147483647).toBitVec.toInt = _
    rw [BitVec.toInt_eq_toNat_cond, if_pos (by omega)]
  omega
theorem Y.sald {b Ls : Nat} {xs : Nat → Int32} (cx : yCx own cc nL ret p s m args meth c) (sc : yScr Ω s b Ls xs) {i : Int} (hd : decode cc pc = .ok (.iaload, 1)) (h0 : 0 ≤ i) (h1 : i < Ls) (h2 : inR i) (hp : pc + 1 = pc') (k : ∀ z, z = (xs i.toNat).toInt → inR z → Y Ω R Q p e s m args below meth c nL kc ks pc' ls (vi z :: st) h) : Y Ω R Q p e s m args below meth c nL kc ks pc ls (vi i :: rf b :: st) h := by
  intro H locs lr hS r hl
  obtain ⟨hx, hb, hrt, hml, hown, hlocks, hts⟩ := id cx
  subst hp
  have hz : inR (xs i.toNat).toInt := ⟨Int32.le_toInt _, Int32.toInt_lt _⟩
  have := k _ rfl hz H locs lr hS r hl
  refine va_sld hx hb sc.1 sc.2.1 sc.2.2 hS (x_in h2 h0 h1) hd ?_
  rw [x_nat h2]
  have e1 : Value.int (xs i.toNat) = xc (vi (xs i.toNat).toInt) := by
    show _ = Value.int (Int32.ofInt _)
    rw [Int32.ofInt_toInt]
  rw [e1]
  exact this
theorem Y.slen {b Ls : Nat} {xs : Nat → Int32} (cx : yCx own cc nL ret p s m args meth c) (sc : yScr Ω s b Ls xs) (hd : decode cc pc = .ok (.arraylength, 1)) (hp : pc + 1 = pc') (k : Y Ω R Q p e s m args below meth c nL kc ks pc' ls (vi (Ls : Int) :: st) h) : Y Ω R Q p e s m args below meth c nL kc ks pc ls (rf b :: st) h := by
  intro H locs lr hS r hl
  obtain ⟨hx, hb, hrt, hml, hown, hlocks, hts⟩ := id cx
  subst hp
  exact va_slen hx hb sc.1 sc.2.1 sc.2.2 hS hd (k H locs lr hS r hl)
/-- a cell of the script: a contract that speaks of the script too -/
def yCs (Ω : xO) (y : MethodName) (bytes : ByteArray) (maxL : Nat) (ret : Option FieldType) (rm : Room) (args : List xV) (h : xM) (b Ls : Nat) (xs : Nat → Int32) (PR : Option xV → xM → Prop) : Prop :=
  vx_Met Ω.1 y (Cond.code y bytes maxL ret :: WG) rm (va_Pc (args.map xc) (fun U => (xWd Ω U ∧ xRel Ω h U.heap) ∧ yScr Ω U b Ls xs)) (xQ Ω PR) (xX Ω xNo) rm.cells rm.slots (xA Ω)
theorem xBlindS {Ω : xO} {av : List Value} {h : xM} {b Ls : Nat} {xs : Nat → Int32} : FrameBlind (va_Pc av (fun U => (xWd Ω U ∧ xRel Ω h U.heap) ∧ yScr Ω U b Ls xs)) := fun _ U g mk q => ⟨q.1, ⟨xWd.on q.2.1.1 (U := U.calling g mk _) (State.WarmedH.refl U) (Nat.le_refl _) (fun _ _ _ => rfl), q.2.1.2⟩, q.2.2.on (U := U.calling g mk _) (State.WarmedH.refl U).alike (Nat.le_refl _) rfl⟩
theorem Y.callC (cx : yCx own cc nL ret p s m args meth c) (wd : xWd Ω s) {b Ls : Nat} {xs : Nat → Int32} (sc : yScr Ω s b Ls xs) {index n maxL : Nat} {y : MethodName} {bytes : ByteArray} {rt : Option FieldType} {rm : Room} {As sa : List xV} {PR' : Option xV → xM → Prop} (hd : decode cc pc = .ok (.invokestatic index, 3)) (w : xCaS own index y bytes maxL rt n)
    (hsa : As.reverse ++ st = sa) (hn : As.length = n) (hR : rm.frames + 1 ≤ R.frames ∧ 8 + (maxL + 11) + rm.locals ≤ R.locals) (hkc : kc + rm.cells ≤ R.cells) (hks : ks + rm.slots ≤ R.slots) (hst : (st.map xcat).sum ≤ 8) (hp : pc + 3 = pc')
    (hct : yCs Ω y bytes maxL rt rm As h b Ls xs PR')
    (kR : ∀ (q : Option xV) (h' : xM), PR' q h' → Y Ω R Q p e s m args below meth c nL (kc + rm.cells) (ks + rm.slots) pc' ls (q.toList ++ st) h') : Y Ω R Q p e s m args below meth c nL kc ks pc ls sa h := by
  intro H locs lr hS r hl
  obtain ⟨hx, hb, hrt, hml, hown, hlocks, hts⟩ := id cx
  subst hp
  subst hsa
  have hMet : Met Ω.1 y (Cond.code y bytes maxL rt :: WG) rm (va_Pc (As.map xc) (fun U => (xWd Ω U ∧ xRel Ω h U.heap) ∧ yScr Ω U b Ls xs)) (xQ Ω PR') rm.cells rm.slots (xA Ω) := by
    intro p e ha hc' hk s m args below hf happ hP hK
    obtain ⟨n, o, h1, h2, h3, h4⟩ := hct p e ha hc' hk s m args below hf happ hP hK
    refine ⟨n, o, h1, h2, h3, ?_⟩
    rcases h4 with h4 | ⟨q, -, E, ce, L, ⟨h', -, -, hf⟩, -⟩
    · exact h4
    · exact hf.elim
  refine yBehind hS hl (va_runS (As := As.map xc) (n := n) ⟨hx, hb, hml, hown, hts⟩ hMet (va_cwS n hts w.good rfl rfl rfl w.2 hR) ⟨xBlindS, fun U hU hW => ⟨rfl, ⟨wd.heap hS hU hW, by rw [hU]; exact r⟩, sc.on hW.alike (by rw [hU]; exact hS.1) (by rw [hU]; exact hS.2.1 b sc.2.1 sc.2.2)⟩⟩ rfl (by rw [List.length_map]; exact hn) hl.1 ?_ ?_ hd ⟨hkc, hks⟩) kR
  · show ((As.reverse ++ st).map xc) = _
    rw [List.map_append, List.map_reverse]
  · rw [x_cats]
    show 2 * 0 + _ ≤ _
    omega
end YRS
theorem yCs_of {Ω : xO} {y : MethodName} {bytes : ByteArray} {maxL : Nat} {rt : Option FieldType} {rm : Room} {args : List xV} {h : xM} {PR : Option xV → xM → Prop} {b Ls : Nat} {xs : Nat → Int32} (hy : plainName y.cls = true) (hn : (xar args).length ≤ maxL)
    (K : ∀ (p : Program) (e : Env) (s : State) (m : MethodId) (args0 : Array Value) (below : List Frame) (meth : Method) (c : Code), yCx y.cls bytes maxL rt p s m args0 meth c → xWd Ω s → yScr Ω s b Ls xs → Y Ω rm (vx_MQ below (xQ Ω PR) (xX Ω xNo) args0 s rm.cells rm.slots (xA Ω)) p e s m args0 below meth c maxL 0 0 0 (xar args ++ List.replicate (maxL - (xar args).length) none) [] h) : yCs Ω y bytes maxL rt rm args h b Ls xs PR := by
  refine vx_ofW (cc := bytes) (maxL := maxL) (ret := rt) hy rfl ?_
  intro p e s m args9 below meth c s₁ B hml hexc hv
  obtain ⟨rfl, ⟨hwd, hrel⟩, hscr⟩ := hv
  have hts := atoms_spec (ws := Cond.code y bytes maxL rt :: WG) B.pre
  have hl := lv_entry (args.map xc) (n := maxL) (by rw [xsl_len]; exact hn)
  rw [lg_entry_eq]
  refine K p e s m _ below meth c ⟨B.exec, B.bytes, B.returns, hml, findClass_of_methodNamed B.named, B.notSynchronized, fun w h => hts w (List.mem_cons_of_mem _ h)⟩ hwd hscr s.heap [] _ va_S.rf hrel ⟨hl.1, hl.2.1, fun k v hk => ?_⟩
  have hk2 : (xar args)[k]? = some (some v) := by
    by_cases e1 : k < (xar args).length
    · rw [List.getElem?_append_left e1] at hk
      exact hk
    · rw [List.getElem?_append_right (by omega)] at hk
      rw [List.getElem?_replicate] at hk
      split at hk <;> cases hk
  have := xar_at args 0 k v hk2
  rw [Nat.zero_add] at this
  exact hl.2.2 _ this
