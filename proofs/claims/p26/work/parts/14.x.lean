/-! ===== X: calls, ends, the entry ===== -/
section XR5
variable {Ω : xO} {own : String} {cc : ByteArray} {nL : Nat} {ret : Option FieldType} {ini : Bool} {R : Room} {PR : Option xV → xM → Prop} {PX : String → xM → Prop} {kc ks pc pc' : Nat} {ls : List (Option xV)} {st : List xV} {h : xM}
/-- a method's contract at one memory and one list of arguments -/
def xCt (Ω : xO) (y : MethodName) (bytes : ByteArray) (maxL : Nat) (ret : Option FieldType) (rm : Room) (args : List xV) (h : xM) (PR : Option xV → xM → Prop) (PX : String → xM → Prop) : Prop :=
  vx_Met Ω.1 y (Cond.code y bytes maxL ret :: WG) rm (va_Pc (args.map xc) (fun U => xWd Ω U ∧ xRel Ω h U.heap)) (xQ Ω PR) (xX Ω PX) rm.cells rm.slots (xA Ω)
def xNo : String → xM → Prop := fun _ _ => False
theorem xBlind {Ω : xO} {av : List Value} {h : xM} : FrameBlind (va_Pc av (fun U => xWd Ω U ∧ xRel Ω h U.heap)) := fun _ U g mk q => ⟨q.1, xWd.on q.2.1 (U := U.calling g mk _) (State.WarmedH.refl U) (Nat.le_refl _) (fun _ _ _ => rfl), q.2.2⟩
theorem xWd.heap {Ω : xO} {s U : State} {H : Heap} {locs : List Loc} (wd : xWd Ω s) (hS : va_S (xA Ω) s.heap H locs) (hU : U.heap = H) (hW : s.WarmedH U.vm) : xWd Ω U := wd.on hW (by rw [hU]; exact hS.1) (fun q h1 h2 => by rw [hU]; exact hS.2.1 q h1 h2)
theorem xGood {y : MethodName} {bytes : ByteArray} {maxL : Nat} {ret : Option FieldType} (hw : Cond.code y bytes maxL ret ∈ WG) : GoodIn WG (Cond.code y bytes maxL ret :: WG) := by
  intro w h
  rcases List.mem_cons.mp h with rfl | h
  · exact ⟨hw, good_of_word (xWG_good _ hw)⟩
  · exact ⟨h, good_of_word (xWG_good _ h)⟩
theorem xGoodL {ws : List Cond} (h : ∀ w ∈ ws, w ∈ WG) : GoodIn WG ws := fun w hw => ⟨h w hw, good_of_word (xWG_good _ (h w hw))⟩
theorem xOut {s : State} {m : MethodId} {args : Array Value} {below : List Frame} {meth : Method} {c : Code} (hexc : ∀ x ∈ c.exceptionTable.toList, False) (pc : Nat) : ∀ x ∈ c.exceptionTable.toList, covers x pc = false := fun x hx => (hexc x hx).elim
/-- what is static in a call of an instance method -/
def xCal (own : String) (index : Nat) (C : String) (y : MethodName) (bytes : ByteArray) (maxL : Nat) (ret : Option FieldType) (n : Nat) : Prop :=
  (Cond.methodLink own index y ∈ WG ∧ Cond.instanceMethod y ∈ WG ∧ Cond.selects C y y ∈ WG ∧ Cond.initialized C ∈ WG ∧ Cond.code y bytes maxL ret ∈ WG) ∧ y.cls = C ∧ y.cls ≠ "java/lang/invoke/MethodHandle" ∧ y.cls ≠ "java/lang/invoke/VarHandle" ∧ (parseMethodDescriptor y.desc).map (fun d => d.parameters.length) = some n
def xCaS (own : String) (index : Nat) (y : MethodName) (bytes : ByteArray) (maxL : Nat) (ret : Option FieldType) (n : Nat) : Prop :=
  (Cond.methodLink own index y ∈ WG ∧ Cond.static y ∈ WG ∧ Cond.initialized y.cls ∈ WG ∧ Cond.code y bytes maxL ret ∈ WG) ∧ y.cls ≠ "java/lang/invoke/MethodHandle" ∧ y.cls ≠ "java/lang/invoke/VarHandle" ∧ (parseMethodDescriptor y.desc).map (fun d => d.parameters.length) = some n
theorem xCal.good {index n maxL : Nat} {C : String} {y : MethodName} {bytes : ByteArray} {ret : Option FieldType} (w : xCal own index C y bytes maxL ret n) : GoodIn WG (wsV own index C y (Cond.code y bytes maxL ret :: WG)) := by
  refine xGoodL (fun v hv => ?_)
  unfold wsV at hv
  rcases List.mem_append.mp hv with hv | hv
  · simp only [List.mem_cons, List.not_mem_nil, or_false] at hv
    rcases hv with rfl | rfl | rfl | rfl
    · exact w.1.1
    · exact w.1.2.1
    · exact w.1.2.2.1
    · exact w.1.2.2.2.1
  · exact (xGood w.1.2.2.2.2 v hv).1
theorem xCaS.good {index n maxL : Nat} {y : MethodName} {bytes : ByteArray} {ret : Option FieldType} (w : xCaS own index y bytes maxL ret n) : GoodIn WG (va_wsS own index y (Cond.code y bytes maxL ret :: WG)) := by
  refine xGoodL (fun v hv => ?_)
  unfold va_wsS at hv
  rcases List.mem_append.mp hv with hv | hv
  · simp only [List.mem_cons, List.not_mem_nil, or_false] at hv
    rcases hv with rfl | rfl | rfl
    · exact w.1.1
    · exact w.1.2.1
    · exact w.1.2.2.1
  · exact (xGood w.1.2.2.2 v hv).1
/-- behind a call that returns or throws -/
theorem xBehind {p : Program} {e : Env} {s : State} {m : MethodId} {args : Array Value} {below : List Frame} {meth : Method} {c : Code} {H : Heap} {locs : List Loc} {lr : Array Slot} {mc ms : Nat} {PR' : Option xV → xM → Prop} {PX' : String → xM → Prop} {a : Array Value} {st0 : List Value}
    (cx : xCx own cc nL ret ini p s m args meth c) (wd : xWd Ω s) (hS : va_S (xA Ω) s.heap H locs) (hl : xLo lr nL ls) (hkc : kc + mc ≤ R.cells) (hks : ks + ms ≤ R.slots)
    (hr : vx_Run p Ω.1 e R s m args below meth c H locs kc ks mc ms (F0 m pc lr st0) (st.map xc) (xQ Ω PR' a) (xX Ω PX') (xA Ω))
    (kR : ∀ (q : Option xV) (h' : xM), PR' q h' → X Ω own cc nL ret ini R PR PX (kc + mc) (ks + ms) (pc + 3) ls (q.toList ++ st) h') (kX : ∀ (E : String) (h' : xM), PX' E h' → PX E h') :
    W p Ω.1 e R s m args below meth c H locs kc ks (vx_MQ below (xQ Ω PR) (xX Ω PX) args s R.cells R.slots (xA Ω)) (F0 m pc lr st0) := by
  obtain ⟨hx, hb, hrt, hml, hown, hlocks, hts, hin, hexc⟩ := id cx
  intro T hT Xs
  rcases hr T hT Xs with ⟨v, st₀, t, T', L, h0, X', hL, e1, e2, ⟨q, h', hv, hrel, hF, hPR⟩, stp⟩ | ⟨q, st₀, t, T', L, E, ce, h0, X', hL, e1, e2, ⟨h', hrel, hF, hPX⟩, hce, hcv, hcl, stp⟩
  · cases hv
    obtain ⟨-, -, k3⟩ := vx_keep h0 e1 hS (fun _ _ z => z) (fun _ z => z) hL hF
    obtain ⟨t2, a1, b1⟩ := kR q h' hPR p e s m args below meth c T'.heap (locs ++ L) lr cx wd k3 (by rw [e1]; exact hrel) hl T' rfl X'
    refine ⟨t2, stp t2 ?_, b1⟩
    cases q with
    | none => exact a1
    | some q => exact a1
  · obtain ⟨-, -, k3⟩ := vx_keep h0 e1 hS (fun _ _ z => z) (fun _ z => z) hL hF
    have hw := vx_out (p := p) (l := Ω.1) (e := e) (R := R) (s := s) (m := m) (args := args) (below := below) (meth := meth) (c := c) (H := T'.heap) (locs := locs ++ L) (cells := kc + mc) (slots := ks + ms) (Qc := xQ Ω PR) (XC := xX Ω PX) (mc := R.cells) (ms := R.slots) (free := xA Ω) (ls := lr) (rest := st.map xc) (pc := pc) (q := q) (xOut (s := s) (m := m) (args := args) (below := below) (meth := meth) hexc pc) hlocks (by rw [e1]; exact hce) hcv hcl
      (fun u hu hW => ⟨h', by rw [hu, e1]; exact hrel, k3.F hu, kX E h' hPX⟩) k3.2.2 hkc hks
    obtain ⟨t2, a1, b1⟩ := hw T' rfl X'
    exact ⟨t2, stp.trans a1, b1⟩
/-- behind a call that returns -/
theorem xBehindM {p : Program} {e : Env} {s : State} {m : MethodId} {args : Array Value} {below : List Frame} {meth : Method} {c : Code} {H : Heap} {locs : List Loc} {lr : Array Slot} {mc ms : Nat} {PR' : Option xV → xM → Prop} {a : Array Value} {st0 : List Value}
    (cx : xCx own cc nL ret ini p s m args meth c) (wd : xWd Ω s) (hS : va_S (xA Ω) s.heap H locs) (hl : xLo lr nL ls)
    (hr : va_Run p Ω.1 e R s m args below meth c H locs kc ks mc ms (F0 m pc lr st0) (st.map xc) (xQ Ω PR' a) (xA Ω))
    (kR : ∀ (q : Option xV) (h' : xM), PR' q h' → X Ω own cc nL ret ini R PR PX (kc + mc) (ks + ms) (pc + 3) ls (q.toList ++ st) h') :
    W p Ω.1 e R s m args below meth c H locs kc ks (vx_MQ below (xQ Ω PR) (xX Ω PX) args s R.cells R.slots (xA Ω)) (F0 m pc lr st0) := by
  obtain ⟨hx, hb, hrt, hml, hown, hlocks, hts, hin, hexc⟩ := id cx
  intro T hT Xs
  obtain ⟨v, st₀, t, T', L, h0, X', hL, e1, e2, ⟨q, h', hv, hrel, hF, hPR⟩, stp⟩ := hr T hT Xs
  cases hv
  obtain ⟨-, -, k3⟩ := vx_keep h0 e1 hS (fun _ _ z => z) (fun _ z => z) hL hF
  obtain ⟨t2, a1, b1⟩ := kR q h' hPR p e s m args below meth c T'.heap (locs ++ L) lr cx wd k3 (by rw [e1]; exact hrel) hl T' rfl X'
  refine ⟨t2, stp t2 ?_, b1⟩
  cases q with
  | none => exact a1
  | some q => exact a1
theorem xMet {y : MethodName} {bytes : ByteArray} {maxL : Nat} {ret : Option FieldType} {rm : Room} {args : List xV} {h : xM} {PR : Option xV → xM → Prop} (hc : xCt Ω y bytes maxL ret rm args h PR xNo) : Met Ω.1 y (Cond.code y bytes maxL ret :: WG) rm (va_Pc (args.map xc) (fun U => xWd Ω U ∧ xRel Ω h U.heap)) (xQ Ω PR) rm.cells rm.slots (xA Ω) := by
  intro p e ha hc' hk s m args below hf happ hP hK
  obtain ⟨n, o, h1, h2, h3, h4⟩ := hc p e ha hc' hk s m args below hf happ hP hK
  refine ⟨n, o, h1, h2, h3, ?_⟩
  rcases h4 with h4 | ⟨q, -, E, ce, L, ⟨h', -, -, hf⟩, -⟩
  · exact h4
  · exact hf.elim
/-- invokevirtual of a method of ours -/
theorem X.callV {index n maxL ci nf a : Nat} {C : String} {T : u_T} {y : MethodName} {bytes : ByteArray} {rt : Option FieldType} {rm : Room} {As sa : List xV} {PR' : Option xV → xM → Prop} {PX' : String → xM → Prop} (hd : decode cc pc = .ok (.invokevirtual index, 3)) (w : xCal own index C y bytes maxL rt n) (hC : vwCl[ci]? = some (C, T, nf)) (hci : ci < 7) (ha : mT h a = some (ci, nf))
    (hsa : As.reverse ++ (rf a :: st) = sa) (hn : As.length = n) (hR : rm.frames + 1 ≤ R.frames ∧ 8 + (maxL + 11) + rm.locals ≤ R.locals) (hkc : kc + rm.cells ≤ R.cells) (hks : ks + rm.slots ≤ R.slots) (hst : (st.map xcat).sum ≤ 8) (hp : pc + 3 = pc')
    (hct : xCt Ω y bytes maxL rt rm (rf a :: As) h PR' PX')
    (kR : ∀ (q : Option xV) (h' : xM), PR' q h' → X Ω own cc nL ret ini R PR PX (kc + rm.cells) (ks + rm.slots) pc' ls (q.toList ++ st) h') (kX : ∀ (E : String) (h' : xM), PX' E h' → PX E h') : X Ω own cc nL ret ini R PR PX kc ks pc ls sa h := by
  intro p e s m args below meth c H locs lr cx wd hS r hl
  obtain ⟨hx, hb, hrt, hml, hown, hlocks, hts, hin, hexc⟩ := id cx
  subst hp
  subst hsa
  have hA := (r.2.2 a ci nf ha).2
  rw [xE_obj hci] at hA
  refine xBehind cx wd hS hl hkc hks (vx_runV (As := As.map xc) (b := a) (C := C) (n := n) ⟨hx, hb, hml, hown, hts⟩ hct (cwV n hts w.good rfl rfl rfl ⟨w.2.1, w.2.2.1, w.2.2.2.1, w.2.2.2.2⟩ hR) ⟨xBlind, va_recv wd.1 (xP1 hA) hC (q0 := 0) rfl, fun U hU hW => ⟨rfl, wd.heap hS hU hW, by rw [hU]; exact r⟩⟩ rfl (by rw [List.length_map]; exact hn) hl.1 ?_ ?_ hd ⟨hkc, hks⟩) kR kX
  · show ((As.reverse ++ (rf a :: st)).map xc) = _
    rw [List.map_append, List.map_reverse]
    rfl
  · rw [x_cats]
    show 2 * 0 + _ ≤ _
    omega
/-- invokestatic of a method of ours -/
theorem X.callS {index n maxL : Nat} {y : MethodName} {bytes : ByteArray} {rt : Option FieldType} {rm : Room} {As sa : List xV} {PR' : Option xV → xM → Prop} {PX' : String → xM → Prop} (hd : decode cc pc = .ok (.invokestatic index, 3)) (w : xCaS own index y bytes maxL rt n)
    (hsa : As.reverse ++ st = sa) (hn : As.length = n) (hR : rm.frames + 1 ≤ R.frames ∧ 8 + (maxL + 11) + rm.locals ≤ R.locals) (hkc : kc + rm.cells ≤ R.cells) (hks : ks + rm.slots ≤ R.slots) (hst : (st.map xcat).sum ≤ 8) (hp : pc + 3 = pc')
    (hct : xCt Ω y bytes maxL rt rm As h PR' PX')
    (kR : ∀ (q : Option xV) (h' : xM), PR' q h' → X Ω own cc nL ret ini R PR PX (kc + rm.cells) (ks + rm.slots) pc' ls (q.toList ++ st) h') (kX : ∀ (E : String) (h' : xM), PX' E h' → PX E h') : X Ω own cc nL ret ini R PR PX kc ks pc ls sa h := by
  intro p e s m args below meth c H locs lr cx wd hS r hl
  obtain ⟨hx, hb, hrt, hml, hown, hlocks, hts, hin, hexc⟩ := id cx
  subst hp
  subst hsa
  refine xBehind cx wd hS hl hkc hks (vx_runS (As := As.map xc) (n := n) ⟨hx, hb, hml, hown, hts⟩ hct (va_cwS n hts w.good rfl rfl rfl w.2 hR) ⟨xBlind, fun U hU hW => ⟨rfl, wd.heap hS hU hW, by rw [hU]; exact r⟩⟩ rfl (by rw [List.length_map]; exact hn) hl.1 ?_ ?_ hd ⟨hkc, hks⟩) kR kX
  · show ((As.reverse ++ st).map xc) = _
    rw [List.map_append, List.map_reverse]
  · rw [x_cats]
    show 2 * 0 + _ ≤ _
    omega
/-- invokespecial of a constructor of ours -/
def xCaI (own : String) (index : Nat) (y : MethodName) (bytes : ByteArray) (maxL : Nat) (n : Nat) : Prop :=
  (Cond.methodLink own index y ∈ WG ∧ Cond.instanceMethod y ∈ WG ∧ Cond.initialized y.cls ∈ WG ∧ Cond.code y bytes maxL none ∈ WG) ∧ y.name = "<init>" ∧ y.cls ≠ "java/lang/invoke/MethodHandle" ∧ y.cls ≠ "java/lang/invoke/VarHandle" ∧ (parseMethodDescriptor y.desc).map (fun d => d.parameters.length) = some n
def xCaN (own : String) (index : Nat) (y : MethodName) (host : String) (bytes : ByteArray) (maxL : Nat) (rt : Option FieldType) (w0 : Cond) (n : Nat) : Prop :=
  (Cond.methodLinkNest own index y host ∈ WN ∧ w0 ∈ WG ∧ Cond.initialized y.cls ∈ WG ∧ Cond.code y bytes maxL rt ∈ WG) ∧ y.cls ≠ "java/lang/invoke/MethodHandle" ∧ y.cls ≠ "java/lang/invoke/VarHandle" ∧ (parseMethodDescriptor y.desc).map (fun d => d.parameters.length) = some n
theorem X.callI {index n maxL a : Nat} {y : MethodName} {bytes : ByteArray} {rm : Room} {As sa : List xV} {PR' : Option xV → xM → Prop} (hd : decode cc pc = .ok (.invokespecial index, 3)) (w : xCaI own index y bytes maxL n)
    (hsa : As.reverse ++ (rf a :: st) = sa) (hn : As.length = n) (hR : rm.frames + 1 ≤ R.frames ∧ 8 + (maxL + 11) + rm.locals ≤ R.locals) (hkc : kc + rm.cells ≤ R.cells) (hks : ks + rm.slots ≤ R.slots) (hst : (st.map xcat).sum ≤ 8) (hp : pc + 3 = pc')
    (hct : xCt Ω y bytes maxL none rm (rf a :: As) h PR' xNo)
    (kR : ∀ (q : Option xV) (h' : xM), PR' q h' → X Ω own cc nL ret ini R PR PX (kc + rm.cells) (ks + rm.slots) pc' ls (q.toList ++ st) h') : X Ω own cc nL ret ini R PR PX kc ks pc ls sa h := by
  intro p e s m args below meth c H locs lr cx wd hS r hl
  obtain ⟨hx, hb, hrt, hml, hown, hlocks, hts, hin, hexc⟩ := id cx
  subst hp
  subst hsa
  refine xBehindM cx wd hS hl (va_runI (As := As.map xc) (b := a) (n := n) ⟨hx, hb, hml, hown, hts⟩ (xMet hct) (cwI n hts (xGood w.1.2.2.2) rfl rfl rfl (hts _ w.1.2.2.1) (hts _ w.1.1) (hts _ w.1.2.1) w.2.1 w.2.2 hR) ⟨xBlind, fun U hU hW => ⟨rfl, wd.heap hS hU hW, by rw [hU]; exact r⟩⟩ rfl (by rw [List.length_map]; exact hn) hl.1 ?_ ?_ hd ⟨hkc, hks⟩) kR
  · show ((As.reverse ++ (rf a :: st)).map xc) = _
    rw [List.map_append, List.map_reverse]
    rfl
  · rw [x_cats]
    show 2 * 0 + _ ≤ _
    omega
theorem X.callIN {index n maxL a : Nat} {y : MethodName} {host : String} {bytes : ByteArray} {rm : Room} {As sa : List xV} {PR' : Option xV → xM → Prop} (hd : decode cc pc = .ok (.invokespecial index, 3)) (w : xCaN own index y host bytes maxL none (.instanceMethod y) n) (hy : y.name = "<init>")
    (hsa : As.reverse ++ (rf a :: st) = sa) (hn : As.length = n) (hR : rm.frames + 1 ≤ R.frames ∧ 8 + (maxL + 11) + rm.locals ≤ R.locals) (hkc : kc + rm.cells ≤ R.cells) (hks : ks + rm.slots ≤ R.slots) (hst : (st.map xcat).sum ≤ 8) (hp : pc + 3 = pc')
    (hct : xCt Ω y bytes maxL none rm (rf a :: As) h PR' xNo)
    (kR : ∀ (q : Option xV) (h' : xM), PR' q h' → X Ω own cc nL ret ini R PR PX (kc + rm.cells) (ks + rm.slots) pc' ls (q.toList ++ st) h') : X Ω own cc nL ret ini R PR PX kc ks pc ls sa h := by
  intro p e s m args below meth c H locs lr cx wd hS r hl
  obtain ⟨hx, hb, hrt, hml, hown, hlocks, hts, hin, hexc⟩ := id cx
  subst hp
  subst hsa
  refine xBehindM cx wd hS hl (va_runIN (As := As.map xc) (b := a) (n := n) ⟨hx, hb, hml, hown, hts⟩ (xMet hct) ⟨va_cnB n hts (xGood w.1.2.2.2) rfl rfl rfl (wd.2.2.1 _ w.1.1) (hts _ w.1.2.2.1) w.2 hR, hy, hts _ w.1.2.1⟩ ⟨xBlind, fun U hU hW => ⟨rfl, wd.heap hS hU hW, by rw [hU]; exact r⟩⟩ rfl (by rw [List.length_map]; exact hn) hl.1 ?_ ?_ hd ⟨hkc, hks⟩) kR
  · show ((As.reverse ++ (rf a :: st)).map xc) = _
    rw [List.map_append, List.map_reverse]
    rfl
  · rw [x_cats]
    show 2 * 0 + _ ≤ _
    omega
theorem X.callSN {index n maxL : Nat} {y : MethodName} {host : String} {bytes : ByteArray} {rt : Option FieldType} {rm : Room} {As sa : List xV} {PR' : Option xV → xM → Prop} (hd : decode cc pc = .ok (.invokestatic index, 3)) (w : xCaN own index y host bytes maxL rt (.static y) n)
    (hsa : As.reverse ++ st = sa) (hn : As.length = n) (hR : rm.frames + 1 ≤ R.frames ∧ 8 + (maxL + 11) + rm.locals ≤ R.locals) (hkc : kc + rm.cells ≤ R.cells) (hks : ks + rm.slots ≤ R.slots) (hst : (st.map xcat).sum ≤ 8) (hp : pc + 3 = pc')
    (hct : xCt Ω y bytes maxL rt rm As h PR' xNo)
    (kR : ∀ (q : Option xV) (h' : xM), PR' q h' → X Ω own cc nL ret ini R PR PX (kc + rm.cells) (ks + rm.slots) pc' ls (q.toList ++ st) h') : X Ω own cc nL ret ini R PR PX kc ks pc ls sa h := by
  intro p e s m args below meth c H locs lr cx wd hS r hl
  obtain ⟨hx, hb, hrt, hml, hown, hlocks, hts, hin, hexc⟩ := id cx
  subst hp
  subst hsa
  refine xBehindM cx wd hS hl (va_runSN (As := As.map xc) (n := n) ⟨hx, hb, hml, hown, hts⟩ (xMet hct) ⟨va_cnB n hts (xGood w.1.2.2.2) rfl rfl rfl (wd.2.2.1 _ w.1.1) (hts _ w.1.2.2.1) w.2 hR, hts _ w.1.2.1, trivial⟩ ⟨xBlind, fun U hU hW => ⟨rfl, wd.heap hS hU hW, by rw [hU]; exact r⟩⟩ rfl (by rw [List.length_map]; exact hn) hl.1 ?_ ?_ hd ⟨hkc, hks⟩) kR
  · show ((As.reverse ++ st).map xc) = _
    rw [List.map_append, List.map_reverse]
  · rw [x_cats]
    show 2 * 0 + _ ≤ _
    omega
theorem X.objInit {index a : Nat} (hd : decode cc pc = .ok (.invokespecial index, 3)) (w1 : Cond.methodLink own index Lib.objectInit ∈ WG) (w2 : Cond.instanceMethod Lib.objectInit ∈ WG) (w3 : Cond.code Lib.objectInit ⟨#[0xb1]⟩ 1 none ∈ WG) (hR : 1 ≤ R.frames ∧ (st.map xcat).sum + 12 ≤ R.locals) (hp : pc + 3 = pc') (k : X Ω own cc nL ret ini R PR PX kc ks pc' ls st h) : X Ω own cc nL ret ini R PR PX kc ks pc ls (rf a :: st) h := by
  intro p e s m args below meth c H locs lr cx wd hS r hl
  obtain ⟨hx, hb, hrt, hml, hown, hlocks, hts, hin, hexc⟩ := id cx
  subst hp
  refine W.objInit hx hb hown (hts _ w1) (hts _ w2) (hts _ w3) rfl (hl.1.trans hml.symm) rfl hd hR.1 ?_ (k p e s m args below meth c H locs lr cx wd hS r hl)
  rw [x_cats]
  show 2 * 0 + _ + _ ≤ _
  omega
/-! ends -/
theorem X.iret {x : Int} (hd : decode cc pc = .ok (.ireturn, 1)) (hr0 : ret = some .int ∨ (ret = some .boolean ∧ (x = 0 ∨ x = 1))) (hkc : kc ≤ R.cells) (hks : ks ≤ R.slots) (q : PR (some (vi x)) h) : X Ω own cc nL ret ini R PR PX kc ks pc ls [vi x] h := by
  intro p e s m args below meth c H locs lr cx wd hS r hl
  obtain ⟨hx, hb, hrt, hml, hown, hlocks, hts, hin, hexc⟩ := id cx
  refine W.widen hkc hks (vx_ret ?_)
  rcases hr0 with e1 | ⟨e1, e2⟩
  · exact W.iret hx hb (hrt.trans e1) (fun t ht hW => ⟨some (vi x), h, rfl, by rw [ht]; exact r, hS.F ht, q⟩) (fun q hq => hS.2.2 q hq) hd hlocks
  · exact W.zret (ty := .boolean) hx hb (hrt.trans e1) (by rcases e2 with rfl | rfl <;> decide) (fun t ht hW => ⟨some (vi x), h, rfl, by rw [ht]; exact r, hS.F ht, q⟩) (fun q hq => hS.2.2 q hq) hd hlocks
theorem X.lret {x : Int64} (hd : decode cc pc = .ok (.lreturn, 1)) (hr0 : ret = some .long) (hkc : kc ≤ R.cells) (hks : ks ≤ R.slots) (q : PR (some (vl x)) h) : X Ω own cc nL ret ini R PR PX kc ks pc ls [vl x] h := by
  intro p e s m args below meth c H locs lr cx wd hS r hl
  obtain ⟨hx, hb, hrt, hml, hown, hlocks, hts, hin, hexc⟩ := id cx
  refine W.widen hkc hks (vx_ret ?_)
  exact W.lret hx hb (hrt.trans hr0) (fun t ht hW => ⟨some (vl x), h, rfl, by rw [ht]; exact r, hS.F ht, q⟩) (fun q hq => hS.2.2 q hq) hd hlocks
theorem X.dret {x : UInt64} (hd : decode cc pc = .ok (.dreturn, 1)) (hr0 : ret = some .double) (hkc : kc ≤ R.cells) (hks : ks ≤ R.slots) (q : PR (some (vd x)) h) : X Ω own cc nL ret ini R PR PX kc ks pc ls [vd x] h := by
  intro p e s m args below meth c H locs lr cx wd hS r hl
  obtain ⟨hx, hb, hrt, hml, hown, hlocks, hts, hin, hexc⟩ := id cx
  refine W.widen hkc hks (vx_ret ?_)
  exact W.dret hx hb (hrt.trans hr0) (fun t ht hW => ⟨some (vd x), h, rfl, by rw [ht]; exact r, hS.F ht, q⟩) (fun q hq => hS.2.2 q hq) hd hlocks
theorem X.aret {x : Option Nat} {C : String} (hd : decode cc pc = .ok (.areturn, 1)) (hr0 : ret = some (.object C)) (hkc : kc ≤ R.cells) (hks : ks ≤ R.slots) (q : PR (some (vr x)) h) : X Ω own cc nL ret ini R PR PX kc ks pc ls [vr x] h := by
  intro p e s m args below meth c H locs lr cx wd hS r hl
  obtain ⟨hx, hb, hrt, hml, hown, hlocks, hts, hin, hexc⟩ := id cx
  refine W.widen hkc hks (vx_ret ?_)
  exact W.aret hx hb (hrt.trans hr0) (Or.inl ⟨_, rfl⟩) (by cases x with
    | none => exact Or.inl rfl
    | some x => exact Or.inr ⟨_, rfl⟩) (fun t ht hW => ⟨some (vr x), h, rfl, by rw [ht]; exact r, hS.F ht, q⟩) (fun q hq => hS.2.2 q hq) hd hlocks
theorem X.vret (hd : decode cc pc = .ok (.return_, 1)) (hr0 : ret = none) (hkc : kc ≤ R.cells) (hks : ks ≤ R.slots) (q : PR none h) : X Ω own cc nL ret ini R PR PX kc ks pc ls [] h := by
  intro p e s m args below meth c H locs lr cx wd hS r hl
  obtain ⟨hx, hb, hrt, hml, hown, hlocks, hts, hin, hexc⟩ := id cx
  refine W.widen hkc hks (vx_ret ?_)
  exact W.vret hx hb (hrt.trans hr0) (fun t ht hW => ⟨none, h, rfl, by rw [ht]; exact r, hS.F ht, q⟩) (fun q hq => hS.2.2 q hq) hd hlocks
/-- static facts of: throw new cls(text) -/
def xThr (own : String) (ik is ic : Nat) (cls text : String) : Prop := own = RX5 ∧ Bundle.fit cls = true ∧ (Cond.classLink own ik cls ∈ WG ∧ Cond.initialized cls ∈ WG) ∧ (is, text) ∈ xTx ∧
  (∀ w ∈ (vx_atS own ic cls ["java/lang/RuntimeException", "java/lang/Exception"]).filter goodWord, w ∈ WG) ∧ (∀ w ∈ (vx_atS own ic cls ["java/lang/RuntimeException", "java/lang/Exception"]).filter (fun w => !goodWord w), w ∈ WN) ∧
  (∀ w ∈ Cond.classLink own ik cls :: Cond.initialized cls :: vx_atS own ic cls ["java/lang/RuntimeException", "java/lang/Exception"], vx_ot w = true)
theorem xnw_on {w : Cond} (h : xnw w = true) : w.onTables = true := by
  cases w <;> first | rfl | (simp only [xnw, Bool.and_eq_true] at h; exact h.2)
theorem xThr.hat {ik is ic : Nat} {cls text : String} (t : xThr own ik is ic cls text) {s : State} {args : Array Value} (hts : ∀ w ∈ WG, w.before args s = true) (wd : xWd Ω s) : ∀ w ∈ vx_atS own ic cls ["java/lang/RuntimeException", "java/lang/Exception"], w.before args s = true :=
  vx_hat (B := WN) (fun w hw => hts w (t.2.2.2.2.1 w hw)) t.2.2.2.2.2.1 (fun w hw => va_Nw.use (xnw_on (List.mem_filter.mp hw).2) (wd.2.2.1 w hw))
theorem xGn {h : xM} {H : Heap} {t : State} (r : xRel Ω h H) (hz : H.size ≤ t.heap.size) (ho : ∀ q : Nat, q < H.size → t.heap[q]? = H[q]?) : xRel Ω (gN h t.heap.size) t.heap :=
  ⟨rfl, r.2.1, fun a t2 n ha => ⟨(r.2.2 a t2 n ha).1, (r.2.2 a t2 n ha).2.kept (ho a (by rw [r.1]; exact r.lt ha))⟩⟩
theorem X.throw {ik is ic : Nat} {cls text : String} (w : xThr own ik is ic cls text) (d0 : decode cc pc = .ok (.new ik, 3)) (d3 : decode cc (pc + 3) = .ok (.dup, 1)) (d4 : decode cc (pc + 4) = .ok (.ldc is, 2)) (d6 : decode cc (pc + 6) = .ok (.invokespecial ic, 3)) (d9 : decode cc (pc + 9) = .ok (.athrow, 1))
    (hR : 6 ≤ R.frames ∧ 82 ≤ R.locals) (hkc : kc + 1 ≤ R.cells) (hks : ks + 6 ≤ R.slots) (q : ∀ n', mN h ≤ n' → PX cls (gN h n')) : X Ω own cc nL ret ini R PR PX kc ks pc ls [] h := by
  intro p e s m args below meth c H locs lr cx wd hS r hl
  obtain ⟨hx, hb, hrt, hml, hown, hlocks, hts, hin, hexc⟩ := id cx
  have hat := w.hat hts wd
  obtain ⟨w1, w2, ⟨w3, w4⟩, w5, w6, w7, w8⟩ := w
  subst w1
  obtain ⟨sa, hsa⟩ := wd.2.2.2.1 _ w5
  refine vx_throwS (names := ["java/lang/RuntimeException", "java/lang/Exception"]) (A := xA Ω) hx hb wd.2.2.2.2.2.2.2.2.2.2 hown w2 (by decide +kernel) (hts _ w3) (hts _ w4) hsa hat w8 wd.2.2.2.2.2.2.2.1.1 wd.2.2.2.2.2.2.2.1.2 hS (hl.1.trans hml.symm) d0 d3 d4 d6 d9 (xOut (s := s) (m := m) (args := args) (below := below) (meth := meth) hexc _) (by simp; omega) (by simp; omega) (by omega) (by omega) hlocks (fun t hal hz ho => ?_) hS.2.2 hkc hks
  exact ⟨gN h t.heap.size, xGn r hz ho, ⟨Nat.le_trans hS.1 hz, fun q h1 h2 => (ho q (Nat.lt_of_lt_of_le h1 hS.1)).trans (hS.2.1 q h1 h2)⟩, q _ (by rw [← r.1]; exact hz)⟩
/-! the entry -/
def xar : List xV → List (Option xV)
  | [] => []
  | v :: vs => if xcat v = 2 then some v :: none :: xar vs else some v :: xar vs
theorem xar_at (vs : List xV) : ∀ (o k : Nat) (v : xV), (xar vs)[k]? = some (some v) → (o + k, xc v) ∈ lv_args o (vs.map xc) := by
  induction vs with
  | nil => intro o k v h; simp [xar] at h
  | cons w vs ih =>
    intro o k v h
    show _ ∈ (o, xc w) :: lv_args (if (xc w).category = 2 then o + 2 else o + 1) (vs.map xc)
    rw [xc_cat]
    unfold xar at h
    by_cases hc : xcat w = 2
    · rw [if_pos hc] at h ⊢
      match k, h with
      | 0, h => cases h; exact List.mem_cons_self
      | 1, h => cases h
      | k + 2, h =>
        have := ih (o + 2) k v (by simpa using h)
        rw [show o + 2 + k = o + (k + 2) by omega] at this
        exact List.mem_cons_of_mem _ this
    · rw [if_neg hc] at h ⊢
      match k, h with
      | 0, h => cases h; exact List.mem_cons_self
      | k + 1, h =>
        have := ih (o + 1) k v (by simpa using h)
        rw [show o + 1 + k = o + (k + 1) by omega] at this
        exact List.mem_cons_of_mem _ this
theorem xsl_len (vs : List xV) : (lg_sl (vs.map xc)).length = (xar vs).length := by
  induction vs with
  | nil => rfl
  | cons w vs ih =>
    show (lg_sl (xc w :: vs.map xc)).length = _
    unfold lg_sl at ih ⊢
    rw [List.flatMap_cons, List.length_append, ih, xc_cat]
    show _ = (if xcat w = 2 then some w :: none :: xar vs else some w :: xar vs).length
    by_cases hc : xcat w = 2
    · rw [if_pos hc, if_pos hc]; simp; omega
    · rw [if_neg hc, if_neg hc]; simp; omega
theorem xCt_of {y : MethodName} {bytes : ByteArray} {maxL : Nat} {rt : Option FieldType} {rm : Room} {args : List xV} (hy : plainName y.cls = true) (hn : (xar args).length ≤ maxL) (hini : ini = true → y.name = "<init>")
    (K : X Ω y.cls bytes maxL rt ini rm PR PX 0 0 0 (xar args ++ List.replicate (maxL - (xar args).length) none) [] h) : xCt Ω y bytes maxL rt rm args h PR PX := by
  refine vx_ofW (cc := bytes) (maxL := maxL) (ret := rt) hy rfl ?_
  intro p e s m args9 below meth c s₁ B hml hexc hv
  obtain ⟨rfl, hwd, hrel⟩ := hv
  have hts := atoms_spec (ws := Cond.code y bytes maxL rt :: WG) B.pre
  have hl := lv_entry (args.map xc) (n := maxL) (by rw [xsl_len]; exact hn)
  rw [lg_entry_eq]
  refine K p e s m _ below meth c s.heap [] _ ⟨B.exec, B.bytes, B.returns, hml, findClass_of_methodNamed B.named, B.notSynchronized, fun w h => hts w (List.mem_cons_of_mem _ h), fun q => (name_of_methodNamed B.named B.method).1.trans (hini q), hexc⟩ hwd va_S.rf hrel ⟨hl.1, hl.2.1, fun k v hk => ?_⟩
  have hk2 : (xar args)[k]? = some (some v) := by
    by_cases e1 : k < (xar args).length
    · rw [List.getElem?_append_left e1] at hk
      exact hk
    · rw [List.getElem?_append_right (by omega)] at hk
      rw [List.getElem?_replicate] at hk
      split at hk <;> cases hk
  have := xar_at args 0 k v hk2
  rw [Nat.zero_add] at this
  exact hl.2.2 _ this
theorem X.ldcI {index : Nat} {v : Int} (hd : decode cc pc = .ok (.ldc index, 2)) (w : Cond.constant own index (Int32.ofInt v) ∈ WG) (hp : pc + 2 = pc') (k : X Ω own cc nL ret ini R PR PX kc ks pc' ls (vi v :: st) h) : X Ω own cc nL ret ini R PR PX kc ks pc ls st h := by
  intro p e s m args below meth c H locs lr cx wd hS r hl
  obtain ⟨hx, hb, hrt, hml, hown, hlocks, hts, hin, hexc⟩ := id cx
  subst hp
  exact lv_ldc hx hb hown (hts _ w) hd (k p e s m args below meth c H locs lr cx wd hS r hl)
end XR5
