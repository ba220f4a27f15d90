/-! ===== Y: as X, but of one frame, whatever the end is ===== -/
def yCx (own : String) (cc : ByteArray) (nL : Nat) (ret : Option FieldType) (p : Program) (s : State) (m : MethodId) (args : Array Value) (meth : Method) (c : Code) : Prop :=
  p.tables.exec = Jvm.exec ∧ c.code = cc ∧ meth.sig.returnType = ret ∧ c.maxLocals = nL ∧ s.vm.findClass own = some m.cls ∧ meth.locks = false ∧ ∀ w ∈ WG, w.before args s = true
def Y (Ω : xO) (R : Room) (Q : State → Prop) (p : Program) (e : Env) (s : State) (m : MethodId) (args : Array Value) (below : List Frame) (meth : Method) (c : Code) (nL : Nat) (kc ks pc : Nat) (ls : List (Option xV)) (st : List xV) (h : xM) : Prop :=
  ∀ (H : Heap) (locs : List Loc) (lr : Array Slot), va_S (xA Ω) s.heap H locs → xRel Ω h H → xLo lr nL ls → W p Ω.1 e R s m args below meth c H locs kc ks Q (F0 m pc lr (st.map xc))
section YR
variable {Ω : xO} {own : String} {cc : ByteArray} {nL : Nat} {ret : Option FieldType} {R : Room} {Q : State → Prop} {p : Program} {e : Env} {s : State} {m : MethodId} {args : Array Value} {below : List Frame} {meth : Method} {c : Code} {kc ks pc pc' : Nat} {ls : List (Option xV)} {st : List xV} {h : xM}
theorem Y.gen {x : Int} (k : ∀ z, z = x → Y Ω R Q p e s m args below meth c nL kc ks pc ls (vi z :: st) h) : Y Ω R Q p e s m args below meth c nL kc ks pc ls (vi x :: st) h := k x rfl
theorem Y.genH (k : ∀ z, z = h → Y Ω R Q p e s m args below meth c nL kc ks pc ls st z) : Y Ω R Q p e s m args below meth c nL kc ks pc ls st h := k h rfl
theorem Y.mask {bs : List Bool} {ls' : List (Option xV)} (hm : xmask bs ls = ls') (k : Y Ω R Q p e s m args below meth c nL kc ks pc ls' st h) : Y Ω R Q p e s m args below meth c nL kc ks pc ls st h := by
  intro H locs lr hS r hl
  subst hm
  exact k H locs lr hS r ⟨hl.1, hl.2.1, fun i v hv => hl.2.2 i v (xmask_at _ _ _ _ hv)⟩
theorem Y.widen {kc' ks' : Nat} (h1 : kc ≤ kc') (h2 : ks ≤ ks') (k : Y Ω R Q p e s m args below meth c nL kc' ks' pc ls st h) : Y Ω R Q p e s m args below meth c nL kc ks pc ls st h := fun H locs lr hS r hl => W.widen h1 h2 (k H locs lr hS r hl)
theorem Y.iconst (cx : yCx own cc nL ret p s m args meth c) (wd : xWd Ω s) {n : Int} (hd : decode cc pc = .ok (.iconst n, 1)) (hp : pc + 1 = pc') (k : Y Ω R Q p e s m args below meth c nL kc ks pc' ls (vi n :: st) h) : Y Ω R Q p e s m args below meth c nL kc ks pc ls st h := by
  intro H locs lr hS r hl
  obtain ⟨hx, hb, hr, hml, hown, hlocks, hts⟩ := id cx
  subst hp
  exact lv_iconst hx hb hd rfl (k H locs lr hS r hl)

theorem Y.bipush (cx : yCx own cc nL ret p s m args meth c) (wd : xWd Ω s) {n : Int} (hn : (Int8.ofInt n).toInt32 = Int32.ofInt n) (hd : decode cc pc = .ok (.bipush n, 2)) (hp : pc + 2 = pc') (k : Y Ω R Q p e s m args below meth c nL kc ks pc' ls (vi n :: st) h) : Y Ω R Q p e s m args below meth c nL kc ks pc ls st h := by
  intro H locs lr hS r hl
  obtain ⟨hx, hb, hr, hml, hown, hlocks, hts⟩ := id cx
  subst hp
  exact lv_bipush hx hb hd hn (k H locs lr hS r hl)

theorem Y.sipush (cx : yCx own cc nL ret p s m args meth c) (wd : xWd Ω s) {n : Int} (hn : (Int16.ofInt n).toInt32 = Int32.ofInt n) (hd : decode cc pc = .ok (.sipush n, 3)) (hp : pc + 3 = pc') (k : Y Ω R Q p e s m args below meth c nL kc ks pc' ls (vi n :: st) h) : Y Ω R Q p e s m args below meth c nL kc ks pc ls st h := by
  intro H locs lr hS r hl
  obtain ⟨hx, hb, hr, hml, hown, hlocks, hts⟩ := id cx
  subst hp
  exact lv_sipush hx hb hd hn (k H locs lr hS r hl)

theorem Y.iload_n (cx : yCx own cc nL ret p s m args meth c) (wd : xWd Ω s) {i : Nat} {q4 : Fin 4} (hi : (q4 : Nat) = i) {x : Int} (hv : ls[i]? = some (some (vi x))) (hd : decode cc pc = .ok (.iload_n q4, 1)) (hp : pc + 1 = pc') (k : Y Ω R Q p e s m args below meth c nL kc ks pc' ls (vi x :: st) h) : Y Ω R Q p e s m args below meth c nL kc ks pc ls st h := by
  intro H locs lr hS r hl
  obtain ⟨hx, hb, hr, hml, hown, hlocks, hts⟩ := id cx
  subst hp
  exact lv_iload_n hx hb hd hi (hl.2.2 i _ hv) (k H locs lr hS r hl)

theorem Y.iload (cx : yCx own cc nL ret p s m args meth c) (wd : xWd Ω s) {i : Nat} {x : Int} (hv : ls[i]? = some (some (vi x))) (hd : decode cc pc = .ok (.iload i, 2)) (hp : pc + 2 = pc') (k : Y Ω R Q p e s m args below meth c nL kc ks pc' ls (vi x :: st) h) : Y Ω R Q p e s m args below meth c nL kc ks pc ls st h := by
  intro H locs lr hS r hl
  obtain ⟨hx, hb, hr, hml, hown, hlocks, hts⟩ := id cx
  subst hp
  exact lv_iload hx hb hd (hl.2.2 i _ hv) (k H locs lr hS r hl)

theorem Y.aload_n (cx : yCx own cc nL ret p s m args meth c) (wd : xWd Ω s) {i : Nat} {q4 : Fin 4} (hi : (q4 : Nat) = i) {x : Option Nat} (hv : ls[i]? = some (some (vr x))) (hd : decode cc pc = .ok (.aload_n q4, 1)) (hp : pc + 1 = pc') (k : Y Ω R Q p e s m args below meth c nL kc ks pc' ls (vr x :: st) h) : Y Ω R Q p e s m args below meth c nL kc ks pc ls st h := by
  intro H locs lr hS r hl
  obtain ⟨hx, hb, hr, hml, hown, hlocks, hts⟩ := id cx
  subst hp
  cases x with
  | none => exact lv_aload_nN hx hb hd hi (hl.2.2 i _ hv) (k H locs lr hS r hl)
  | some x => exact lv_aload_n hx hb hd hi (hl.2.2 i _ hv) (k H locs lr hS r hl)

theorem Y.aload (cx : yCx own cc nL ret p s m args meth c) (wd : xWd Ω s) {i : Nat} {x : Option Nat} (hv : ls[i]? = some (some (vr x))) (hd : decode cc pc = .ok (.aload i, 2)) (hp : pc + 2 = pc') (k : Y Ω R Q p e s m args below meth c nL kc ks pc' ls (vr x :: st) h) : Y Ω R Q p e s m args below meth c nL kc ks pc ls st h := by
  intro H locs lr hS r hl
  obtain ⟨hx, hb, hr, hml, hown, hlocks, hts⟩ := id cx
  subst hp
  cases x with
  | none => exact lv_aloadN hx hb hd (hl.2.2 i _ hv) (k H locs lr hS r hl)
  | some x => exact lv_aload hx hb hd (hl.2.2 i _ hv) (k H locs lr hS r hl)

theorem Y.istore_n (cx : yCx own cc nL ret p s m args meth c) (wd : xWd Ω s) {i : Nat} {q4 : Fin 4} (hi : (q4 : Nat) = i) {x : Int} {ls' : List (Option xV)} (hd : decode cc pc = .ok (.istore_n q4, 1)) (hn : i < nL) (hf : xfree ls i = true) (hs : xput ls i (vi x) = ls') (hp : pc + 1 = pc') (k : Y Ω R Q p e s m args below meth c nL kc ks pc' ls' st h) : Y Ω R Q p e s m args below meth c nL kc ks pc ls (vi x :: st) h := by
  intro H locs lr hS r hl
  obtain ⟨hx, hb, hr, hml, hown, hlocks, hts⟩ := id cx
  subst hp
  subst hs
  exact lv_istore_n hx hb hd hi (xLo_has hl) hn rfl (fun lr2 h2 => k H locs lr2 hS r (xLo_put hl hf h2))

theorem Y.istore (cx : yCx own cc nL ret p s m args meth c) (wd : xWd Ω s) {i : Nat} {x : Int} {ls' : List (Option xV)} (hd : decode cc pc = .ok (.istore i, 2)) (hn : i < nL) (hf : xfree ls i = true) (hs : xput ls i (vi x) = ls') (hp : pc + 2 = pc') (k : Y Ω R Q p e s m args below meth c nL kc ks pc' ls' st h) : Y Ω R Q p e s m args below meth c nL kc ks pc ls (vi x :: st) h := by
  intro H locs lr hS r hl
  obtain ⟨hx, hb, hr, hml, hown, hlocks, hts⟩ := id cx
  subst hp
  subst hs
  exact lv_istore hx hb hd (xLo_has hl) hn rfl (fun lr2 h2 => k H locs lr2 hS r (xLo_put hl hf h2))

theorem Y.astore_n (cx : yCx own cc nL ret p s m args meth c) (wd : xWd Ω s) {i : Nat} {q4 : Fin 4} (hi : (q4 : Nat) = i) {x : Option Nat} {ls' : List (Option xV)} (hd : decode cc pc = .ok (.astore_n q4, 1)) (hn : i < nL) (hf : xfree ls i = true) (hs : xput ls i (vr x) = ls') (hp : pc + 1 = pc') (k : Y Ω R Q p e s m args below meth c nL kc ks pc' ls' st h) : Y Ω R Q p e s m args below meth c nL kc ks pc ls (vr x :: st) h := by
  intro H locs lr hS r hl
  obtain ⟨hx, hb, hr, hml, hown, hlocks, hts⟩ := id cx
  subst hp
  subst hs
  cases x with
  | none => exact lv_astore_nN hx hb hd hi (xLo_has hl) hn rfl (fun lr2 h2 => k H locs lr2 hS r (xLo_put hl hf h2))
  | some x => exact lv_astore_n hx hb hd hi (xLo_has hl) hn rfl (fun lr2 h2 => k H locs lr2 hS r (xLo_put hl hf h2))

theorem Y.astore (cx : yCx own cc nL ret p s m args meth c) (wd : xWd Ω s) {i : Nat} {x : Option Nat} {ls' : List (Option xV)} (hd : decode cc pc = .ok (.astore i, 2)) (hn : i < nL) (hf : xfree ls i = true) (hs : xput ls i (vr x) = ls') (hp : pc + 2 = pc') (k : Y Ω R Q p e s m args below meth c nL kc ks pc' ls' st h) : Y Ω R Q p e s m args below meth c nL kc ks pc ls (vr x :: st) h := by
  intro H locs lr hS r hl
  obtain ⟨hx, hb, hr, hml, hown, hlocks, hts⟩ := id cx
  subst hp
  subst hs
  cases x with
  | none => exact lv_astoreN hx hb hd (xLo_has hl) hn rfl (fun lr2 h2 => k H locs lr2 hS r (xLo_put hl hf h2))
  | some x => exact lv_astore hx hb hd (xLo_has hl) hn rfl (fun lr2 h2 => k H locs lr2 hS r (xLo_put hl hf h2))

theorem Y.dload_n (cx : yCx own cc nL ret p s m args meth c) (wd : xWd Ω s) {i : Nat} {q4 : Fin 4} (hi : (q4 : Nat) = i) {x : UInt64} (hv : ls[i]? = some (some (vd x))) (hd : decode cc pc = .ok (.dload_n q4, 1)) (hp : pc + 1 = pc') (k : Y Ω R Q p e s m args below meth c nL kc ks pc' ls (vd x :: st) h) : Y Ω R Q p e s m args below meth c nL kc ks pc ls st h := by
  intro H locs lr hS r hl
  obtain ⟨hx, hb, hr, hml, hown, hlocks, hts⟩ := id cx
  subst hp
  exact lv_dload_n hx hb hd hi (hl.2.2 i _ hv) (k H locs lr hS r hl)

theorem Y.dload (cx : yCx own cc nL ret p s m args meth c) (wd : xWd Ω s) {i : Nat} {x : UInt64} (hv : ls[i]? = some (some (vd x))) (hd : decode cc pc = .ok (.dload i, 2)) (hp : pc + 2 = pc') (k : Y Ω R Q p e s m args below meth c nL kc ks pc' ls (vd x :: st) h) : Y Ω R Q p e s m args below meth c nL kc ks pc ls st h := by
  intro H locs lr hS r hl
  obtain ⟨hx, hb, hr, hml, hown, hlocks, hts⟩ := id cx
  subst hp
  exact lv_dload hx hb hd (hl.2.2 i _ hv) (k H locs lr hS r hl)

theorem Y.dstore (cx : yCx own cc nL ret p s m args meth c) (wd : xWd Ω s) {i : Nat} {x : UInt64} {ls' : List (Option xV)} (hd : decode cc pc = .ok (.dstore i, 2)) (hn : i + 1 < nL) (hf : xfree ls i = true) (hs : xput2 ls i (vd x) = ls') (hp : pc + 2 = pc') (k : Y Ω R Q p e s m args below meth c nL kc ks pc' ls' st h) : Y Ω R Q p e s m args below meth c nL kc ks pc ls (vd x :: st) h := by
  intro H locs lr hS r hl
  obtain ⟨hx, hb, hr, hml, hown, hlocks, hts⟩ := id cx
  subst hp
  subst hs
  exact lv_dstore hx hb hd (xLo_has hl) hn rfl (fun lr2 h2 => k H locs lr2 hS r (xLo_put2 hl hf h2))

theorem Y.dstore_n (cx : yCx own cc nL ret p s m args meth c) (wd : xWd Ω s) {i : Nat} {q4 : Fin 4} (hi : (q4 : Nat) = i) {x : UInt64} {ls' : List (Option xV)} (hd : decode cc pc = .ok (.dstore_n q4, 1)) (hn : i + 1 < nL) (hf : xfree ls i = true) (hs : xput2 ls i (vd x) = ls') (hp : pc + 1 = pc') (k : Y Ω R Q p e s m args below meth c nL kc ks pc' ls' st h) : Y Ω R Q p e s m args below meth c nL kc ks pc ls (vd x :: st) h := by
  intro H locs lr hS r hl
  obtain ⟨hx, hb, hr, hml, hown, hlocks, hts⟩ := id cx
  subst hp
  subst hs
  exact lv_dstore_n hx hb hd hi (xLo_has hl) hn rfl (fun lr2 h2 => k H locs lr2 hS r (xLo_put2 hl hf h2))

theorem Y.iinc (cx : yCx own cc nL ret p s m args meth c) (wd : xWd Ω s) {i : Nat} {n x : Int} {ls' : List (Option xV)} (hd : decode cc pc = .ok (.iinc i n, 3)) (hv : ls[i]? = some (some (vi x))) (hn : i < nL) (hf : xfree ls i = true) (hs : xput ls i (vi (x + n)) = ls') (hp : pc + 3 = pc') (k : Y Ω R Q p e s m args below meth c nL kc ks pc' ls' st h) : Y Ω R Q p e s m args below meth c nL kc ks pc ls st h := by
  intro H locs lr hS r hl
  obtain ⟨hx, hb, hr, hml, hown, hlocks, hts⟩ := id cx
  subst hp
  subst hs
  obtain ⟨q, hq⟩ := List.getElem?_of_mem (xLo_mem (ls := ls) hv)
  exact lv_iinc hx hb hd (xLo_has hl) (k := q) (x := Int32.ofInt x) hq (v := Int32.ofInt (x + n)) (Int32.ofInt_add ..).symm hn rfl (fun lr2 h2 => k H locs lr2 hS r (xLo_put hl hf h2))

theorem Y.iadd (cx : yCx own cc nL ret p s m args meth c) (wd : xWd Ω s) {x y : Int} (hd : decode cc pc = .ok (.iadd, 1)) (hp : pc + 1 = pc') (k : Y Ω R Q p e s m args below meth c nL kc ks pc' ls (vi (x + y) :: st) h) : Y Ω R Q p e s m args below meth c nL kc ks pc ls (vi y :: vi x :: st) h := by
  intro H locs lr hS r hl
  obtain ⟨hx, hb, hr, hml, hown, hlocks, hts⟩ := id cx
  subst hp
  refine lv_iadd hx hb hd ?_
  rw [← Int32.ofInt_add]
  exact (k H locs lr hS r hl)

theorem Y.isub (cx : yCx own cc nL ret p s m args meth c) (wd : xWd Ω s) {x y : Int} (hd : decode cc pc = .ok (.isub, 1)) (hp : pc + 1 = pc') (k : Y Ω R Q p e s m args below meth c nL kc ks pc' ls (vi (x - y) :: st) h) : Y Ω R Q p e s m args below meth c nL kc ks pc ls (vi y :: vi x :: st) h := by
  intro H locs lr hS r hl
  obtain ⟨hx, hb, hr, hml, hown, hlocks, hts⟩ := id cx
  subst hp
  refine lv_isub hx hb hd ?_
  rw [← Int32.ofInt_sub]
  exact (k H locs lr hS r hl)

theorem Y.goto (cx : yCx own cc nL ret p s m args meth c) (wd : xWd Ω s) {off : Int} {tgt : Nat} (hd : decode cc pc = .ok (.goto off, 3)) (ht : (pc : Int) + off = (tgt : Int)) (k : Y Ω R Q p e s m args below meth c nL kc ks tgt ls st h) : Y Ω R Q p e s m args below meth c nL kc ks pc ls st h := by
  intro H locs lr hS r hl
  obtain ⟨hx, hb, hr, hml, hown, hlocks, hts⟩ := id cx
  exact lv_goto hx hb hd ht (k H locs lr hS r hl)

theorem Y.tableIn (cx : yCx own cc nL ret p s m args meth c) (wd : xWd Ω s) {dflt lo hi : Int} {offs : Array Int} {len : Nat} {x off : Int} {tgt : Nat} (hd : decode cc pc = .ok (.tableswitch dflt lo hi offs, len)) (h0 : inR x) (h1 : lo ≤ x) (h2 : x ≤ hi) (ho : offs[(x - lo).toNat]? = some off) (ht : (pc : Int) + off = (tgt : Int)) (k : Y Ω R Q p e s m args below meth c nL kc ks tgt ls st h) : Y Ω R Q p e s m args below meth c nL kc ks pc ls (vi x :: st) h := by
  intro H locs lr hS r hl
  obtain ⟨hx, hb, hr, hml, hown, hlocks, hts⟩ := id cx
  exact lv_tableIn hx hb hd (by rw [inR_ofInt h0]; omega) (by rw [inR_ofInt h0]; omega) (by rw [inR_ofInt h0]; exact ho) ht (k H locs lr hS r hl)

theorem Y.tableOut (cx : yCx own cc nL ret p s m args meth c) (wd : xWd Ω s) {dflt lo hi : Int} {offs : Array Int} {len : Nat} {x : Int} {tgt : Nat} (hd : decode cc pc = .ok (.tableswitch dflt lo hi offs, len)) (h0 : inR x) (h1 : x < lo ∨ hi < x) (ht : (pc : Int) + dflt = (tgt : Int)) (k : Y Ω R Q p e s m args below meth c nL kc ks tgt ls st h) : Y Ω R Q p e s m args below meth c nL kc ks pc ls (vi x :: st) h := by
  intro H locs lr hS r hl
  obtain ⟨hx, hb, hr, hml, hown, hlocks, hts⟩ := id cx
  exact lv_tableOut hx hb hd (by rw [inR_ofInt h0]; exact h1) ht (k H locs lr hS r hl)

theorem Y.dup (cx : yCx own cc nL ret p s m args meth c) (wd : xWd Ω s) {v : xV} (hv : xcat v = 1) (hd : decode cc pc = .ok (.dup, 1)) (hp : pc + 1 = pc') (k : Y Ω R Q p e s m args below meth c nL kc ks pc' ls (v :: v :: st) h) : Y Ω R Q p e s m args below meth c nL kc ks pc ls (v :: st) h := by
  intro H locs lr hS r hl
  obtain ⟨hx, hb, hr, hml, hown, hlocks, hts⟩ := id cx
  subst hp
  exact lv_dup hx hb hd ((xc_cat v).trans hv) (k H locs lr hS r hl)

theorem Y.i2l (cx : yCx own cc nL ret p s m args meth c) (wd : xWd Ω s) {x : Int} (h0 : inR x) (hd : decode cc pc = .ok (.i2l, 1)) (hp : pc + 1 = pc') (k : Y Ω R Q p e s m args below meth c nL kc ks pc' ls (vl (Int64.ofInt x) :: st) h) : Y Ω R Q p e s m args below meth c nL kc ks pc ls (vi x :: st) h := by
  intro H locs lr hS r hl
  obtain ⟨hx, hb, hr, hml, hown, hlocks, hts⟩ := id cx
  subst hp
  exact lv_i2l hx hb hd (x_i2l h0) (k H locs lr hS r hl)

theorem Y.lcmp (cx : yCx own cc nL ret p s m args meth c) (wd : xWd Ω s) {x y : Int64} (hd : decode cc pc = .ok (.lcmp, 1)) (hp : pc + 1 = pc') (k1 : x = y → Y Ω R Q p e s m args below meth c nL kc ks pc' ls (vi 0 :: st) h) (k2 : ¬ x = y → ∀ z, z ≠ 0 → inR z → Y Ω R Q p e s m args below meth c nL kc ks pc' ls (vi z :: st) h) : Y Ω R Q p e s m args below meth c nL kc ks pc ls (vl y :: vl x :: st) h := by
  intro H locs lr hS r hl
  obtain ⟨hx, hb, hr, hml, hown, hlocks, hts⟩ := id cx
  subst hp
  refine W.lcmp hx hb hd ?_
  obtain ⟨z, hz, hz2⟩ : ∃ z, lg_cmp x y = Int32.ofInt z ∧ inR z ∧ (x = y → z = 0) ∧ (¬ x = y → z ≠ 0) := x_lcmp x y
  rw [hz]
  by_cases e1 : x = y
  · rw [hz2.2.1 e1]
    exact (k1 e1 H locs lr hS r hl)
  · exact (k2 e1 z (hz2.2.2 e1) hz2.1 H locs lr hS r hl)

theorem Y.dcmp (cx : yCx own cc nL ret p s m args meth c) (wd : xWd Ω s) {x y : UInt64} {op : CmpOp} {z : Int} (hz : Op.cmpValue (FP.dcmp x y) op = Int32.ofInt z) (hd : decode cc pc = .ok (.dcmp op, 1)) (hp : pc + 1 = pc') (k : Y Ω R Q p e s m args below meth c nL kc ks pc' ls (vi z :: st) h) : Y Ω R Q p e s m args below meth c nL kc ks pc ls (vd y :: vd x :: st) h := by
  intro H locs lr hS r hl
  obtain ⟨hx, hb, hr, hml, hown, hlocks, hts⟩ := id cx
  subst hp
  refine lv_dcmp hx hb hd ?_
  rw [hz]
  exact (k H locs lr hS r hl)

theorem Y.iand (cx : yCx own cc nL ret p s m args meth c) (wd : xWd Ω s) {x y z : Int} (hz : Int32.ofInt x &&& Int32.ofInt y = Int32.ofInt z) (hd : decode cc pc = .ok (.iand, 1)) (hp : pc + 1 = pc') (k : Y Ω R Q p e s m args below meth c nL kc ks pc' ls (vi z :: st) h) : Y Ω R Q p e s m args below meth c nL kc ks pc ls (vi y :: vi x :: st) h := by
  intro H locs lr hS r hl
  obtain ⟨hx, hb, hr, hml, hown, hlocks, hts⟩ := id cx
  subst hp
  refine lv_iand hx hb hd ?_
  rw [hz]
  exact (k H locs lr hS r hl)

theorem Y.if_eq (cx : yCx own cc nL ret p s m args meth c) (wd : xWd Ω s) {x : Int} {off : Int} {tgt : Nat} (hd : decode cc pc = .ok (.ifCond .eq off, 3)) (hx1 : inR x) (ht : (pc : Int) + off = (tgt : Int)) (hp : pc + 3 = pc') (kt : x = 0 → Y Ω R Q p e s m args below meth c nL kc ks tgt ls st h) (kf : ¬ x = 0 → Y Ω R Q p e s m args below meth c nL kc ks pc' ls st h) : Y Ω R Q p e s m args below meth c nL kc ks pc ls (vi x :: st) h := by
  intro H locs lr hS r hl
  obtain ⟨hx, hb, hr, hml, hown, hlocks, hts⟩ := id cx
  subst hp
  refine lv_if_eq hx hb hd ht ?_ ?_
  · intro hc
    rw [show (0 : Int32) = Int32.ofInt 0 from rfl] at hc
    rw [x_eq hx1 inR_0] at hc
    exact kt (by omega) H locs lr hS r hl
  · intro hc
    rw [show (0 : Int32) = Int32.ofInt 0 from rfl] at hc
    rw [x_eq hx1 inR_0] at hc
    exact kf (by omega) H locs lr hS r hl

theorem Y.if_ne (cx : yCx own cc nL ret p s m args meth c) (wd : xWd Ω s) {x : Int} {off : Int} {tgt : Nat} (hd : decode cc pc = .ok (.ifCond .ne off, 3)) (hx1 : inR x) (ht : (pc : Int) + off = (tgt : Int)) (hp : pc + 3 = pc') (kt : ¬ x = 0 → Y Ω R Q p e s m args below meth c nL kc ks tgt ls st h) (kf : x = 0 → Y Ω R Q p e s m args below meth c nL kc ks pc' ls st h) : Y Ω R Q p e s m args below meth c nL kc ks pc ls (vi x :: st) h := by
  intro H locs lr hS r hl
  obtain ⟨hx, hb, hr, hml, hown, hlocks, hts⟩ := id cx
  subst hp
  refine lv_if_ne hx hb hd ht ?_ ?_
  · intro hc
    rw [show (0 : Int32) = Int32.ofInt 0 from rfl] at hc
    rw [x_eq hx1 inR_0] at hc
    exact kt (by omega) H locs lr hS r hl
  · intro hc
    rw [show (0 : Int32) = Int32.ofInt 0 from rfl] at hc
    rw [x_eq hx1 inR_0] at hc
    exact kf (by omega) H locs lr hS r hl

theorem Y.if_lt (cx : yCx own cc nL ret p s m args meth c) (wd : xWd Ω s) {x : Int} {off : Int} {tgt : Nat} (hd : decode cc pc = .ok (.ifCond .lt off, 3)) (hx1 : inR x) (ht : (pc : Int) + off = (tgt : Int)) (hp : pc + 3 = pc') (kt : x < 0 → Y Ω R Q p e s m args below meth c nL kc ks tgt ls st h) (kf : 0 ≤ x → Y Ω R Q p e s m args below meth c nL kc ks pc' ls st h) : Y Ω R Q p e s m args below meth c nL kc ks pc ls (vi x :: st) h := by
  intro H locs lr hS r hl
  obtain ⟨hx, hb, hr, hml, hown, hlocks, hts⟩ := id cx
  subst hp
  refine lv_if_lt hx hb hd ht ?_ ?_
  · intro hc
    rw [show (0 : Int32) = Int32.ofInt 0 from rfl] at hc
    rw [x_lt hx1 inR_0] at hc
    exact kt (by omega) H locs lr hS r hl
  · intro hc
    rw [show (0 : Int32) = Int32.ofInt 0 from rfl] at hc
    rw [x_lt hx1 inR_0] at hc
    exact kf (by omega) H locs lr hS r hl

theorem Y.if_ge (cx : yCx own cc nL ret p s m args meth c) (wd : xWd Ω s) {x : Int} {off : Int} {tgt : Nat} (hd : decode cc pc = .ok (.ifCond .ge off, 3)) (hx1 : inR x) (ht : (pc : Int) + off = (tgt : Int)) (hp : pc + 3 = pc') (kt : 0 ≤ x → Y Ω R Q p e s m args below meth c nL kc ks tgt ls st h) (kf : x < 0 → Y Ω R Q p e s m args below meth c nL kc ks pc' ls st h) : Y Ω R Q p e s m args below meth c nL kc ks pc ls (vi x :: st) h := by
  intro H locs lr hS r hl
  obtain ⟨hx, hb, hr, hml, hown, hlocks, hts⟩ := id cx
  subst hp
  refine lv_if_ge hx hb hd ht ?_ ?_
  · intro hc
    rw [show (0 : Int32) = Int32.ofInt 0 from rfl] at hc
    have hc := hc
    first | rw [ge_iff_le, x_le inR_0 hx1] at hc | rw [x_le inR_0 hx1] at hc | rw [x_lt hx1 inR_0] at hc
    exact kt (by omega) H locs lr hS r hl
  · intro hc
    rw [show (0 : Int32) = Int32.ofInt 0 from rfl] at hc
    have hc := hc
    first | rw [ge_iff_le, x_le inR_0 hx1] at hc | rw [x_le inR_0 hx1] at hc | rw [x_lt hx1 inR_0] at hc
    exact kf (by omega) H locs lr hS r hl

theorem Y.if_gt (cx : yCx own cc nL ret p s m args meth c) (wd : xWd Ω s) {x : Int} {off : Int} {tgt : Nat} (hd : decode cc pc = .ok (.ifCond .gt off, 3)) (hx1 : inR x) (ht : (pc : Int) + off = (tgt : Int)) (hp : pc + 3 = pc') (kt : 0 < x → Y Ω R Q p e s m args below meth c nL kc ks tgt ls st h) (kf : x ≤ 0 → Y Ω R Q p e s m args below meth c nL kc ks pc' ls st h) : Y Ω R Q p e s m args below meth c nL kc ks pc ls (vi x :: st) h := by
  intro H locs lr hS r hl
  obtain ⟨hx, hb, hr, hml, hown, hlocks, hts⟩ := id cx
  subst hp
  refine lv_if_gt hx hb hd ht ?_ ?_
  · intro hc
    rw [show (0 : Int32) = Int32.ofInt 0 from rfl] at hc
    have hc := hc
    first | rw [gt_iff_lt, x_lt inR_0 hx1] at hc | rw [x_lt inR_0 hx1] at hc | rw [x_le hx1 inR_0] at hc
    exact kt (by omega) H locs lr hS r hl
  · intro hc
    rw [show (0 : Int32) = Int32.ofInt 0 from rfl] at hc
    have hc := hc
    first | rw [gt_iff_lt, x_lt inR_0 hx1] at hc | rw [x_lt inR_0 hx1] at hc | rw [x_le hx1 inR_0] at hc
    exact kf (by omega) H locs lr hS r hl

theorem Y.if_le (cx : yCx own cc nL ret p s m args meth c) (wd : xWd Ω s) {x : Int} {off : Int} {tgt : Nat} (hd : decode cc pc = .ok (.ifCond .le off, 3)) (hx1 : inR x) (ht : (pc : Int) + off = (tgt : Int)) (hp : pc + 3 = pc') (kt : x ≤ 0 → Y Ω R Q p e s m args below meth c nL kc ks tgt ls st h) (kf : 0 < x → Y Ω R Q p e s m args below meth c nL kc ks pc' ls st h) : Y Ω R Q p e s m args below meth c nL kc ks pc ls (vi x :: st) h := by
  intro H locs lr hS r hl
  obtain ⟨hx, hb, hr, hml, hown, hlocks, hts⟩ := id cx
  subst hp
  refine lv_if_le hx hb hd ht ?_ ?_
  · intro hc
    rw [show (0 : Int32) = Int32.ofInt 0 from rfl] at hc
    rw [x_le hx1 inR_0] at hc
    exact kt (by omega) H locs lr hS r hl
  · intro hc
    rw [show (0 : Int32) = Int32.ofInt 0 from rfl] at hc
    rw [x_le hx1 inR_0] at hc
    exact kf (by omega) H locs lr hS r hl

theorem Y.icmp_eq (cx : yCx own cc nL ret p s m args meth c) (wd : xWd Ω s) {x y : Int} {off : Int} {tgt : Nat} (hd : decode cc pc = .ok (.if_icmp .eq off, 3)) (hx1 : inR x) (hy1 : inR y) (ht : (pc : Int) + off = (tgt : Int)) (hp : pc + 3 = pc') (kt : x = y → Y Ω R Q p e s m args below meth c nL kc ks tgt ls st h) (kf : ¬ x = y → Y Ω R Q p e s m args below meth c nL kc ks pc' ls st h) : Y Ω R Q p e s m args below meth c nL kc ks pc ls (vi y :: vi x :: st) h := by
  intro H locs lr hS r hl
  obtain ⟨hx, hb, hr, hml, hown, hlocks, hts⟩ := id cx
  subst hp
  refine lv_icmp_eq hx hb hd ht ?_ ?_
  · intro hc
    rw [x_eq hx1 hy1] at hc
    exact kt (by omega) H locs lr hS r hl
  · intro hc
    rw [x_eq hx1 hy1] at hc
    exact kf (by omega) H locs lr hS r hl

theorem Y.icmp_ne (cx : yCx own cc nL ret p s m args meth c) (wd : xWd Ω s) {x y : Int} {off : Int} {tgt : Nat} (hd : decode cc pc = .ok (.if_icmp .ne off, 3)) (hx1 : inR x) (hy1 : inR y) (ht : (pc : Int) + off = (tgt : Int)) (hp : pc + 3 = pc') (kt : ¬ x = y → Y Ω R Q p e s m args below meth c nL kc ks tgt ls st h) (kf : x = y → Y Ω R Q p e s m args below meth c nL kc ks pc' ls st h) : Y Ω R Q p e s m args below meth c nL kc ks pc ls (vi y :: vi x :: st) h := by
  intro H locs lr hS r hl
  obtain ⟨hx, hb, hr, hml, hown, hlocks, hts⟩ := id cx
  subst hp
  refine lv_icmp_ne hx hb hd ht ?_ ?_
  · intro hc
    rw [x_eq hx1 hy1] at hc
    exact kt (by omega) H locs lr hS r hl
  · intro hc
    rw [x_eq hx1 hy1] at hc
    exact kf (by omega) H locs lr hS r hl

theorem Y.icmp_lt (cx : yCx own cc nL ret p s m args meth c) (wd : xWd Ω s) {x y : Int} {off : Int} {tgt : Nat} (hd : decode cc pc = .ok (.if_icmp .lt off, 3)) (hx1 : inR x) (hy1 : inR y) (ht : (pc : Int) + off = (tgt : Int)) (hp : pc + 3 = pc') (kt : x < y → Y Ω R Q p e s m args below meth c nL kc ks tgt ls st h) (kf : y ≤ x → Y Ω R Q p e s m args below meth c nL kc ks pc' ls st h) : Y Ω R Q p e s m args below meth c nL kc ks pc ls (vi y :: vi x :: st) h := by
  intro H locs lr hS r hl
  obtain ⟨hx, hb, hr, hml, hown, hlocks, hts⟩ := id cx
  subst hp
  refine lv_icmp_lt hx hb hd ht ?_ ?_
  · intro hc
    rw [x_lt hx1 hy1] at hc
    exact kt (by omega) H locs lr hS r hl
  · intro hc
    rw [x_lt hx1 hy1] at hc
    exact kf (by omega) H locs lr hS r hl

theorem Y.icmp_ge (cx : yCx own cc nL ret p s m args meth c) (wd : xWd Ω s) {x y : Int} {off : Int} {tgt : Nat} (hd : decode cc pc = .ok (.if_icmp .ge off, 3)) (hx1 : inR x) (hy1 : inR y) (ht : (pc : Int) + off = (tgt : Int)) (hp : pc + 3 = pc') (kt : y ≤ x → Y Ω R Q p e s m args below meth c nL kc ks tgt ls st h) (kf : x < y → Y Ω R Q p e s m args below meth c nL kc ks pc' ls st h) : Y Ω R Q p e s m args below meth c nL kc ks pc ls (vi y :: vi x :: st) h := by
  intro H locs lr hS r hl
  obtain ⟨hx, hb, hr, hml, hown, hlocks, hts⟩ := id cx
  subst hp
  refine lv_icmp_ge hx hb hd ht ?_ ?_
  · intro hc
    have hc := hc
    first | rw [ge_iff_le, x_le hy1 hx1] at hc | rw [x_le hy1 hx1] at hc | rw [x_lt hx1 hy1] at hc
    exact kt (by omega) H locs lr hS r hl
  · intro hc
    have hc := hc
    first | rw [ge_iff_le, x_le hy1 hx1] at hc | rw [x_le hy1 hx1] at hc | rw [x_lt hx1 hy1] at hc
    exact kf (by omega) H locs lr hS r hl

theorem Y.icmp_gt (cx : yCx own cc nL ret p s m args meth c) (wd : xWd Ω s) {x y : Int} {off : Int} {tgt : Nat} (hd : decode cc pc = .ok (.if_icmp .gt off, 3)) (hx1 : inR x) (hy1 : inR y) (ht : (pc : Int) + off = (tgt : Int)) (hp : pc + 3 = pc') (kt : y < x → Y Ω R Q p e s m args below meth c nL kc ks tgt ls st h) (kf : x ≤ y → Y Ω R Q p e s m args below meth c nL kc ks pc' ls st h) : Y Ω R Q p e s m args below meth c nL kc ks pc ls (vi y :: vi x :: st) h := by
  intro H locs lr hS r hl
  obtain ⟨hx, hb, hr, hml, hown, hlocks, hts⟩ := id cx
  subst hp
  refine lv_icmp_gt hx hb hd ht ?_ ?_
  · intro hc
    have hc := hc
    first | rw [gt_iff_lt, x_lt hy1 hx1] at hc | rw [x_lt hy1 hx1] at hc | rw [x_le hx1 hy1] at hc
    exact kt (by omega) H locs lr hS r hl
  · intro hc
    have hc := hc
    first | rw [gt_iff_lt, x_lt hy1 hx1] at hc | rw [x_lt hy1 hx1] at hc | rw [x_le hx1 hy1] at hc
    exact kf (by omega) H locs lr hS r hl

theorem Y.icmp_le (cx : yCx own cc nL ret p s m args meth c) (wd : xWd Ω s) {x y : Int} {off : Int} {tgt : Nat} (hd : decode cc pc = .ok (.if_icmp .le off, 3)) (hx1 : inR x) (hy1 : inR y) (ht : (pc : Int) + off = (tgt : Int)) (hp : pc + 3 = pc') (kt : x ≤ y → Y Ω R Q p e s m args below meth c nL kc ks tgt ls st h) (kf : y < x → Y Ω R Q p e s m args below meth c nL kc ks pc' ls st h) : Y Ω R Q p e s m args below meth c nL kc ks pc ls (vi y :: vi x :: st) h := by
  intro H locs lr hS r hl
  obtain ⟨hx, hb, hr, hml, hown, hlocks, hts⟩ := id cx
  subst hp
  refine lv_icmp_le hx hb hd ht ?_ ?_
  · intro hc
    rw [x_le hx1 hy1] at hc
    exact kt (by omega) H locs lr hS r hl
  · intro hc
    rw [x_le hx1 hy1] at hc
    exact kf (by omega) H locs lr hS r hl

theorem Y.new (cx : yCx own cc nL ret p s m args meth c) (wd : xWd Ω s) {index ci n : Nat} {C : String} {T : u_T} (hd : decode cc pc = .ok (.new index, 3)) (hc : xCls ci) (hci : ci < 7) (hC : vwCl[ci]? = some (C, T, n)) (w1 : Cond.classLink own index C ∈ WG) (w2 : Cond.instantiable C n ∈ WG) (w3 : Cond.initialized C ∈ WG) (hkc : kc + 1 ≤ R.cells) (hks : ks + n ≤ R.slots) (hp : pc + 3 = pc')
    (kk : Y Ω R Q p e s m args below meth c nL (kc + 1) (ks + n) pc' ls (rf (mN h) :: st) (aL h ci n)) : Y Ω R Q p e s m args below meth c nL kc ks pc ls st h := by
  intro H locs lr hS r hl
  obtain ⟨hx, hb, hr, hml, hown, hlocks, hts⟩ := id cx
  subst hp
  obtain ⟨g1, g2, ty, g3, g4⟩ := hc _ hC
  have hKn := wd.1.1 ci _ hC
  refine W.newcK hx hb hown (hts _ w1) (hts _ w2) (hts _ w3) rfl hd hkc hks hKn.2.1 rfl fun H1 kC hkC e1 z1 o1 => ?_
  rw [r.1] at e1 z1 o1
  have e2 : Value.ref H.size = xc (rf (mN h)) := by rw [r.1]; rfl
  rw [e2]
  refine kk H1 locs lr (xS_grow hS (by rw [r.1]; omega) (fun q hq => o1 q (by rw [← r.1]; exact hq))) (xRel_new r (xS_B wd hS) z1 (fun q hq => o1 q (by rw [← r.1]; exact hq)) (fun b hb => ?_) (fun b hb => ?_) (fun b hb => ?_) (fun b hb => ?_) (fun b k hb => ?_) (fun b t m2 hb ht => ?_)) hl
  · rw [mT_aL, if_neg (by omega)]
  · funext j
    rw [mI_aL, if_neg (by omega)]
  · funext j
    rw [mR_aL, if_neg (by omega)]
  · funext j
    rw [mL_aL, if_neg (by omega)]
  · rw [mI_aL]
    split
    · exact inR_0
    · exact r.2.1 _ _
  · rw [mT_aL] at ht
    by_cases e9 : b = mN h
    · rw [if_pos e9] at ht
      cases ht
      subst e9
      rw [xE_obj hci]
      refine ⟨_, hC, (u_born ty hts g1 hKn hkC e1 g3).to (fun k hk => ?_)⟩
      unfold vp_V
      rw [List.getD_eq_getElem?_getD, List.getElem?_map, List.getElem?_range hk]
      have h4 := g4 k hk
      simp only [Option.map_some, Option.getD_some, xfv, mI_aL, mR_aL, mL_aL, if_true]
      rcases (show xft ci k = 0 ∨ xft ci k = 1 ∨ xft ci k = 2 ∨ xft ci k = 3 by omega) with q | q | q | q
      · rw [h4.1 q, q]; rfl
      · rw [h4.2.1 q, q]; rfl
      · rw [q]
        rcases h4.2.2.1 q with ⟨C9, q9⟩ | ⟨t9, q9⟩ <;> rw [q9] <;> rfl
      · rw [h4.2.2.2.1 q, q]; rfl
    · rw [if_neg e9] at ht
      exact absurd (r.lt ht) (by omega)

theorem Y.newa (cx : yCx own cc nL ret p s m args meth c) (wd : xWd Ω s) {at_ : ArrayType} {k : Int} {N t : Nat} (hd : decode cc pc = .ok (.newarray at_, 2)) (ht : (t = 10 ∧ newarray.typeOf at_ = .int) ∨ (t = 11 ∧ newarray.typeOf at_ = .char) ∨ False) (w : Cond.arrayClass (newarray.typeOf at_) ∈ WG) (hk : k = N) (hN : N ≤ 50000000) (hkc : kc + 1 ≤ R.cells) (hks : ks + N ≤ R.slots) (hp : pc + 2 = pc')
    (kk : Y Ω R Q p e s m args below meth c nL (kc + 1) (ks + N) pc' ls (rf (mN h) :: st) (aL h t N)) : Y Ω R Q p e s m args below meth c nL kc ks pc ls (vi k :: st) h := by
  intro H locs lr hS r hl
  obtain ⟨hx, hb, hr, hml, hown, hlocks, hts⟩ := id cx
  subst hp
  subst hk
  have hi : inR (N : Int) := ⟨by omega, by omega⟩
  have hn0 : ¬ Int32.ofInt (N : Int) < 0 := by
    rw [show (0 : Int32) = Int32.ofInt 0 from rfl, x_lt hi inR_0]
    omega
  refine va_newaK hx hb (hts _ w) rfl hd rfl hn0 (N := N) (by rw [x_nat hi]; omega) (by rcases ht with ⟨-, q⟩ | ⟨-, q⟩ | q <;> first | exact q.elim | (rw [q] <;> simp [componentBytes] <;> omega)) hkc hks rfl fun H1 cA e1 z1 o1 hAr hNm => ?_
  rw [r.1] at e1 z1 o1
  have e2 : Value.ref H.size = xc (rf (mN h)) := by rw [r.1]; rfl
  rw [e2]
  refine kk H1 locs lr (xS_grow hS (by rw [r.1]; omega) (fun q hq => o1 q (by rw [← r.1]; exact hq))) (xRel_new r (xS_B wd hS) z1 (fun q hq => o1 q (by rw [← r.1]; exact hq)) (fun b hb => ?_) (fun b hb => ?_) (fun b hb => ?_) (fun b hb => ?_) (fun b k hb => ?_) (fun b t9 m2 hb ht9 => ?_)) hl
  · rw [mT_aL, if_neg (by omega)]
  · funext j
    rw [mI_aL, if_neg (by omega)]
  · funext j
    rw [mR_aL, if_neg (by omega)]
  · funext j
    rw [mL_aL, if_neg (by omega)]
  · rw [mI_aL]
    split
    · exact inR_0
    · exact r.2.1 _ _
  · rw [mT_aL] at ht9
    by_cases e9 : b = mN h
    · rw [if_pos e9] at ht9
      cases ht9
      subst e9
      rcases ht with ⟨rfl, q⟩ | ⟨rfl, q⟩ | q
      · rw [q] at hNm e1
        have q2 : cA = Ω.2.2.1 0 := Option.some.inj (hNm.symm.trans (wd.1.2 0 _ rfl).2)
        rw [xE_10]
        show H1[mN h]? = some (vp_cell _ _)
        rw [e1, vp_cell_i, q2]
        congr 2
        funext j
        rw [mI_aL, if_pos rfl]
        rfl
      · rw [q] at hNm e1
        have q2 : cA = Ω.2.2.1 1 := Option.some.inj (hNm.symm.trans (wd.1.2 1 _ rfl).2)
        rw [xE_11]
        show H1[mN h]? = some (vp_cell _ _)
        rw [e1, vp_cell_i, q2]
        congr 2
        funext j
        rw [mI_aL, if_pos rfl]
        rfl
      · exact q.elim
    · rw [if_neg e9] at ht9
      exact absurd (r.lt ht9) (by omega)

theorem Y.idiv (cx : yCx own cc nL ret p s m args meth c) (wd : xWd Ω s) {x y : Int} (hx0 : inR x) (hx1 : 0 ≤ x) (hy0 : inR y) (hy1 : 0 < y) (hd : decode cc pc = .ok (.idiv, 1)) (hp : pc + 1 = pc') (k : Y Ω R Q p e s m args below meth c nL kc ks pc' ls (vi (x / y) :: st) h) : Y Ω R Q p e s m args below meth c nL kc ks pc ls (vi y :: vi x :: st) h := by
  intro H locs lr hS r hl
  obtain ⟨hx, hb, hr, hml, hown, hlocks, hts⟩ := id cx
  subst hp
  refine lv_idiv hx hb hd (by rw [show (0 : Int32) = Int32.ofInt 0 from rfl, x_eq hy0 inR_0]; omega) ?_
  rw [x_div hx0 hx1 hy0 hy1]
  exact (k H locs lr hS r hl)

theorem Y.irem (cx : yCx own cc nL ret p s m args meth c) (wd : xWd Ω s) {x y : Int} (hx0 : inR x) (hx1 : 0 ≤ x) (hy0 : inR y) (hy1 : 0 < y) (hd : decode cc pc = .ok (.irem, 1)) (hp : pc + 1 = pc') (k : Y Ω R Q p e s m args below meth c nL kc ks pc' ls (vi (x % y) :: st) h) : Y Ω R Q p e s m args below meth c nL kc ks pc ls (vi y :: vi x :: st) h := by
  intro H locs lr hS r hl
  obtain ⟨hx, hb, hr, hml, hown, hlocks, hts⟩ := id cx
  subst hp
  refine lv_irem hx hb hd (by rw [show (0 : Int32) = Int32.ofInt 0 from rfl, x_eq hy0 inR_0]; omega) ?_
  rw [x_rem hx0 hx1 hy0 hy1]
  exact (k H locs lr hS r hl)

theorem Y.imul (cx : yCx own cc nL ret p s m args meth c) (wd : xWd Ω s) {x y : Int} (hd : decode cc pc = .ok (.imul, 1)) (hp : pc + 1 = pc') (k : Y Ω R Q p e s m args below meth c nL kc ks pc' ls (vi (x * y) :: st) h) : Y Ω R Q p e s m args below meth c nL kc ks pc ls (vi y :: vi x :: st) h := by
  intro H locs lr hS r hl
  obtain ⟨hx, hb, hr, hml, hown, hlocks, hts⟩ := id cx
  subst hp
  refine lv_imul hx hb hd ?_
  rw [← Int32.ofInt_mul]
  exact (k H locs lr hS r hl)

theorem Y.lload (cx : yCx own cc nL ret p s m args meth c) (wd : xWd Ω s) {i : Nat} {x : Int64} (hv : ls[i]? = some (some (vl x))) (hd : decode cc pc = .ok (.lload i, 2)) (hp : pc + 2 = pc') (k : Y Ω R Q p e s m args below meth c nL kc ks pc' ls (vl x :: st) h) : Y Ω R Q p e s m args below meth c nL kc ks pc ls st h := by
  intro H locs lr hS r hl
  obtain ⟨hx, hb, hr, hml, hown, hlocks, hts⟩ := id cx
  subst hp
  exact lv_lload hx hb hd (hl.2.2 i _ hv) (k H locs lr hS r hl)

theorem Y.lload_n (cx : yCx own cc nL ret p s m args meth c) (wd : xWd Ω s) {i : Nat} {q4 : Fin 4} (hi : (q4 : Nat) = i) {x : Int64} (hv : ls[i]? = some (some (vl x))) (hd : decode cc pc = .ok (.lload_n q4, 1)) (hp : pc + 1 = pc') (k : Y Ω R Q p e s m args below meth c nL kc ks pc' ls (vl x :: st) h) : Y Ω R Q p e s m args below meth c nL kc ks pc ls st h := by
  intro H locs lr hS r hl
  obtain ⟨hx, hb, hr, hml, hown, hlocks, hts⟩ := id cx
  subst hp
  exact lv_lload_n hx hb hd hi (hl.2.2 i _ hv) (k H locs lr hS r hl)

theorem Y.lstore (cx : yCx own cc nL ret p s m args meth c) (wd : xWd Ω s) {i : Nat} {x : Int64} {ls' : List (Option xV)} (hd : decode cc pc = .ok (.lstore i, 2)) (hn : i + 1 < nL) (hf : xfree ls i = true) (hs : xput2 ls i (vl x) = ls') (hp : pc + 2 = pc') (k : Y Ω R Q p e s m args below meth c nL kc ks pc' ls' st h) : Y Ω R Q p e s m args below meth c nL kc ks pc ls (vl x :: st) h := by
  intro H locs lr hS r hl
  obtain ⟨hx, hb, hr, hml, hown, hlocks, hts⟩ := id cx
  subst hp
  subst hs
  exact lv_lstore hx hb hd (xLo_has hl) hn rfl (fun lr2 h2 => k H locs lr2 hS r (xLo_put2 hl hf h2))

theorem Y.lstore_n (cx : yCx own cc nL ret p s m args meth c) (wd : xWd Ω s) {i : Nat} {q4 : Fin 4} (hi : (q4 : Nat) = i) {x : Int64} {ls' : List (Option xV)} (hd : decode cc pc = .ok (.lstore_n q4, 1)) (hn : i + 1 < nL) (hf : xfree ls i = true) (hs : xput2 ls i (vl x) = ls') (hp : pc + 1 = pc') (k : Y Ω R Q p e s m args below meth c nL kc ks pc' ls' st h) : Y Ω R Q p e s m args below meth c nL kc ks pc ls (vl x :: st) h := by
  intro H locs lr hS r hl
  obtain ⟨hx, hb, hr, hml, hown, hlocks, hts⟩ := id cx
  subst hp
  subst hs
  exact lv_lstore_n hx hb hd hi (xLo_has hl) hn rfl (fun lr2 h2 => k H locs lr2 hS r (xLo_put2 hl hf h2))

theorem Y.ldcI (cx : yCx own cc nL ret p s m args meth c) (wd : xWd Ω s) {index : Nat} {v : Int} (hd : decode cc pc = .ok (.ldc index, 2)) (w : Cond.constant own index (Int32.ofInt v) ∈ WG) (hp : pc + 2 = pc') (k : Y Ω R Q p e s m args below meth c nL kc ks pc' ls (vi v :: st) h) : Y Ω R Q p e s m args below meth c nL kc ks pc ls st h := by
  intro H locs lr hS r hl
  obtain ⟨hx, hb, hrt, hml, hown, hlocks, hts⟩ := id cx
  subst hp
  exact lv_ldc hx hb hown (hts _ w) hd (k H locs lr hS r hl)

theorem Y.dconst0 (cx : yCx own cc nL ret p s m args meth c) (wd : xWd Ω s)  (hd : decode cc pc = .ok (.dconst 0, 1)) (hp : pc + 1 = pc') (k : Y Ω R Q p e s m args below meth c nL kc ks pc' ls (vd FP.dconst0 :: st) h) : Y Ω R Q p e s m args below meth c nL kc ks pc ls st h := by
  intro H locs lr hS r hl
  obtain ⟨hx, hb, hr, hml, hown, hlocks, hts⟩ := id cx
  subst hp
  exact lv_dconst0 hx hb hd (k H locs lr hS r hl)

theorem Y.dconst1 (cx : yCx own cc nL ret p s m args meth c) (wd : xWd Ω s)  (hd : decode cc pc = .ok (.dconst 1, 1)) (hp : pc + 1 = pc') (k : Y Ω R Q p e s m args below meth c nL kc ks pc' ls (vd FP.dconst1 :: st) h) : Y Ω R Q p e s m args below meth c nL kc ks pc ls st h := by
  intro H locs lr hS r hl
  obtain ⟨hx, hb, hr, hml, hown, hlocks, hts⟩ := id cx
  subst hp
  exact lv_dconst1 hx hb hd (k H locs lr hS r hl)

theorem Y.pop (cx : yCx own cc nL ret p s m args meth c) (wd : xWd Ω s) {v : xV} (hv : xcat v = 1) (hd : decode cc pc = .ok (.pop, 1)) (hp : pc + 1 = pc') (k : Y Ω R Q p e s m args below meth c nL kc ks pc' ls st h) : Y Ω R Q p e s m args below meth c nL kc ks pc ls (v :: st) h := by
  intro H locs lr hS r hl
  obtain ⟨hx, hb, hr, hml, hown, hlocks, hts⟩ := id cx
  subst hp
  exact lv_pop hx hb hd ((xc_cat v).trans hv) (k H locs lr hS r hl)

theorem yBehind {H : Heap} {locs : List Loc} {lr : Array Slot} {mc ms : Nat} {PR' : Option xV → xM → Prop} {a : Array Value} {st0 : List Value} (hS : va_S (xA Ω) s.heap H locs) (hl : xLo lr nL ls)
    (hr : va_Run p Ω.1 e R s m args below meth c H locs kc ks mc ms (F0 m pc lr st0) (st.map xc) (xQ Ω PR' a) (xA Ω))
    (kR : ∀ (q : Option xV) (h' : xM), PR' q h' → Y Ω R Q p e s m args below meth c nL (kc + mc) (ks + ms) (pc + 3) ls (q.toList ++ st) h') : W p Ω.1 e R s m args below meth c H locs kc ks Q (F0 m pc lr st0) := by
  intro T hT Xs
  obtain ⟨v, st₀, t, T', L, h0, X', hL, e1, e2, ⟨q, h', hv, hrel, hF, hPR⟩, stp⟩ := hr T hT Xs
  cases hv
  obtain ⟨-, -, k3⟩ := vx_keep h0 e1 hS (fun _ _ z => z) (fun _ z => z) hL hF
  obtain ⟨t2, a1, b1⟩ := kR q h' hPR T'.heap (locs ++ L) lr k3 (by rw [e1]; exact hrel) hl T' rfl X'
  refine ⟨t2, stp t2 ?_, b1⟩
  cases q with
  | none => exact a1
  | some q => exact a1
/-- what catches E, thrown at pc -/
def yCatch (own : String) (s : State) (args : Array Value) (c : Code) (pc : Nat) (E : String) (hpc : Nat) : Prop := ∃ (pre : List ExceptionTableEntry) (x : ExceptionTableEntry) (suf : List ExceptionTableEntry) (name : String), c.exceptionTable.toList = pre ++ x :: suf ∧ (∀ z ∈ pre, covers z pc = false ∨ (z.catchType ≠ 0 ∧ ∃ nm : String, (Cond.classLink own z.catchType nm).before args s = true ∧ va_Nc E nm s)) ∧ covers x pc = true ∧ x.catchType ≠ 0 ∧ (Cond.classLink own x.catchType name).before args s = true ∧ (Cond.castable E name).before args s = true ∧ x.handlerPc = hpc
theorem Y.callV (cx : yCx own cc nL ret p s m args meth c) (wd : xWd Ω s) {index n maxL ci nf a : Nat} {C : String} {T : u_T} {y : MethodName} {bytes : ByteArray} {rt : Option FieldType} {rm : Room} {As sa : List xV} {PR' : Option xV → xM → Prop} (hd : decode cc pc = .ok (.invokevirtual index, 3)) (w : xCal own index C y bytes maxL rt n) (hC : vwCl[ci]? = some (C, T, nf)) (hci : ci < 7) (ha : mT h a = some (ci, nf))
    (hsa : As.reverse ++ (rf a :: st) = sa) (hn : As.length = n) (hR : rm.frames + 1 ≤ R.frames ∧ 8 + (maxL + 11) + rm.locals ≤ R.locals) (hkc : kc + rm.cells ≤ R.cells) (hks : ks + rm.slots ≤ R.slots) (hst : (st.map xcat).sum ≤ 8) (hp : pc + 3 = pc')
    (hct : xCt Ω y bytes maxL rt rm (rf a :: As) h PR' xNo)
    (kR : ∀ (q : Option xV) (h' : xM), PR' q h' → Y Ω R Q p e s m args below meth c nL (kc + rm.cells) (ks + rm.slots) pc' ls (q.toList ++ st) h') : Y Ω R Q p e s m args below meth c nL kc ks pc ls sa h := by
  intro H locs lr hS r hl
  obtain ⟨hx, hb, hrt, hml, hown, hlocks, hts⟩ := id cx
  subst hp
  subst hsa
  have hA := (r.2.2 a ci nf ha).2
  rw [xE_obj hci] at hA
  refine yBehind hS hl (va_runV (As := As.map xc) (b := a) (C := C) (n := n) ⟨hx, hb, hml, hown, hts⟩ (xMet hct) (cwV n hts w.good rfl rfl rfl ⟨w.2.1, w.2.2.1, w.2.2.2.1, w.2.2.2.2⟩ hR) ⟨xBlind, va_recv wd.1 (xP1 hA) hC (q0 := 0) rfl, fun U hU hW => ⟨rfl, wd.heap hS hU hW, by rw [hU]; exact r⟩⟩ rfl (by rw [List.length_map]; exact hn) hl.1 ?_ ?_ hd ⟨hkc, hks⟩) kR
  · show ((As.reverse ++ (rf a :: st)).map xc) = _
    rw [List.map_append, List.map_reverse]
    rfl
  · rw [x_cats]
    show 2 * 0 + _ ≤ _
    omega
/-- a call that may throw what is caught here -/
theorem Y.callVX (cx : yCx own cc nL ret p s m args meth c) (wd : xWd Ω s) {index n maxL ci nf a : Nat} {C : String} {T : u_T} {y : MethodName} {bytes : ByteArray} {rt : Option FieldType} {rm : Room} {As sa : List xV} {PR' : Option xV → xM → Prop} {PX' : String → xM → Prop} (hd : decode cc pc = .ok (.invokevirtual index, 3)) (w : xCal own index C y bytes maxL rt n) (hC : vwCl[ci]? = some (C, T, nf)) (hci : ci < 7) (ha : mT h a = some (ci, nf))
    (hsa : As.reverse ++ (rf a :: st) = sa) (hn : As.length = n) (hR : rm.frames + 1 ≤ R.frames ∧ 8 + (maxL + 11) + rm.locals ≤ R.locals) (hkc : kc + rm.cells ≤ R.cells) (hks : ks + rm.slots ≤ R.slots) (hst : (st.map xcat).sum ≤ 8) (hp : pc + 3 = pc')
    (hct : xCt Ω y bytes maxL rt rm (rf a :: As) h PR' PX')
    (kR : ∀ (q : Option xV) (h' : xM), PR' q h' → Y Ω R Q p e s m args below meth c nL (kc + rm.cells) (ks + rm.slots) pc' ls (q.toList ++ st) h')
    (kX : ∀ (E : String) (h' : xM), PX' E h' → ∃ hpc, yCatch own s args c pc E hpc ∧ ∀ q : Nat, Y Ω R Q p e s m args below meth c nL (kc + rm.cells) (ks + rm.slots) hpc ls [rf q] h') : Y Ω R Q p e s m args below meth c nL kc ks pc ls sa h := by
  intro H locs lr hS r hl
  obtain ⟨hx, hb, hrt, hml, hown, hlocks, hts⟩ := id cx
  subst hp
  subst hsa
  have hA := (r.2.2 a ci nf ha).2
  rw [xE_obj hci] at hA
  have hr := vx_runV (p := p) (l := Ω.1) (e := e) (R := R) (below := below) (meth := meth) (locs := locs) (cells := kc) (slots := ks) (g := F0 m pc lr ((As.reverse ++ (rf a :: st)).map xc)) (rest := st.map xc) (As := As.map xc) (b := a) (C := C) (n := n) ⟨hx, hb, hml, hown, hts⟩ hct (cwV n hts w.good rfl rfl rfl ⟨w.2.1, w.2.2.1, w.2.2.2.1, w.2.2.2.2⟩ hR) ⟨xBlind, va_recv wd.1 (xP1 hA) hC (q0 := 0) rfl, fun U hU hW => ⟨rfl, wd.heap hS hU hW, by rw [hU]; exact r⟩⟩ rfl (by rw [List.length_map]; exact hn) hl.1 (by
    show ((As.reverse ++ (rf a :: st)).map xc) = _
    rw [List.map_append, List.map_reverse]
    rfl) (by
    rw [x_cats]
    show 2 * 0 + _ ≤ _
    omega) hd ⟨hkc, hks⟩
  intro T hT Xs
  rcases hr T hT Xs with ⟨v, st₀, t, T', L, h0, X', hL, e1, e2, ⟨q, h', hv, hrel, hF, hPR⟩, stp⟩ | ⟨q, st₀, t, T', L, E, ce, h0, X', hL, e1, e2, ⟨h', hrel, hF, hPX⟩, hce, hcv, hcl, stp⟩
  · cases hv
    obtain ⟨-, -, k3⟩ := vx_keep h0 e1 hS (fun _ _ z => z) (fun _ z => z) hL hF
    obtain ⟨t2, a1, b1⟩ := kR q h' hPR T'.heap (locs ++ L) lr k3 (by rw [e1]; exact hrel) hl T' rfl X'
    refine ⟨t2, stp t2 ?_, b1⟩
    cases q with
    | none => exact a1
    | some q => exact a1
  · obtain ⟨-, -, k3⟩ := vx_keep h0 e1 hS (fun _ _ z => z) (fun _ z => z) hL hF
    obtain ⟨hpc, ⟨pre, x, suf, name, c1, c2, c3, c4, c5, c6, c7⟩, kk⟩ := kX E h' hPX
    have hw := vx_catch (p := p) (l := Ω.1) (e := e) (R := R) (s := s) (m := m) (args := args) (below := below) (meth := meth) (c := c) (H := T'.heap) (locs := locs ++ L) (cells := kc + rm.cells) (slots := ks + rm.slots) (Q := Q) (q := q) (pc := pc) (ls := lr) (rest := st.map xc) hown pre x suf c1 c2 c3 c4 c5 c6 (by rw [e1]; exact hce) hcv hcl (by
      rw [c7]
      exact kk q T'.heap (locs ++ L) lr k3 (by rw [e1]; exact hrel) hl)
    obtain ⟨t2, a1, b1⟩ := hw T' rfl X'
    exact ⟨t2, stp.trans a1, b1⟩
theorem Y.callI (cx : yCx own cc nL ret p s m args meth c) (wd : xWd Ω s) {index n maxL a : Nat} {y : MethodName} {bytes : ByteArray} {rm : Room} {As sa : List xV} {PR' : Option xV → xM → Prop} (hd : decode cc pc = .ok (.invokespecial index, 3)) (w : xCaI own index y bytes maxL n)
    (hsa : As.reverse ++ (rf a :: st) = sa) (hn : As.length = n) (hR : rm.frames + 1 ≤ R.frames ∧ 8 + (maxL + 11) + rm.locals ≤ R.locals) (hkc : kc + rm.cells ≤ R.cells) (hks : ks + rm.slots ≤ R.slots) (hst : (st.map xcat).sum ≤ 8) (hp : pc + 3 = pc')
    (hct : xCt Ω y bytes maxL none rm (rf a :: As) h PR' xNo)
    (kR : ∀ (q : Option xV) (h' : xM), PR' q h' → Y Ω R Q p e s m args below meth c nL (kc + rm.cells) (ks + rm.slots) pc' ls (q.toList ++ st) h') : Y Ω R Q p e s m args below meth c nL kc ks pc ls sa h := by
  intro H locs lr hS r hl
  obtain ⟨hx, hb, hrt, hml, hown, hlocks, hts⟩ := id cx
  subst hp
  subst hsa
  refine yBehind hS hl (va_runI (As := As.map xc) (b := a) (n := n) ⟨hx, hb, hml, hown, hts⟩ (xMet hct) (cwI n hts (xGood w.1.2.2.2) rfl rfl rfl (hts _ w.1.2.2.1) (hts _ w.1.1) (hts _ w.1.2.1) w.2.1 w.2.2 hR) ⟨xBlind, fun U hU hW => ⟨rfl, wd.heap hS hU hW, by rw [hU]; exact r⟩⟩ rfl (by rw [List.length_map]; exact hn) hl.1 ?_ ?_ hd ⟨hkc, hks⟩) kR
  · show ((As.reverse ++ (rf a :: st)).map xc) = _
    rw [List.map_append, List.map_reverse]
    rfl
  · rw [x_cats]
    show 2 * 0 + _ ≤ _
    omega
/-- a method with handlers, of which nothing is thrown -/
def yCt (Ω : xO) (y : MethodName) (bytes : ByteArray) (maxL : Nat) (ret : Option FieldType) (hh : List (Nat × Nat × Nat × Nat)) (rm : Room) (args : List xV) (h : xM) (PR : Option xV → xM → Prop) : Prop :=
  vx_Met Ω.1 y (Cond.codeWith y bytes maxL ret hh :: WG) rm (va_Pc (args.map xc) (fun U => xWd Ω U ∧ xRel Ω h U.heap)) (xQ Ω PR) (xX Ω xNo) rm.cells rm.slots (xA Ω)
def yCaS (own : String) (index : Nat) (y : MethodName) (bytes : ByteArray) (maxL : Nat) (ret : Option FieldType) (hh : List (Nat × Nat × Nat × Nat)) (n : Nat) : Prop :=
  (Cond.methodLink own index y ∈ WG ∧ Cond.static y ∈ WG ∧ Cond.initialized y.cls ∈ WG ∧ Cond.codeWith y bytes maxL ret hh ∈ WG) ∧ y.cls ≠ "java/lang/invoke/MethodHandle" ∧ y.cls ≠ "java/lang/invoke/VarHandle" ∧ (parseMethodDescriptor y.desc).map (fun d => d.parameters.length) = some n
theorem yCaS.good {index n maxL : Nat} {y : MethodName} {bytes : ByteArray} {rt : Option FieldType} {hh : List (Nat × Nat × Nat × Nat)} (w : yCaS own index y bytes maxL rt hh n) : GoodIn WG (va_wsS own index y (Cond.codeWith y bytes maxL rt hh :: WG)) := by
  refine xGoodL (fun v hv => ?_)
  unfold va_wsS at hv
  rcases List.mem_append.mp hv with hv | hv
  · simp only [List.mem_cons, List.not_mem_nil, or_false] at hv
    rcases hv with rfl | rfl | rfl
    · exact w.1.1
    · exact w.1.2.1
    · exact w.1.2.2.1
  · rcases List.mem_cons.mp hv with rfl | hv
    · exact w.1.2.2.2
    · exact hv
theorem Y.callSW (cx : yCx own cc nL ret p s m args meth c) (wd : xWd Ω s) {index n maxL : Nat} {y : MethodName} {bytes : ByteArray} {rt : Option FieldType} {hh : List (Nat × Nat × Nat × Nat)} {rm : Room} {As sa : List xV} {PR' : Option xV → xM → Prop} (hd : decode cc pc = .ok (.invokestatic index, 3)) (w : yCaS own index y bytes maxL rt hh n)
    (hsa : As.reverse ++ st = sa) (hn : As.length = n) (hR : rm.frames + 1 ≤ R.frames ∧ 8 + (maxL + 11) + rm.locals ≤ R.locals) (hkc : kc + rm.cells ≤ R.cells) (hks : ks + rm.slots ≤ R.slots) (hst : (st.map xcat).sum ≤ 8) (hp : pc + 3 = pc')
    (hct : yCt Ω y bytes maxL rt hh rm As h PR')
    (kR : ∀ (q : Option xV) (h' : xM), PR' q h' → Y Ω R Q p e s m args below meth c nL (kc + rm.cells) (ks + rm.slots) pc' ls (q.toList ++ st) h') : Y Ω R Q p e s m args below meth c nL kc ks pc ls sa h := by
  intro H locs lr hS r hl
  obtain ⟨hx, hb, hrt, hml, hown, hlocks, hts⟩ := id cx
  subst hp
  subst hsa
  have hMet : Met Ω.1 y (Cond.codeWith y bytes maxL rt hh :: WG) rm (va_Pc (As.map xc) (fun U => xWd Ω U ∧ xRel Ω h U.heap)) (xQ Ω PR') rm.cells rm.slots (xA Ω) := by
    intro p e ha hc' hk s m args below hf happ hP hK
    obtain ⟨n, o, h1, h2, h3, h4⟩ := hct p e ha hc' hk s m args below hf happ hP hK
    refine ⟨n, o, h1, h2, h3, ?_⟩
    rcases h4 with h4 | ⟨q, -, E, ce, L, ⟨h', -, -, hf⟩, -⟩
    · exact h4
    · exact hf.elim
  refine yBehind hS hl (vx_runSW (As := As.map xc) (n := n) ⟨hx, hb, hml, hown, hts⟩ hMet (vx_cwSW n hts w.good rfl rfl rfl w.2 hR) ⟨xBlind, fun U hU hW => ⟨rfl, wd.heap hS hU hW, by rw [hU]; exact r⟩⟩ rfl (by rw [List.length_map]; exact hn) hl.1 ?_ ?_ hd ⟨hkc, hks⟩) kR
  · show ((As.reverse ++ st).map xc) = _
    rw [List.map_append, List.map_reverse]
  · rw [x_cats]
    show 2 * 0 + _ ≤ _
    omega
/-- the end of a method with handlers -/
theorem Y.iret {PR : Option xV → xM → Prop} {PX : String → xM → Prop} (cx : yCx own cc nL ret p s m args meth c) {x : Int} (hd : decode cc pc = .ok (.ireturn, 1)) (hr0 : ret = some .int) (hkc : kc ≤ R.cells) (hks : ks ≤ R.slots) (q : PR (some (vi x)) h) : Y Ω R (vx_MQ below (xQ Ω PR) (xX Ω PX) args s R.cells R.slots (xA Ω)) p e s m args below meth c nL kc ks pc ls [vi x] h := by
  intro H locs lr hS r hl
  obtain ⟨hx, hb, hrt, hml, hown, hlocks, hts⟩ := id cx
  refine W.widen hkc hks (vx_ret ?_)
  exact W.iret hx hb (hrt.trans hr0) (fun t ht hW => ⟨some (vi x), h, rfl, by rw [ht]; exact r, hS.F ht, q⟩) (fun q hq => hS.2.2 q hq) hd hlocks
end YR
theorem yCt_of {Ω : xO} {y : MethodName} {bytes : ByteArray} {maxL : Nat} {rt : Option FieldType} {hh : List (Nat × Nat × Nat × Nat)} {rm : Room} {args : List xV} {h : xM} {PR : Option xV → xM → Prop} (hy : plainName y.cls = true) (hn : (xar args).length ≤ maxL)
    (K : ∀ (p : Program) (e : Env) (s : State) (m : MethodId) (args0 : Array Value) (below : List Frame) (meth : Method) (c : Code), yCx y.cls bytes maxL rt p s m args0 meth c → xWd Ω s → c.exceptionTable.toList = tableOf hh → Y Ω rm (vx_MQ below (xQ Ω PR) (xX Ω xNo) args0 s rm.cells rm.slots (xA Ω)) p e s m args0 below meth c maxL 0 0 0 (xar args ++ List.replicate (maxL - (xar args).length) none) [] h) : yCt Ω y bytes maxL rt hh rm args h PR := by
  refine vx_ofWH (cc := bytes) (maxL := maxL) (ret := rt) (hh := hh) hy rfl ?_
  intro p e s m args9 below meth c s₁ B hml hv
  obtain ⟨rfl, hwd, hrel⟩ := hv
  have hts := atoms_spec (ws := Cond.codeWith y bytes maxL rt hh :: WG) B.pre
  have hl := lv_entry (args.map xc) (n := maxL) (by rw [xsl_len]; exact hn)
  rw [lg_entry_eq]
  refine K p e s m _ below meth c ⟨B.exec, B.bytes, B.returns, hml, findClass_of_methodNamed B.named, B.notSynchronized, fun w h => hts w (List.mem_cons_of_mem _ h)⟩ hwd (vx_table (x := y) B (hts _ List.mem_cons_self)) s.heap [] _ va_S.rf hrel ⟨hl.1, hl.2.1, fun k v hk => ?_⟩
  have hk2 : (xar args)[k]? = some (some v) := by
    by_cases e1 : k < (xar args).length
    · rw [List.getElem?_append_left e1] at hk
      exact hk
    · rw [List.getElem?_append_right (by omega)] at hk
      rw [List.getElem?_replicate] at hk
      split at hk <;> cases hk
  have := xar_at args 0 k v hk2
  rw [Nat.zero_add] at this
  exact hl.2.2 _ this
