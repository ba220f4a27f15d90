/-! ===== Y: as X, but of one frame, whatever the end is ===== -/
def yCx (own : String) (cc : ByteArray) (nL : Nat) (ret : Option FieldType) (p : Program) (s : State) (m : MethodId) (args : Array Value) (meth : Method) (c : Code) : Prop :=
  p.tables.exec = Jvm.exec ∧ c.code = cc ∧ meth.sig.returnType = ret ∧ c.maxLocals = nL ∧ s.vm.findClass own = some m.cls ∧ meth.locks = false ∧ ∀ w ∈ WG, w.before args s = true
def Y (Ω : xO) (R : Room) (Q : State → Prop) (p : Program) (e : Env) (s : State) (m : MethodId) (args : Array Value) (below : List Frame) (meth : Method) (c : Code) (nL : Nat) (kc ks pc : Nat) (ls : List (Option xV)) (st : List xV) (h : xM) : Prop :=
  ∀ (H : Heap) (locs : List Loc) (lr : Array Slot), va_S (xA Ω) s.heap H locs → xRel Ω h H → xLo lr nL ls → W p Ω.1 e R s m args below meth c H locs kc ks Q (F0 m pc lr (st.map xc))
section YR
variable {Ω : xO} {own : String} {cc : ByteArray} {nL : Nat} {ret : Option FieldType} {R : Room} {Q : State → Prop} {p : Program} {e : Env} {s : State} {m : MethodId} {args : Array Value} {below : List Frame} {meth : Method} {c : Code} {kc ks pc pc' : Nat} {ls : List (Option xV)} {st : List xV} {h : xM}
theorem Y.gen {x : Int} (k : ∀ z, z = x → Y Ω R Q p e s m args below meth c nL kc ks pc ls (vi z :: st) h) : Y Ω R Q p e s m args below meth c nL kc ks pc ls (vi x :: st) h := k x rfl
theorem Y.genH (k : ∀ z, z = h → Y Ω R Q p e s m args below meth c nL kc ks pc ls st z) : Y Ω R Q p e s m args below meth c nL kc ks pc ls st h := k h rfl
theorem Y.mask {bs : List Bool} {ls' : List (Option xV)} (hm : xmask bs ls = ls') (k : Y Ω R Q p e s m args below meth c nL kc ks pc ls' st h) : Y Ω R Q p e s m args below meth c nL kc ks pc ls st h := by
  intro H locs lr hS r hl
  subst hm
  exact k H locs lr hS r ⟨hl.1, hl.2.1, fun i v hv => hl.2.2 i v (xmask_at _ _ _ _ hv)⟩
theorem Y.widen {kc' ks' : Nat} (h1 : kc ≤ kc') (h2 : ks ≤ ks') (k : Y Ω R Q p e s m args below meth c nL kc' ks' pc ls st h) : Y Ω R Q p e s m args below meth c nL kc ks pc ls st h := fun H locs lr hS r hl => W.widen h1 h2 (k H locs lr hS r hl)
theorem Y.iconst (cx : yCx own cc nL ret p s m args meth c) (wd : xWd Ω s) {n : Int} (hd : decode cc pc = .ok (.iconst n, 1)) (hp : pc + 1 = pc') (k : Y Ω R Q p e s m args below meth c nL kc ks pc' ls (vi n :: st) h) : Y Ω R Q p e s m args below meth c nL kc ks pc ls st h := by
  intro H locs lr hS r hl
  obtain ⟨hx, hb, hr, hml, hown, hlocks, hts⟩ := id cx
  subst hp
  exact lv_iconst hx hb hd rfl (k H locs lr hS r hl)

theorem Y.bipush (cx : yCx own cc nL ret p s m args meth c) (wd : xWd Ω s) {n : Int} (hn : (Int8.ofInt n).toInt32 = Int32.ofInt n) (hd : decode cc pc = .ok (.bipush n, 2)) (hp : pc + 2 = pc') (k : Y Ω R Q p e s m args below meth c nL kc ks pc' ls (vi n :: st) h) : Y Ω R Q p e s m args below meth c nL kc ks pc ls st h := by
  intro H locs lr hS r hl
  obtain ⟨hx, hb, hr, hml, hown, hlocks, hts⟩ := id cx
  subst hp
  exact lv_bipush hx hb hd hn (k H locs lr hS r hl)

theorem Y.sipush (cx : yCx own cc nL ret p s m args meth c) (wd : xWd Ω s) {n : Int} (hn : (Int16.ofInt n).toInt32 = Int32.ofInt n) (hd : decode cc pc = .ok (.sipush n, 3)) (hp : pc + 3 = pc') (k : Y Ω R Q p e s m args below meth c nL kc ks pc' ls (vi n :: st) h) : Y Ω R Q p e s m args below meth c nL kc ks pc ls st h := by
  intro H locs lr hS r hl
  obtain ⟨hx, hb, hr, hml, hown, hlocks, hts⟩ := id cx
  subst hp
  exact lv_sipush hx hb hd hn (k H locs lr hS r hl)

theorem Y.iload_n (cx : yCx own cc nL ret p s m args meth c) (wd : xWd Ω s) {i : Nat} {q4 : Fin 4} (hi : (q4 : Nat) = i) {x : Int} (hv : ls[i]? = some (some (vi x))) (hd : decode cc pc = .ok (.iload_n q4, 1)) (hp : pc + 1 = pc') (k : Y Ω R Q p e s m args below meth c nL kc ks pc' ls (vi x :: st) h) : Y Ω R Q p e s m args below meth c nL kc ks pc ls st h := by
  intro H locs lr hS r hl
  obtain ⟨hx, hb, hr, hml, hown, hlocks, hts⟩ := id cx
  subst hp
  exact lv_iload_n hx hb hd hi (hl.2.2 i _ hv) (k H locs lr hS r hl)

theorem Y.iload (cx : yCx own cc nL ret p s m args meth c) (wd : xWd Ω s) {i : Nat} {x : Int} (hv : ls[i]? = some (some (vi x))) (hd : decode cc pc = .ok (.iload i, 2)) (hp : pc + 2 = pc') (k : Y Ω R Q p e s m args below meth c nL kc ks pc' ls (vi x :: st) h) : Y Ω R Q p e s m args below meth c nL kc ks pc ls st h := by
  intro H locs lr hS r hl
  obtain ⟨hx, hb, hr, hml, hown, hlocks, hts⟩ := id cx
  subst hp
  exact lv_iload hx hb hd (hl.2.2 i _ hv) (k H locs lr hS r hl)

theorem Y.aload_n (cx : yCx own cc nL ret p s m args meth c) (wd : xWd Ω s) {i : Nat} {q4 : Fin 4} (hi : (q4 : Nat) = i) {x : Option Nat} (hv : ls[i]? = some (some (vr x))) (hd : decode cc pc = .ok (.aload_n q4, 1)) (hp : pc + 1 = pc') (k : Y Ω R Q p e s m args below meth c nL kc ks pc' ls (vr x :: st) h) : Y Ω R Q p e s m args below meth c nL kc ks pc ls st h := by
  intro H locs lr hS r hl
  obtain ⟨hx, hb, hr, hml, hown, hlocks, hts⟩ := id cx
  subst hp
  cases x with
  | none => exact lv_aload_nN hx hb hd hi (hl.2.2 i _ hv) (k H locs lr hS r hl)
  | some x => exact lv_aload_n hx hb hd hi (hl.2.2 i _ hv) (k H locs lr hS r hl)

theorem Y.aload (cx : yCx own cc nL ret p s m args meth c) (wd : xWd Ω s) {i : Nat} {x : Option Nat} (hv : ls[i]? = some (some (vr x))) (hd : decode cc pc = .ok (.aload i, 2)) (hp : pc + 2 = pc') (k : Y Ω R Q p e s m args below meth c nL kc ks pc' ls (vr x :: st) h) : Y Ω R Q p e s m args below meth c nL kc ks pc ls st h := by
  intro H locs lr hS r hl
  obtain ⟨hx, hb, hr, hml, hown, hlocks, hts⟩ := id cx
  subst hp
  cases x with
  | none => exact lv_aloadN hx hb hd (hl.2.2 i _ hv) (k H locs lr hS r hl)
  | some x => exact lv_aload hx hb hd (hl.2.2 i _ hv) (k H locs lr hS r hl)

theorem Y.istore_n (cx : yCx own cc nL ret p s m args meth c) (wd : xWd Ω s) {i : Nat} {q4 : Fin 4} (hi : (q4 : Nat) = i) {x : Int} {ls' : List (Option xV)} (hd : decode cc pc = .ok (.istore_n q4, 1)) (hn : i < nL) (hf : xfree ls i = true) (hs : xput ls i (vi x) = ls') (hp : pc + 1 = pc') (k : Y Ω R Q p e s m args below meth c nL kc ks pc' ls' st h) : Y Ω R Q p e s m args below meth c nL kc ks pc ls (vi x :: st) h := by
  intro H locs lr hS r hl
  obtain ⟨hx, hb, hr, hml, hown, hlocks, hts⟩ := id cx
  subst hp
  subst hs
  exact lv_istore_n hx hb hd hi (xLo_has hl) hn rfl (fun lr2 h2 => k H locs lr2 hS r (xLo_put hl hf h2))

theorem Y.istore (cx : yCx own cc nL ret p s m args meth c) (wd : xWd Ω s) {i : Nat} {x : Int} {ls' : List (Option xV)} (hd : decode cc pc = .ok (.istore i, 2)) (hn : i < nL) (hf : xfree ls i = true) (hs : xput ls i (vi x) = ls') (hp : pc + 2 = pc') (k : Y Ω R Q p e s m args below meth c nL kc ks pc' ls' st h) : Y Ω R Q p e s m args below meth c nL kc ks pc ls (vi x :: st) h := by
  intro H locs lr hS r hl
  obtain ⟨hx, hb, hr, hml, hown, hlocks, hts⟩ := id cx
  subst hp
  subst hs
  exact lv_istore hx hb hd (xLo_has hl) hn rfl (fun lr2 h2 => k H locs lr2 hS r (xLo_put hl hf h2))

theorem Y.astore_n (cx : yCx own cc nL ret p s m args meth c) (wd : xWd Ω s) {i : Nat} {q4 : Fin 4} (hi : (q4 : Nat) = i) {x : Option Nat} {ls' : List (Option xV)} (hd : decode cc pc = .ok (.astore_n q4, 1)) (hn : i < nL) (hf : xfree ls i = true) (hs : xput ls i (vr x) = ls') (hp : pc + 1 = pc') (k : Y Ω R Q p e s m args below meth c nL kc ks pc' ls' st h) : Y Ω R Q p e s m args below meth c nL kc ks pc ls (vr x :: st) h := by
  intro H locs lr hS r hl
  obtain ⟨hx, hb, hr, hml, hown, hlocks, hts⟩ := id cx
  subst hp
  subst hs
  cases x with
  | none => exact lv_astore_nN hx hb hd hi (xLo_has hl) hn rfl (fun lr2 h2 => k H locs lr2 hS r (xLo_put hl hf h2))
  | some x => exact lv_astore_n hx hb hd hi (xLo_has hl) hn rfl (fun lr2 h2 => k H locs lr2 hS r (xLo_put hl hf h2))

theorem Y.astore (cx : yCx own cc nL ret p s m args meth c) (wd : xWd Ω s) {i : Nat} {x : Option Nat} {ls' : List (Option xV)} (hd : decode cc pc = .ok (.astore i, 2)) (hn : i < nL) (hf : xfree ls i = true) (hs : xput ls i (vr x) = ls') (hp : pc + 2 = pc') (k : Y Ω R Q p e s m args below meth c nL kc ks pc' ls' st h) : Y Ω R Q p e s m args below meth c nL kc ks pc ls (vr x :: st) h := by
  intro H locs lr hS r hl
  obtain ⟨hx, hb, hr, hml, hown, hlocks, hts⟩ := id cx
  subst hp
  subst hs
  cases x with
  | none => exact lv_astoreN hx hb hd (xLo_has hl) hn rfl (fun lr2 h2 => k H locs lr2 hS r (xLo_put hl hf h2))
  | some x => exact lv_astore hx hb hd (xLo_has hl) hn rfl (fun lr2 h2 => k H locs lr2 hS r (xLo_put hl hf h2))

theorem Y.dload_n (cx : yCx own cc nL ret p s m args meth c) (wd : xWd Ω s) {i : Nat} {q4 : Fin 4} (hi : (q4 : Nat) = i) {x : UInt64} (hv : ls[i]? = some (some (vd x))) (hd : decode cc pc = .ok (.dload_n q4, 1)) (hp : pc + 1 = pc') (k : Y Ω R Q p e s m args below meth c nL kc ks pc' ls (vd x :: st) h) : Y Ω R Q p e s m args below meth c nL kc ks pc ls st h := by
  intro H locs lr hS r hl
  obtain ⟨hx, hb, hr, hml, hown, hlocks, hts⟩ := id cx
  subst hp
  exact lv_dload_n hx hb hd hi (hl.2.2 i _ hv) (k H locs lr hS r hl)

theorem Y.dload (cx : yCx own cc nL ret p s m args meth c) (wd : xWd Ω s) {i : Nat} {x : UInt64} (hv : ls[i]? = some (some (vd x))) (hd : decode cc pc = .ok (.dload i, 2)) (hp : pc + 2 = pc') (k : Y Ω R Q p e s m args below meth c nL kc ks pc' ls (vd x :: st) h) : Y Ω R Q p e s m args below meth c nL kc ks pc ls st h := by
  intro H locs lr hS r hl
  obtain ⟨hx, hb, hr, hml, hown, hlocks, hts⟩ := id cx
  subst hp
  exact lv_dload hx hb hd (hl.2.2 i _ hv) (k H locs lr hS r hl)

theorem Y.dstore (cx : yCx own cc nL ret p s m args meth c) (wd : xWd Ω s) {i : Nat} {x : UInt64} {ls' : List (Option xV)} (hd : decode cc pc = .ok (.dstore i, 2)) (hn : i + 1 < nL) (hf : xfree ls i = true) (hs : xput2 ls i (vd x) = ls') (hp : pc + 2 = pc') (k : Y Ω R Q p e s m args below meth c nL kc ks pc' ls' st h) : Y Ω R Q p e s m args below meth c nL kc ks pc ls (vd x :: st) h := by
  intro H locs lr hS r hl
  obtain ⟨hx, hb, hr, hml, hown, hlocks, hts⟩ := id cx
  subst hp
  subst hs
  exact lv_dstore hx hb hd (xLo_has hl) hn rfl (fun lr2 h2 => k H locs lr2 hS r (xLo_put2 hl hf h2))

theorem Y.dstore_n (cx : yCx own cc nL ret p s m args meth c) (wd : xWd Ω s) {i : Nat} {q4 : Fin 4} (hi : (q4 : Nat) = i) {x : UInt64} {ls' : List (Option xV)} (hd : decode cc pc = .ok (.dstore_n q4, 1)) (hn : i + 1 < nL) (hf : xfree ls i = true) (hs : xput2 ls i (vd x) = ls') (hp : pc + 1 = pc') (k : Y Ω R Q p e s m args below meth c nL kc ks pc' ls' st h) : Y Ω R Q p e s m args below meth c nL kc ks pc ls (vd x :: st) h := by
  intro H locs lr hS r hl
  obtain ⟨hx, hb, hr, hml, hown, hlocks, hts⟩ := id cx
  subst hp
  subst hs
  exact lv_dstore_n hx hb hd hi (xLo_has hl) hn rfl (fun lr2 h2 => k H locs lr2 hS r (xLo_put2 hl hf h2))

theorem Y.iinc (cx : yCx own cc nL ret p s m args meth c) (wd : xWd Ω s) {i : Nat} {n x : Int} {ls' : List (Option xV)} (hd : decode cc pc = .ok (.iinc i n, 3)) (hv : ls[i]? = some (some (vi x))) (hn : i < nL) (hf : xfree ls i = true) (hs : xput ls i (vi (x + n)) = ls') (hp : pc + 3 = pc') (k : Y Ω R Q p e s m args below meth c nL kc ks pc' ls' st h) : Y Ω R Q p e s m args below meth c nL kc ks pc ls st h := by
  intro H locs lr hS r hl
  obtain ⟨hx, hb, hr, hml, hown, hlocks, hts⟩ := id cx
  subst hp
  subst hs
  obtain ⟨q, hq⟩ := List.getElem?_of_mem (xLo_mem (ls := ls) hv)
  exact lv_iinc hx hb hd (xLo_has hl) (k := q) (x := Int32.ofInt x) hq (v := Int32.ofInt (x + n)) (Int32.ofInt_add ..).symm hn rfl (fun lr2 h2 => k H locs lr2 hS r (xLo_put hl hf h2))

theorem Y.iadd (cx : yCx own cc nL ret p s m args meth c) (wd : xWd Ω s) {x y : Int} (hd : decode cc pc = .ok (.iadd, 1)) (hp : pc + 1 = pc') (k : Y Ω R Q p e s m args below meth c nL kc ks pc' ls (vi (x + y) :: st) h) : Y Ω R Q p e s m args below meth c nL kc ks pc ls (vi y :: vi x :: st) h := by
  intro H locs lr hS r hl
  obtain ⟨hx, hb, hr, hml, hown, hlocks, hts⟩ := id cx
  subst hp
  refine lv_iadd hx hb hd ?_
  rw [← Int32.ofInt_add]
  exact (k H locs lr hS r hl)

theorem Y.isub (cx : yCx own cc nL ret p s m args meth c) (wd : xWd Ω s) {x y : Int} (hd : decode cc pc = .ok (.isub, 1)) (hp : pc + 1 = pc') (k : Y Ω R Q p e s m args below meth c nL kc ks pc' ls (vi (x - y) :: st) h) : Y Ω R Q p e s m args below meth c nL kc ks pc ls (vi y :: vi x :: st) h := by
  intro H locs lr hS r hl
  obtain ⟨hx, hb, hr, hml, hown, hlocks, hts⟩ := id cx
  subst hp
  refine lv_isub hx hb hd ?_
  rw [← Int32.ofInt_sub]
  exact (k H locs lr hS r hl)

theorem Y.goto (cx : yCx own cc nL ret p s m args meth c) (wd : xWd Ω s) {off : Int} {tgt : Nat} (hd : decode cc pc = .ok (.goto off, 3)) (ht : (pc : Int) + off = (tgt : Int)) (k : Y Ω R Q p e s m args below meth c nL kc ks tgt ls st h) : Y Ω R Q p e s m args below meth c nL kc ks pc ls st h := by
  intro H locs lr hS r hl
  obtain ⟨hx, hb, hr, hml, hown, hlocks, hts⟩ := id cx
  exact lv_goto hx hb hd ht (k H locs lr hS r hl)

theorem Y.tableIn (cx : yCx own cc nL ret p s m args meth c) (wd : xWd Ω s) {dflt lo hi : Int} {offs : Array Int} {len : Nat} {x off : Int} {tgt : Nat} (hd : decode cc pc = .ok (.tableswitch dflt lo hi offs, len)) (h0 : inR x) (h1 : lo ≤ x) (h2 : x ≤ hi) (ho : offs[(x - lo).toNat]? = some off) (ht : (pc : Int) + off = (tgt : Int)) (k : Y Ω R Q p e s m args below meth c nL kc ks tgt ls st h) : Y Ω R Q p e s m args below meth c nL kc ks pc ls (vi x :: st) h := by
  intro H locs lr hS r hl
  obtain ⟨hx, hb, hr, hml, hown, hlocks, hts⟩ := id cx
  exact lv_tableIn hx hb hd (by rw [inR_ofInt h0]; omega) (by rw [inR_ofInt h0]; omega) (by rw [inR_ofInt h0]; exact ho) ht (k H locs lr hS r hl)

theorem Y.tableOut (cx : yCx own cc nL ret p s m args meth c) (wd : xWd Ω s) {dflt lo hi : Int} {offs : Array Int} {len : Nat} {x : Int} {tgt : Nat} (hd : decode cc pc = .ok (.tableswitch dflt lo hi offs, len)) (h0 : inR x) (h1 : x < lo ∨ hi < x) (ht : (pc : Int) + dflt = (tgt : Int)) (k : Y Ω R Q p e s m args below meth c nL kc ks tgt ls st h) : Y Ω R Q p e s m args below meth c nL kc ks pc ls (vi x :: st) h := by
  intro H locs lr hS r hl
  obtain ⟨hx, hb, hr, hml, hown, hlocks, hts⟩ := id cx
  exact lv_tableOut hx hb hd (by rw [inR_ofInt h0]; exact h1) ht (k H locs lr hS r hl)

theorem Y.dup (cx : yCx own cc nL ret p s m args meth c) (wd : xWd Ω s) {v : xV} (hv : xcat v = 1) (hd : decode cc pc = .ok (.dup, 1)) (hp : pc + 1 = pc') (k : Y Ω R Q p e s m args below meth c nL kc ks pc' ls (v :: v :: st) h) : Y Ω R Q p e s m args below meth c nL kc ks pc ls (v :: st) h := by
  intro H locs lr hS r hl
  obtain ⟨hx, hb, hr, hml, hown, hlocks, hts⟩ := id cx
  subst hp
  exact lv_dup hx hb hd ((xc_cat v).trans hv) (k H locs lr hS r hl)

theorem Y.i2l (cx : yCx own cc nL ret p s m args meth c) (wd : xWd Ω s) {x : Int} (h0 : inR x) (hd : decode cc pc = .ok (.i2l, 1)) (hp : pc + 1 = pc') (k : Y Ω R Q p e s m args below meth c nL kc ks pc' ls (vl (Int64.ofInt x) :: st) h) : Y Ω R Q p e s m args below meth c nL kc ks pc ls (vi x :: st) h := by
  intro H locs lr hS r hl
  obtain ⟨hx, hb, hr, hml, hown, hlocks, hts⟩ := id cx
  subst hp
  exact lv_i2l hx hb hd (x_i2l h0) (k H locs lr hS r hl)

theorem Y.lcmp (cx : yCx own cc nL ret p s m args meth c) (wd : xWd Ω s) {x y : Int64} (hd : decode cc pc = .ok (.lcmp, 1)) (hp : pc + 1 = pc') (k1 : x = y → Y Ω R Q p e s m args below meth c nL kc ks pc' ls (vi 0 :: st) h) (k2 : ¬ x = y → ∀ z, z ≠ 0 → inR z → Y Ω R Q p e s m args below meth c nL kc ks pc' ls (vi z :: st) h) : Y Ω R Q p e s m args below meth c nL kc ks pc ls (vl y :: vl x :: st) h := by
  intro H locs lr hS r hl
  obtain ⟨hx, hb, hr, hml, hown, hlocks, hts⟩ := id cx
  subst hp
  refine W.lcmp hx hb hd ?_
  obtain ⟨z, hz, hz2⟩ : ∃ z, lg_cmp x y = Int32.ofInt z ∧ inR z ∧ (x = y → z = 0) ∧ (¬ x = y → z ≠ 0) := x_lcmp x y
  rw [hz]
  by_cases e1 : x = y
  · rw [hz2.2.1 e1]
    exact (k1 e1 H locs lr hS r hl)
  · exact (k2 e1 z (hz2.2.2 e1) hz2.1 H locs lr hS r hl)

theorem Y.dcmp (cx : yCx own cc nL ret p s m args meth c) (wd : xWd Ω s) {x y : UInt64} {op : CmpOp} {z : Int} (hz : Op.cmpValue (FP.dcmp x y) op = Int32.ofInt z) (hd : decode cc pc = .ok (.dcmp op, 1)) (hp : pc + 1 = pc') (k : Y Ω R Q p e s m args below meth c nL kc ks pc' ls (vi z :: st) h) : Y Ω R Q p e s m args below meth c nL kc ks pc ls (vd y :: vd x :: st) h := by
  intro H locs lr hS r hl
  obtain ⟨hx, hb, hr, hml, hown, hlocks, hts⟩ := id cx
  subst hp
  refine lv_dcmp hx hb hd ?_
  rw [hz]
  exact (k H locs lr hS r hl)

theorem Y.iand (cx : yCx own cc nL ret p s m args meth c) (wd : xWd Ω s) {x y z : Int} (hz : Int32.ofInt x &&& Int32.ofInt y = Int32.ofInt z) (hd : decode cc pc = .ok (.iand, 1)) (hp : pc + 1 = pc') (k : Y Ω R Q p e s m args below meth c nL kc ks pc' ls (vi z :: st) h) : Y Ω R Q p e s m args below meth c nL kc ks pc ls (vi y :: vi x :: st) h := by
  intro H locs lr hS r hl
  obtain ⟨hx, hb, hr, hml, hown, hlocks, hts⟩ := id cx
  subst hp
  refine lv_iand hx hb hd ?_
  rw [hz]
  exact (k H locs lr hS r hl)

theorem Y.pop (cx : yCx own cc nL ret p s m args meth c) (wd : xWd Ω s) {v : xV} (hv : xcat v = 1) (hd : decode cc pc = .ok (.pop, 1)) (hp : pc + 1 = pc') (k : Y Ω R Q p e s m args below meth c nL kc ks pc' ls st h) : Y Ω R Q p e s m args below meth c nL kc ks pc ls (v :: st) h := by
  intro H locs lr hS r hl
  obtain ⟨hx, hb, hr, hml, hown, hlocks, hts⟩ := id cx
  subst hp
  exact lv_pop hx hb hd ((xc_cat v).trans hv) (k H locs lr hS r hl)

theorem Y.if_eq (cx : yCx own cc nL ret p s m args meth c) (wd : xWd Ω s) {x : Int} {off : Int} {tgt : Nat} (hd : decode cc pc = .ok (.ifCond .eq off, 3)) (hx1 : inR x) (ht : (pc : Int) + off = (tgt : Int)) (hp : pc + 3 = pc') (kt : x = 0 → Y Ω R Q p e s m args below meth c nL kc ks tgt ls st h) (kf : ¬ x = 0 → Y Ω R Q p e s m args below meth c nL kc ks pc' ls st h) : Y Ω R Q p e s m args below meth c nL kc ks pc ls (vi x :: st) h := by
  intro H locs lr hS r hl
  obtain ⟨hx, hb, hr, hml, hown, hlocks, hts⟩ := id cx
  subst hp
  refine lv_if_eq hx hb hd ht ?_ ?_
  · intro hc
    rw [show (0 : Int32) = Int32.ofInt 0 from rfl] at hc
    rw [x_eq hx1 inR_0] at hc
    exact kt (by omega) H locs lr hS r hl
  · intro hc
    rw [show (0 : Int32) = Int32.ofInt 0 from rfl] at hc
    rw [x_eq hx1 inR_0] at hc
    exact kf (by omega) H locs lr hS r hl

theorem Y.if_ne (cx : yCx own cc nL ret p s m args meth c) (wd : xWd Ω s) {x : Int} {off : Int} {tgt : Nat} (hd : decode cc pc = .ok (.ifCond .ne off, 3)) (hx1 : inR x) (ht : (pc : Int) + off = (tgt : Int)) (hp : pc + 3 = pc') (kt : ¬ x = 0 → Y Ω R Q p e s m args below meth c nL kc ks tgt ls st h) (kf : x = 0 → Y Ω R Q p e s m args below meth c nL kc ks pc' ls st h) : Y Ω R Q p e s m args below meth c nL kc ks pc ls (vi x :: st) h := by
  intro H locs lr hS r hl
  obtain ⟨hx, hb, hr, hml, hown, hlocks, hts⟩ := id cx
  subst hp
  refine lv_if_ne hx hb hd ht ?_ ?_
  · intro hc
    rw [show (0 : Int32) = Int32.ofInt 0 from rfl] at hc
    rw [x_eq hx1 inR_0] at hc
    exact kt (by omega) H locs lr hS r hl
  · intro hc
    rw [show (0 : Int32) = Int32.ofInt 0 from rfl] at hc
    rw [x_eq hx1 inR_0] at hc
    exact kf (by omega) H locs lr hS r hl

theorem Y.if_lt (cx : yCx own cc nL ret p s m args meth c) (wd : xWd Ω s) {x : Int} {off : Int} {tgt : Nat} (hd : decode cc pc = .ok (.ifCond .lt off, 3)) (hx1 : inR x) (ht : (pc : Int) + off = (tgt : Int)) (hp : pc + 3 = pc') (kt : x < 0 → Y Ω R Q p e s m args below meth c nL kc ks tgt ls st h) (kf : 0 ≤ x → Y Ω R Q p e s m args below meth c nL kc ks pc' ls st h) : Y Ω R Q p e s m args below meth c nL kc ks pc ls (vi x :: st) h := by
  intro H locs lr hS r hl
  obtain ⟨hx, hb, hr, hml, hown, hlocks, hts⟩ := id cx
  subst hp
  refine lv_if_lt hx hb hd ht ?_ ?_
  · intro hc
    rw [show (0 : Int32) = Int32.ofInt 0 from rfl] at hc
    rw [x_lt hx1 inR_0] at hc
    exact kt (by omega) H locs lr hS r hl
  · intro hc
    rw [show (0 : Int32) = Int32.ofInt 0 from rfl] at hc
    rw [x_lt hx1 inR_0] at hc
    exact kf (by omega) H locs lr hS r hl

theorem Y.if_ge (cx : yCx own cc nL ret p s m args meth c) (wd : xWd Ω s) {x : Int} {off : Int} {tgt : Nat} (hd : decode cc pc = .ok (.ifCond .ge off, 3)) (hx1 : inR x) (ht : (pc : Int) + off = (tgt : Int)) (hp : pc + 3 = pc') (kt : 0 ≤ x → Y Ω R Q p e s m args below meth c nL kc ks tgt ls st h) (kf : x < 0 → Y Ω R Q p e s m args below meth c nL kc ks pc' ls st h) : Y Ω R Q p e s m args below meth c nL kc ks pc ls (vi x :: st) h := by
  intro H locs lr hS r hl
  obtain ⟨hx, hb, hr, hml, hown, hlocks, hts⟩ := id cx
  subst hp
  refine lv_if_ge hx hb hd ht ?_ ?_
  · intro hc
    rw [show (0 : Int32) = Int32.ofInt 0 from rfl] at hc
    have hc := hc
    first | rw [ge_iff_le, x_le inR_0 hx1] at hc | rw [x_le inR_0 hx1] at hc | rw [x_lt hx1 inR_0] at hc
    exact kt (by omega) H locs lr hS r hl
  · intro hc
    rw [show (0 : Int32) = Int32.ofInt 0 from rfl] at hc
    have hc := hc
    first | rw [ge_iff_le, x_le inR_0 hx1] at hc | rw [x_le inR_0 hx1] at hc | rw [x_lt hx1 inR_0] at hc
    exact kf (by omega) H locs lr hS r hl

theorem Y.if_gt (cx : yCx own cc nL ret p s m args meth c) (wd : xWd Ω s) {x : Int} {off : Int} {tgt : Nat} (hd : decode cc pc = .ok (.ifCond .gt off, 3)) (hx1 : inR x) (ht : (pc : Int) + off = (tgt : Int)) (hp : pc + 3 = pc') (kt : 0 < x → Y Ω R Q p e s m args below meth c nL kc ks tgt ls st h) (kf : x ≤ 0 → Y Ω R Q p e s m args below meth c nL kc ks pc' ls st h) : Y Ω R Q p e s m args below meth c nL kc ks pc ls (vi x :: st) h := by
  intro H locs lr hS r hl
  obtain ⟨hx, hb, hr, hml, hown, hlocks, hts⟩ := id cx
  subst hp
  refine lv_if_gt hx hb hd ht ?_ ?_
  · intro hc
    rw [show (0 : Int32) = Int32.ofInt 0 from rfl] at hc
    have hc := hc
    first | rw [gt_iff_lt, x_lt inR_0 hx1] at hc | rw [x_lt inR_0 hx1] at hc | rw [x_le hx1 inR_0] at hc
    exact kt (by omega) H locs lr hS r hl
  · intro hc
    rw [show (0 : Int32) = Int32.ofInt 0 from rfl] at hc
    have hc := hc
    first | rw [gt_iff_lt, x_lt inR_0 hx1] at hc | rw [x_lt inR_0 hx1] at hc | rw [x_le hx1 inR_0] at hc
    exact kf (by omega) H locs lr hS r hl

theorem Y.if_le (cx : yCx own cc nL ret p s m args meth c) (wd : xWd Ω s) {x : Int} {off : Int} {tgt : Nat} (hd : decode cc pc = .ok (.ifCond .le off, 3)) (hx1 : inR x) (ht : (pc : Int) + off = (tgt : Int)) (hp : pc + 3 = pc') (kt : x ≤ 0 → Y Ω R Q p e s m args below meth c nL kc ks tgt ls st h) (kf : 0 < x → Y Ω R Q p e s m args below meth c nL kc ks pc' ls st h) : Y Ω R Q p e s m args below meth c nL kc ks pc ls (vi x :: st) h := by
  intro H locs lr hS r hl
  obtain ⟨hx, hb, hr, hml, hown, hlocks, hts⟩ := id cx
  subst hp
  refine lv_if_le hx hb hd ht ?_ ?_
  · intro hc
    rw [show (0 : Int32) = Int32.ofInt 0 from rfl] at hc
    rw [x_le hx1 inR_0] at hc
    exact kt (by omega) H locs lr hS r hl
  · intro hc
    rw [show (0 : Int32) = Int32.ofInt 0 from rfl] at hc
    rw [x_le hx1 inR_0] at hc
    exact kf (by omega) H locs lr hS r hl

theorem Y.icmp_eq (cx : yCx own cc nL ret p s m args meth c) (wd : xWd Ω s) {x y : Int} {off : Int} {tgt : Nat} (hd : decode cc pc = .ok (.if_icmp .eq off, 3)) (hx1 : inR x) (hy1 : inR y) (ht : (pc : Int) + off = (tgt : Int)) (hp : pc + 3 = pc') (kt : x = y → Y Ω R Q p e s m args below meth c nL kc ks tgt ls st h) (kf : ¬ x = y → Y Ω R Q p e s m args below meth c nL kc ks pc' ls st h) : Y Ω R Q p e s m args below meth c nL kc ks pc ls (vi y :: vi x :: st) h := by
  intro H locs lr hS r hl
  obtain ⟨hx, hb, hr, hml, hown, hlocks, hts⟩ := id cx
  subst hp
  refine lv_icmp_eq hx hb hd ht ?_ ?_
  · intro hc
    rw [x_eq hx1 hy1] at hc
    exact kt (by omega) H locs lr hS r hl
  · intro hc
    rw [x_eq hx1 hy1] at hc
    exact kf (by omega) H locs lr hS r hl

theorem Y.icmp_ne (cx : yCx own cc nL ret p s m args meth c) (wd : xWd Ω s) {x y : Int} {off : Int} {tgt : Nat} (hd : decode cc pc = .ok (.if_icmp .ne off, 3)) (hx1 : inR x) (hy1 : inR y) (ht : (pc : Int) + off = (tgt : Int)) (hp : pc + 3 = pc') (kt : ¬ x = y → Y Ω R Q p e s m args below meth c nL kc ks tgt ls st h) (kf : x = y → Y Ω R Q p e s m args below meth c nL kc ks pc' ls st h) : Y Ω R Q p e s m args below meth c nL kc ks pc ls (vi y :: vi x :: st) h := by
  intro H locs lr hS r hl
  obtain ⟨hx, hb, hr, hml, hown, hlocks, hts⟩ := id cx
  subst hp
  refine lv_icmp_ne hx hb hd ht ?_ ?_
  · intro hc
    rw [x_eq hx1 hy1] at hc
    exact kt (by omega) H locs lr hS r hl
  · intro hc
    rw [x_eq hx1 hy1] at hc
    exact kf (by omega) H locs lr hS r hl

theorem Y.icmp_lt (cx : yCx own cc nL ret p s m args meth c) (wd : xWd Ω s) {x y : Int} {off : Int} {tgt : Nat} (hd : decode cc pc = .ok (.if_icmp .lt off, 3)) (hx1 : inR x) (hy1 : inR y) (ht : (pc : Int) + off = (tgt : Int)) (hp : pc + 3 = pc') (kt : x < y → Y Ω R Q p e s m args below meth c nL kc ks tgt ls st h) (kf : y ≤ x → Y Ω R Q p e s m args below meth c nL kc ks pc' ls st h) : Y Ω R Q p e s m args below meth c nL kc ks pc ls (vi y :: vi x :: st) h := by
  intro H locs lr hS r hl
  obtain ⟨hx, hb, hr, hml, hown, hlocks, hts⟩ := id cx
  subst hp
  refine lv_icmp_lt hx hb hd ht ?_ ?_
  · intro hc
    rw [x_lt hx1 hy1] at hc
    exact kt (by omega) H locs lr hS r hl
  · intro hc
    rw [x_lt hx1 hy1] at hc
    exact kf (by omega) H locs lr hS r hl

theorem Y.icmp_ge (cx : yCx own cc nL ret p s m args meth c) (wd : xWd Ω s) {x y : Int} {off : Int} {tgt : Nat} (hd : decode cc pc = .ok (.if_icmp .ge off, 3)) (hx1 : inR x) (hy1 : inR y) (ht : (pc : Int) + off = (tgt : Int)) (hp : pc + 3 = pc') (kt : y ≤ x → Y Ω R Q p e s m args below meth c nL kc ks tgt ls st h) (kf : x < y → Y Ω R Q p e s m args below meth c nL kc ks pc' ls st h) : Y Ω R Q p e s m args below meth c nL kc ks pc ls (vi y :: vi x :: st) h := by
  intro H locs lr hS r hl
  obtain ⟨hx, hb, hr, hml, hown, hlocks, hts⟩ := id cx
  subst hp
  refine lv_icmp_ge hx hb hd ht ?_ ?_
  · intro hc
    have hc := hc
    first | rw [ge_iff_le, x_le hy1 hx1] at hc | rw [x_le hy1 hx1] at hc | rw [x_lt hx1 hy1] at hc
    exact kt (by omega) H locs lr hS r hl
  · intro hc
    have hc := hc
    first | rw [ge_iff_le, x_le hy1 hx1] at hc | rw [x_le hy1 hx1] at hc | rw [x_lt hx1 hy1] at hc
    exact kf (by omega) H locs lr hS r hl

theorem Y.icmp_gt (cx : yCx own cc nL ret p s m args meth c) (wd : xWd Ω s) {x y : Int} {off : Int} {tgt : Nat} (hd : decode cc pc = .ok (.if_icmp .gt off, 3)) (hx1 : inR x) (hy1 : inR y) (ht : (pc : Int) + off = (tgt : Int)) (hp : pc + 3 = pc') (kt : y < x → Y Ω R Q p e s m args below meth c nL kc ks tgt ls st h) (kf : x ≤ y → Y Ω R Q p e s m args below meth c nL kc ks pc' ls st h) : Y Ω R Q p e s m args below meth c nL kc ks pc ls (vi y :: vi x :: st) h := by
  intro H locs lr hS r hl
  obtain ⟨hx, hb, hr, hml, hown, hlocks, hts⟩ := id cx
  subst hp
  refine lv_icmp_gt hx hb hd ht ?_ ?_
  · intro hc
    have hc := hc
    first | rw [gt_iff_lt, x_lt hy1 hx1] at hc | rw [x_lt hy1 hx1] at hc | rw [x_le hx1 hy1] at hc
    exact kt (by omega) H locs lr hS r hl
  · intro hc
    have hc := hc
    first | rw [gt_iff_lt, x_lt hy1 hx1] at hc | rw [x_lt hy1 hx1] at hc | rw [x_le hx1 hy1] at hc
    exact kf (by omega) H locs lr hS r hl

theorem Y.icmp_le (cx : yCx own cc nL ret p s m args meth c) (wd : xWd Ω s) {x y : Int} {off : Int} {tgt : Nat} (hd : decode cc pc = .ok (.if_icmp .le off, 3)) (hx1 : inR x) (hy1 : inR y) (ht : (pc : Int) + off = (tgt : Int)) (hp : pc + 3 = pc') (kt : x ≤ y → Y Ω R Q p e s m args below meth c nL kc ks tgt ls st h) (kf : y < x → Y Ω R Q p e s m args below meth c nL kc ks pc' ls st h) : Y Ω R Q p e s m args below meth c nL kc ks pc ls (vi y :: vi x :: st) h := by
  intro H locs lr hS r hl
  obtain ⟨hx, hb, hr, hml, hown, hlocks, hts⟩ := id cx
  subst hp
  refine lv_icmp_le hx hb hd ht ?_ ?_
  · intro hc
    rw [x_le hx1 hy1] at hc
    exact kt (by omega) H locs lr hS r hl
  · intro hc
    rw [x_le hx1 hy1] at hc
    exact kf (by omega) H locs lr hS r hl

theorem Y.lald (cx : yCx own cc nL ret p s m args meth c) (wd : xWd Ω s) {a n : Nat} {i : Int} {x : Int64} (hd : decode cc pc = .ok (.laload, 1)) (ha : mT h a = some (12, n)) (h0 : 0 ≤ i) (h1 : i < n) (h2 : inR i) (hv : mL h a i = x) (hp : pc + 1 = pc') (kk : Y Ω R Q p e s m args below meth c nL kc ks pc' ls (vl x :: st) h) : Y Ω R Q p e s m args below meth c nL kc ks pc ls (vi i :: rf a :: st) h := by
  intro H locs lr hS r hl
  obtain ⟨hx, hb, hr, hml, hown, hlocks, hts⟩ := id cx
  subst hp
  subst hv
  have hA := (r.2.2 a 12 n ha).2
  rw [xE_12] at hA
  refine va_lald hx hb wd.1 (xP1 hA) 0 2 rfl rfl (i := Int32.ofInt i) (x_in h2 h0 h1) hd ?_
  have := kk H locs lr hS r hl
  rw [x_nat h2, x_toNat h0]
  exact this

theorem Y.last (cx : yCx own cc nL ret p s m args meth c) (wd : xWd Ω s) {a n : Nat} {i : Int} {x : Int64} (hd : decode cc pc = .ok (.lastore, 1)) (ha : mT h a = some (12, n)) (h0 : 0 ≤ i) (h1 : i < n) (h2 : inR i) (hp : pc + 1 = pc') (kk : Y Ω R Q p e s m args below meth c nL kc ks pc' ls st (sL h a i x)) : Y Ω R Q p e s m args below meth c nL kc ks pc ls (vl x :: vi i :: rf a :: st) h := by
  intro H locs lr hS r hl
  obtain ⟨hx, hb, hr, hml, hown, hlocks, hts⟩ := id cx
  subst hp
  have hA := r.2.2 a 12 n ha
  rw [xE_12] at hA
  have hlt : i.toNat < n := by omega
  refine W.last hx hb (a := a) (cell := arrV (Ω.2.2.1 2) n (fun j => .long (mL h a j))) (j := Int32.ofInt i) (x := x) hA.2 (xArr wd (k := 2) rfl n _) (fun q => by cases q) (by rw [arrV_size]; exact x_in h2 h0 h1) rfl rfl hd (fun H' e1 e2 e3 => ?_)
  refine kk H' _ lr (hS.put e2 e3 hA.1) (xRel_upd r e2 e3 rfl rfl (fun _ _ => rfl) (fun _ _ => rfl) (fun b hb => ?_) (fun j => r.2.1 _ _) (fun t n2 ht => ?_)) hl
  · funext j
    rw [mL_sL, if_neg (fun q => hb q.1)]
  · rw [ha] at ht
    cases ht
    rw [xE_12]
    show H'[a]? = some (vp_cell _ _)
    rw [e1, vp_cell_l, arrV_store, x_nat h2]
    congr 2
    funext j
    unfold updV
    rw [mL_sL]
    by_cases e : j = i.toNat
    · rw [if_pos e, if_pos ⟨rfl, by omega⟩]
    · rw [if_neg e, if_neg (fun q => e (by have := q.2; omega))]

theorem Y.new (cx : yCx own cc nL ret p s m args meth c) (wd : xWd Ω s) {index ci n : Nat} {C : String} {T : u_T} (hd : decode cc pc = .ok (.new index, 3)) (hc : xCls ci) (hci : ci < 7) (hC : vwCl[ci]? = some (C, T, n)) (w1 : Cond.classLink own index C ∈ WG) (w2 : Cond.instantiable C n ∈ WG) (w3 : Cond.initialized C ∈ WG) (hkc : kc + 1 ≤ R.cells) (hks : ks + n ≤ R.slots) (hp : pc + 3 = pc')
    (kk : Y Ω R Q p e s m args below meth c nL (kc + 1) (ks + n) pc' ls (rf (mN h) :: st) (aL h ci n)) : Y Ω R Q p e s m args below meth c nL kc ks pc ls st h := by
  intro H locs lr hS r hl
  obtain ⟨hx, hb, hr, hml, hown, hlocks, hts⟩ := id cx
  subst hp
  obtain ⟨g1, g2, ty, g3, g4⟩ := hc _ hC
  have hKn := wd.1.1 ci _ hC
  refine W.newcK hx hb hown (hts _ w1) (hts _ w2) (hts _ w3) rfl hd hkc hks hKn.2.1 rfl fun H1 kC hkC e1 z1 o1 => ?_
  rw [r.1] at e1 z1 o1
  have e2 : Value.ref H.size = xc (rf (mN h)) := by rw [r.1]; rfl
  rw [e2]
  refine kk H1 locs lr (xS_grow hS (by rw [r.1]; omega) (fun q hq => o1 q (by rw [← r.1]; exact hq))) (xRel_new r (xS_B wd hS) z1 (fun q hq => o1 q (by rw [← r.1]; exact hq)) (fun b hb => ?_) (fun b hb => ?_) (fun b hb => ?_) (fun b hb => ?_) (fun b k hb => ?_) (fun b t m2 hb ht => ?_)) hl
  · rw [mT_aL, if_neg (by omega)]
  · funext j
    rw [mI_aL, if_neg (by omega)]
  · funext j
    rw [mR_aL, if_neg (by omega)]
  · funext j
    rw [mL_aL, if_neg (by omega)]
  · rw [mI_aL]
    split
    · exact inR_0
    · exact r.2.1 _ _
  · rw [mT_aL] at ht
    by_cases e9 : b = mN h
    · rw [if_pos e9] at ht
      cases ht
      subst e9
      rw [xE_obj hci]
      refine ⟨_, hC, (u_born ty hts g1 hKn hkC e1 g3).to (fun k hk => ?_)⟩
      unfold vp_V
      rw [List.getD_eq_getElem?_getD, List.getElem?_map, List.getElem?_range hk]
      have h4 := g4 k hk
      simp only [Option.map_some, Option.getD_some, xfv, mI_aL, mR_aL, mL_aL, if_true]
      rcases (show xft ci k = 0 ∨ xft ci k = 1 ∨ xft ci k = 2 ∨ xft ci k = 3 by omega) with q | q | q | q
      · rw [h4.1 q, q]; rfl
      · rw [h4.2.1 q, q]; rfl
      · rw [q]
        rcases h4.2.2.1 q with ⟨C9, q9⟩ | ⟨t9, q9⟩ <;> rw [q9] <;> rfl
      · rw [h4.2.2.2.1 q, q]; rfl
    · rw [if_neg e9] at ht
      exact absurd (r.lt ht) (by omega)

theorem Y.newa (cx : yCx own cc nL ret p s m args meth c) (wd : xWd Ω s) {at_ : ArrayType} {k : Int} {N t : Nat} (hd : decode cc pc = .ok (.newarray at_, 2)) (ht : (t = 10 ∧ newarray.typeOf at_ = .int) ∨ (t = 11 ∧ newarray.typeOf at_ = .char) ∨ (t = 12 ∧ newarray.typeOf at_ = .long)) (w : Cond.arrayClass (newarray.typeOf at_) ∈ WG) (hk : k = N) (hN : N ≤ 50000000) (hkc : kc + 1 ≤ R.cells) (hks : ks + N ≤ R.slots) (hp : pc + 2 = pc')
    (kk : Y Ω R Q p e s m args below meth c nL (kc + 1) (ks + N) pc' ls (rf (mN h) :: st) (aL h t N)) : Y Ω R Q p e s m args below meth c nL kc ks pc ls (vi k :: st) h := by
  intro H locs lr hS r hl
  obtain ⟨hx, hb, hr, hml, hown, hlocks, hts⟩ := id cx
  subst hp
  subst hk
  have hi : inR (N : Int) := ⟨by omega, by omega⟩
  have hn0 : ¬ Int32.ofInt (N : Int) < 0 := by
    rw [show (0 : Int32) = Int32.ofInt 0 from rfl, x_lt hi inR_0]
    omega
  refine va_newaK hx hb (hts _ w) rfl hd rfl hn0 (N := N) (by rw [x_nat hi]; omega) (by rcases ht with ⟨-, q⟩ | ⟨-, q⟩ | ⟨-, q⟩ <;> rw [q] <;> simp [componentBytes] <;> omega) hkc hks rfl fun H1 cA e1 z1 o1 hAr hNm => ?_
  rw [r.1] at e1 z1 o1
  have e2 : Value.ref H.size = xc (rf (mN h)) := by rw [r.1]; rfl
  rw [e2]
  refine kk H1 locs lr (xS_grow hS (by rw [r.1]; omega) (fun q hq => o1 q (by rw [← r.1]; exact hq))) (xRel_new r (xS_B wd hS) z1 (fun q hq => o1 q (by rw [← r.1]; exact hq)) (fun b hb => ?_) (fun b hb => ?_) (fun b hb => ?_) (fun b hb => ?_) (fun b k hb => ?_) (fun b t9 m2 hb ht9 => ?_)) hl
  · rw [mT_aL, if_neg (by omega)]
  · funext j
    rw [mI_aL, if_neg (by omega)]
  · funext j
    rw [mR_aL, if_neg (by omega)]
  · funext j
    rw [mL_aL, if_neg (by omega)]
  · rw [mI_aL]
    split
    · exact inR_0
    · exact r.2.1 _ _
  · rw [mT_aL] at ht9
    by_cases e9 : b = mN h
    · rw [if_pos e9] at ht9
      cases ht9
      subst e9
      rcases ht with ⟨rfl, q⟩ | ⟨rfl, q⟩ | ⟨rfl, q⟩
      · rw [q] at hNm e1
        have q2 : cA = Ω.2.2.1 0 := Option.some.inj (hNm.symm.trans (wd.1.2 0 _ rfl).2)
        rw [xE_10]
        show H1[mN h]? = some (vp_cell _ _)
        rw [e1, vp_cell_i, q2]
        congr 2
        funext j
        rw [mI_aL, if_pos rfl]
        rfl
      · rw [q] at hNm e1
        have q2 : cA = Ω.2.2.1 1 := Option.some.inj (hNm.symm.trans (wd.1.2 1 _ rfl).2)
        rw [xE_11]
        show H1[mN h]? = some (vp_cell _ _)
        rw [e1, vp_cell_i, q2]
        congr 2
        funext j
        rw [mI_aL, if_pos rfl]
        rfl
      · rw [q] at hNm e1
        have q2 : cA = Ω.2.2.1 2 := Option.some.inj (hNm.symm.trans (wd.1.2 2 _ rfl).2)
        rw [xE_12]
        show H1[mN h]? = some (vp_cell _ _)
        rw [e1, vp_cell_l, q2]
        congr 2
        funext j
        rw [mL_aL, if_pos rfl]
        rfl
    · rw [if_neg e9] at ht9
      exact absurd (r.lt ht9) (by omega)

theorem yBehind {H : Heap} {locs : List Loc} {lr : Array Slot} {mc ms : Nat} {PR' : Option xV → xM → Prop} {a : Array Value} {st0 : List Value} (hS : va_S (xA Ω) s.heap H locs) (hl : xLo lr nL ls)
    (hr : va_Run p Ω.1 e R s m args below meth c H locs kc ks mc ms (F0 m pc lr st0) (st.map xc) (xQ Ω PR' a) (xA Ω))
    (kR : ∀ (q : Option xV) (h' : xM), PR' q h' → Y Ω R Q p e s m args below meth c nL (kc + mc) (ks + ms) (pc + 3) ls (q.toList ++ st) h') : W p Ω.1 e R s m args below meth c H locs kc ks Q (F0 m pc lr st0) := by
  intro T hT Xs
  obtain ⟨v, st₀, t, T', L, h0, X', hL, e1, e2, ⟨q, h', hv, hrel, hF, hPR⟩, stp⟩ := hr T hT Xs
  cases hv
  obtain ⟨-, -, k3⟩ := vx_keep h0 e1 hS (fun _ _ z => z) (fun _ z => z) hL hF
  obtain ⟨t2, a1, b1⟩ := kR q h' hPR T'.heap (locs ++ L) lr k3 (by rw [e1]; exact hrel) hl T' rfl X'
  refine ⟨t2, stp t2 ?_, b1⟩
  cases q with
  | none => exact a1
  | some q => exact a1
/-- what catches E, thrown at pc -/
def yCatch (own : String) (s : State) (args : Array Value) (c : Code) (pc : Nat) (E : String) (hpc : Nat) : Prop := ∃ (pre : List ExceptionTableEntry) (x : ExceptionTableEntry) (suf : List ExceptionTableEntry) (name : String), c.exceptionTable.toList = pre ++ x :: suf ∧ (∀ z ∈ pre, covers z pc = false ∨ (z.catchType ≠ 0 ∧ ∃ nm : String, (Cond.classLink own z.catchType nm).before args s = true ∧ va_Nc E nm s)) ∧ covers x pc = true ∧ x.catchType ≠ 0 ∧ (Cond.classLink own x.catchType name).before args s = true ∧ (Cond.castable E name).before args s = true ∧ x.handlerPc = hpc
theorem Y.callV (cx : yCx own cc nL ret p s m args meth c) (wd : xWd Ω s) {index n maxL ci nf a : Nat} {C : String} {T : u_T} {y : MethodName} {bytes : ByteArray} {rt : Option FieldType} {rm : Room} {As sa : List xV} {PR' : Option xV → xM → Prop} (hd : decode cc pc = .ok (.invokevirtual index, 3)) (w : xCal own index C y bytes maxL rt n) (hC : vwCl[ci]? = some (C, T, nf)) (hci : ci < 7) (ha : mT h a = some (ci, nf))
    (hsa : As.reverse ++ (rf a :: st) = sa) (hn : As.length = n) (hR : rm.frames + 1 ≤ R.frames ∧ 8 + (maxL + 11) + rm.locals ≤ R.locals) (hkc : kc + rm.cells ≤ R.cells) (hks : ks + rm.slots ≤ R.slots) (hst : (st.map xcat).sum ≤ 8) (hp : pc + 3 = pc')
    (hct : xCt Ω y bytes maxL rt rm (rf a :: As) h PR' xNo)
    (kR : ∀ (q : Option xV) (h' : xM), PR' q h' → Y Ω R Q p e s m args below meth c nL (kc + rm.cells) (ks + rm.slots) pc' ls (q.toList ++ st) h') : Y Ω R Q p e s m args below meth c nL kc ks pc ls sa h := by
  intro H locs lr hS r hl
  obtain ⟨hx, hb, hrt, hml, hown, hlocks, hts⟩ := id cx
  subst hp
  subst hsa
  have hA := (r.2.2 a ci nf ha).2
  rw [xE_obj hci] at hA
  refine yBehind hS hl (va_runV (As := As.map xc) (b := a) (C := C) (n := n) ⟨hx, hb, hml, hown, hts⟩ (xMet hct) (cwV n hts w.good rfl rfl rfl ⟨w.2.1, w.2.2.1, w.2.2.2.1, w.2.2.2.2⟩ hR) ⟨xBlind, va_recv wd.1 (xP1 hA) hC (q0 := 0) rfl, fun U hU hW => ⟨rfl, wd.heap hS hU hW, by rw [hU]; exact r⟩⟩ rfl (by rw [List.length_map]; exact hn) hl.1 ?_ ?_ hd ⟨hkc, hks⟩) kR
  · show ((As.reverse ++ (rf a :: st)).map xc) = _
    rw [List.map_append, List.map_reverse]
    rfl
  · rw [x_cats]
    show 2 * 0 + _ ≤ _
    omega
/-- a call that may throw what is caught here -/
theorem Y.callVX (cx : yCx own cc nL ret p s m args meth c) (wd : xWd Ω s) {index n maxL ci nf a : Nat} {C : String} {T : u_T} {y : MethodName} {bytes : ByteArray} {rt : Option FieldType} {rm : Room} {As sa : List xV} {PR' : Option xV → xM → Prop} {PX' : String → xM → Prop} (hd : decode cc pc = .ok (.invokevirtual index, 3)) (w : xCal own index C y bytes maxL rt n) (hC : vwCl[ci]? = some (C, T, nf)) (hci : ci < 7) (ha : mT h a = some (ci, nf))
    (hsa : As.reverse ++ (rf a :: st) = sa) (hn : As.length = n) (hR : rm.frames + 1 ≤ R.frames ∧ 8 + (maxL + 11) + rm.locals ≤ R.locals) (hkc : kc + rm.cells ≤ R.cells) (hks : ks + rm.slots ≤ R.slots) (hst : (st.map xcat).sum ≤ 8) (hp : pc + 3 = pc')
    (hct : xCt Ω y bytes maxL rt rm (rf a :: As) h PR' PX')
    (kR : ∀ (q : Option xV) (h' : xM), PR' q h' → Y Ω R Q p e s m args below meth c nL (kc + rm.cells) (ks + rm.slots) pc' ls (q.toList ++ st) h')
    (kX : ∀ (E : String) (h' : xM), PX' E h' → ∃ hpc, yCatch own s args c pc E hpc ∧ ∀ q : Nat, Y Ω R Q p e s m args below meth c nL (kc + rm.cells) (ks + rm.slots) hpc ls [rf q] h') : Y Ω R Q p e s m args below meth c nL kc ks pc ls sa h := by
  intro H locs lr hS r hl
  obtain ⟨hx, hb, hrt, hml, hown, hlocks, hts⟩ := id cx
  subst hp
  subst hsa
  have hA := (r.2.2 a ci nf ha).2
  rw [xE_obj hci] at hA
  have hr := vx_runV (p := p) (l := Ω.1) (e := e) (R := R) (below := below) (meth := meth) (locs := locs) (cells := kc) (slots := ks) (g := F0 m pc lr ((As.reverse ++ (rf a :: st)).map xc)) (rest := st.map xc) (As := As.map xc) (b := a) (C := C) (n := n) ⟨hx, hb, hml, hown, hts⟩ hct (cwV n hts w.good rfl rfl rfl ⟨w.2.1, w.2.2.1, w.2.2.2.1, w.2.2.2.2⟩ hR) ⟨xBlind, va_recv wd.1 (xP1 hA) hC (q0 := 0) rfl, fun U hU hW => ⟨rfl, wd.heap hS hU hW, by rw [hU]; exact r⟩⟩ rfl (by rw [List.length_map]; exact hn) hl.1 (by
    show ((As.reverse ++ (rf a :: st)).map xc) = _
    rw [List.map_append, List.map_reverse]
    rfl) (by
    rw [x_cats]
    show 2 * 0 + _ ≤ _
    omega) hd ⟨hkc, hks⟩
  intro T hT Xs
  rcases hr T hT Xs with ⟨v, st₀, t, T', L, h0, X', hL, e1, e2, ⟨q, h', hv, hrel, hF, hPR⟩, stp⟩ | ⟨q, st₀, t, T', L, E, ce, h0, X', hL, e1, e2, ⟨h', hrel, hF, hPX⟩, hce, hcv, hcl, stp⟩
  · cases hv
    obtain ⟨-, -, k3⟩ := vx_keep h0 e1 hS (fun _ _ z => z) (fun _ z => z) hL hF
    obtain ⟨t2, a1, b1⟩ := kR q h' hPR T'.heap (locs ++ L) lr k3 (by rw [e1]; exact hrel) hl T' rfl X'
    refine ⟨t2, stp t2 ?_, b1⟩
    cases q with
    | none => exact a1
    | some q => exact a1
  · obtain ⟨-, -, k3⟩ := vx_keep h0 e1 hS (fun _ _ z => z) (fun _ z => z) hL hF
    obtain ⟨hpc, ⟨pre, x, suf, name, c1, c2, c3, c4, c5, c6, c7⟩, kk⟩ := kX E h' hPX
    have hw := vx_catch (p := p) (l := Ω.1) (e := e) (R := R) (s := s) (m := m) (args := args) (below := below) (meth := meth) (c := c) (H := T'.heap) (locs := locs ++ L) (cells := kc + rm.cells) (slots := ks + rm.slots) (Q := Q) (q := q) (pc := pc) (ls := lr) (rest := st.map xc) hown pre x suf c1 c2 c3 c4 c5 c6 (by rw [e1]; exact hce) hcv hcl (by
      rw [c7]
      exact kk q T'.heap (locs ++ L) lr k3 (by rw [e1]; exact hrel) hl)
    obtain ⟨t2, a1, b1⟩ := hw T' rfl X'
    exact ⟨t2, stp.trans a1, b1⟩
theorem Y.callI (cx : yCx own cc nL ret p s m args meth c) (wd : xWd Ω s) {index n maxL a : Nat} {y : MethodName} {bytes : ByteArray} {rm : Room} {As sa : List xV} {PR' : Option xV → xM → Prop} (hd : decode cc pc = .ok (.invokespecial index, 3)) (w : xCaI own index y bytes maxL n)
    (hsa : As.reverse ++ (rf a :: st) = sa) (hn : As.length = n) (hR : rm.frames + 1 ≤ R.frames ∧ 8 + (maxL + 11) + rm.locals ≤ R.locals) (hkc : kc + rm.cells ≤ R.cells) (hks : ks + rm.slots ≤ R.slots) (hst : (st.map xcat).sum ≤ 8) (hp : pc + 3 = pc')
    (hct : xCt Ω y bytes maxL none rm (rf a :: As) h PR' xNo)
    (kR : ∀ (q : Option xV) (h' : xM), PR' q h' → Y Ω R Q p e s m args below meth c nL (kc + rm.cells) (ks + rm.slots) pc' ls (q.toList ++ st) h') : Y Ω R Q p e s m args below meth c nL kc ks pc ls sa h := by
  intro H locs lr hS r hl
  obtain ⟨hx, hb, hrt, hml, hown, hlocks, hts⟩ := id cx
  subst hp
  subst hsa
  refine yBehind hS hl (va_runI (As := As.map xc) (b := a) (n := n) ⟨hx, hb, hml, hown, hts⟩ (xMet hct) (cwI n hts (xGood w.1.2.2.2) rfl rfl rfl (hts _ w.1.2.2.1) (hts _ w.1.1) (hts _ w.1.2.1) w.2.1 w.2.2 hR) ⟨xBlind, fun U hU hW => ⟨rfl, wd.heap hS hU hW, by rw [hU]; exact r⟩⟩ rfl (by rw [List.length_map]; exact hn) hl.1 ?_ ?_ hd ⟨hkc, hks⟩) kR
  · show ((As.reverse ++ (rf a :: st)).map xc) = _
    rw [List.map_append, List.map_reverse]
    rfl
  · rw [x_cats]
    show 2 * 0 + _ ≤ _
    omega
/-- a method with handlers, of which nothing is thrown -/
def yCt (Ω : xO) (y : MethodName) (bytes : ByteArray) (maxL : Nat) (ret : Option FieldType) (hh : List (Nat × Nat × Nat × Nat)) (rm : Room) (args : List xV) (h : xM) (PR : Option xV → xM → Prop) : Prop :=
  vx_Met Ω.1 y (Cond.codeWith y bytes maxL ret hh :: WG) rm (va_Pc (args.map xc) (fun U => xWd Ω U ∧ xRel Ω h U.heap)) (xQ Ω PR) (xX Ω xNo) rm.cells rm.slots (xA Ω)
def yCaS (own : String) (index : Nat) (y : MethodName) (bytes : ByteArray) (maxL : Nat) (ret : Option FieldType) (hh : List (Nat × Nat × Nat × Nat)) (n : Nat) : Prop :=
  (Cond.methodLink own index y ∈ WG ∧ Cond.static y ∈ WG ∧ Cond.initialized y.cls ∈ WG ∧ Cond.codeWith y bytes maxL ret hh ∈ WG) ∧ y.cls ≠ "java/lang/invoke/MethodHandle" ∧ y.cls ≠ "java/lang/invoke/VarHandle" ∧ (parseMethodDescriptor y.desc).map (fun d => d.parameters.length) = some n
theorem yCaS.good {index n maxL : Nat} {y : MethodName} {bytes : ByteArray} {rt : Option FieldType} {hh : List (Nat × Nat × Nat × Nat)} (w : yCaS own index y bytes maxL rt hh n) : GoodIn WG (va_wsS own index y (Cond.codeWith y bytes maxL rt hh :: WG)) := by
  refine xGoodL (fun v hv => ?_)
  unfold va_wsS at hv
  rcases List.mem_append.mp hv with hv | hv
  · simp only [List.mem_cons, List.not_mem_nil, or_false] at hv
    rcases hv with rfl | rfl | rfl
    · exact w.1.1
    · exact w.1.2.1
    · exact w.1.2.2.1
  · rcases List.mem_cons.mp hv with rfl | hv
    · exact w.1.2.2.2
    · exact hv
theorem Y.callSW (cx : yCx own cc nL ret p s m args meth c) (wd : xWd Ω s) {index n maxL : Nat} {y : MethodName} {bytes : ByteArray} {rt : Option FieldType} {hh : List (Nat × Nat × Nat × Nat)} {rm : Room} {As sa : List xV} {PR' : Option xV → xM → Prop} (hd : decode cc pc = .ok (.invokestatic index, 3)) (w : yCaS own index y bytes maxL rt hh n)
    (hsa : As.reverse ++ st = sa) (hn : As.length = n) (hR : rm.frames + 1 ≤ R.frames ∧ 8 + (maxL + 11) + rm.locals ≤ R.locals) (hkc : kc + rm.cells ≤ R.cells) (hks : ks + rm.slots ≤ R.slots) (hst : (st.map xcat).sum ≤ 8) (hp : pc + 3 = pc')
    (hct : yCt Ω y bytes maxL rt hh rm As h PR')
    (kR : ∀ (q : Option xV) (h' : xM), PR' q h' → Y Ω R Q p e s m args below meth c nL (kc + rm.cells) (ks + rm.slots) pc' ls (q.toList ++ st) h') : Y Ω R Q p e s m args below meth c nL kc ks pc ls sa h := by
  intro H locs lr hS r hl
  obtain ⟨hx, hb, hrt, hml, hown, hlocks, hts⟩ := id cx
  subst hp
  subst hsa
  have hMet : Met Ω.1 y (Cond.codeWith y bytes maxL rt hh :: WG) rm (va_Pc (As.map xc) (fun U => xWd Ω U ∧ xRel Ω h U.heap)) (xQ Ω PR') rm.cells rm.slots (xA Ω) := by
    intro p e ha hc' hk s m args below hf happ hP hK
    obtain ⟨n, o, h1, h2, h3, h4⟩ := hct p e ha hc' hk s m args below hf happ hP hK
    refine ⟨n, o, h1, h2, h3, ?_⟩
    rcases h4 with h4 | ⟨q, -, E, ce, L, ⟨h', -, -, hf⟩, -⟩
    · exact h4
    · exact hf.elim
  refine yBehind hS hl (vx_runSW (As := As.map xc) (n := n) ⟨hx, hb, hml, hown, hts⟩ hMet (vx_cwSW n hts w.good rfl rfl rfl w.2 hR) ⟨xBlind, fun U hU hW => ⟨rfl, wd.heap hS hU hW, by rw [hU]; exact r⟩⟩ rfl (by rw [List.length_map]; exact hn) hl.1 ?_ ?_ hd ⟨hkc, hks⟩) kR
  · show ((As.reverse ++ st).map xc) = _
    rw [List.map_append, List.map_reverse]
  · rw [x_cats]
    show 2 * 0 + _ ≤ _
    omega
/-- the end of a method with handlers -/
theorem Y.iret {PR : Option xV → xM → Prop} {PX : String → xM → Prop} (cx : yCx own cc nL ret p s m args meth c) {x : Int} (hd : decode cc pc = .ok (.ireturn, 1)) (hr0 : ret = some .int) (hkc : kc ≤ R.cells) (hks : ks ≤ R.slots) (q : PR (some (vi x)) h) : Y Ω R (vx_MQ below (xQ Ω PR) (xX Ω PX) args s R.cells R.slots (xA Ω)) p e s m args below meth c nL kc ks pc ls [vi x] h := by
  intro H locs lr hS r hl
  obtain ⟨hx, hb, hrt, hml, hown, hlocks, hts⟩ := id cx
  refine W.widen hkc hks (vx_ret ?_)
  exact W.iret hx hb (hrt.trans hr0) (fun t ht hW => ⟨some (vi x), h, rfl, by rw [ht]; exact r, hS.F ht, q⟩) (fun q hq => hS.2.2 q hq) hd hlocks
end YR
theorem yCt_of {Ω : xO} {y : MethodName} {bytes : ByteArray} {maxL : Nat} {rt : Option FieldType} {hh : List (Nat × Nat × Nat × Nat)} {rm : Room} {args : List xV} {h : xM} {PR : Option xV → xM → Prop} (hy : plainName y.cls = true) (hn : (xar args).length ≤ maxL)
    (K : ∀ (p : Program) (e : Env) (s : State) (m : MethodId) (args0 : Array Value) (below : List Frame) (meth : Method) (c : Code), yCx y.cls bytes maxL rt p s m args0 meth c → xWd Ω s → c.exceptionTable.toList = tableOf hh → Y Ω rm (vx_MQ below (xQ Ω PR) (xX Ω xNo) args0 s rm.cells rm.slots (xA Ω)) p e s m args0 below meth c maxL 0 0 0 (xar args ++ List.replicate (maxL - (xar args).length) none) [] h) : yCt Ω y bytes maxL rt hh rm args h PR := by
  refine vx_ofWH (cc := bytes) (maxL := maxL) (ret := rt) (hh := hh) hy rfl ?_
  intro p e s m args9 below meth c s₁ B hml hv
  obtain ⟨rfl, hwd, hrel⟩ := hv
  have hts := atoms_spec (ws := Cond.codeWith y bytes maxL rt hh :: WG) B.pre
  have hl := lv_entry (args.map xc) (n := maxL) (by rw [xsl_len]; exact hn)
  rw [lg_entry_eq]
  refine K p e s m _ below meth c ⟨B.exec, B.bytes, B.returns, hml, findClass_of_methodNamed B.named, B.notSynchronized, fun w h => hts w (List.mem_cons_of_mem _ h)⟩ hwd (vx_table (x := y) B (hts _ List.mem_cons_self)) s.heap [] _ va_S.rf hrel ⟨hl.1, hl.2.1, fun k v hk => ?_⟩
  have hk2 : (xar args)[k]? = some (some v) := by
    by_cases e1 : k < (xar args).length
    · rw [List.getElem?_append_left e1] at hk
      exact hk
    · rw [List.getElem?_append_right (by omega)] at hk
      rw [List.getElem?_replicate] at hk
      split at hk <;> cases hk
  have := xar_at args 0 k v hk2
  rw [Nat.zero_add] at this
  exact hl.2.2 _ this
/-! ===== the law's wrappers ===== -/
theorem wL_13 : Cond.classLink RL 13 "java/lang/IndexOutOfBoundsException" ∈ WG := xWG (List.mem_of_getElem? (i := 411) (by decide +kernel)) (by decide +kernel)
theorem wC_0 : Cond.castable "java/lang/IndexOutOfBoundsException" "java/lang/IndexOutOfBoundsException" ∈ WN := xWN (List.mem_of_getElem? (i := 424) (by decide +kernel)) (by decide +kernel)
theorem wL_15 : Cond.classLink RL 15 "java/lang/IllegalArgumentException" ∈ WG := xWG (List.mem_of_getElem? (i := 412) (by decide +kernel)) (by decide +kernel)
theorem wC_1 : Cond.castable "java/lang/IllegalArgumentException" "java/lang/IllegalArgumentException" ∈ WN := xWN (List.mem_of_getElem? (i := 495) (by decide +kernel)) (by decide +kernel)
theorem wL_17 : Cond.classLink RL 17 "java/lang/IllegalStateException" ∈ WG := xWG (List.mem_of_getElem? (i := 413) (by decide +kernel)) (by decide +kernel)
theorem wC_2 : Cond.castable "java/lang/IllegalStateException" "java/lang/IllegalStateException" ∈ WN := xWN (List.mem_of_getElem? (i := 515) (by decide +kernel)) (by decide +kernel)
/-- what the class's call leaves alone, with the number that it lays down -/
def FL (h g : xM) (x o lo : Nat) : Prop := mN h ≤ mN g ∧ mT g o = mT h o ∧ ∀ q, q < lo → (q < x ∨ x + 35 ≤ q) → q ≠ o → Sam h g q
theorem FL.sL {h g : xM} {x o lo : Nat} {v : Int64} (H : EF h g x lo) (ho : x + 35 ≤ o ∧ o < lo) : FL h (sL g o 0 v) x o lo := ⟨H.1, (H.2 o ho.2 (Or.inr ho.1)).1, fun q h1 h2 h3 => by
  obtain ⟨a1, a2, a3, a4⟩ := H.2 q h1 h2
  refine ⟨a1, a2, a3, ?_⟩
  rw [← a4]
  funext j
  show (if q = o ∧ j = 0 then v else g.2.2.2.2 q j) = g.2.2.2.2 q j
  rw [if_neg (fun z => h3 z.1)]⟩
theorem FL.gN {h : xM} {n x o lo : Nat} (hn : mN h ≤ n) : FL h (gN h n) x o lo := ⟨hn, rfl, fun _ _ _ _ => gN_sam⟩
theorem py3_of {p q r : Prop} {c : Int} (h : (¬ p ∧ c = 1) ∨ (p ∧ ¬ q ∧ c = 2) ∨ (p ∧ q ∧ ¬ r ∧ c = 3)) : py3 p q r c := h
set_option maxHeartbeats 4000000 in
set_option maxRecDepth 100000 in
theorem k_L_say {Ω : xO} {h : xM} {x o lo : Nat} {L : lS} {s w u : Int} (hE : EL h x lo L) (hO : mT h o = some (12, 1)) (ho : x + 35 ≤ o ∧ o < lo) (irs : inR s) (irw : inR w) (iru : inR u) : yCt Ω yL_say cL_say 6 (some .int) [(0, 12, 15, 13), (0, 12, 19, 15), (0, 12, 23, 17)] rm_L_say [rf x, vi s, vi w, vi u, rf o] h (fun q h' => ∃ r, q = some (vi r) ∧ FL h h' x o lo ∧ ((((0 ≤ s ∧ s < 6) ∧ ((1 ≤ w ∧ w ≤ 99) ∧ (-1 ≤ u ∧ u ≤ 9)) ∧ (aW (lA L) < 200 ∧ aB (lA L) < 400)) ∧ r = 0 ∧ mL h' o 0 = Int64.ofInt (aW (lA L)) ∧ inR (aW (lA L)) ∧ EL h' x lo (sA (sSave L) (aEnd (aAdd (lA L) s w u)))) ∨ (py3 (0 ≤ s ∧ s < 6) ((1 ≤ w ∧ w ≤ 99) ∧ (-1 ≤ u ∧ u ≤ 9)) (aW (lA L) < 200 ∧ aB (lA L) < 400) r ∧ EL h' x lo L))) := by
  refine yCt_of (by decide +kernel) (Nat.le_of_ble_eq_true rfl) (fun p e s0 m0 args0 below meth c cx wd htab => ?_)
  generalize hPR : (fun q h' => ∃ r, q = some (vi r) ∧ FL h h' x o lo ∧ ((((0 ≤ s ∧ s < 6) ∧ ((1 ≤ w ∧ w ≤ 99) ∧ (-1 ≤ u ∧ u ≤ 9)) ∧ (aW (lA L) < 200 ∧ aB (lA L) < 400)) ∧ r = 0 ∧ mL h' o 0 = Int64.ofInt (aW (lA L)) ∧ inR (aW (lA L)) ∧ EL h' x lo (sA (sSave L) (aEnd (aAdd (lA L) s w u)))) ∨ (py3 (0 ≤ s ∧ s < 6) ((1 ≤ w ∧ w ≤ 99) ∧ (-1 ≤ u ∧ u ≤ 9)) (aW (lA L) < 200 ∧ aB (lA L) < 400) r ∧ EL h' x lo L)) : Option xV → xM → Prop) = PR
  have K0 : Y Ω rm_L_say (vx_MQ below (xQ Ω PR) (xX Ω xNo) args0 s0 rm_L_say.cells rm_L_say.slots (xA Ω)) p e s0 m0 args0 below meth c 6 0 0 0 [some (rf x), some (vi s), some (vi w), some (vi u), some (rf o), none] [] h := ?_
  exact K0
  obtain ⟨irs1, irs2⟩ := id irs
  obtain ⟨irw1, irw2⟩ := id irw
  obtain ⟨iru1, iru2⟩ := id iru
  refine Y.aload cx wd (i := 4) rfl dL_say_0 (pc' := 2) rfl ?_
  refine Y.iconst cx wd dL_say_2 (pc' := 3) rfl ?_
  refine Y.aload_n cx wd (i := 0) rfl rfl dL_say_3 (pc' := 4) rfl ?_
  refine Y.iload_n cx wd (i := 1) rfl rfl dL_say_4 (pc' := 5) rfl ?_
  refine Y.iload_n cx wd (i := 2) rfl rfl dL_say_5 (pc' := 6) rfl ?_
  refine Y.iload_n cx wd (i := 3) rfl rfl dL_say_6 (pc' := 7) rfl ?_
  refine Y.callVX cx wd (ci := 5) (a := x) (rm := rm_X5_say) (As := [vi s, vi w, vi u]) (st := [vi 0, rf o]) dL_say_7 ck_L_7 rfl (by decide) hE.1.1 rfl rfl ⟨Nat.le_of_ble_eq_true rfl, Nat.le_of_ble_eq_true rfl⟩ (Nat.le_of_ble_eq_true rfl) (Nat.le_of_ble_eq_true rfl) (Nat.le_of_ble_eq_true rfl) (pc' := 10) rfl (k_X5_say hE irs irw iru) (fun q1 h1 e1 => ?_) (fun E hx ex => ?_)
  · obtain ⟨hcd, rfl, hE1, hF1⟩ := e1
    have okA := hE.2.1.1.2.1
    have okN := okA.2.1
    refine Y.i2l cx wd ⟨by omega, by omega⟩ dL_say_10 (pc' := 11) rfl ?_
    refine Y.last cx wd dL_say_11 (by rw [(hF1.2 o ho.2 (Or.inr ho.1)).1]; exact hO) (by omega) (by omega) ⟨by omega, by omega⟩ (pc' := 12) rfl ?_
    refine Y.goto cx wd (tgt := 27) dL_say_12 (by decide) ?_
    refine Y.iconst cx wd dL_say_27 (pc' := 28) rfl ?_
    refine Y.iret cx dL_say_28 rfl (Nat.le_of_ble_eq_true rfl) (Nat.le_of_ble_eq_true rfl) ?_
    subst hPR
    exact ⟨0, rfl, (FL.sL hF1 ho), Or.inl ⟨hcd, rfl, mL_at, ⟨by omega, by omega⟩, hE1⟩⟩
  · obtain ⟨⟨n9, hn9, rfl⟩, hc9⟩ := ex
    have hU := (hE.gN hn9).1
    rcases hc9 with ⟨c1, rfl⟩ | ⟨c1, c2, rfl⟩ | ⟨c1, c2, c3, rfl⟩
    · refine ⟨15, ⟨[], ⟨0, 12, 15, 13⟩, [⟨0, 12, 19, 15⟩, ⟨0, 12, 23, 17⟩], "java/lang/IndexOutOfBoundsException", htab, (fun z hz => absurd hz List.not_mem_nil), by decide, by decide, cx.2.2.2.2.2.2 _ wL_13, va_tabs rfl rfl (wd.2.2.1 _ wC_0), rfl⟩, fun q9 => ?_⟩
      refine Y.astore cx wd (i := 5) (ls' := [some (rf x), some (vi s), some (vi w), some (vi u), some (rf o), some (rf q9)]) (hd := dL_say_15) (by decide) rfl rfl (pc' := 17) rfl ?_
      refine Y.iconst cx wd dL_say_17 (pc' := 18) rfl ?_
      refine Y.iret cx dL_say_18 rfl (Nat.le_of_ble_eq_true rfl) (Nat.le_of_ble_eq_true rfl) ?_
      subst hPR
      exact ⟨1, rfl, FL.gN hn9, Or.inr ⟨Or.inl ⟨c1, rfl⟩, hU⟩⟩
    · refine ⟨19, ⟨[⟨0, 12, 15, 13⟩], ⟨0, 12, 19, 15⟩, [⟨0, 12, 23, 17⟩], "java/lang/IllegalArgumentException", htab, (fun z hz => by
          simp only [List.mem_cons, List.not_mem_nil, or_false] at hz
          rcases hz with rfl
          · exact Or.inr ⟨by decide, "java/lang/IndexOutOfBoundsException", cx.2.2.2.2.2.2 _ wL_13, wd.2.2.2.2.2.1 1 0 (by decide) (by decide) (by decide)⟩), by decide, by decide, cx.2.2.2.2.2.2 _ wL_15, va_tabs rfl rfl (wd.2.2.1 _ wC_1), rfl⟩, fun q9 => ?_⟩
      refine Y.astore cx wd (i := 5) (ls' := [some (rf x), some (vi s), some (vi w), some (vi u), some (rf o), some (rf q9)]) (hd := dL_say_19) (by decide) rfl rfl (pc' := 21) rfl ?_
      refine Y.iconst cx wd dL_say_21 (pc' := 22) rfl ?_
      refine Y.iret cx dL_say_22 rfl (Nat.le_of_ble_eq_true rfl) (Nat.le_of_ble_eq_true rfl) ?_
      subst hPR
      exact ⟨2, rfl, FL.gN hn9, Or.inr ⟨Or.inr (Or.inl ⟨c1, c2, rfl⟩), hU⟩⟩
    · refine ⟨23, ⟨[⟨0, 12, 15, 13⟩, ⟨0, 12, 19, 15⟩], ⟨0, 12, 23, 17⟩, [], "java/lang/IllegalStateException", htab, (fun z hz => by
          simp only [List.mem_cons, List.not_mem_nil, or_false] at hz
          rcases hz with rfl | rfl
          · exact Or.inr ⟨by decide, "java/lang/IndexOutOfBoundsException", cx.2.2.2.2.2.2 _ wL_13, wd.2.2.2.2.2.1 2 0 (by decide) (by decide) (by decide)⟩
          · exact Or.inr ⟨by decide, "java/lang/IllegalArgumentException", cx.2.2.2.2.2.2 _ wL_15, wd.2.2.2.2.2.1 2 1 (by decide) (by decide) (by decide)⟩), by decide, by decide, cx.2.2.2.2.2.2 _ wL_17, va_tabs rfl rfl (wd.2.2.1 _ wC_2), rfl⟩, fun q9 => ?_⟩
      refine Y.astore cx wd (i := 5) (ls' := [some (rf x), some (vi s), some (vi w), some (vi u), some (rf o), some (rf q9)]) (hd := dL_say_23) (by decide) rfl rfl (pc' := 25) rfl ?_
      refine Y.iconst cx wd dL_say_25 (pc' := 26) rfl ?_
      refine Y.iret cx dL_say_26 rfl (Nat.le_of_ble_eq_true rfl) (Nat.le_of_ble_eq_true rfl) ?_
      subst hPR
      exact ⟨3, rfl, FL.gN hn9, Or.inr ⟨Or.inr (Or.inr ⟨c1, c2, c3, rfl⟩), hU⟩⟩
set_option maxHeartbeats 4000000 in
set_option maxRecDepth 100000 in
theorem k_L_pass {Ω : xO} {h : xM} {x o lo : Nat} {L : lS} {n : Int} (hE : EL h x lo L) (hO : mT h o = some (12, 1)) (ho : x + 35 ≤ o ∧ o < lo) (irn : inR n) : yCt Ω yL_pass cL_pass 4 (some .int) [(0, 9, 12, 15), (0, 9, 15, 17)] rm_L_pass [rf x, vi n, rf o] h (fun q h' => ∃ r, q = some (vi r) ∧ FL h h' x o lo ∧ ((((1 ≤ n ∧ n ≤ 50) ∧ (aB (lA L) + n ≤ 400) ∧ (True)) ∧ r = 0 ∧ mL h' o 0 = Int64.ofInt (aB (lA L) + n) ∧ inR (aB (lA L) + n) ∧ EL h' x lo (sA (sSave L) (aRest (lA L) n.toNat))) ∨ (py3 (1 ≤ n ∧ n ≤ 50) (aB (lA L) + n ≤ 400) (True) r ∧ EL h' x lo L))) := by
  refine yCt_of (by decide +kernel) (Nat.le_of_ble_eq_true rfl) (fun p e s0 m0 args0 below meth c cx wd htab => ?_)
  generalize hPR : (fun q h' => ∃ r, q = some (vi r) ∧ FL h h' x o lo ∧ ((((1 ≤ n ∧ n ≤ 50) ∧ (aB (lA L) + n ≤ 400) ∧ (True)) ∧ r = 0 ∧ mL h' o 0 = Int64.ofInt (aB (lA L) + n) ∧ inR (aB (lA L) + n) ∧ EL h' x lo (sA (sSave L) (aRest (lA L) n.toNat))) ∨ (py3 (1 ≤ n ∧ n ≤ 50) (aB (lA L) + n ≤ 400) (True) r ∧ EL h' x lo L)) : Option xV → xM → Prop) = PR
  have K0 : Y Ω rm_L_pass (vx_MQ below (xQ Ω PR) (xX Ω xNo) args0 s0 rm_L_pass.cells rm_L_pass.slots (xA Ω)) p e s0 m0 args0 below meth c 4 0 0 0 [some (rf x), some (vi n), some (rf o), none] [] h := ?_
  exact K0
  obtain ⟨irn1, irn2⟩ := id irn
  refine Y.aload_n cx wd (i := 2) rfl rfl dL_pass_0 (pc' := 1) rfl ?_
  refine Y.iconst cx wd dL_pass_1 (pc' := 2) rfl ?_
  refine Y.aload_n cx wd (i := 0) rfl rfl dL_pass_2 (pc' := 3) rfl ?_
  refine Y.iload_n cx wd (i := 1) rfl rfl dL_pass_3 (pc' := 4) rfl ?_
  refine Y.callVX cx wd (ci := 5) (a := x) (rm := rm_X5_pass) (As := [vi n]) (st := [vi 0, rf o]) dL_pass_4 ck_L_19 rfl (by decide) hE.1.1 rfl rfl ⟨Nat.le_of_ble_eq_true rfl, Nat.le_of_ble_eq_true rfl⟩ (Nat.le_of_ble_eq_true rfl) (Nat.le_of_ble_eq_true rfl) (Nat.le_of_ble_eq_true rfl) (pc' := 7) rfl (k_X5_pass hE irn) (fun q1 h1 e1 => ?_) (fun E hx ex => ?_)
  · obtain ⟨hcd, rfl, hE1, hF1⟩ := e1
    have okA := hE.2.1.1.2.1
    have okB := okA.1
    refine Y.i2l cx wd ⟨by omega, by omega⟩ dL_pass_7 (pc' := 8) rfl ?_
    refine Y.last cx wd dL_pass_8 (by rw [(hF1.2 o ho.2 (Or.inr ho.1)).1]; exact hO) (by omega) (by omega) ⟨by omega, by omega⟩ (pc' := 9) rfl ?_
    refine Y.goto cx wd (tgt := 18) dL_pass_9 (by decide) ?_
    refine Y.iconst cx wd dL_pass_18 (pc' := 19) rfl ?_
    refine Y.iret cx dL_pass_19 rfl (Nat.le_of_ble_eq_true rfl) (Nat.le_of_ble_eq_true rfl) ?_
    subst hPR
    exact ⟨0, rfl, (FL.sL hF1 ho), Or.inl ⟨⟨hcd.1, hcd.2, trivial⟩, rfl, mL_at, ⟨by omega, by omega⟩, hE1⟩⟩
  · obtain ⟨⟨n9, hn9, rfl⟩, hc9⟩ := ex
    have hU := (hE.gN hn9).1
    rcases hc9 with ⟨c1, rfl⟩ | ⟨c1, c2, rfl⟩ | ⟨c1, c2, c3, rfl⟩
    · refine ⟨12, ⟨[], ⟨0, 9, 12, 15⟩, [⟨0, 9, 15, 17⟩], "java/lang/IllegalArgumentException", htab, (fun z hz => absurd hz List.not_mem_nil), by decide, by decide, cx.2.2.2.2.2.2 _ wL_15, va_tabs rfl rfl (wd.2.2.1 _ wC_1), rfl⟩, fun q9 => ?_⟩
      refine Y.astore_n cx wd (i := 3) (ls' := [some (rf x), some (vi n), some (rf o), some (rf q9)]) (hi := rfl) (hd := dL_pass_12) (by decide) rfl rfl (pc' := 13) rfl ?_
      refine Y.iconst cx wd dL_pass_13 (pc' := 14) rfl ?_
      refine Y.iret cx dL_pass_14 rfl (Nat.le_of_ble_eq_true rfl) (Nat.le_of_ble_eq_true rfl) ?_
      subst hPR
      exact ⟨1, rfl, FL.gN hn9, Or.inr ⟨Or.inl ⟨c1, rfl⟩, hU⟩⟩
    · refine ⟨15, ⟨[⟨0, 9, 12, 15⟩], ⟨0, 9, 15, 17⟩, [], "java/lang/IllegalStateException", htab, (fun z hz => by
          simp only [List.mem_cons, List.not_mem_nil, or_false] at hz
          rcases hz with rfl
          · exact Or.inr ⟨by decide, "java/lang/IllegalArgumentException", cx.2.2.2.2.2.2 _ wL_15, wd.2.2.2.2.2.1 2 1 (by decide) (by decide) (by decide)⟩), by decide, by decide, cx.2.2.2.2.2.2 _ wL_17, va_tabs rfl rfl (wd.2.2.1 _ wC_2), rfl⟩, fun q9 => ?_⟩
      refine Y.astore_n cx wd (i := 3) (ls' := [some (rf x), some (vi n), some (rf o), some (rf q9)]) (hi := rfl) (hd := dL_pass_15) (by decide) rfl rfl (pc' := 16) rfl ?_
      refine Y.iconst cx wd dL_pass_16 (pc' := 17) rfl ?_
      refine Y.iret cx dL_pass_17 rfl (Nat.le_of_ble_eq_true rfl) (Nat.le_of_ble_eq_true rfl) ?_
      subst hPR
      exact ⟨2, rfl, FL.gN hn9, Or.inr ⟨Or.inr (Or.inl ⟨c1, c2, rfl⟩), hU⟩⟩
    · exact absurd trivial c3
set_option maxHeartbeats 4000000 in
set_option maxRecDepth 100000 in
theorem k_L_wall {Ω : xO} {h : xM} {x o lo : Nat} {L : lS} {s k : Int} (hE : EL h x lo L) (hO : mT h o = some (12, 1)) (ho : x + 35 ≤ o ∧ o < lo) (irs : inR s) (irk : inR k) : yCt Ω yL_wall cL_wall 5 (some .int) [(0, 10, 13, 13), (0, 10, 17, 15)] rm_L_wall [rf x, vi s, vi k, rf o] h (fun q h' => ∃ r, q = some (vi r) ∧ FL h h' x o lo ∧ ((((0 ≤ s ∧ s < 6) ∧ (0 ≤ k ∧ k ≤ 3) ∧ (True)) ∧ r = 0 ∧ mL h' o 0 = Int64.ofInt (aWl (lA L) s) ∧ inR (aWl (lA L) s) ∧ EL h' x lo (sA (sSave L) (aSWl (lA L) s k))) ∨ (py3 (0 ≤ s ∧ s < 6) (0 ≤ k ∧ k ≤ 3) (True) r ∧ EL h' x lo L))) := by
  refine yCt_of (by decide +kernel) (Nat.le_of_ble_eq_true rfl) (fun p e s0 m0 args0 below meth c cx wd htab => ?_)
  generalize hPR : (fun q h' => ∃ r, q = some (vi r) ∧ FL h h' x o lo ∧ ((((0 ≤ s ∧ s < 6) ∧ (0 ≤ k ∧ k ≤ 3) ∧ (True)) ∧ r = 0 ∧ mL h' o 0 = Int64.ofInt (aWl (lA L) s) ∧ inR (aWl (lA L) s) ∧ EL h' x lo (sA (sSave L) (aSWl (lA L) s k))) ∨ (py3 (0 ≤ s ∧ s < 6) (0 ≤ k ∧ k ≤ 3) (True) r ∧ EL h' x lo L)) : Option xV → xM → Prop) = PR
  have K0 : Y Ω rm_L_wall (vx_MQ below (xQ Ω PR) (xX Ω xNo) args0 s0 rm_L_wall.cells rm_L_wall.slots (xA Ω)) p e s0 m0 args0 below meth c 5 0 0 0 [some (rf x), some (vi s), some (vi k), some (rf o), none] [] h := ?_
  exact K0
  obtain ⟨irs1, irs2⟩ := id irs
  obtain ⟨irk1, irk2⟩ := id irk
  refine Y.aload_n cx wd (i := 3) rfl rfl dL_wall_0 (pc' := 1) rfl ?_
  refine Y.iconst cx wd dL_wall_1 (pc' := 2) rfl ?_
  refine Y.aload_n cx wd (i := 0) rfl rfl dL_wall_2 (pc' := 3) rfl ?_
  refine Y.iload_n cx wd (i := 1) rfl rfl dL_wall_3 (pc' := 4) rfl ?_
  refine Y.iload_n cx wd (i := 2) rfl rfl dL_wall_4 (pc' := 5) rfl ?_
  refine Y.callVX cx wd (ci := 5) (a := x) (rm := rm_X5_wall) (As := [vi s, vi k]) (st := [vi 0, rf o]) dL_wall_5 ck_L_23 rfl (by decide) hE.1.1 rfl rfl ⟨Nat.le_of_ble_eq_true rfl, Nat.le_of_ble_eq_true rfl⟩ (Nat.le_of_ble_eq_true rfl) (Nat.le_of_ble_eq_true rfl) (Nat.le_of_ble_eq_true rfl) (pc' := 8) rfl (k_X5_wall hE irs irk) (fun q1 h1 e1 => ?_) (fun E hx ex => ?_)
  · obtain ⟨hcd, rfl, hE1, hF1⟩ := e1
    have okA := hE.2.1.1.2.1
    have okl := okA.2.2.1 s (by omega) (by omega)
    refine Y.i2l cx wd ⟨by omega, by omega⟩ dL_wall_8 (pc' := 9) rfl ?_
    refine Y.last cx wd dL_wall_9 (by rw [(hF1.2 o ho.2 (Or.inr ho.1)).1]; exact hO) (by omega) (by omega) ⟨by omega, by omega⟩ (pc' := 10) rfl ?_
    refine Y.goto cx wd (tgt := 21) dL_wall_10 (by decide) ?_
    refine Y.iconst cx wd dL_wall_21 (pc' := 22) rfl ?_
    refine Y.iret cx dL_wall_22 rfl (Nat.le_of_ble_eq_true rfl) (Nat.le_of_ble_eq_true rfl) ?_
    subst hPR
    exact ⟨0, rfl, (FL.sL hF1 ho), Or.inl ⟨⟨hcd.1, hcd.2, trivial⟩, rfl, mL_at, ⟨by omega, by omega⟩, hE1⟩⟩
  · obtain ⟨⟨n9, hn9, rfl⟩, hc9⟩ := ex
    have hU := (hE.gN hn9).1
    rcases hc9 with ⟨c1, rfl⟩ | ⟨c1, c2, rfl⟩ | ⟨c1, c2, c3, rfl⟩
    · refine ⟨13, ⟨[], ⟨0, 10, 13, 13⟩, [⟨0, 10, 17, 15⟩], "java/lang/IndexOutOfBoundsException", htab, (fun z hz => absurd hz List.not_mem_nil), by decide, by decide, cx.2.2.2.2.2.2 _ wL_13, va_tabs rfl rfl (wd.2.2.1 _ wC_0), rfl⟩, fun q9 => ?_⟩
      refine Y.astore cx wd (i := 4) (ls' := [some (rf x), some (vi s), some (vi k), some (rf o), some (rf q9)]) (hd := dL_wall_13) (by decide) rfl rfl (pc' := 15) rfl ?_
      refine Y.iconst cx wd dL_wall_15 (pc' := 16) rfl ?_
      refine Y.iret cx dL_wall_16 rfl (Nat.le_of_ble_eq_true rfl) (Nat.le_of_ble_eq_true rfl) ?_
      subst hPR
      exact ⟨1, rfl, FL.gN hn9, Or.inr ⟨Or.inl ⟨c1, rfl⟩, hU⟩⟩
    · refine ⟨17, ⟨[⟨0, 10, 13, 13⟩], ⟨0, 10, 17, 15⟩, [], "java/lang/IllegalArgumentException", htab, (fun z hz => by
          simp only [List.mem_cons, List.not_mem_nil, or_false] at hz
          rcases hz with rfl
          · exact Or.inr ⟨by decide, "java/lang/IndexOutOfBoundsException", cx.2.2.2.2.2.2 _ wL_13, wd.2.2.2.2.2.1 1 0 (by decide) (by decide) (by decide)⟩), by decide, by decide, cx.2.2.2.2.2.2 _ wL_15, va_tabs rfl rfl (wd.2.2.1 _ wC_1), rfl⟩, fun q9 => ?_⟩
      refine Y.astore cx wd (i := 4) (ls' := [some (rf x), some (vi s), some (vi k), some (rf o), some (rf q9)]) (hd := dL_wall_17) (by decide) rfl rfl (pc' := 19) rfl ?_
      refine Y.iconst cx wd dL_wall_19 (pc' := 20) rfl ?_
      refine Y.iret cx dL_wall_20 rfl (Nat.le_of_ble_eq_true rfl) (Nat.le_of_ble_eq_true rfl) ?_
      subst hPR
      exact ⟨2, rfl, FL.gN hn9, Or.inr ⟨Or.inr (Or.inl ⟨c1, c2, rfl⟩), hU⟩⟩
    · exact absurd trivial c3
set_option maxHeartbeats 4000000 in
set_option maxRecDepth 100000 in
theorem k_L_set {Ω : xO} {h : xM} {x o lo : Nat} {L : lS} {s k : Int} (hE : EL h x lo L) (hO : mT h o = some (12, 1)) (ho : x + 35 ≤ o ∧ o < lo) (irs : inR s) (irk : inR k) : yCt Ω yL_set cL_set 5 (some .int) [(0, 10, 13, 13), (0, 10, 17, 15)] rm_L_set [rf x, vi s, vi k, rf o] h (fun q h' => ∃ r, q = some (vi r) ∧ FL h h' x o lo ∧ ((((0 ≤ s ∧ s ≤ 2) ∧ (stOK s k) ∧ (True)) ∧ r = 0 ∧ mL h' o 0 = Int64.ofInt (aSt (lA L) s) ∧ inR (aSt (lA L) s) ∧ EL h' x lo (sA (sSave L) (aSSt (lA L) s k))) ∨ (py3 (0 ≤ s ∧ s ≤ 2) (stOK s k) (True) r ∧ EL h' x lo L))) := by
  refine yCt_of (by decide +kernel) (Nat.le_of_ble_eq_true rfl) (fun p e s0 m0 args0 below meth c cx wd htab => ?_)
  generalize hPR : (fun q h' => ∃ r, q = some (vi r) ∧ FL h h' x o lo ∧ ((((0 ≤ s ∧ s ≤ 2) ∧ (stOK s k) ∧ (True)) ∧ r = 0 ∧ mL h' o 0 = Int64.ofInt (aSt (lA L) s) ∧ inR (aSt (lA L) s) ∧ EL h' x lo (sA (sSave L) (aSSt (lA L) s k))) ∨ (py3 (0 ≤ s ∧ s ≤ 2) (stOK s k) (True) r ∧ EL h' x lo L)) : Option xV → xM → Prop) = PR
  have K0 : Y Ω rm_L_set (vx_MQ below (xQ Ω PR) (xX Ω xNo) args0 s0 rm_L_set.cells rm_L_set.slots (xA Ω)) p e s0 m0 args0 below meth c 5 0 0 0 [some (rf x), some (vi s), some (vi k), some (rf o), none] [] h := ?_
  exact K0
  obtain ⟨irs1, irs2⟩ := id irs
  obtain ⟨irk1, irk2⟩ := id irk
  refine Y.aload_n cx wd (i := 3) rfl rfl dL_set_0 (pc' := 1) rfl ?_
  refine Y.iconst cx wd dL_set_1 (pc' := 2) rfl ?_
  refine Y.aload_n cx wd (i := 0) rfl rfl dL_set_2 (pc' := 3) rfl ?_
  refine Y.iload_n cx wd (i := 1) rfl rfl dL_set_3 (pc' := 4) rfl ?_
  refine Y.iload_n cx wd (i := 2) rfl rfl dL_set_4 (pc' := 5) rfl ?_
  refine Y.callVX cx wd (ci := 5) (a := x) (rm := rm_X5_set) (As := [vi s, vi k]) (st := [vi 0, rf o]) dL_set_5 ck_L_27 rfl (by decide) hE.1.1 rfl rfl ⟨Nat.le_of_ble_eq_true rfl, Nat.le_of_ble_eq_true rfl⟩ (Nat.le_of_ble_eq_true rfl) (Nat.le_of_ble_eq_true rfl) (Nat.le_of_ble_eq_true rfl) (pc' := 8) rfl (k_X5_set hE irs irk) (fun q1 h1 e1 => ?_) (fun E hx ex => ?_)
  · obtain ⟨hcd, rfl, hE1, hF1⟩ := e1
    have okA := hE.2.1.1.2.1
    have okl := okA.2.2.2.1
    have okl2 : 0 ≤ aSt (lA L) s ∧ aSt (lA L) s ≤ 50 := by
      rcases (show s = 0 ∨ s = 1 ∨ s = 2 by omega) with rfl | rfl | rfl <;> omega
    refine Y.i2l cx wd ⟨by omega, by omega⟩ dL_set_8 (pc' := 9) rfl ?_
    refine Y.last cx wd dL_set_9 (by rw [(hF1.2 o ho.2 (Or.inr ho.1)).1]; exact hO) (by omega) (by omega) ⟨by omega, by omega⟩ (pc' := 10) rfl ?_
    refine Y.goto cx wd (tgt := 21) dL_set_10 (by decide) ?_
    refine Y.iconst cx wd dL_set_21 (pc' := 22) rfl ?_
    refine Y.iret cx dL_set_22 rfl (Nat.le_of_ble_eq_true rfl) (Nat.le_of_ble_eq_true rfl) ?_
    subst hPR
    exact ⟨0, rfl, (FL.sL hF1 ho), Or.inl ⟨⟨hcd.1, hcd.2, trivial⟩, rfl, mL_at, ⟨by omega, by omega⟩, hE1⟩⟩
  · obtain ⟨⟨n9, hn9, rfl⟩, hc9⟩ := ex
    have hU := (hE.gN hn9).1
    rcases hc9 with ⟨c1, rfl⟩ | ⟨c1, c2, rfl⟩ | ⟨c1, c2, c3, rfl⟩
    · refine ⟨13, ⟨[], ⟨0, 10, 13, 13⟩, [⟨0, 10, 17, 15⟩], "java/lang/IndexOutOfBoundsException", htab, (fun z hz => absurd hz List.not_mem_nil), by decide, by decide, cx.2.2.2.2.2.2 _ wL_13, va_tabs rfl rfl (wd.2.2.1 _ wC_0), rfl⟩, fun q9 => ?_⟩
      refine Y.astore cx wd (i := 4) (ls' := [some (rf x), some (vi s), some (vi k), some (rf o), some (rf q9)]) (hd := dL_set_13) (by decide) rfl rfl (pc' := 15) rfl ?_
      refine Y.iconst cx wd dL_set_15 (pc' := 16) rfl ?_
      refine Y.iret cx dL_set_16 rfl (Nat.le_of_ble_eq_true rfl) (Nat.le_of_ble_eq_true rfl) ?_
      subst hPR
      exact ⟨1, rfl, FL.gN hn9, Or.inr ⟨Or.inl ⟨c1, rfl⟩, hU⟩⟩
    · refine ⟨17, ⟨[⟨0, 10, 13, 13⟩], ⟨0, 10, 17, 15⟩, [], "java/lang/IllegalArgumentException", htab, (fun z hz => by
          simp only [List.mem_cons, List.not_mem_nil, or_false] at hz
          rcases hz with rfl
          · exact Or.inr ⟨by decide, "java/lang/IndexOutOfBoundsException", cx.2.2.2.2.2.2 _ wL_13, wd.2.2.2.2.2.1 1 0 (by decide) (by decide) (by decide)⟩), by decide, by decide, cx.2.2.2.2.2.2 _ wL_15, va_tabs rfl rfl (wd.2.2.1 _ wC_1), rfl⟩, fun q9 => ?_⟩
      refine Y.astore cx wd (i := 4) (ls' := [some (rf x), some (vi s), some (vi k), some (rf o), some (rf q9)]) (hd := dL_set_17) (by decide) rfl rfl (pc' := 19) rfl ?_
      refine Y.iconst cx wd dL_set_19 (pc' := 20) rfl ?_
      refine Y.iret cx dL_set_20 rfl (Nat.le_of_ble_eq_true rfl) (Nat.le_of_ble_eq_true rfl) ?_
      subst hPR
      exact ⟨2, rfl, FL.gN hn9, Or.inr ⟨Or.inr (Or.inl ⟨c1, c2, rfl⟩), hU⟩⟩
    · exact absurd trivial c3
set_option maxHeartbeats 4000000 in
set_option maxRecDepth 100000 in
theorem k_L_append {Ω : xO} {h : xM} {x o lo : Nat} {L : lS} {c9 : Int} (hE : EL h x lo L) (hO : mT h o = some (12, 1)) (ho : x + 35 ≤ o ∧ o < lo) (irc9 : inR c9) : yCt Ω yL_append cL_append 4 (some .int) [(0, 9, 12, 15), (0, 9, 15, 17)] rm_L_append [rf x, vi c9, rf o] h (fun q h' => ∃ r, q = some (vi r) ∧ FL h h' x o lo ∧ ((((33 ≤ c9 ∧ c9 ≤ 126) ∧ (lTn L < 60) ∧ (True)) ∧ r = 0 ∧ mL h' o 0 = Int64.ofInt (lTn L + 1) ∧ inR (lTn L + 1) ∧ EL h' x lo (sTx L (lTn L + 1) (up1 (lTg L) (lTn L) c9))) ∨ (py3 (33 ≤ c9 ∧ c9 ≤ 126) (lTn L < 60) (True) r ∧ EL h' x lo L))) := by
  refine yCt_of (by decide +kernel) (Nat.le_of_ble_eq_true rfl) (fun p e s0 m0 args0 below meth c cx wd htab => ?_)
  generalize hPR : (fun q h' => ∃ r, q = some (vi r) ∧ FL h h' x o lo ∧ ((((33 ≤ c9 ∧ c9 ≤ 126) ∧ (lTn L < 60) ∧ (True)) ∧ r = 0 ∧ mL h' o 0 = Int64.ofInt (lTn L + 1) ∧ inR (lTn L + 1) ∧ EL h' x lo (sTx L (lTn L + 1) (up1 (lTg L) (lTn L) c9))) ∨ (py3 (33 ≤ c9 ∧ c9 ≤ 126) (lTn L < 60) (True) r ∧ EL h' x lo L)) : Option xV → xM → Prop) = PR
  have K0 : Y Ω rm_L_append (vx_MQ below (xQ Ω PR) (xX Ω xNo) args0 s0 rm_L_append.cells rm_L_append.slots (xA Ω)) p e s0 m0 args0 below meth c 4 0 0 0 [some (rf x), some (vi c9), some (rf o), none] [] h := ?_
  exact K0
  obtain ⟨irc91, irc92⟩ := id irc9
  refine Y.aload_n cx wd (i := 2) rfl rfl dL_append_0 (pc' := 1) rfl ?_
  refine Y.iconst cx wd dL_append_1 (pc' := 2) rfl ?_
  refine Y.aload_n cx wd (i := 0) rfl rfl dL_append_2 (pc' := 3) rfl ?_
  refine Y.iload_n cx wd (i := 1) rfl rfl dL_append_3 (pc' := 4) rfl ?_
  refine Y.callVX cx wd (ci := 5) (a := x) (rm := rm_X5_append) (As := [vi c9]) (st := [vi 0, rf o]) dL_append_4 ck_L_30 rfl (by decide) hE.1.1 rfl rfl ⟨Nat.le_of_ble_eq_true rfl, Nat.le_of_ble_eq_true rfl⟩ (Nat.le_of_ble_eq_true rfl) (Nat.le_of_ble_eq_true rfl) (Nat.le_of_ble_eq_true rfl) (pc' := 7) rfl (k_X5_append hE irc9) (fun q1 h1 e1 => ?_) (fun E hx ex => ?_)
  · obtain ⟨hcd, rfl, hE1, hF1⟩ := e1
    have okT := hE.2.2.2.2.1.2.1
    refine Y.i2l cx wd ⟨by omega, by omega⟩ dL_append_7 (pc' := 8) rfl ?_
    refine Y.last cx wd dL_append_8 (by rw [(hF1.2 o ho.2 (Or.inr ho.1)).1]; exact hO) (by omega) (by omega) ⟨by omega, by omega⟩ (pc' := 9) rfl ?_
    refine Y.goto cx wd (tgt := 18) dL_append_9 (by decide) ?_
    refine Y.iconst cx wd dL_append_18 (pc' := 19) rfl ?_
    refine Y.iret cx dL_append_19 rfl (Nat.le_of_ble_eq_true rfl) (Nat.le_of_ble_eq_true rfl) ?_
    subst hPR
    exact ⟨0, rfl, (FL.sL hF1 ho), Or.inl ⟨⟨hcd.1, hcd.2, trivial⟩, rfl, mL_at, ⟨by omega, by omega⟩, hE1⟩⟩
  · obtain ⟨⟨n9, hn9, rfl⟩, hc9⟩ := ex
    have hU := (hE.gN hn9).1
    rcases hc9 with ⟨c1, rfl⟩ | ⟨c1, c2, rfl⟩ | ⟨c1, c2, c3, rfl⟩
    · refine ⟨12, ⟨[], ⟨0, 9, 12, 15⟩, [⟨0, 9, 15, 17⟩], "java/lang/IllegalArgumentException", htab, (fun z hz => absurd hz List.not_mem_nil), by decide, by decide, cx.2.2.2.2.2.2 _ wL_15, va_tabs rfl rfl (wd.2.2.1 _ wC_1), rfl⟩, fun q9 => ?_⟩
      refine Y.astore_n cx wd (i := 3) (ls' := [some (rf x), some (vi c9), some (rf o), some (rf q9)]) (hi := rfl) (hd := dL_append_12) (by decide) rfl rfl (pc' := 13) rfl ?_
      refine Y.iconst cx wd dL_append_13 (pc' := 14) rfl ?_
      refine Y.iret cx dL_append_14 rfl (Nat.le_of_ble_eq_true rfl) (Nat.le_of_ble_eq_true rfl) ?_
      subst hPR
      exact ⟨1, rfl, FL.gN hn9, Or.inr ⟨Or.inl ⟨c1, rfl⟩, hU⟩⟩
    · refine ⟨15, ⟨[⟨0, 9, 12, 15⟩], ⟨0, 9, 15, 17⟩, [], "java/lang/IllegalStateException", htab, (fun z hz => by
          simp only [List.mem_cons, List.not_mem_nil, or_false] at hz
          rcases hz with rfl
          · exact Or.inr ⟨by decide, "java/lang/IllegalArgumentException", cx.2.2.2.2.2.2 _ wL_15, wd.2.2.2.2.2.1 2 1 (by decide) (by decide) (by decide)⟩), by decide, by decide, cx.2.2.2.2.2.2 _ wL_17, va_tabs rfl rfl (wd.2.2.1 _ wC_2), rfl⟩, fun q9 => ?_⟩
      refine Y.astore_n cx wd (i := 3) (ls' := [some (rf x), some (vi c9), some (rf o), some (rf q9)]) (hi := rfl) (hd := dL_append_15) (by decide) rfl rfl (pc' := 16) rfl ?_
      refine Y.iconst cx wd dL_append_16 (pc' := 17) rfl ?_
      refine Y.iret cx dL_append_17 rfl (Nat.le_of_ble_eq_true rfl) (Nat.le_of_ble_eq_true rfl) ?_
      subst hPR
      exact ⟨2, rfl, FL.gN hn9, Or.inr ⟨Or.inr (Or.inl ⟨c1, c2, rfl⟩), hU⟩⟩
    · exact absurd trivial c3
set_option maxHeartbeats 4000000 in
set_option maxRecDepth 100000 in
theorem k_L_talk {Ω : xO} {h : xM} {x o lo : Nat} {L : lS} (hE : EL h x lo L) (hO : mT h o = some (12, 1)) (ho : x + 35 ≤ o ∧ o < lo) : yCt Ω yL_talk cL_talk 3 (some .int) [(0, 8, 11, 15)] rm_L_talk [rf x, rf o] h (fun q h' => ∃ r, q = some (vi r) ∧ FL h h' x o lo ∧ ((((acc (rn (lTg L) (lTn L))) ∧ (True) ∧ (True)) ∧ r = 0 ∧ mL h' o 0 = Int64.ofInt (aW (tk L) - aW (lA L)) ∧ inR (aW (tk L) - aW (lA L)) ∧ EL h' x lo (sTx (sA (sSave L) (tk L)) 0 (lTg L))) ∨ (py3 (acc (rn (lTg L) (lTn L))) (True) (True) r ∧ EL h' x lo L))) := by
  refine yCt_of (by decide +kernel) (Nat.le_of_ble_eq_true rfl) (fun p e s0 m0 args0 below meth c cx wd htab => ?_)
  generalize hPR : (fun q h' => ∃ r, q = some (vi r) ∧ FL h h' x o lo ∧ ((((acc (rn (lTg L) (lTn L))) ∧ (True) ∧ (True)) ∧ r = 0 ∧ mL h' o 0 = Int64.ofInt (aW (tk L) - aW (lA L)) ∧ inR (aW (tk L) - aW (lA L)) ∧ EL h' x lo (sTx (sA (sSave L) (tk L)) 0 (lTg L))) ∨ (py3 (acc (rn (lTg L) (lTn L))) (True) (True) r ∧ EL h' x lo L)) : Option xV → xM → Prop) = PR
  have K0 : Y Ω rm_L_talk (vx_MQ below (xQ Ω PR) (xX Ω xNo) args0 s0 rm_L_talk.cells rm_L_talk.slots (xA Ω)) p e s0 m0 args0 below meth c 3 0 0 0 [some (rf x), some (rf o), none] [] h := ?_
  exact K0
  refine Y.aload_n cx wd (i := 1) rfl rfl dL_talk_0 (pc' := 1) rfl ?_
  refine Y.iconst cx wd dL_talk_1 (pc' := 2) rfl ?_
  refine Y.aload_n cx wd (i := 0) rfl rfl dL_talk_2 (pc' := 3) rfl ?_
  refine Y.callVX cx wd (ci := 5) (a := x) (rm := rm_X5_talk) (As := []) (st := [vi 0, rf o]) dL_talk_3 ck_L_33 rfl (by decide) hE.1.1 rfl rfl ⟨Nat.le_of_ble_eq_true rfl, Nat.le_of_ble_eq_true rfl⟩ (Nat.le_of_ble_eq_true rfl) (Nat.le_of_ble_eq_true rfl) (Nat.le_of_ble_eq_true rfl) (pc' := 6) rfl (k_X5_talk hE) (fun q1 h1 e1 => ?_) (fun E hx ex => ?_)
  · obtain ⟨hcd, rfl, hE1, hF1⟩ := e1
    have okA := hE.2.1.1.2.1
    have okN := okA.2.1
    have okN2 : 0 ≤ aW (tk L) ∧ aW (tk L) ≤ 200 := hE1.2.1.1.2.1.2.1
    refine Y.i2l cx wd ⟨by omega, by omega⟩ dL_talk_6 (pc' := 7) rfl ?_
    refine Y.last cx wd dL_talk_7 (by rw [(hF1.2 o ho.2 (Or.inr ho.1)).1]; exact hO) (by omega) (by omega) ⟨by omega, by omega⟩ (pc' := 8) rfl ?_
    refine Y.goto cx wd (tgt := 14) dL_talk_8 (by decide) ?_
    refine Y.iconst cx wd dL_talk_14 (pc' := 15) rfl ?_
    refine Y.iret cx dL_talk_15 rfl (Nat.le_of_ble_eq_true rfl) (Nat.le_of_ble_eq_true rfl) ?_
    subst hPR
    exact ⟨0, rfl, (FL.sL hF1 ho), Or.inl ⟨⟨hcd, trivial, trivial⟩, rfl, mL_at, ⟨by omega, by omega⟩, hE1⟩⟩
  · obtain ⟨⟨n9, hn9, rfl⟩, hc9⟩ := ex
    have hU := (hE.gN hn9).1
    rcases hc9 with ⟨c1, rfl⟩ | ⟨c1, c2, rfl⟩ | ⟨c1, c2, c3, rfl⟩
    · refine ⟨11, ⟨[], ⟨0, 8, 11, 15⟩, [], "java/lang/IllegalArgumentException", htab, (fun z hz => absurd hz List.not_mem_nil), by decide, by decide, cx.2.2.2.2.2.2 _ wL_15, va_tabs rfl rfl (wd.2.2.1 _ wC_1), rfl⟩, fun q9 => ?_⟩
      refine Y.astore_n cx wd (i := 2) (ls' := [some (rf x), some (rf o), some (rf q9)]) (hi := rfl) (hd := dL_talk_11) (by decide) rfl rfl (pc' := 12) rfl ?_
      refine Y.iconst cx wd dL_talk_12 (pc' := 13) rfl ?_
      refine Y.iret cx dL_talk_13 rfl (Nat.le_of_ble_eq_true rfl) (Nat.le_of_ble_eq_true rfl) ?_
      subst hPR
      exact ⟨1, rfl, FL.gN hn9, Or.inr ⟨Or.inl ⟨c1, rfl⟩, hU⟩⟩
    · exact absurd trivial c2
    · exact absurd trivial c3
set_option maxHeartbeats 4000000 in
set_option maxRecDepth 100000 in
theorem k_L_undo {Ω : xO} {h : xM} {x o lo : Nat} {L : lS} (hE : EL h x lo L) (hO : mT h o = some (12, 1)) (ho : x + 35 ≤ o ∧ o < lo) : yCt Ω yL_undo cL_undo 3 (some .int) [(0, 8, 11, 17)] rm_L_undo [rf x, rf o] h (fun q h' => ∃ r, q = some (vi r) ∧ FL h h' x o lo ∧ ((((0 < lZ L) ∧ (True) ∧ (True)) ∧ r = 0 ∧ mL h' o 0 = Int64.ofInt (lZ L - 1) ∧ inR (lZ L - 1) ∧ EL h' x lo (sZ (sA L (lSv L (lZ L - 1))) (lZ L - 1))) ∨ (py3 (0 < lZ L) (True) (True) r ∧ EL h' x lo L))) := by
  refine yCt_of (by decide +kernel) (Nat.le_of_ble_eq_true rfl) (fun p e s0 m0 args0 below meth c cx wd htab => ?_)
  generalize hPR : (fun q h' => ∃ r, q = some (vi r) ∧ FL h h' x o lo ∧ ((((0 < lZ L) ∧ (True) ∧ (True)) ∧ r = 0 ∧ mL h' o 0 = Int64.ofInt (lZ L - 1) ∧ inR (lZ L - 1) ∧ EL h' x lo (sZ (sA L (lSv L (lZ L - 1))) (lZ L - 1))) ∨ (py3 (0 < lZ L) (True) (True) r ∧ EL h' x lo L)) : Option xV → xM → Prop) = PR
  have K0 : Y Ω rm_L_undo (vx_MQ below (xQ Ω PR) (xX Ω xNo) args0 s0 rm_L_undo.cells rm_L_undo.slots (xA Ω)) p e s0 m0 args0 below meth c 3 0 0 0 [some (rf x), some (rf o), none] [] h := ?_
  exact K0
  refine Y.aload_n cx wd (i := 1) rfl rfl dL_undo_0 (pc' := 1) rfl ?_
  refine Y.iconst cx wd dL_undo_1 (pc' := 2) rfl ?_
  refine Y.aload_n cx wd (i := 0) rfl rfl dL_undo_2 (pc' := 3) rfl ?_
  refine Y.callVX cx wd (ci := 5) (a := x) (rm := rm_X5_undo) (As := []) (st := [vi 0, rf o]) dL_undo_3 ck_L_37 rfl (by decide) hE.1.1 rfl rfl ⟨Nat.le_of_ble_eq_true rfl, Nat.le_of_ble_eq_true rfl⟩ (Nat.le_of_ble_eq_true rfl) (Nat.le_of_ble_eq_true rfl) (Nat.le_of_ble_eq_true rfl) (pc' := 6) rfl (k_X5_undo hE) (fun q1 h1 e1 => ?_) (fun E hx ex => ?_)
  · obtain ⟨hcd, rfl, hE1, hF1⟩ := e1
    have okz := hE.2.2.1.2.2.1
    refine Y.i2l cx wd ⟨by omega, by omega⟩ dL_undo_6 (pc' := 7) rfl ?_
    refine Y.last cx wd dL_undo_7 (by rw [(hF1.2 o ho.2 (Or.inr ho.1)).1]; exact hO) (by omega) (by omega) ⟨by omega, by omega⟩ (pc' := 8) rfl ?_
    refine Y.goto cx wd (tgt := 14) dL_undo_8 (by decide) ?_
    refine Y.iconst cx wd dL_undo_14 (pc' := 15) rfl ?_
    refine Y.iret cx dL_undo_15 rfl (Nat.le_of_ble_eq_true rfl) (Nat.le_of_ble_eq_true rfl) ?_
    subst hPR
    exact ⟨0, rfl, (FL.sL hF1 ho), Or.inl ⟨⟨hcd, trivial, trivial⟩, rfl, mL_at, ⟨by omega, by omega⟩, hE1⟩⟩
  · obtain ⟨⟨n9, hn9, rfl⟩, hc9⟩ := ex
    have hU := (hE.gN hn9).1
    rcases hc9 with ⟨c1, rfl⟩ | ⟨c1, c2, rfl⟩ | ⟨c1, c2, c3, rfl⟩
    · refine ⟨11, ⟨[], ⟨0, 8, 11, 17⟩, [], "java/lang/IllegalStateException", htab, (fun z hz => absurd hz List.not_mem_nil), by decide, by decide, cx.2.2.2.2.2.2 _ wL_17, va_tabs rfl rfl (wd.2.2.1 _ wC_2), rfl⟩, fun q9 => ?_⟩
      refine Y.astore_n cx wd (i := 2) (ls' := [some (rf x), some (rf o), some (rf q9)]) (hi := rfl) (hd := dL_undo_11) (by decide) rfl rfl (pc' := 12) rfl ?_
      refine Y.iconst cx wd dL_undo_12 (pc' := 13) rfl ?_
      refine Y.iret cx dL_undo_13 rfl (Nat.le_of_ble_eq_true rfl) (Nat.le_of_ble_eq_true rfl) ?_
      subst hPR
      exact ⟨1, rfl, FL.gN hn9, Or.inr ⟨Or.inl ⟨c1, rfl⟩, hU⟩⟩
    · exact absurd trivial c2
    · exact absurd trivial c3
set_option maxHeartbeats 4000000 in
set_option maxRecDepth 100000 in
theorem k_L_restore {Ω : xO} {h : xM} {x o lo : Nat} {L : lS} (hE : EL h x lo L) (hO : mT h o = some (12, 1)) (ho : x + 35 ≤ o ∧ o < lo) : yCt Ω yL_restore cL_restore 3 (some .int) [(0, 8, 11, 17)] rm_L_restore [rf x, rf o] h (fun q h' => ∃ r, q = some (vi r) ∧ FL h h' x o lo ∧ ((((lKf L = 1) ∧ (True) ∧ (True)) ∧ r = 0 ∧ mL h' o 0 = Int64.ofInt (aB (lK L)) ∧ inR (aB (lK L)) ∧ EL h' x lo (sA (sSave L) (lK L))) ∨ (py3 (lKf L = 1) (True) (True) r ∧ EL h' x lo L))) := by
  refine yCt_of (by decide +kernel) (Nat.le_of_ble_eq_true rfl) (fun p e s0 m0 args0 below meth c cx wd htab => ?_)
  generalize hPR : (fun q h' => ∃ r, q = some (vi r) ∧ FL h h' x o lo ∧ ((((lKf L = 1) ∧ (True) ∧ (True)) ∧ r = 0 ∧ mL h' o 0 = Int64.ofInt (aB (lK L)) ∧ inR (aB (lK L)) ∧ EL h' x lo (sA (sSave L) (lK L))) ∨ (py3 (lKf L = 1) (True) (True) r ∧ EL h' x lo L)) : Option xV → xM → Prop) = PR
  have K0 : Y Ω rm_L_restore (vx_MQ below (xQ Ω PR) (xX Ω xNo) args0 s0 rm_L_restore.cells rm_L_restore.slots (xA Ω)) p e s0 m0 args0 below meth c 3 0 0 0 [some (rf x), some (rf o), none] [] h := ?_
  exact K0
  refine Y.aload_n cx wd (i := 1) rfl rfl dL_restore_0 (pc' := 1) rfl ?_
  refine Y.iconst cx wd dL_restore_1 (pc' := 2) rfl ?_
  refine Y.aload_n cx wd (i := 0) rfl rfl dL_restore_2 (pc' := 3) rfl ?_
  refine Y.callVX cx wd (ci := 5) (a := x) (rm := rm_X5_restore) (As := []) (st := [vi 0, rf o]) dL_restore_3 ck_L_40 rfl (by decide) hE.1.1 rfl rfl ⟨Nat.le_of_ble_eq_true rfl, Nat.le_of_ble_eq_true rfl⟩ (Nat.le_of_ble_eq_true rfl) (Nat.le_of_ble_eq_true rfl) (Nat.le_of_ble_eq_true rfl) (pc' := 6) rfl (k_X5_restore hE) (fun q1 h1 e1 => ?_) (fun E hx ex => ?_)
  · obtain ⟨hcd, rfl, hE1, hF1⟩ := e1
    have okB2 : 0 ≤ aB (lK L) ∧ aB (lK L) ≤ 400 := hE1.2.1.1.2.1.1
    refine Y.i2l cx wd ⟨by omega, by omega⟩ dL_restore_6 (pc' := 7) rfl ?_
    refine Y.last cx wd dL_restore_7 (by rw [(hF1.2 o ho.2 (Or.inr ho.1)).1]; exact hO) (by omega) (by omega) ⟨by omega, by omega⟩ (pc' := 8) rfl ?_
    refine Y.goto cx wd (tgt := 14) dL_restore_8 (by decide) ?_
    refine Y.iconst cx wd dL_restore_14 (pc' := 15) rfl ?_
    refine Y.iret cx dL_restore_15 rfl (Nat.le_of_ble_eq_true rfl) (Nat.le_of_ble_eq_true rfl) ?_
    subst hPR
    exact ⟨0, rfl, (FL.sL hF1 ho), Or.inl ⟨⟨hcd, trivial, trivial⟩, rfl, mL_at, ⟨by omega, by omega⟩, hE1⟩⟩
  · obtain ⟨⟨n9, hn9, rfl⟩, hc9⟩ := ex
    have hU := (hE.gN hn9).1
    rcases hc9 with ⟨c1, rfl⟩ | ⟨c1, c2, rfl⟩ | ⟨c1, c2, c3, rfl⟩
    · refine ⟨11, ⟨[], ⟨0, 8, 11, 17⟩, [], "java/lang/IllegalStateException", htab, (fun z hz => absurd hz List.not_mem_nil), by decide, by decide, cx.2.2.2.2.2.2 _ wL_17, va_tabs rfl rfl (wd.2.2.1 _ wC_2), rfl⟩, fun q9 => ?_⟩
      refine Y.astore_n cx wd (i := 2) (ls' := [some (rf x), some (rf o), some (rf q9)]) (hi := rfl) (hd := dL_restore_11) (by decide) rfl rfl (pc' := 12) rfl ?_
      refine Y.iconst cx wd dL_restore_12 (pc' := 13) rfl ?_
      refine Y.iret cx dL_restore_13 rfl (Nat.le_of_ble_eq_true rfl) (Nat.le_of_ble_eq_true rfl) ?_
      subst hPR
      exact ⟨1, rfl, FL.gN hn9, Or.inr ⟨Or.inl ⟨c1, rfl⟩, hU⟩⟩
    · exact absurd trivial c2
    · exact absurd trivial c3
set_option maxHeartbeats 4000000 in
set_option maxRecDepth 100000 in
theorem k_L_said {Ω : xO} {h : xM} {x o lo : Nat} {L : lS} {n w : Int} (hE : EL h x lo L) (hO : mT h o = some (12, 1)) (ho : x + 35 ≤ o ∧ o < lo) (irn : inR n) (irw : inR w) : yCt Ω yL_said cL_said 5 (some .int) [(0, 10, 13, 15)] rm_L_said [rf x, vi n, vi w, rf o] h (fun q h' => ∃ r, q = some (vi r) ∧ FL h h' x o lo ∧ ((((0 ≤ n ∧ (0 ≤ w ∧ w ≤ 5)) ∧ (True) ∧ (True)) ∧ r = 0 ∧ mL h' o 0 = Int64.ofInt ((if n < aW (lA L) then oWd (lA L) n w else -1)) ∧ inR ((if n < aW (lA L) then oWd (lA L) n w else -1)) ∧ EL h' x lo (L)) ∨ (py3 (0 ≤ n ∧ (0 ≤ w ∧ w ≤ 5)) (True) (True) r ∧ EL h' x lo L))) := by
  refine yCt_of (by decide +kernel) (Nat.le_of_ble_eq_true rfl) (fun p e s0 m0 args0 below meth c cx wd htab => ?_)
  generalize hPR : (fun q h' => ∃ r, q = some (vi r) ∧ FL h h' x o lo ∧ ((((0 ≤ n ∧ (0 ≤ w ∧ w ≤ 5)) ∧ (True) ∧ (True)) ∧ r = 0 ∧ mL h' o 0 = Int64.ofInt ((if n < aW (lA L) then oWd (lA L) n w else -1)) ∧ inR ((if n < aW (lA L) then oWd (lA L) n w else -1)) ∧ EL h' x lo (L)) ∨ (py3 (0 ≤ n ∧ (0 ≤ w ∧ w ≤ 5)) (True) (True) r ∧ EL h' x lo L)) : Option xV → xM → Prop) = PR
  have K0 : Y Ω rm_L_said (vx_MQ below (xQ Ω PR) (xX Ω xNo) args0 s0 rm_L_said.cells rm_L_said.slots (xA Ω)) p e s0 m0 args0 below meth c 5 0 0 0 [some (rf x), some (vi n), some (vi w), some (rf o), none] [] h := ?_
  exact K0
  obtain ⟨irn1, irn2⟩ := id irn
  obtain ⟨irw1, irw2⟩ := id irw
  refine Y.aload_n cx wd (i := 3) rfl rfl dL_said_0 (pc' := 1) rfl ?_
  refine Y.iconst cx wd dL_said_1 (pc' := 2) rfl ?_
  refine Y.aload_n cx wd (i := 0) rfl rfl dL_said_2 (pc' := 3) rfl ?_
  refine Y.iload_n cx wd (i := 1) rfl rfl dL_said_3 (pc' := 4) rfl ?_
  refine Y.iload_n cx wd (i := 2) rfl rfl dL_said_4 (pc' := 5) rfl ?_
  refine Y.callVX cx wd (ci := 5) (a := x) (rm := rm_X5_said) (As := [vi n, vi w]) (st := [vi 0, rf o]) dL_said_5 ck_L_43 rfl (by decide) hE.1.1 rfl rfl ⟨Nat.le_of_ble_eq_true rfl, Nat.le_of_ble_eq_true rfl⟩ (Nat.le_of_ble_eq_true rfl) (Nat.le_of_ble_eq_true rfl) (Nat.le_of_ble_eq_true rfl) (pc' := 8) rfl (k_X5_said hE irn irw) (fun q1 h1 e1 => ?_) (fun E hx ex => ?_)
  · obtain ⟨rfl, hcd, rfl⟩ := e1
    have hE1 := hE
    have okA := hE.2.1.1.2.1
    have okr : -1 ≤ (if n < aW (lA L) then oWd (lA L) n w else -1) ∧ (if n < aW (lA L) then oWd (lA L) n w else -1) ≤ 400 := by
      by_cases e : n < aW (lA L)
      · rw [if_pos e]; exact oWd_rng okA ⟨by omega, e⟩
      · rw [if_neg e]; omega
    refine Y.i2l cx wd ⟨by omega, by omega⟩ dL_said_8 (pc' := 9) rfl ?_
    refine Y.last cx wd dL_said_9 hO (by omega) (by omega) ⟨by omega, by omega⟩ (pc' := 10) rfl ?_
    refine Y.goto cx wd (tgt := 17) dL_said_10 (by decide) ?_
    refine Y.iconst cx wd dL_said_17 (pc' := 18) rfl ?_
    refine Y.iret cx dL_said_18 rfl (Nat.le_of_ble_eq_true rfl) (Nat.le_of_ble_eq_true rfl) ?_
    subst hPR
    exact ⟨0, rfl, (FL.sL EF.rf ho), Or.inl ⟨⟨hcd.1, hcd.2, trivial⟩, rfl, mL_at, ⟨by omega, by omega⟩, hE1⟩⟩
  · obtain ⟨⟨n9, hn9, rfl⟩, hc9⟩ := ex
    have hU := (hE.gN hn9).1
    rcases hc9 with ⟨c1, rfl⟩ | ⟨c1, c2, rfl⟩ | ⟨c1, c2, c3, rfl⟩
    · refine ⟨13, ⟨[], ⟨0, 10, 13, 15⟩, [], "java/lang/IllegalArgumentException", htab, (fun z hz => absurd hz List.not_mem_nil), by decide, by decide, cx.2.2.2.2.2.2 _ wL_15, va_tabs rfl rfl (wd.2.2.1 _ wC_1), rfl⟩, fun q9 => ?_⟩
      refine Y.astore cx wd (i := 4) (ls' := [some (rf x), some (vi n), some (vi w), some (rf o), some (rf q9)]) (hd := dL_said_13) (by decide) rfl rfl (pc' := 15) rfl ?_
      refine Y.iconst cx wd dL_said_15 (pc' := 16) rfl ?_
      refine Y.iret cx dL_said_16 rfl (Nat.le_of_ble_eq_true rfl) (Nat.le_of_ble_eq_true rfl) ?_
      subst hPR
      exact ⟨1, rfl, FL.gN hn9, Or.inr ⟨Or.inl ⟨c1, rfl⟩, hU⟩⟩
    · exact absurd trivial c2
    · exact absurd trivial c3
set_option maxHeartbeats 4000000 in
set_option maxRecDepth 100000 in
theorem k_L_comes {Ω : xO} {h : xM} {x o lo : Nat} {L : lS} {n s : Int} (hE : EL h x lo L) (hO : mT h o = some (12, 1)) (ho : x + 35 ≤ o ∧ o < lo) (irn : inR n) (irs : inR s) : yCt Ω yL_comes cL_comes 5 (some .int) [(0, 10, 13, 13), (0, 10, 17, 15)] rm_L_comes [rf x, vi n, vi s, rf o] h (fun q h' => ∃ r, q = some (vi r) ∧ FL h h' x o lo ∧ ((((0 ≤ s ∧ s < 6) ∧ (0 ≤ n) ∧ (True)) ∧ r = 0 ∧ mL h' o 0 = Int64.ofInt ((if n < aW (lA L) then aCo (lA L) s n else -1)) ∧ inR ((if n < aW (lA L) then aCo (lA L) s n else -1)) ∧ EL h' x lo (L)) ∨ (py3 (0 ≤ s ∧ s < 6) (0 ≤ n) (True) r ∧ EL h' x lo L))) := by
  refine yCt_of (by decide +kernel) (Nat.le_of_ble_eq_true rfl) (fun p e s0 m0 args0 below meth c cx wd htab => ?_)
  generalize hPR : (fun q h' => ∃ r, q = some (vi r) ∧ FL h h' x o lo ∧ ((((0 ≤ s ∧ s < 6) ∧ (0 ≤ n) ∧ (True)) ∧ r = 0 ∧ mL h' o 0 = Int64.ofInt ((if n < aW (lA L) then aCo (lA L) s n else -1)) ∧ inR ((if n < aW (lA L) then aCo (lA L) s n else -1)) ∧ EL h' x lo (L)) ∨ (py3 (0 ≤ s ∧ s < 6) (0 ≤ n) (True) r ∧ EL h' x lo L)) : Option xV → xM → Prop) = PR
  have K0 : Y Ω rm_L_comes (vx_MQ below (xQ Ω PR) (xX Ω xNo) args0 s0 rm_L_comes.cells rm_L_comes.slots (xA Ω)) p e s0 m0 args0 below meth c 5 0 0 0 [some (rf x), some (vi n), some (vi s), some (rf o), none] [] h := ?_
  exact K0
  obtain ⟨irn1, irn2⟩ := id irn
  obtain ⟨irs1, irs2⟩ := id irs
  refine Y.aload_n cx wd (i := 3) rfl rfl dL_comes_0 (pc' := 1) rfl ?_
  refine Y.iconst cx wd dL_comes_1 (pc' := 2) rfl ?_
  refine Y.aload_n cx wd (i := 0) rfl rfl dL_comes_2 (pc' := 3) rfl ?_
  refine Y.iload_n cx wd (i := 1) rfl rfl dL_comes_3 (pc' := 4) rfl ?_
  refine Y.iload_n cx wd (i := 2) rfl rfl dL_comes_4 (pc' := 5) rfl ?_
  refine Y.callVX cx wd (ci := 5) (a := x) (rm := rm_X5_comes) (As := [vi n, vi s]) (st := [vi 0, rf o]) dL_comes_5 ck_L_46 rfl (by decide) hE.1.1 rfl rfl ⟨Nat.le_of_ble_eq_true rfl, Nat.le_of_ble_eq_true rfl⟩ (Nat.le_of_ble_eq_true rfl) (Nat.le_of_ble_eq_true rfl) (Nat.le_of_ble_eq_true rfl) (pc' := 8) rfl (k_X5_comes hE irn irs) (fun q1 h1 e1 => ?_) (fun E hx ex => ?_)
  · obtain ⟨rfl, hcd, rfl⟩ := e1
    have hE1 := hE
    have okA := hE.2.1.1.2.1
    have okr : -1 ≤ (if n < aW (lA L) then aCo (lA L) s n else -1) ∧ (if n < aW (lA L) then aCo (lA L) s n else -1) ≤ 500 := by
      by_cases e : n < aW (lA L)
      · rw [if_pos e]
        have z1 := okA.2.2.2.2.2.2.1 s n (by omega) (by omega) (by omega) e
        have z2 := okA.2.2.2.2.1 n (by omega) e
        have z3 := okA.1
        omega
      · rw [if_neg e]; omega
    refine Y.i2l cx wd ⟨by omega, by omega⟩ dL_comes_8 (pc' := 9) rfl ?_
    refine Y.last cx wd dL_comes_9 hO (by omega) (by omega) ⟨by omega, by omega⟩ (pc' := 10) rfl ?_
    refine Y.goto cx wd (tgt := 21) dL_comes_10 (by decide) ?_
    refine Y.iconst cx wd dL_comes_21 (pc' := 22) rfl ?_
    refine Y.iret cx dL_comes_22 rfl (Nat.le_of_ble_eq_true rfl) (Nat.le_of_ble_eq_true rfl) ?_
    subst hPR
    exact ⟨0, rfl, (FL.sL EF.rf ho), Or.inl ⟨⟨hcd.1, hcd.2, trivial⟩, rfl, mL_at, ⟨by omega, by omega⟩, hE1⟩⟩
  · obtain ⟨⟨n9, hn9, rfl⟩, hc9⟩ := ex
    have hU := (hE.gN hn9).1
    rcases hc9 with ⟨c1, rfl⟩ | ⟨c1, c2, rfl⟩ | ⟨c1, c2, c3, rfl⟩
    · refine ⟨13, ⟨[], ⟨0, 10, 13, 13⟩, [⟨0, 10, 17, 15⟩], "java/lang/IndexOutOfBoundsException", htab, (fun z hz => absurd hz List.not_mem_nil), by decide, by decide, cx.2.2.2.2.2.2 _ wL_13, va_tabs rfl rfl (wd.2.2.1 _ wC_0), rfl⟩, fun q9 => ?_⟩
      refine Y.astore cx wd (i := 4) (ls' := [some (rf x), some (vi n), some (vi s), some (rf o), some (rf q9)]) (hd := dL_comes_13) (by decide) rfl rfl (pc' := 15) rfl ?_
      refine Y.iconst cx wd dL_comes_15 (pc' := 16) rfl ?_
      refine Y.iret cx dL_comes_16 rfl (Nat.le_of_ble_eq_true rfl) (Nat.le_of_ble_eq_true rfl) ?_
      subst hPR
      exact ⟨1, rfl, FL.gN hn9, Or.inr ⟨Or.inl ⟨c1, rfl⟩, hU⟩⟩
    · refine ⟨17, ⟨[⟨0, 10, 13, 13⟩], ⟨0, 10, 17, 15⟩, [], "java/lang/IllegalArgumentException", htab, (fun z hz => by
          simp only [List.mem_cons, List.not_mem_nil, or_false] at hz
          rcases hz with rfl
          · exact Or.inr ⟨by decide, "java/lang/IndexOutOfBoundsException", cx.2.2.2.2.2.2 _ wL_13, wd.2.2.2.2.2.1 1 0 (by decide) (by decide) (by decide)⟩), by decide, by decide, cx.2.2.2.2.2.2 _ wL_15, va_tabs rfl rfl (wd.2.2.1 _ wC_1), rfl⟩, fun q9 => ?_⟩
      refine Y.astore cx wd (i := 4) (ls' := [some (rf x), some (vi n), some (vi s), some (rf o), some (rf q9)]) (hd := dL_comes_17) (by decide) rfl rfl (pc' := 19) rfl ?_
      refine Y.iconst cx wd dL_comes_19 (pc' := 20) rfl ?_
      refine Y.iret cx dL_comes_20 rfl (Nat.le_of_ble_eq_true rfl) (Nat.le_of_ble_eq_true rfl) ?_
      subst hPR
      exact ⟨2, rfl, FL.gN hn9, Or.inr ⟨Or.inr (Or.inl ⟨c1, c2, rfl⟩), hU⟩⟩
    · exact absurd trivial c3
set_option maxHeartbeats 4000000 in
set_option maxRecDepth 100000 in
theorem k_L_heard {Ω : xO} {h : xM} {x o lo : Nat} {L : lS} {s k w : Int} (hE : EL h x lo L) (hO : mT h o = some (12, 1)) (ho : x + 35 ≤ o ∧ o < lo) (irs : inR s) (irk : inR k) (irw : inR w) : yCt Ω yL_heard cL_heard 6 (some .int) [(0, 12, 15, 13), (0, 12, 19, 15)] rm_L_heard [rf x, vi s, vi k, vi w, rf o] h (fun q h' => ∃ r, q = some (vi r) ∧ FL h h' x o lo ∧ ((((0 ≤ s ∧ s < 6) ∧ (0 ≤ k ∧ (0 ≤ w ∧ w ≤ 2)) ∧ (True)) ∧ r = 0 ∧ mL h' o 0 = Int64.ofInt ((if k < aB (lA L) then oBt (lA L) s k w else -1)) ∧ inR ((if k < aB (lA L) then oBt (lA L) s k w else -1)) ∧ EL h' x lo (L)) ∨ (py3 (0 ≤ s ∧ s < 6) (0 ≤ k ∧ (0 ≤ w ∧ w ≤ 2)) (True) r ∧ EL h' x lo L))) := by
  refine yCt_of (by decide +kernel) (Nat.le_of_ble_eq_true rfl) (fun p e s0 m0 args0 below meth c cx wd htab => ?_)
  generalize hPR : (fun q h' => ∃ r, q = some (vi r) ∧ FL h h' x o lo ∧ ((((0 ≤ s ∧ s < 6) ∧ (0 ≤ k ∧ (0 ≤ w ∧ w ≤ 2)) ∧ (True)) ∧ r = 0 ∧ mL h' o 0 = Int64.ofInt ((if k < aB (lA L) then oBt (lA L) s k w else -1)) ∧ inR ((if k < aB (lA L) then oBt (lA L) s k w else -1)) ∧ EL h' x lo (L)) ∨ (py3 (0 ≤ s ∧ s < 6) (0 ≤ k ∧ (0 ≤ w ∧ w ≤ 2)) (True) r ∧ EL h' x lo L)) : Option xV → xM → Prop) = PR
  have K0 : Y Ω rm_L_heard (vx_MQ below (xQ Ω PR) (xX Ω xNo) args0 s0 rm_L_heard.cells rm_L_heard.slots (xA Ω)) p e s0 m0 args0 below meth c 6 0 0 0 [some (rf x), some (vi s), some (vi k), some (vi w), some (rf o), none] [] h := ?_
  exact K0
  obtain ⟨irs1, irs2⟩ := id irs
  obtain ⟨irk1, irk2⟩ := id irk
  obtain ⟨irw1, irw2⟩ := id irw
  refine Y.aload cx wd (i := 4) rfl dL_heard_0 (pc' := 2) rfl ?_
  refine Y.iconst cx wd dL_heard_2 (pc' := 3) rfl ?_
  refine Y.aload_n cx wd (i := 0) rfl rfl dL_heard_3 (pc' := 4) rfl ?_
  refine Y.iload_n cx wd (i := 1) rfl rfl dL_heard_4 (pc' := 5) rfl ?_
  refine Y.iload_n cx wd (i := 2) rfl rfl dL_heard_5 (pc' := 6) rfl ?_
  refine Y.iload_n cx wd (i := 3) rfl rfl dL_heard_6 (pc' := 7) rfl ?_
  refine Y.callVX cx wd (ci := 5) (a := x) (rm := rm_X5_heard) (As := [vi s, vi k, vi w]) (st := [vi 0, rf o]) dL_heard_7 ck_L_49 rfl (by decide) hE.1.1 rfl rfl ⟨Nat.le_of_ble_eq_true rfl, Nat.le_of_ble_eq_true rfl⟩ (Nat.le_of_ble_eq_true rfl) (Nat.le_of_ble_eq_true rfl) (Nat.le_of_ble_eq_true rfl) (pc' := 10) rfl (k_X5_heard hE irs irk irw) (fun q1 h1 e1 => ?_) (fun E hx ex => ?_)
  · obtain ⟨rfl, hcd, rfl⟩ := e1
    have hE1 := hE
    have okA := hE.2.1.1.2.1
    have okr : -1 ≤ (if k < aB (lA L) then oBt (lA L) s k w else -1) ∧ (if k < aB (lA L) then oBt (lA L) s k w else -1) ≤ 400 := by
      by_cases e : k < aB (lA L)
      · rw [if_pos e]; exact oBt_rng okA (by omega) ⟨by omega, e⟩
      · rw [if_neg e]; omega
    refine Y.i2l cx wd ⟨by omega, by omega⟩ dL_heard_10 (pc' := 11) rfl ?_
    refine Y.last cx wd dL_heard_11 hO (by omega) (by omega) ⟨by omega, by omega⟩ (pc' := 12) rfl ?_
    refine Y.goto cx wd (tgt := 23) dL_heard_12 (by decide) ?_
    refine Y.iconst cx wd dL_heard_23 (pc' := 24) rfl ?_
    refine Y.iret cx dL_heard_24 rfl (Nat.le_of_ble_eq_true rfl) (Nat.le_of_ble_eq_true rfl) ?_
    subst hPR
    exact ⟨0, rfl, (FL.sL EF.rf ho), Or.inl ⟨⟨hcd.1, hcd.2, trivial⟩, rfl, mL_at, ⟨by omega, by omega⟩, hE1⟩⟩
  · obtain ⟨⟨n9, hn9, rfl⟩, hc9⟩ := ex
    have hU := (hE.gN hn9).1
    rcases hc9 with ⟨c1, rfl⟩ | ⟨c1, c2, rfl⟩ | ⟨c1, c2, c3, rfl⟩
    · refine ⟨15, ⟨[], ⟨0, 12, 15, 13⟩, [⟨0, 12, 19, 15⟩], "java/lang/IndexOutOfBoundsException", htab, (fun z hz => absurd hz List.not_mem_nil), by decide, by decide, cx.2.2.2.2.2.2 _ wL_13, va_tabs rfl rfl (wd.2.2.1 _ wC_0), rfl⟩, fun q9 => ?_⟩
      refine Y.astore cx wd (i := 5) (ls' := [some (rf x), some (vi s), some (vi k), some (vi w), some (rf o), some (rf q9)]) (hd := dL_heard_15) (by decide) rfl rfl (pc' := 17) rfl ?_
      refine Y.iconst cx wd dL_heard_17 (pc' := 18) rfl ?_
      refine Y.iret cx dL_heard_18 rfl (Nat.le_of_ble_eq_true rfl) (Nat.le_of_ble_eq_true rfl) ?_
      subst hPR
      exact ⟨1, rfl, FL.gN hn9, Or.inr ⟨Or.inl ⟨c1, rfl⟩, hU⟩⟩
    · refine ⟨19, ⟨[⟨0, 12, 15, 13⟩], ⟨0, 12, 19, 15⟩, [], "java/lang/IllegalArgumentException", htab, (fun z hz => by
          simp only [List.mem_cons, List.not_mem_nil, or_false] at hz
          rcases hz with rfl
          · exact Or.inr ⟨by decide, "java/lang/IndexOutOfBoundsException", cx.2.2.2.2.2.2 _ wL_13, wd.2.2.2.2.2.1 1 0 (by decide) (by decide) (by decide)⟩), by decide, by decide, cx.2.2.2.2.2.2 _ wL_15, va_tabs rfl rfl (wd.2.2.1 _ wC_1), rfl⟩, fun q9 => ?_⟩
      refine Y.astore cx wd (i := 5) (ls' := [some (rf x), some (vi s), some (vi k), some (vi w), some (rf o), some (rf q9)]) (hd := dL_heard_19) (by decide) rfl rfl (pc' := 21) rfl ?_
      refine Y.iconst cx wd dL_heard_21 (pc' := 22) rfl ?_
      refine Y.iret cx dL_heard_22 rfl (Nat.le_of_ble_eq_true rfl) (Nat.le_of_ble_eq_true rfl) ?_
      subst hPR
      exact ⟨2, rfl, FL.gN hn9, Or.inr ⟨Or.inr (Or.inl ⟨c1, c2, rfl⟩), hU⟩⟩
    · exact absurd trivial c3
set_option maxHeartbeats 4000000 in
set_option maxRecDepth 100000 in
theorem k_L_speaker {Ω : xO} {h : xM} {x o lo : Nat} {L : lS} {s w : Int} (hE : EL h x lo L) (hO : mT h o = some (12, 1)) (ho : x + 35 ≤ o ∧ o < lo) (irs : inR s) (irw : inR w) : yCt Ω yL_speaker cL_speaker 5 (some .int) [(0, 10, 13, 13), (0, 10, 17, 15)] rm_L_speaker [rf x, vi s, vi w, rf o] h (fun q h' => ∃ r, q = some (vi r) ∧ FL h h' x o lo ∧ ((((0 ≤ s ∧ s < 6) ∧ (0 ≤ w ∧ w ≤ 7) ∧ (True)) ∧ r = 0 ∧ mL h' o 0 = Int64.ofInt (oSp (lA L) s w) ∧ inR (oSp (lA L) s w) ∧ EL h' x lo (L)) ∨ (py3 (0 ≤ s ∧ s < 6) (0 ≤ w ∧ w ≤ 7) (True) r ∧ EL h' x lo L))) := by
  refine yCt_of (by decide +kernel) (Nat.le_of_ble_eq_true rfl) (fun p e s0 m0 args0 below meth c cx wd htab => ?_)
  generalize hPR : (fun q h' => ∃ r, q = some (vi r) ∧ FL h h' x o lo ∧ ((((0 ≤ s ∧ s < 6) ∧ (0 ≤ w ∧ w ≤ 7) ∧ (True)) ∧ r = 0 ∧ mL h' o 0 = Int64.ofInt (oSp (lA L) s w) ∧ inR (oSp (lA L) s w) ∧ EL h' x lo (L)) ∨ (py3 (0 ≤ s ∧ s < 6) (0 ≤ w ∧ w ≤ 7) (True) r ∧ EL h' x lo L)) : Option xV → xM → Prop) = PR
  have K0 : Y Ω rm_L_speaker (vx_MQ below (xQ Ω PR) (xX Ω xNo) args0 s0 rm_L_speaker.cells rm_L_speaker.slots (xA Ω)) p e s0 m0 args0 below meth c 5 0 0 0 [some (rf x), some (vi s), some (vi w), some (rf o), none] [] h := ?_
  exact K0
  obtain ⟨irs1, irs2⟩ := id irs
  obtain ⟨irw1, irw2⟩ := id irw
  refine Y.aload_n cx wd (i := 3) rfl rfl dL_speaker_0 (pc' := 1) rfl ?_
  refine Y.iconst cx wd dL_speaker_1 (pc' := 2) rfl ?_
  refine Y.aload_n cx wd (i := 0) rfl rfl dL_speaker_2 (pc' := 3) rfl ?_
  refine Y.iload_n cx wd (i := 1) rfl rfl dL_speaker_3 (pc' := 4) rfl ?_
  refine Y.iload_n cx wd (i := 2) rfl rfl dL_speaker_4 (pc' := 5) rfl ?_
  refine Y.callVX cx wd (ci := 5) (a := x) (rm := rm_X5_speaker) (As := [vi s, vi w]) (st := [vi 0, rf o]) dL_speaker_5 ck_L_52 rfl (by decide) hE.1.1 rfl rfl ⟨Nat.le_of_ble_eq_true rfl, Nat.le_of_ble_eq_true rfl⟩ (Nat.le_of_ble_eq_true rfl) (Nat.le_of_ble_eq_true rfl) (Nat.le_of_ble_eq_true rfl) (pc' := 8) rfl (k_X5_speaker hE irs irw) (fun q1 h1 e1 => ?_) (fun E hx ex => ?_)
  · obtain ⟨rfl, hcd, rfl⟩ := e1
    have hE1 := hE
    have okA := hE.2.1.1.2.1
    have okr := oSp_rng okA (s := s) (w := w) (by omega)
    refine Y.i2l cx wd ⟨by omega, by omega⟩ dL_speaker_8 (pc' := 9) rfl ?_
    refine Y.last cx wd dL_speaker_9 hO (by omega) (by omega) ⟨by omega, by omega⟩ (pc' := 10) rfl ?_
    refine Y.goto cx wd (tgt := 21) dL_speaker_10 (by decide) ?_
    refine Y.iconst cx wd dL_speaker_21 (pc' := 22) rfl ?_
    refine Y.iret cx dL_speaker_22 rfl (Nat.le_of_ble_eq_true rfl) (Nat.le_of_ble_eq_true rfl) ?_
    subst hPR
    exact ⟨0, rfl, (FL.sL EF.rf ho), Or.inl ⟨⟨hcd.1, hcd.2, trivial⟩, rfl, mL_at, ⟨by omega, by omega⟩, hE1⟩⟩
  · obtain ⟨⟨n9, hn9, rfl⟩, hc9⟩ := ex
    have hU := (hE.gN hn9).1
    rcases hc9 with ⟨c1, rfl⟩ | ⟨c1, c2, rfl⟩ | ⟨c1, c2, c3, rfl⟩
    · refine ⟨13, ⟨[], ⟨0, 10, 13, 13⟩, [⟨0, 10, 17, 15⟩], "java/lang/IndexOutOfBoundsException", htab, (fun z hz => absurd hz List.not_mem_nil), by decide, by decide, cx.2.2.2.2.2.2 _ wL_13, va_tabs rfl rfl (wd.2.2.1 _ wC_0), rfl⟩, fun q9 => ?_⟩
      refine Y.astore cx wd (i := 4) (ls' := [some (rf x), some (vi s), some (vi w), some (rf o), some (rf q9)]) (hd := dL_speaker_13) (by decide) rfl rfl (pc' := 15) rfl ?_
      refine Y.iconst cx wd dL_speaker_15 (pc' := 16) rfl ?_
      refine Y.iret cx dL_speaker_16 rfl (Nat.le_of_ble_eq_true rfl) (Nat.le_of_ble_eq_true rfl) ?_
      subst hPR
      exact ⟨1, rfl, FL.gN hn9, Or.inr ⟨Or.inl ⟨c1, rfl⟩, hU⟩⟩
    · refine ⟨17, ⟨[⟨0, 10, 13, 13⟩], ⟨0, 10, 17, 15⟩, [], "java/lang/IllegalArgumentException", htab, (fun z hz => by
          simp only [List.mem_cons, List.not_mem_nil, or_false] at hz
          rcases hz with rfl
          · exact Or.inr ⟨by decide, "java/lang/IndexOutOfBoundsException", cx.2.2.2.2.2.2 _ wL_13, wd.2.2.2.2.2.1 1 0 (by decide) (by decide) (by decide)⟩), by decide, by decide, cx.2.2.2.2.2.2 _ wL_15, va_tabs rfl rfl (wd.2.2.1 _ wC_1), rfl⟩, fun q9 => ?_⟩
      refine Y.astore cx wd (i := 4) (ls' := [some (rf x), some (vi s), some (vi w), some (rf o), some (rf q9)]) (hd := dL_speaker_17) (by decide) rfl rfl (pc' := 19) rfl ?_
      refine Y.iconst cx wd dL_speaker_19 (pc' := 20) rfl ?_
      refine Y.iret cx dL_speaker_20 rfl (Nat.le_of_ble_eq_true rfl) (Nat.le_of_ble_eq_true rfl) ?_
      subst hPR
      exact ⟨2, rfl, FL.gN hn9, Or.inr ⟨Or.inr (Or.inl ⟨c1, c2, rfl⟩), hU⟩⟩
    · exact absurd trivial c3
set_option maxHeartbeats 4000000 in
set_option maxRecDepth 100000 in
theorem k_L_message {Ω : xO} {h : xM} {x o lo : Nat} {L : lS} {f u s : Int} (hE : EL h x lo L) (hO : mT h o = some (12, 1)) (ho : x + 35 ≤ o ∧ o < lo) (irf : inR f) (iru : inR u) (irs : inR s) : yCt Ω yL_message cL_message 6 (some .int) [(0, 12, 15, 13), (0, 12, 19, 15)] rm_L_message [rf x, vi f, vi u, vi s, rf o] h (fun q h' => ∃ r, q = some (vi r) ∧ FL h h' x o lo ∧ (((((0 ≤ f ∧ f < 6) ∧ (0 ≤ s ∧ s < 6)) ∧ (0 ≤ u ∧ u ≤ 9) ∧ (True)) ∧ r = 0 ∧ mL h' o 0 = Int64.ofInt (how (lA L) f u s) ∧ inR (how (lA L) f u s) ∧ EL h' x lo (L)) ∨ (py3 ((0 ≤ f ∧ f < 6) ∧ (0 ≤ s ∧ s < 6)) (0 ≤ u ∧ u ≤ 9) (True) r ∧ EL h' x lo L))) := by
  refine yCt_of (by decide +kernel) (Nat.le_of_ble_eq_true rfl) (fun p e s0 m0 args0 below meth c cx wd htab => ?_)
  generalize hPR : (fun q h' => ∃ r, q = some (vi r) ∧ FL h h' x o lo ∧ (((((0 ≤ f ∧ f < 6) ∧ (0 ≤ s ∧ s < 6)) ∧ (0 ≤ u ∧ u ≤ 9) ∧ (True)) ∧ r = 0 ∧ mL h' o 0 = Int64.ofInt (how (lA L) f u s) ∧ inR (how (lA L) f u s) ∧ EL h' x lo (L)) ∨ (py3 ((0 ≤ f ∧ f < 6) ∧ (0 ≤ s ∧ s < 6)) (0 ≤ u ∧ u ≤ 9) (True) r ∧ EL h' x lo L)) : Option xV → xM → Prop) = PR
  have K0 : Y Ω rm_L_message (vx_MQ below (xQ Ω PR) (xX Ω xNo) args0 s0 rm_L_message.cells rm_L_message.slots (xA Ω)) p e s0 m0 args0 below meth c 6 0 0 0 [some (rf x), some (vi f), some (vi u), some (vi s), some (rf o), none] [] h := ?_
  exact K0
  obtain ⟨irf1, irf2⟩ := id irf
  obtain ⟨iru1, iru2⟩ := id iru
  obtain ⟨irs1, irs2⟩ := id irs
  refine Y.aload cx wd (i := 4) rfl dL_message_0 (pc' := 2) rfl ?_
  refine Y.iconst cx wd dL_message_2 (pc' := 3) rfl ?_
  refine Y.aload_n cx wd (i := 0) rfl rfl dL_message_3 (pc' := 4) rfl ?_
  refine Y.iload_n cx wd (i := 1) rfl rfl dL_message_4 (pc' := 5) rfl ?_
  refine Y.iload_n cx wd (i := 2) rfl rfl dL_message_5 (pc' := 6) rfl ?_
  refine Y.iload_n cx wd (i := 3) rfl rfl dL_message_6 (pc' := 7) rfl ?_
  refine Y.callVX cx wd (ci := 5) (a := x) (rm := rm_X5_message) (As := [vi f, vi u, vi s]) (st := [vi 0, rf o]) dL_message_7 ck_L_55 rfl (by decide) hE.1.1 rfl rfl ⟨Nat.le_of_ble_eq_true rfl, Nat.le_of_ble_eq_true rfl⟩ (Nat.le_of_ble_eq_true rfl) (Nat.le_of_ble_eq_true rfl) (Nat.le_of_ble_eq_true rfl) (pc' := 10) rfl (k_X5_message hE irf iru irs) (fun q1 h1 e1 => ?_) (fun E hx ex => ?_)
  · obtain ⟨rfl, hcd, rfl⟩ := e1
    have hE1 := hE
    have okr := how_rng (lA L) f u s
    refine Y.i2l cx wd ⟨by omega, by omega⟩ dL_message_10 (pc' := 11) rfl ?_
    refine Y.last cx wd dL_message_11 hO (by omega) (by omega) ⟨by omega, by omega⟩ (pc' := 12) rfl ?_
    refine Y.goto cx wd (tgt := 23) dL_message_12 (by decide) ?_
    refine Y.iconst cx wd dL_message_23 (pc' := 24) rfl ?_
    refine Y.iret cx dL_message_24 rfl (Nat.le_of_ble_eq_true rfl) (Nat.le_of_ble_eq_true rfl) ?_
    subst hPR
    exact ⟨0, rfl, (FL.sL EF.rf ho), Or.inl ⟨⟨hcd.1, hcd.2, trivial⟩, rfl, mL_at, ⟨by omega, by omega⟩, hE1⟩⟩
  · obtain ⟨⟨n9, hn9, rfl⟩, hc9⟩ := ex
    have hU := (hE.gN hn9).1
    rcases hc9 with ⟨c1, rfl⟩ | ⟨c1, c2, rfl⟩ | ⟨c1, c2, c3, rfl⟩
    · refine ⟨15, ⟨[], ⟨0, 12, 15, 13⟩, [⟨0, 12, 19, 15⟩], "java/lang/IndexOutOfBoundsException", htab, (fun z hz => absurd hz List.not_mem_nil), by decide, by decide, cx.2.2.2.2.2.2 _ wL_13, va_tabs rfl rfl (wd.2.2.1 _ wC_0), rfl⟩, fun q9 => ?_⟩
      refine Y.astore cx wd (i := 5) (ls' := [some (rf x), some (vi f), some (vi u), some (vi s), some (rf o), some (rf q9)]) (hd := dL_message_15) (by decide) rfl rfl (pc' := 17) rfl ?_
      refine Y.iconst cx wd dL_message_17 (pc' := 18) rfl ?_
      refine Y.iret cx dL_message_18 rfl (Nat.le_of_ble_eq_true rfl) (Nat.le_of_ble_eq_true rfl) ?_
      subst hPR
      exact ⟨1, rfl, FL.gN hn9, Or.inr ⟨Or.inl ⟨c1, rfl⟩, hU⟩⟩
    · refine ⟨19, ⟨[⟨0, 12, 15, 13⟩], ⟨0, 12, 19, 15⟩, [], "java/lang/IllegalArgumentException", htab, (fun z hz => by
          simp only [List.mem_cons, List.not_mem_nil, or_false] at hz
          rcases hz with rfl
          · exact Or.inr ⟨by decide, "java/lang/IndexOutOfBoundsException", cx.2.2.2.2.2.2 _ wL_13, wd.2.2.2.2.2.1 1 0 (by decide) (by decide) (by decide)⟩), by decide, by decide, cx.2.2.2.2.2.2 _ wL_15, va_tabs rfl rfl (wd.2.2.1 _ wC_1), rfl⟩, fun q9 => ?_⟩
      refine Y.astore cx wd (i := 5) (ls' := [some (rf x), some (vi f), some (vi u), some (vi s), some (rf o), some (rf q9)]) (hd := dL_message_19) (by decide) rfl rfl (pc' := 21) rfl ?_
      refine Y.iconst cx wd dL_message_21 (pc' := 22) rfl ?_
      refine Y.iret cx dL_message_22 rfl (Nat.le_of_ble_eq_true rfl) (Nat.le_of_ble_eq_true rfl) ?_
      subst hPR
      exact ⟨2, rfl, FL.gN hn9, Or.inr ⟨Or.inr (Or.inl ⟨c1, c2, rfl⟩), hU⟩⟩
    · exact absurd trivial c3
set_option maxHeartbeats 4000000 in
set_option maxRecDepth 100000 in
theorem k_L_count {Ω : xO} {h : xM} {x o lo : Nat} {L : lS} {w : Int} (hE : EL h x lo L) (hO : mT h o = some (12, 1)) (ho : x + 35 ≤ o ∧ o < lo) (irw : inR w) : yCt Ω yL_count cL_count 4 (some .int) [(0, 9, 12, 15)] rm_L_count [rf x, vi w, rf o] h (fun q h' => ∃ r, q = some (vi r) ∧ FL h h' x o lo ∧ ((((0 ≤ w ∧ w ≤ 9) ∧ (True) ∧ (True)) ∧ r = 0 ∧ mL h' o 0 = Int64.ofInt ((if w = 9 then lZ L else oAl (lA L) w)) ∧ inR ((if w = 9 then lZ L else oAl (lA L) w)) ∧ EL h' x lo (L)) ∨ (py3 (0 ≤ w ∧ w ≤ 9) (True) (True) r ∧ EL h' x lo L))) := by
  refine yCt_of (by decide +kernel) (Nat.le_of_ble_eq_true rfl) (fun p e s0 m0 args0 below meth c cx wd htab => ?_)
  generalize hPR : (fun q h' => ∃ r, q = some (vi r) ∧ FL h h' x o lo ∧ ((((0 ≤ w ∧ w ≤ 9) ∧ (True) ∧ (True)) ∧ r = 0 ∧ mL h' o 0 = Int64.ofInt ((if w = 9 then lZ L else oAl (lA L) w)) ∧ inR ((if w = 9 then lZ L else oAl (lA L) w)) ∧ EL h' x lo (L)) ∨ (py3 (0 ≤ w ∧ w ≤ 9) (True) (True) r ∧ EL h' x lo L)) : Option xV → xM → Prop) = PR
  have K0 : Y Ω rm_L_count (vx_MQ below (xQ Ω PR) (xX Ω xNo) args0 s0 rm_L_count.cells rm_L_count.slots (xA Ω)) p e s0 m0 args0 below meth c 4 0 0 0 [some (rf x), some (vi w), some (rf o), none] [] h := ?_
  exact K0
  obtain ⟨irw1, irw2⟩ := id irw
  refine Y.aload_n cx wd (i := 2) rfl rfl dL_count_0 (pc' := 1) rfl ?_
  refine Y.iconst cx wd dL_count_1 (pc' := 2) rfl ?_
  refine Y.aload_n cx wd (i := 0) rfl rfl dL_count_2 (pc' := 3) rfl ?_
  refine Y.iload_n cx wd (i := 1) rfl rfl dL_count_3 (pc' := 4) rfl ?_
  refine Y.callVX cx wd (ci := 5) (a := x) (rm := rm_X5_count) (As := [vi w]) (st := [vi 0, rf o]) dL_count_4 ck_L_58 rfl (by decide) hE.1.1 rfl rfl ⟨Nat.le_of_ble_eq_true rfl, Nat.le_of_ble_eq_true rfl⟩ (Nat.le_of_ble_eq_true rfl) (Nat.le_of_ble_eq_true rfl) (Nat.le_of_ble_eq_true rfl) (pc' := 7) rfl (k_X5_count hE irw) (fun q1 h1 e1 => ?_) (fun E hx ex => ?_)
  · obtain ⟨rfl, hcd, rfl⟩ := e1
    have hE1 := hE
    have okA := hE.2.1.1.2.1
    have okr : 0 ≤ (if w = 9 then lZ L else oAl (lA L) w) ∧ (if w = 9 then lZ L else oAl (lA L) w) ≤ 400 := dgO_rng okA hE.2.2.1.2.2.1 (by omega)
    refine Y.i2l cx wd ⟨by omega, by omega⟩ dL_count_7 (pc' := 8) rfl ?_
    refine Y.last cx wd dL_count_8 hO (by omega) (by omega) ⟨by omega, by omega⟩ (pc' := 9) rfl ?_
    refine Y.goto cx wd (tgt := 15) dL_count_9 (by decide) ?_
    refine Y.iconst cx wd dL_count_15 (pc' := 16) rfl ?_
    refine Y.iret cx dL_count_16 rfl (Nat.le_of_ble_eq_true rfl) (Nat.le_of_ble_eq_true rfl) ?_
    subst hPR
    exact ⟨0, rfl, (FL.sL EF.rf ho), Or.inl ⟨⟨hcd.1, hcd.2, trivial⟩, rfl, mL_at, ⟨by omega, by omega⟩, hE1⟩⟩
  · obtain ⟨⟨n9, hn9, rfl⟩, hc9⟩ := ex
    have hU := (hE.gN hn9).1
    rcases hc9 with ⟨c1, rfl⟩ | ⟨c1, c2, rfl⟩ | ⟨c1, c2, c3, rfl⟩
    · refine ⟨12, ⟨[], ⟨0, 9, 12, 15⟩, [], "java/lang/IllegalArgumentException", htab, (fun z hz => absurd hz List.not_mem_nil), by decide, by decide, cx.2.2.2.2.2.2 _ wL_15, va_tabs rfl rfl (wd.2.2.1 _ wC_1), rfl⟩, fun q9 => ?_⟩
      refine Y.astore_n cx wd (i := 3) (ls' := [some (rf x), some (vi w), some (rf o), some (rf q9)]) (hi := rfl) (hd := dL_count_12) (by decide) rfl rfl (pc' := 13) rfl ?_
      refine Y.iconst cx wd dL_count_13 (pc' := 14) rfl ?_
      refine Y.iret cx dL_count_14 rfl (Nat.le_of_ble_eq_true rfl) (Nat.le_of_ble_eq_true rfl) ?_
      subst hPR
      exact ⟨1, rfl, FL.gN hn9, Or.inr ⟨Or.inl ⟨c1, rfl⟩, hU⟩⟩
    · exact absurd trivial c2
    · exact absurd trivial c3
set_option maxHeartbeats 4000000 in
set_option maxRecDepth 100000 in
theorem k_L_whyNot {Ω : xO} {h : xM} {x o lo : Nat} {L : lS} {n s : Int} (hE : EL h x lo L) (hO : mT h o = some (12, 1)) (ho : x + 35 ≤ o ∧ o < lo) (irn : inR n) (irs : inR s) : yCt Ω yL_whyNot cL_whyNot 5 (some .int) [(0, 10, 13, 13), (0, 10, 17, 15)] rm_L_whyNot [rf x, vi n, vi s, rf o] h (fun q h' => ∃ r, q = some (vi r) ∧ FL h h' x o lo ∧ ((((0 ≤ s ∧ s < 6) ∧ (0 ≤ n) ∧ (True)) ∧ r = 0 ∧ mL h' o 0 = Int64.ofInt ((if n < aW (lA L) then why (lA L) n s else -1)) ∧ inR ((if n < aW (lA L) then why (lA L) n s else -1)) ∧ EL h' x lo (L)) ∨ (py3 (0 ≤ s ∧ s < 6) (0 ≤ n) (True) r ∧ EL h' x lo L))) := by
  refine yCt_of (by decide +kernel) (Nat.le_of_ble_eq_true rfl) (fun p e s0 m0 args0 below meth c cx wd htab => ?_)
  generalize hPR : (fun q h' => ∃ r, q = some (vi r) ∧ FL h h' x o lo ∧ ((((0 ≤ s ∧ s < 6) ∧ (0 ≤ n) ∧ (True)) ∧ r = 0 ∧ mL h' o 0 = Int64.ofInt ((if n < aW (lA L) then why (lA L) n s else -1)) ∧ inR ((if n < aW (lA L) then why (lA L) n s else -1)) ∧ EL h' x lo (L)) ∨ (py3 (0 ≤ s ∧ s < 6) (0 ≤ n) (True) r ∧ EL h' x lo L)) : Option xV → xM → Prop) = PR
  have K0 : Y Ω rm_L_whyNot (vx_MQ below (xQ Ω PR) (xX Ω xNo) args0 s0 rm_L_whyNot.cells rm_L_whyNot.slots (xA Ω)) p e s0 m0 args0 below meth c 5 0 0 0 [some (rf x), some (vi n), some (vi s), some (rf o), none] [] h := ?_
  exact K0
  obtain ⟨irn1, irn2⟩ := id irn
  obtain ⟨irs1, irs2⟩ := id irs
  refine Y.aload_n cx wd (i := 3) rfl rfl dL_whyNot_0 (pc' := 1) rfl ?_
  refine Y.iconst cx wd dL_whyNot_1 (pc' := 2) rfl ?_
  refine Y.aload_n cx wd (i := 0) rfl rfl dL_whyNot_2 (pc' := 3) rfl ?_
  refine Y.iload_n cx wd (i := 1) rfl rfl dL_whyNot_3 (pc' := 4) rfl ?_
  refine Y.iload_n cx wd (i := 2) rfl rfl dL_whyNot_4 (pc' := 5) rfl ?_
  refine Y.callVX cx wd (ci := 5) (a := x) (rm := rm_X5_whyNot) (As := [vi n, vi s]) (st := [vi 0, rf o]) dL_whyNot_5 ck_L_61 rfl (by decide) hE.1.1 rfl rfl ⟨Nat.le_of_ble_eq_true rfl, Nat.le_of_ble_eq_true rfl⟩ (Nat.le_of_ble_eq_true rfl) (Nat.le_of_ble_eq_true rfl) (Nat.le_of_ble_eq_true rfl) (pc' := 8) rfl (k_X5_whyNot hE irn irs) (fun q1 h1 e1 => ?_) (fun E hx ex => ?_)
  · obtain ⟨rfl, hcd, rfl⟩ := e1
    have hE1 := hE
    have okr := why_rng (lA L) n s
    refine Y.i2l cx wd ⟨by omega, by omega⟩ dL_whyNot_8 (pc' := 9) rfl ?_
    refine Y.last cx wd dL_whyNot_9 hO (by omega) (by omega) ⟨by omega, by omega⟩ (pc' := 10) rfl ?_
    refine Y.goto cx wd (tgt := 21) dL_whyNot_10 (by decide) ?_
    refine Y.iconst cx wd dL_whyNot_21 (pc' := 22) rfl ?_
    refine Y.iret cx dL_whyNot_22 rfl (Nat.le_of_ble_eq_true rfl) (Nat.le_of_ble_eq_true rfl) ?_
    subst hPR
    exact ⟨0, rfl, (FL.sL EF.rf ho), Or.inl ⟨⟨hcd.1, hcd.2, trivial⟩, rfl, mL_at, ⟨by omega, by omega⟩, hE1⟩⟩
  · obtain ⟨⟨n9, hn9, rfl⟩, hc9⟩ := ex
    have hU := (hE.gN hn9).1
    rcases hc9 with ⟨c1, rfl⟩ | ⟨c1, c2, rfl⟩ | ⟨c1, c2, c3, rfl⟩
    · refine ⟨13, ⟨[], ⟨0, 10, 13, 13⟩, [⟨0, 10, 17, 15⟩], "java/lang/IndexOutOfBoundsException", htab, (fun z hz => absurd hz List.not_mem_nil), by decide, by decide, cx.2.2.2.2.2.2 _ wL_13, va_tabs rfl rfl (wd.2.2.1 _ wC_0), rfl⟩, fun q9 => ?_⟩
      refine Y.astore cx wd (i := 4) (ls' := [some (rf x), some (vi n), some (vi s), some (rf o), some (rf q9)]) (hd := dL_whyNot_13) (by decide) rfl rfl (pc' := 15) rfl ?_
      refine Y.iconst cx wd dL_whyNot_15 (pc' := 16) rfl ?_
      refine Y.iret cx dL_whyNot_16 rfl (Nat.le_of_ble_eq_true rfl) (Nat.le_of_ble_eq_true rfl) ?_
      subst hPR
      exact ⟨1, rfl, FL.gN hn9, Or.inr ⟨Or.inl ⟨c1, rfl⟩, hU⟩⟩
    · refine ⟨17, ⟨[⟨0, 10, 13, 13⟩], ⟨0, 10, 17, 15⟩, [], "java/lang/IllegalArgumentException", htab, (fun z hz => by
          simp only [List.mem_cons, List.not_mem_nil, or_false] at hz
          rcases hz with rfl
          · exact Or.inr ⟨by decide, "java/lang/IndexOutOfBoundsException", cx.2.2.2.2.2.2 _ wL_13, wd.2.2.2.2.2.1 1 0 (by decide) (by decide) (by decide)⟩), by decide, by decide, cx.2.2.2.2.2.2 _ wL_15, va_tabs rfl rfl (wd.2.2.1 _ wC_1), rfl⟩, fun q9 => ?_⟩
      refine Y.astore cx wd (i := 4) (ls' := [some (rf x), some (vi n), some (vi s), some (rf o), some (rf q9)]) (hd := dL_whyNot_17) (by decide) rfl rfl (pc' := 19) rfl ?_
      refine Y.iconst cx wd dL_whyNot_19 (pc' := 20) rfl ?_
      refine Y.iret cx dL_whyNot_20 rfl (Nat.le_of_ble_eq_true rfl) (Nat.le_of_ble_eq_true rfl) ?_
      subst hPR
      exact ⟨2, rfl, FL.gN hn9, Or.inr ⟨Or.inr (Or.inl ⟨c1, c2, rfl⟩), hU⟩⟩
    · exact absurd trivial c3
set_option maxHeartbeats 4000000 in
set_option maxRecDepth 100000 in
theorem k_L_ifSilent {Ω : xO} {h : xM} {x o lo : Nat} {L : lS} {s : Int} (hE : EL h x lo L) (hO : mT h o = some (12, 1)) (ho : x + 35 ≤ o ∧ o < lo) (irs : inR s) : yCt Ω yL_ifSilent cL_ifSilent 4 (some .int) [(0, 9, 12, 13)] rm_L_ifSilent [rf x, vi s, rf o] h (fun q h' => ∃ r, q = some (vi r) ∧ FL h h' x o lo ∧ ((((0 ≤ s ∧ s < 6) ∧ (True) ∧ (True)) ∧ r = 0 ∧ mL h' o 0 = Int64.ofInt (vce (lA L) s (aB (lA L))) ∧ inR (vce (lA L) s (aB (lA L))) ∧ EL h' x lo (L)) ∨ (py3 (0 ≤ s ∧ s < 6) (True) (True) r ∧ EL h' x lo L))) := by
  refine yCt_of (by decide +kernel) (Nat.le_of_ble_eq_true rfl) (fun p e s0 m0 args0 below meth c cx wd htab => ?_)
  generalize hPR : (fun q h' => ∃ r, q = some (vi r) ∧ FL h h' x o lo ∧ ((((0 ≤ s ∧ s < 6) ∧ (True) ∧ (True)) ∧ r = 0 ∧ mL h' o 0 = Int64.ofInt (vce (lA L) s (aB (lA L))) ∧ inR (vce (lA L) s (aB (lA L))) ∧ EL h' x lo (L)) ∨ (py3 (0 ≤ s ∧ s < 6) (True) (True) r ∧ EL h' x lo L)) : Option xV → xM → Prop) = PR
  have K0 : Y Ω rm_L_ifSilent (vx_MQ below (xQ Ω PR) (xX Ω xNo) args0 s0 rm_L_ifSilent.cells rm_L_ifSilent.slots (xA Ω)) p e s0 m0 args0 below meth c 4 0 0 0 [some (rf x), some (vi s), some (rf o), none] [] h := ?_
  exact K0
  obtain ⟨irs1, irs2⟩ := id irs
  refine Y.aload_n cx wd (i := 2) rfl rfl dL_ifSilent_0 (pc' := 1) rfl ?_
  refine Y.iconst cx wd dL_ifSilent_1 (pc' := 2) rfl ?_
  refine Y.aload_n cx wd (i := 0) rfl rfl dL_ifSilent_2 (pc' := 3) rfl ?_
  refine Y.iload_n cx wd (i := 1) rfl rfl dL_ifSilent_3 (pc' := 4) rfl ?_
  refine Y.callVX cx wd (ci := 5) (a := x) (rm := rm_X5_ifSilent) (As := [vi s]) (st := [vi 0, rf o]) dL_ifSilent_4 ck_L_64 rfl (by decide) hE.1.1 rfl rfl ⟨Nat.le_of_ble_eq_true rfl, Nat.le_of_ble_eq_true rfl⟩ (Nat.le_of_ble_eq_true rfl) (Nat.le_of_ble_eq_true rfl) (Nat.le_of_ble_eq_true rfl) (pc' := 7) rfl (k_X5_ifSilent hE irs) (fun q1 h1 e1 => ?_) (fun E hx ex => ?_)
  · obtain ⟨rfl, hcd, rfl⟩ := e1
    have hE1 := hE
    have okA := hE.2.1.1.2.1
    have okN := okA.2.1
    have okr := vce_rng okA s (aB (lA L)) (by omega) (by omega)
    refine Y.i2l cx wd ⟨by omega, by omega⟩ dL_ifSilent_7 (pc' := 8) rfl ?_
    refine Y.last cx wd dL_ifSilent_8 hO (by omega) (by omega) ⟨by omega, by omega⟩ (pc' := 9) rfl ?_
    refine Y.goto cx wd (tgt := 15) dL_ifSilent_9 (by decide) ?_
    refine Y.iconst cx wd dL_ifSilent_15 (pc' := 16) rfl ?_
    refine Y.iret cx dL_ifSilent_16 rfl (Nat.le_of_ble_eq_true rfl) (Nat.le_of_ble_eq_true rfl) ?_
    subst hPR
    exact ⟨0, rfl, (FL.sL EF.rf ho), Or.inl ⟨⟨hcd.1, hcd.2, trivial⟩, rfl, mL_at, ⟨by omega, by omega⟩, hE1⟩⟩
  · obtain ⟨⟨n9, hn9, rfl⟩, hc9⟩ := ex
    have hU := (hE.gN hn9).1
    rcases hc9 with ⟨c1, rfl⟩ | ⟨c1, c2, rfl⟩ | ⟨c1, c2, c3, rfl⟩
    · refine ⟨12, ⟨[], ⟨0, 9, 12, 13⟩, [], "java/lang/IndexOutOfBoundsException", htab, (fun z hz => absurd hz List.not_mem_nil), by decide, by decide, cx.2.2.2.2.2.2 _ wL_13, va_tabs rfl rfl (wd.2.2.1 _ wC_0), rfl⟩, fun q9 => ?_⟩
      refine Y.astore_n cx wd (i := 3) (ls' := [some (rf x), some (vi s), some (rf o), some (rf q9)]) (hi := rfl) (hd := dL_ifSilent_12) (by decide) rfl rfl (pc' := 13) rfl ?_
      refine Y.iconst cx wd dL_ifSilent_13 (pc' := 14) rfl ?_
      refine Y.iret cx dL_ifSilent_14 rfl (Nat.le_of_ble_eq_true rfl) (Nat.le_of_ble_eq_true rfl) ?_
      subst hPR
      exact ⟨1, rfl, FL.gN hn9, Or.inr ⟨Or.inl ⟨c1, rfl⟩, hU⟩⟩
    · exact absurd trivial c2
    · exact absurd trivial c3
set_option maxHeartbeats 4000000 in
set_option maxRecDepth 100000 in
theorem k_L_heardIn {Ω : xO} {h : xM} {x o lo : Nat} {L : lS} {n s : Int} (hE : EL h x lo L) (hO : mT h o = some (12, 1)) (ho : x + 35 ≤ o ∧ o < lo) (irn : inR n) (irs : inR s) : yCt Ω yL_heardIn cL_heardIn 5 (some .int) [(0, 10, 13, 13), (0, 10, 17, 15)] rm_L_heardIn [rf x, vi n, vi s, rf o] h (fun q h' => ∃ r, q = some (vi r) ∧ FL h h' x o lo ∧ ((((0 ≤ s ∧ s < 6) ∧ (0 ≤ n) ∧ (True)) ∧ r = 0 ∧ mL h' o 0 = Int64.ofInt ((if n < aW (lA L) then sil (lA L) n s else -1)) ∧ inR ((if n < aW (lA L) then sil (lA L) n s else -1)) ∧ EL h' x lo (L)) ∨ (py3 (0 ≤ s ∧ s < 6) (0 ≤ n) (True) r ∧ EL h' x lo L))) := by
  refine yCt_of (by decide +kernel) (Nat.le_of_ble_eq_true rfl) (fun p e s0 m0 args0 below meth c cx wd htab => ?_)
  generalize hPR : (fun q h' => ∃ r, q = some (vi r) ∧ FL h h' x o lo ∧ ((((0 ≤ s ∧ s < 6) ∧ (0 ≤ n) ∧ (True)) ∧ r = 0 ∧ mL h' o 0 = Int64.ofInt ((if n < aW (lA L) then sil (lA L) n s else -1)) ∧ inR ((if n < aW (lA L) then sil (lA L) n s else -1)) ∧ EL h' x lo (L)) ∨ (py3 (0 ≤ s ∧ s < 6) (0 ≤ n) (True) r ∧ EL h' x lo L)) : Option xV → xM → Prop) = PR
  have K0 : Y Ω rm_L_heardIn (vx_MQ below (xQ Ω PR) (xX Ω xNo) args0 s0 rm_L_heardIn.cells rm_L_heardIn.slots (xA Ω)) p e s0 m0 args0 below meth c 5 0 0 0 [some (rf x), some (vi n), some (vi s), some (rf o), none] [] h := ?_
  exact K0
  obtain ⟨irn1, irn2⟩ := id irn
  obtain ⟨irs1, irs2⟩ := id irs
  refine Y.aload_n cx wd (i := 3) rfl rfl dL_heardIn_0 (pc' := 1) rfl ?_
  refine Y.iconst cx wd dL_heardIn_1 (pc' := 2) rfl ?_
  refine Y.aload_n cx wd (i := 0) rfl rfl dL_heardIn_2 (pc' := 3) rfl ?_
  refine Y.iload_n cx wd (i := 1) rfl rfl dL_heardIn_3 (pc' := 4) rfl ?_
  refine Y.iload_n cx wd (i := 2) rfl rfl dL_heardIn_4 (pc' := 5) rfl ?_
  refine Y.callVX cx wd (ci := 5) (a := x) (rm := rm_X5_heardIn) (As := [vi n, vi s]) (st := [vi 0, rf o]) dL_heardIn_5 ck_L_67 rfl (by decide) hE.1.1 rfl rfl ⟨Nat.le_of_ble_eq_true rfl, Nat.le_of_ble_eq_true rfl⟩ (Nat.le_of_ble_eq_true rfl) (Nat.le_of_ble_eq_true rfl) (Nat.le_of_ble_eq_true rfl) (pc' := 8) rfl (k_X5_heardIn hE irn irs) (fun q1 h1 e1 => ?_) (fun E hx ex => ?_)
  · obtain ⟨rfl, hcd, rfl⟩ := e1
    have hE1 := hE
    have okr := sil_rng (lA L) n s
    refine Y.i2l cx wd ⟨by omega, by omega⟩ dL_heardIn_8 (pc' := 9) rfl ?_
    refine Y.last cx wd dL_heardIn_9 hO (by omega) (by omega) ⟨by omega, by omega⟩ (pc' := 10) rfl ?_
    refine Y.goto cx wd (tgt := 21) dL_heardIn_10 (by decide) ?_
    refine Y.iconst cx wd dL_heardIn_21 (pc' := 22) rfl ?_
    refine Y.iret cx dL_heardIn_22 rfl (Nat.le_of_ble_eq_true rfl) (Nat.le_of_ble_eq_true rfl) ?_
    subst hPR
    exact ⟨0, rfl, (FL.sL EF.rf ho), Or.inl ⟨⟨hcd.1, hcd.2, trivial⟩, rfl, mL_at, ⟨by omega, by omega⟩, hE1⟩⟩
  · obtain ⟨⟨n9, hn9, rfl⟩, hc9⟩ := ex
    have hU := (hE.gN hn9).1
    rcases hc9 with ⟨c1, rfl⟩ | ⟨c1, c2, rfl⟩ | ⟨c1, c2, c3, rfl⟩
    · refine ⟨13, ⟨[], ⟨0, 10, 13, 13⟩, [⟨0, 10, 17, 15⟩], "java/lang/IndexOutOfBoundsException", htab, (fun z hz => absurd hz List.not_mem_nil), by decide, by decide, cx.2.2.2.2.2.2 _ wL_13, va_tabs rfl rfl (wd.2.2.1 _ wC_0), rfl⟩, fun q9 => ?_⟩
      refine Y.astore cx wd (i := 4) (ls' := [some (rf x), some (vi n), some (vi s), some (rf o), some (rf q9)]) (hd := dL_heardIn_13) (by decide) rfl rfl (pc' := 15) rfl ?_
      refine Y.iconst cx wd dL_heardIn_15 (pc' := 16) rfl ?_
      refine Y.iret cx dL_heardIn_16 rfl (Nat.le_of_ble_eq_true rfl) (Nat.le_of_ble_eq_true rfl) ?_
      subst hPR
      exact ⟨1, rfl, FL.gN hn9, Or.inr ⟨Or.inl ⟨c1, rfl⟩, hU⟩⟩
    · refine ⟨17, ⟨[⟨0, 10, 13, 13⟩], ⟨0, 10, 17, 15⟩, [], "java/lang/IllegalArgumentException", htab, (fun z hz => by
          simp only [List.mem_cons, List.not_mem_nil, or_false] at hz
          rcases hz with rfl
          · exact Or.inr ⟨by decide, "java/lang/IndexOutOfBoundsException", cx.2.2.2.2.2.2 _ wL_13, wd.2.2.2.2.2.1 1 0 (by decide) (by decide) (by decide)⟩), by decide, by decide, cx.2.2.2.2.2.2 _ wL_15, va_tabs rfl rfl (wd.2.2.1 _ wC_1), rfl⟩, fun q9 => ?_⟩
      refine Y.astore cx wd (i := 4) (ls' := [some (rf x), some (vi n), some (vi s), some (rf o), some (rf q9)]) (hd := dL_heardIn_17) (by decide) rfl rfl (pc' := 19) rfl ?_
      refine Y.iconst cx wd dL_heardIn_19 (pc' := 20) rfl ?_
      refine Y.iret cx dL_heardIn_20 rfl (Nat.le_of_ble_eq_true rfl) (Nat.le_of_ble_eq_true rfl) ?_
      subst hPR
      exact ⟨2, rfl, FL.gN hn9, Or.inr ⟨Or.inr (Or.inl ⟨c1, c2, rfl⟩), hU⟩⟩
    · exact absurd trivial c3
