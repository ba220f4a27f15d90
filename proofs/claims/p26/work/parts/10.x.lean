/-! ===== X: values, memory, the world ===== -/
abbrev xV : Type := Int ⊕ (Int64 ⊕ (UInt64 ⊕ Option Nat))
abbrev vi (x : Int) : xV := Sum.inl x
abbrev vl (x : Int64) : xV := Sum.inr (Sum.inl x)
abbrev vd (x : UInt64) : xV := Sum.inr (Sum.inr (Sum.inl x))
abbrev vr (r : Option Nat) : xV := Sum.inr (Sum.inr (Sum.inr r))
abbrev rf (a : Nat) : xV := vr (some a)
def xc : xV → Value
  | .inl x => .int (Int32.ofInt x)
  | .inr (.inl x) => .long x
  | .inr (.inr (.inl x)) => .double x
  | .inr (.inr (.inr r)) => va_rf r
def xcat : xV → Nat
  | .inl _ => 1
  | .inr (.inl _) => 2
  | .inr (.inr (.inl _)) => 2
  | .inr (.inr (.inr _)) => 1
theorem xc_cat (v : xV) : (xc v).category = xcat v := by
  rcases v with x | x | x | _ | x <;> rfl
/-- the memory: the next address, kinds and lengths, ints, references, longs -/
abbrev xM : Type := Nat × (Nat → Option (Nat × Nat)) × (Nat → Int → Int) × (Nat → Int → Option Nat) × (Nat → Int → Int64)
def mN (h : xM) : Nat := h.1
def mT (h : xM) : Nat → Option (Nat × Nat) := h.2.1
def mI (h : xM) : Nat → Int → Int := h.2.2.1
def mR (h : xM) : Nat → Int → Option Nat := h.2.2.2.1
def mL (h : xM) : Nat → Int → Int64 := h.2.2.2.2
def sI (h : xM) (a : Nat) (k x : Int) : xM := (h.1, h.2.1, (fun b j => if b = a ∧ j = k then x else h.2.2.1 b j), h.2.2.2.1, h.2.2.2.2)
def sR (h : xM) (a : Nat) (k : Int) (x : Option Nat) : xM := (h.1, h.2.1, h.2.2.1, (fun b j => if b = a ∧ j = k then x else h.2.2.2.1 b j), h.2.2.2.2)
def sL (h : xM) (a : Nat) (k : Int) (x : Int64) : xM := (h.1, h.2.1, h.2.2.1, h.2.2.2.1, (fun b j => if b = a ∧ j = k then x else h.2.2.2.2 b j))
/-- a run of ints copied -/
def cI (h : xM) (src : Nat) (sp : Int) (dst : Nat) (dp n : Int) : xM := (h.1, h.2.1, (fun b j => if b = dst ∧ dp ≤ j ∧ j < dp + n then h.2.2.1 src (sp + (j - dp)) else h.2.2.1 b j), h.2.2.2.1, h.2.2.2.2)
/-- a new cell, all zero -/
def aL (h : xM) (t n : Nat) : xM := (h.1 + 1, (fun b => if b = h.1 then some (t, n) else h.2.1 b), (fun b j => if b = h.1 then 0 else h.2.2.1 b j), (fun b j => if b = h.1 then none else h.2.2.2.1 b j), (fun b j => if b = h.1 then 0 else h.2.2.2.2 b j))
/-- a new row of rows: the outer one, then k inner ones -/
def aM (h : xM) (k n : Nat) : xM := (h.1 + 1 + k, (fun b => if b = h.1 then some (13, k) else if h.1 < b ∧ b < h.1 + 1 + k then some (10, n) else h.2.1 b), (fun b j => if h.1 ≤ b ∧ b < h.1 + 1 + k then 0 else h.2.2.1 b j),
  (fun b j => if b = h.1 then (if 0 ≤ j ∧ j < k then some (h.1 + 1 + j.toNat) else none) else if h.1 < b ∧ b < h.1 + 1 + k then none else h.2.2.2.1 b j), (fun b j => if h.1 ≤ b ∧ b < h.1 + 1 + k then 0 else h.2.2.2.2 b j))
/-- the same memory, with room taken behind it -/
def gN (h : xM) (n : Nat) : xM := (n, h.2)
def inR (x : Int) : Prop := -2147483648 ≤ x ∧ x < 2147483648
theorem inR_ofInt {x : Int} (h : inR x) : (Int32.ofInt x).toInt = x := Int32.toInt_ofInt_of_le h.1 h.2
theorem x_lt {x y : Int} (hx : inR x) (hy : inR y) : (Int32.ofInt x < Int32.ofInt y) ↔ x < y := by
  rw [Int32.lt_iff_toInt_lt, inR_ofInt hx, inR_ofInt hy]
theorem x_le {x y : Int} (hx : inR x) (hy : inR y) : (Int32.ofInt x ≤ Int32.ofInt y) ↔ x ≤ y := by
  rw [Int32.le_iff_toInt_le, inR_ofInt hx, inR_ofInt hy]
theorem x_eq {x y : Int} (hx : inR x) (hy : inR y) : (Int32.ofInt x = Int32.ofInt y) ↔ x = y := by
  rw [← Int32.toInt_inj, inR_ofInt hx, inR_ofInt hy]
theorem inR_0 : inR 0 := by unfold inR; omega
theorem x_nat {x : Int} (hx : inR x) : (Int32.ofInt x).toNatClampNeg = x.toNat := by
  show (Int32.ofInt x).toInt.toNat = x.toNat
  rw [inR_ofInt hx]
theorem x_in {x : Int} {n : Nat} (hx : inR x) (h0 : 0 ≤ x) (h1 : x < n) : vp_in (Int32.ofInt x) n := by
  unfold vp_in
  rw [x_nat hx]
  rintro (h | h)
  · have : Int32.ofInt x < Int32.ofInt 0 := h
    rw [x_lt hx inR_0] at this
    omega
  · omega
/-- the kinds of the fields: 0 int, 1 long, 2 reference, 3 boolean -/
def xft : Nat → Nat → Nat := fun c k => match c with
  | 0 => if k < 2 then 0 else 2
  | 1 => 1
  | 2 => if k = 0 then 0 else 2
  | 3 => 2
  | 4 => if k = 0 then 0 else 2
  | 5 => 2
  | _ => if k = 0 ∨ k = 4 ∨ k = 12 then 2 else if k = 2 ∨ k = 7 then 3 else 0
def xfv (h : xM) (a c k : Nat) : Value := if xft c k = 1 then .long (mL h a k) else if xft c k = 2 then va_rf (mR h a k) else .int (Int32.ofInt (mI h a k))
/-- the launch, the classes' numbers and slots, the arrays' classes, the heap at the law's entry -/
abbrev xO : Type := Launch × va_G × (Nat → ClassId) × Heap × (Nat × Nat)
def xE (cA : Nat → ClassId) (h : xM) (a t n : Nat) : va_E :=
  if t = 10 then .inl (cA 0, n, .inl (fun j => Int32.ofInt (mI h a j)))
  else if t = 11 then .inl (cA 1, n, .inl (fun j => Int32.ofInt (mI h a j)))
  else if t = 12 then .inl (cA 2, n, .inr (.inl (fun j => mL h a j)))
  else if t = 13 then .inl (cA 3, n, .inr (.inr (.inr (.inr (fun j => mR h a j)))))
  else if t = 14 then .inl (cA 4, n, .inr (.inr (.inr (.inr (fun j => mR h a j)))))
  else .inr (t, (List.range n).map (xfv h a t))
def xA (Ω : xO) : Nat → Prop := fun q => Ω.2.2.2.1.size ≤ q
def xRel (Ω : xO) (h : xM) (H : Heap) : Prop := H.size = mN h ∧ (∀ a k, inR (mI h a k)) ∧ ∀ a t n, mT h a = some (t, n) → xA Ω a ∧ va_at Ω.2.1 vwCl (a, xE Ω.2.2.1 h a t n) H
theorem xRel.lt {Ω : xO} {h : xM} {H : Heap} (r : xRel Ω h H) {a t n : Nat} (ha : mT h a = some (t, n)) : a < mN h := by
  rw [← r.1]
  exact (r.2.2 a t n ha).2.lt
def WG : List Cond := lw_tbl.filter goodWord
def xnw : Cond → Bool
  | .methodLinkNest .. => true
  | w => w.faceAtom && w.onTables
def WN : List Cond := lw_tbl.filter xnw
theorem xWG {w : Cond} (h : w ∈ lw_tbl) (g : goodWord w = true) : w ∈ WG := List.mem_filter.mpr ⟨h, g⟩
theorem xWN {w : Cond} (h : w ∈ lw_tbl) (g : xnw w = true) : w ∈ WN := List.mem_filter.mpr ⟨h, g⟩
theorem xWG_good : ∀ w ∈ WG, goodWord w = true := fun _ h => (List.mem_filter.mp h).2
theorem xnw_warm {w : Cond} (g : xnw w = true) {s U : State} (hW : s.WarmedH U.vm) (hZ : va_Nw w s) : va_Nw w U := by
  cases w with
  | methodLinkNest a i x h => exact va_Nw.warmM hW hZ
  | _ =>
    simp only [xnw, Bool.and_eq_true] at g
    exact va_tabs g.2 (rfl : (s.setVm U.vm).vm = U.vm) (Cond.faceAtom_setVm hW.alike _ g.1 hZ)
def va_AOI (U : State) : Prop := (Cond.arrayOver (.array .int)).before #[] U = true
theorem va_AOI.moved {u U : State} (hvm : u.vm.Alike U.vm) (h : va_AOI u) : va_AOI U := by
  have h2 : (Cond.arrayOver (.array .int)).before #[] (u.setVm U.vm) = true := by
    rw [Cond.arrayOver_setVmC hvm]
    exact h
  exact h2
/-- the texts that exceptions carry -/
def xTx : List (Nat × String) := [(221, "no such seat"), (225, "out of range, or not a complete dialogue"), (57, "no more words, or no more beats"), (73, "the beat would be above the last one"), (88, "no such setting"), (126, "no saved state"), (140, "no snapshot")]
def xEN : List String := ["java/lang/IndexOutOfBoundsException", "java/lang/IllegalArgumentException", "java/lang/IllegalStateException"]
def xty (cA : Nat → ClassId) : List (ClassId × FieldType) := [(cA 0, .int), (cA 1, .char), (cA 2, .int), (cA 3, .array .int), (cA 4, .object RX0)]
/-- the names of the arrays' classes -/
def xan (U : State) (cA : Nat → ClassId) : Prop := U.vm.findClass ("[" ++ (FieldType.array .int).toString) = some (cA 3) ∧ U.vm.findClass (FieldType.array .int).toString = some (cA 0) ∧ U.vm.findClass ("[" ++ (FieldType.object RX0).toString) = some (cA 4)
def xsv (k : Nat) (j : Nat) : Value := if k = 0 then (if j = 2 then .int 1 else .int 0) else (if j = 0 then .int 5 else if j = 1 then .int 4 else .int 50)
/-- what holds of the tables and of the cells that nobody writes, at any state of the run -/
def xWd (Ω : xO) (U : State) : Prop :=
  va_K Ω.2.1 vwCl (xty Ω.2.2.1) U ∧ xan U Ω.2.2.1 ∧ (∀ w ∈ WN, va_Nw w U) ∧ (∀ q ∈ xTx, ∃ a, vk_R RX5 q.1 q.2 a U) ∧ (va_AO RX0 U ∧ va_AOI U) ∧
  (∀ i j : Nat, i < 3 → j < 3 → i ≠ j → va_Nc (xEN.getD i "") (xEN.getD j "") U) ∧
  (Ω.2.2.2.1.size ≤ U.heap.size ∧ ∀ q : Nat, q < Ω.2.2.2.1.size → U.heap[q]? = Ω.2.2.2.1[q]?) ∧
  (vx_Zq Bundle.tN "UNASSIGNED_STACK" Bundle.steD (xA Ω) U U.heap ∧ vx_Zq Bundle.tN "SUPPRESSED_SENTINEL" Bundle.listD (xA Ω) U U.heap) ∧
  (va_Z RX5 "LOWEST_VALUE" "[I" (.ref Ω.2.2.2.2.1) (xA Ω) U U.heap ∧ va_T .int Ω.2.2.2.2.1 3 (xsv 0) (xA Ω) U U.heap) ∧
  (va_Z RX5 "HIGHEST_VALUE" "[I" (.ref Ω.2.2.2.2.2) (xA Ω) U U.heap ∧ va_T .int Ω.2.2.2.2.2 3 (xsv 1) (xA Ω) U U.heap) ∧ Ω.1.stackTraces = false
theorem xan.moved {u U : State} {cA : Nat → ClassId} (hvm : u.vm.Alike U.vm) (h : xan u cA) : xan U cA := by
  unfold xan at h ⊢
  rw [hvm.findClass, hvm.findClass, hvm.findClass]
  exact h
/-- it goes on: tables that are warmer, a heap where what was there ahead of the world stands -/
theorem xWd.on {Ω : xO} {s U : State} (w : xWd Ω s) (hW : s.WarmedH U.vm) (hz : s.heap.size ≤ U.heap.size) (hk : ∀ q : Nat, q < s.heap.size → ¬ xA Ω q → U.heap[q]? = s.heap[q]?) : xWd Ω U := by
  obtain ⟨a1, a1b, a2, a3, ⟨a4, a4b⟩, a5, ⟨a6, a7⟩, ⟨a8, a9⟩, ⟨b1, b2⟩, ⟨b3, b4⟩, b5⟩ := w
  have hv := hW.alike
  refine ⟨va_K.moved hv a1, a1b.moved hv, fun w hw => xnw_warm (List.mem_filter.mp hw).2 hW (a2 w hw), fun q hq => ?_, ⟨a4.moved hv, a4b.moved hv⟩, fun i j h1 h2 h3 => (a5 i j h1 h2 h3).moved hv, ⟨Nat.le_trans a6 hz, fun q hq => ?_⟩, ⟨?_, ?_⟩, ⟨?_, ?_⟩, ⟨?_, ?_⟩, b5⟩
  · obtain ⟨a, ha⟩ := a3 q hq
    exact ⟨a, vk_R.warm hW ha⟩
  · rw [hk q (Nat.lt_of_lt_of_le hq a6) (fun h => by unfold xA at h; omega)]
    exact a7 q hq
  · exact vx_Zq.moved hv (a8.kept hk)
  · exact vx_Zq.moved hv (a9.kept hk)
  · exact va_Z.moved hv (b1.kept hk)
  · exact va_T.moved hv (b2.kept hk)
  · exact va_Z.moved hv (b3.kept hk)
  · exact va_T.moved hv (b4.kept hk)
/-! locals -/
def xLo (lr : Array Slot) (nL : Nat) (ls : List (Option xV)) : Prop := lr.size = nL ∧ lv_wf lr ∧ ∀ (k : Nat) (v : xV), ls[k]? = some (some v) → lr[k]? = some (.val (xc v))
def xL (ls : List (Option xV)) : List (Nat × Value) := (List.range ls.length).filterMap (fun k => match ls[k]? with
  | some (some v) => some (k, xc v)
  | _ => none)
theorem xL_mem {ls : List (Option xV)} {q : Nat × Value} : q ∈ xL ls ↔ ∃ v, ls[q.1]? = some (some v) ∧ q.2 = xc v := by
  unfold xL
  rw [List.mem_filterMap]
  constructor
  · rintro ⟨k, hk, h⟩
    split at h
    · rename_i v hv
      cases h
      exact ⟨v, hv, rfl⟩
    · cases h
  · rintro ⟨v, hv, h2⟩
    refine ⟨q.1, List.mem_range.mpr (List.getElem?_eq_some_iff.mp hv).1, ?_⟩
    rw [hv]
    show some (q.1, xc v) = some q
    rw [← h2]
theorem xLo_mem {ls : List (Option xV)} {i : Nat} {v : xV} (h : ls[i]? = some (some v)) : (i, xc v) ∈ xL ls := xL_mem.mpr ⟨v, h, rfl⟩
theorem xLo_has {lr : Array Slot} {nL : Nat} {ls : List (Option xV)} (h : xLo lr nL ls) : lv_has lr nL (xL ls) := ⟨h.1, h.2.1, fun q hq => by
  obtain ⟨v, hv, e⟩ := xL_mem.mp hq
  rw [e]
  exact h.2.2 q.1 v hv⟩
def xput (ls : List (Option xV)) (i : Nat) (v : xV) : List (Option xV) := ls.set i (some v)
def xput2 (ls : List (Option xV)) (i : Nat) (v : xV) : List (Option xV) := (ls.set i (some v)).set (i + 1) none
def xfree (ls : List (Option xV)) (i : Nat) : Bool := match i with
  | 0 => true
  | j + 1 => match ls[j]? with
    | some (some w) => xcat w == 1
    | _ => true
theorem xfree_no {ls : List (Option xV)} {i : Nat} (h : xfree ls i = true) {k : Nat} {v : xV} (hk : ls[k]? = some (some v)) : ¬ (k + 1 = i ∧ (xc v).category = 2) := by
  rintro ⟨e, h2⟩
  subst e
  unfold xfree at h
  simp only [hk] at h
  rw [xc_cat] at h2
  rw [h2] at h
  cases h
theorem xLo_put {lr lr2 : Array Slot} {nL : Nat} {ls : List (Option xV)} {i : Nat} {v : xV} (hl : xLo lr nL ls) (hf : xfree ls i = true) (h2 : lv_has lr2 nL ((i, xc v) :: (xL ls).filter (fun q => !(q.1 == i) && !(q.1 + 1 == i && q.2.category == 2)))) : xLo lr2 nL (xput ls i v) := by
  refine ⟨h2.1, h2.2.1, fun k w hk => ?_⟩
  unfold xput at hk
  by_cases hki : k = i
  · subst hki
    rw [List.getElem?_set] at hk
    by_cases hlt : k < ls.length
    · simp only [hlt, if_true] at hk
      cases hk
      exact h2.2.2 (k, xc v) List.mem_cons_self
    · simp [hlt] at hk
  · rw [List.getElem?_set_ne (fun e => hki e.symm)] at hk
    refine h2.2.2 (k, xc w) (List.mem_cons_of_mem _ (List.mem_filter.mpr ⟨xLo_mem hk, ?_⟩))
    have := xfree_no hf hk
    simp only [Bool.and_eq_true, Bool.not_eq_true', beq_eq_false_iff_ne, ne_eq, Bool.and_eq_false_iff]
    refine ⟨hki, ?_⟩
    by_cases e : k + 1 = i
    · exact Or.inr (fun h => this ⟨e, h⟩)
    · exact Or.inl e
theorem xLo_put2 {lr lr2 : Array Slot} {nL : Nat} {ls : List (Option xV)} {i : Nat} {v : xV} (hl : xLo lr nL ls) (hf : xfree ls i = true) (h2 : lv_has lr2 nL ((i, xc v) :: (xL ls).filter (fun q => !(q.1 == i) && (!(q.1 == i + 1) && !(q.1 + 1 == i && q.2.category == 2))))) : xLo lr2 nL (xput2 ls i v) := by
  refine ⟨h2.1, h2.2.1, fun k w hk => ?_⟩
  unfold xput2 at hk
  by_cases hk1 : k = i + 1
  · subst hk1
    rw [List.getElem?_set] at hk
    split at hk
    · split at hk <;> cases hk
    · exact absurd rfl (by assumption)
  rw [List.getElem?_set_ne (fun e => hk1 e.symm)] at hk
  by_cases hki : k = i
  · subst hki
    rw [List.getElem?_set] at hk
    by_cases hlt : k < ls.length
    · simp only [hlt, if_true] at hk
      cases hk
      exact h2.2.2 (k, xc v) List.mem_cons_self
    · simp [hlt] at hk
  · rw [List.getElem?_set_ne (fun e => hki e.symm)] at hk
    refine h2.2.2 (k, xc w) (List.mem_cons_of_mem _ (List.mem_filter.mpr ⟨xLo_mem hk, ?_⟩))
    have := xfree_no hf hk
    simp only [Bool.and_eq_true, Bool.not_eq_true', beq_eq_false_iff_ne, ne_eq, Bool.and_eq_false_iff]
    refine ⟨hki, hk1, ?_⟩
    by_cases e : k + 1 = i
    · exact Or.inr (fun h => this ⟨e, h⟩)
    · exact Or.inl e
/-! the predicate -/
def xCx (own : String) (cc : ByteArray) (nL : Nat) (ret : Option FieldType) (ini : Bool) (p : Program) (s : State) (m : MethodId) (args : Array Value) (meth : Method) (c : Code) : Prop :=
  p.tables.exec = Jvm.exec ∧ c.code = cc ∧ meth.sig.returnType = ret ∧ c.maxLocals = nL ∧ s.vm.findClass own = some m.cls ∧ meth.locks = false ∧ (∀ w ∈ WG, w.before args s = true) ∧ (ini = true → meth.name = "<init>") ∧ (∀ x ∈ c.exceptionTable.toList, False)
/-- what a method has done when it is back; where it has thrown -/
def xQ (Ω : xO) (PR : Option xV → xM → Prop) : Array Value → State → Outcome → State → Prop := fun _ st o t => ∃ (r : Option xV) (h' : xM), o = .returned (r.map xc) ∧ xRel Ω h' t.heap ∧ va_F (xA Ω) st t ∧ PR r h'
def xX (Ω : xO) (PX : String → xM → Prop) : String → State → State → Prop := fun E st t => ∃ h' : xM, xRel Ω h' t.heap ∧ va_F (xA Ω) st t ∧ PX E h'
/-- at pc with these locals, this stack and this memory: the method comes to its end, with PR of what it returns and of the memory then, or with PX of what it throws -/
def X (Ω : xO) (own : String) (cc : ByteArray) (nL : Nat) (ret : Option FieldType) (ini : Bool) (R : Room) (PR : Option xV → xM → Prop) (PX : String → xM → Prop) (kc ks pc : Nat) (ls : List (Option xV)) (st : List xV) (h : xM) : Prop :=
  ∀ (p : Program) (e : Env) (s : State) (m : MethodId) (args : Array Value) (below : List Frame) (meth : Method) (c : Code) (H : Heap) (locs : List Loc) (lr : Array Slot),
    xCx own cc nL ret ini p s m args meth c → xWd Ω s → va_S (xA Ω) s.heap H locs → xRel Ω h H → xLo lr nL ls →
    W p Ω.1 e R s m args below meth c H locs kc ks (vx_MQ below (xQ Ω PR) (xX Ω PX) args s R.cells R.slots (xA Ω)) (F0 m pc lr (st.map xc))
theorem x_div {x y : Int} (hx : inR x) (h0 : 0 ≤ x) (hy : inR y) (h1 : 0 < y) : Int32.ofInt x / Int32.ofInt y = Int32.ofInt (x / y) := by
  rw [← Int32.toInt_inj, Int32.toInt_div, inR_ofInt hx, inR_ofInt hy, Int32.toInt_ofInt]
  rw [Int.tdiv_eq_ediv_of_nonneg h0]
theorem x_rem {x y : Int} (hx : inR x) (h0 : 0 ≤ x) (hy : inR y) (h1 : 0 < y) : Int32.ofInt x - Int32.ofInt x / Int32.ofInt y * Int32.ofInt y = Int32.ofInt (x % y) := by
  rw [x_div hx h0 hy h1, ← Int32.ofInt_mul, ← Int32.ofInt_sub]
  congr 1
  have := Int.mul_ediv_add_emod x y
  rw [Int.mul_comm] at this
  omega
theorem x_i2c {x : Int} (h0 : 0 ≤ x) (h1 : x < 65536) : ((Int32.ofInt x).toUInt32 % 65536).toInt32 = Int32.ofInt x := by
  have hr : inR x := ⟨by omega, by omega⟩
  exact lg_i2c_word (by rw [inR_ofInt hr]; exact h0) (by rw [inR_ofInt hr]; exact h1)
theorem x_i2l {x : Int} (h : inR x) : (Int32.ofInt x).toInt64 = Int64.ofInt x := by
  rw [← Int64.toInt_inj, Int32.toInt_toInt64, inR_ofInt h, Int64.toInt_ofInt_of_le (by have := h.1; omega) (by have := h.2; omega)]
theorem x_lcmp (x y : Int64) : ∃ z, lg_cmp x y = Int32.ofInt z ∧ inR z ∧ (x = y → z = 0) ∧ (¬ x = y → z ≠ 0) := by
  unfold lg_cmp
  by_cases h2 : x > y
  · refine ⟨1, by rw [if_pos h2]; rfl, by unfold inR; omega, fun e => ?_, fun _ => by omega⟩
    rw [e] at h2
    exact absurd h2 (lg_lt_not h2)
  · by_cases h1 : x = y
    · exact ⟨0, by rw [if_neg h2, if_pos h1]; rfl, inR_0, fun _ => rfl, fun e => absurd h1 e⟩
    · exact ⟨-1, by rw [if_neg h2, if_neg h1]; rfl, by unfold inR; omega, fun e => absurd e h1, fun _ => by omega⟩
section XR
variable {Ω : xO} {own : String} {cc : ByteArray} {nL : Nat} {ret : Option FieldType} {ini : Bool} {R : Room} {PR : Option xV → xM → Prop} {PX : String → xM → Prop} {kc ks pc pc' : Nat} {ls : List (Option xV)} {st : List xV} {h : xM}

theorem X.iconst {n : Int} (hd : decode cc pc = .ok (.iconst n, 1)) (hp : pc + 1 = pc') (k : X Ω own cc nL ret ini R PR PX kc ks pc' ls (vi n :: st) h) : X Ω own cc nL ret ini R PR PX kc ks pc ls st h := by
  intro p e s m args below meth c H locs lr cx wd hS r hl
  obtain ⟨hx, hb, hr, hml, hown, hlocks, hts, hin, hexc⟩ := id cx
  subst hp
  exact lv_iconst hx hb hd rfl (k p e s m args below meth c H locs lr cx wd hS r hl)

theorem X.bipush {n : Int} (hn : (Int8.ofInt n).toInt32 = Int32.ofInt n) (hd : decode cc pc = .ok (.bipush n, 2)) (hp : pc + 2 = pc') (k : X Ω own cc nL ret ini R PR PX kc ks pc' ls (vi n :: st) h) : X Ω own cc nL ret ini R PR PX kc ks pc ls st h := by
  intro p e s m args below meth c H locs lr cx wd hS r hl
  obtain ⟨hx, hb, hr, hml, hown, hlocks, hts, hin, hexc⟩ := id cx
  subst hp
  exact lv_bipush hx hb hd hn (k p e s m args below meth c H locs lr cx wd hS r hl)

theorem X.sipush {n : Int} (hn : (Int16.ofInt n).toInt32 = Int32.ofInt n) (hd : decode cc pc = .ok (.sipush n, 3)) (hp : pc + 3 = pc') (k : X Ω own cc nL ret ini R PR PX kc ks pc' ls (vi n :: st) h) : X Ω own cc nL ret ini R PR PX kc ks pc ls st h := by
  intro p e s m args below meth c H locs lr cx wd hS r hl
  obtain ⟨hx, hb, hr, hml, hown, hlocks, hts, hin, hexc⟩ := id cx
  subst hp
  exact lv_sipush hx hb hd hn (k p e s m args below meth c H locs lr cx wd hS r hl)

theorem X.iload_n {i : Nat} {q4 : Fin 4} (hi : (q4 : Nat) = i) {x : Int} (hv : ls[i]? = some (some (vi x))) (hd : decode cc pc = .ok (.iload_n q4, 1)) (hp : pc + 1 = pc') (k : X Ω own cc nL ret ini R PR PX kc ks pc' ls (vi x :: st) h) : X Ω own cc nL ret ini R PR PX kc ks pc ls st h := by
  intro p e s m args below meth c H locs lr cx wd hS r hl
  obtain ⟨hx, hb, hr, hml, hown, hlocks, hts, hin, hexc⟩ := id cx
  subst hp
  exact lv_iload_n hx hb hd hi (hl.2.2 i _ hv) (k p e s m args below meth c H locs lr cx wd hS r hl)

theorem X.iload {i : Nat} {x : Int} (hv : ls[i]? = some (some (vi x))) (hd : decode cc pc = .ok (.iload i, 2)) (hp : pc + 2 = pc') (k : X Ω own cc nL ret ini R PR PX kc ks pc' ls (vi x :: st) h) : X Ω own cc nL ret ini R PR PX kc ks pc ls st h := by
  intro p e s m args below meth c H locs lr cx wd hS r hl
  obtain ⟨hx, hb, hr, hml, hown, hlocks, hts, hin, hexc⟩ := id cx
  subst hp
  exact lv_iload hx hb hd (hl.2.2 i _ hv) (k p e s m args below meth c H locs lr cx wd hS r hl)

theorem X.lload_n {i : Nat} {q4 : Fin 4} (hi : (q4 : Nat) = i) {x : Int64} (hv : ls[i]? = some (some (vl x))) (hd : decode cc pc = .ok (.lload_n q4, 1)) (hp : pc + 1 = pc') (k : X Ω own cc nL ret ini R PR PX kc ks pc' ls (vl x :: st) h) : X Ω own cc nL ret ini R PR PX kc ks pc ls st h := by
  intro p e s m args below meth c H locs lr cx wd hS r hl
  obtain ⟨hx, hb, hr, hml, hown, hlocks, hts, hin, hexc⟩ := id cx
  subst hp
  exact lv_lload_n hx hb hd hi (hl.2.2 i _ hv) (k p e s m args below meth c H locs lr cx wd hS r hl)

theorem X.lload {i : Nat} {x : Int64} (hv : ls[i]? = some (some (vl x))) (hd : decode cc pc = .ok (.lload i, 2)) (hp : pc + 2 = pc') (k : X Ω own cc nL ret ini R PR PX kc ks pc' ls (vl x :: st) h) : X Ω own cc nL ret ini R PR PX kc ks pc ls st h := by
  intro p e s m args below meth c H locs lr cx wd hS r hl
  obtain ⟨hx, hb, hr, hml, hown, hlocks, hts, hin, hexc⟩ := id cx
  subst hp
  exact lv_lload hx hb hd (hl.2.2 i _ hv) (k p e s m args below meth c H locs lr cx wd hS r hl)

theorem X.dload_n {i : Nat} {q4 : Fin 4} (hi : (q4 : Nat) = i) {x : UInt64} (hv : ls[i]? = some (some (vd x))) (hd : decode cc pc = .ok (.dload_n q4, 1)) (hp : pc + 1 = pc') (k : X Ω own cc nL ret ini R PR PX kc ks pc' ls (vd x :: st) h) : X Ω own cc nL ret ini R PR PX kc ks pc ls st h := by
  intro p e s m args below meth c H locs lr cx wd hS r hl
  obtain ⟨hx, hb, hr, hml, hown, hlocks, hts, hin, hexc⟩ := id cx
  subst hp
  exact lv_dload_n hx hb hd hi (hl.2.2 i _ hv) (k p e s m args below meth c H locs lr cx wd hS r hl)

theorem X.dload {i : Nat} {x : UInt64} (hv : ls[i]? = some (some (vd x))) (hd : decode cc pc = .ok (.dload i, 2)) (hp : pc + 2 = pc') (k : X Ω own cc nL ret ini R PR PX kc ks pc' ls (vd x :: st) h) : X Ω own cc nL ret ini R PR PX kc ks pc ls st h := by
  intro p e s m args below meth c H locs lr cx wd hS r hl
  obtain ⟨hx, hb, hr, hml, hown, hlocks, hts, hin, hexc⟩ := id cx
  subst hp
  exact lv_dload hx hb hd (hl.2.2 i _ hv) (k p e s m args below meth c H locs lr cx wd hS r hl)

theorem X.aload_n {i : Nat} {q4 : Fin 4} (hi : (q4 : Nat) = i) {x : Option Nat} (hv : ls[i]? = some (some (vr x))) (hd : decode cc pc = .ok (.aload_n q4, 1)) (hp : pc + 1 = pc') (k : X Ω own cc nL ret ini R PR PX kc ks pc' ls (vr x :: st) h) : X Ω own cc nL ret ini R PR PX kc ks pc ls st h := by
  intro p e s m args below meth c H locs lr cx wd hS r hl
  obtain ⟨hx, hb, hr, hml, hown, hlocks, hts, hin, hexc⟩ := id cx
  subst hp
  cases x with
  | none => exact lv_aload_nN hx hb hd hi (hl.2.2 i _ hv) (k p e s m args below meth c H locs lr cx wd hS r hl)
  | some x => exact lv_aload_n hx hb hd hi (hl.2.2 i _ hv) (k p e s m args below meth c H locs lr cx wd hS r hl)

theorem X.aload {i : Nat} {x : Option Nat} (hv : ls[i]? = some (some (vr x))) (hd : decode cc pc = .ok (.aload i, 2)) (hp : pc + 2 = pc') (k : X Ω own cc nL ret ini R PR PX kc ks pc' ls (vr x :: st) h) : X Ω own cc nL ret ini R PR PX kc ks pc ls st h := by
  intro p e s m args below meth c H locs lr cx wd hS r hl
  obtain ⟨hx, hb, hr, hml, hown, hlocks, hts, hin, hexc⟩ := id cx
  subst hp
  cases x with
  | none => exact lv_aloadN hx hb hd (hl.2.2 i _ hv) (k p e s m args below meth c H locs lr cx wd hS r hl)
  | some x => exact lv_aload hx hb hd (hl.2.2 i _ hv) (k p e s m args below meth c H locs lr cx wd hS r hl)

theorem X.anull  (hd : decode cc pc = .ok (.aconst_null, 1)) (hp : pc + 1 = pc') (k : X Ω own cc nL ret ini R PR PX kc ks pc' ls (vr none :: st) h) : X Ω own cc nL ret ini R PR PX kc ks pc ls st h := by
  intro p e s m args below meth c H locs lr cx wd hS r hl
  obtain ⟨hx, hb, hr, hml, hown, hlocks, hts, hin, hexc⟩ := id cx
  subst hp
  exact lv_null hx hb hd (k p e s m args below meth c H locs lr cx wd hS r hl)

theorem X.istore_n {i : Nat} {q4 : Fin 4} (hi : (q4 : Nat) = i) {x : Int} {ls' : List (Option xV)} (hd : decode cc pc = .ok (.istore_n q4, 1)) (hn : i < nL) (hf : xfree ls i = true) (hs : xput ls i (vi x) = ls') (hp : pc + 1 = pc') (k : X Ω own cc nL ret ini R PR PX kc ks pc' ls' st h) : X Ω own cc nL ret ini R PR PX kc ks pc ls (vi x :: st) h := by
  intro p e s m args below meth c H locs lr cx wd hS r hl
  obtain ⟨hx, hb, hr, hml, hown, hlocks, hts, hin, hexc⟩ := id cx
  subst hp
  subst hs
  exact lv_istore_n hx hb hd hi (xLo_has hl) hn rfl (fun lr2 h2 => k p e s m args below meth c H locs lr2 cx wd hS r (xLo_put hl hf h2))

theorem X.istore {i : Nat} {x : Int} {ls' : List (Option xV)} (hd : decode cc pc = .ok (.istore i, 2)) (hn : i < nL) (hf : xfree ls i = true) (hs : xput ls i (vi x) = ls') (hp : pc + 2 = pc') (k : X Ω own cc nL ret ini R PR PX kc ks pc' ls' st h) : X Ω own cc nL ret ini R PR PX kc ks pc ls (vi x :: st) h := by
  intro p e s m args below meth c H locs lr cx wd hS r hl
  obtain ⟨hx, hb, hr, hml, hown, hlocks, hts, hin, hexc⟩ := id cx
  subst hp
  subst hs
  exact lv_istore hx hb hd (xLo_has hl) hn rfl (fun lr2 h2 => k p e s m args below meth c H locs lr2 cx wd hS r (xLo_put hl hf h2))

theorem X.lstore_n {i : Nat} {q4 : Fin 4} (hi : (q4 : Nat) = i) {x : Int64} {ls' : List (Option xV)} (hd : decode cc pc = .ok (.lstore_n q4, 1)) (hn : i + 1 < nL) (hf : xfree ls i = true) (hs : xput2 ls i (vl x) = ls') (hp : pc + 1 = pc') (k : X Ω own cc nL ret ini R PR PX kc ks pc' ls' st h) : X Ω own cc nL ret ini R PR PX kc ks pc ls (vl x :: st) h := by
  intro p e s m args below meth c H locs lr cx wd hS r hl
  obtain ⟨hx, hb, hr, hml, hown, hlocks, hts, hin, hexc⟩ := id cx
  subst hp
  subst hs
  exact lv_lstore_n hx hb hd hi (xLo_has hl) hn rfl (fun lr2 h2 => k p e s m args below meth c H locs lr2 cx wd hS r (xLo_put2 hl hf h2))

theorem X.lstore {i : Nat} {x : Int64} {ls' : List (Option xV)} (hd : decode cc pc = .ok (.lstore i, 2)) (hn : i + 1 < nL) (hf : xfree ls i = true) (hs : xput2 ls i (vl x) = ls') (hp : pc + 2 = pc') (k : X Ω own cc nL ret ini R PR PX kc ks pc' ls' st h) : X Ω own cc nL ret ini R PR PX kc ks pc ls (vl x :: st) h := by
  intro p e s m args below meth c H locs lr cx wd hS r hl
  obtain ⟨hx, hb, hr, hml, hown, hlocks, hts, hin, hexc⟩ := id cx
  subst hp
  subst hs
  exact lv_lstore hx hb hd (xLo_has hl) hn rfl (fun lr2 h2 => k p e s m args below meth c H locs lr2 cx wd hS r (xLo_put2 hl hf h2))

theorem X.dstore_n {i : Nat} {q4 : Fin 4} (hi : (q4 : Nat) = i) {x : UInt64} {ls' : List (Option xV)} (hd : decode cc pc = .ok (.dstore_n q4, 1)) (hn : i + 1 < nL) (hf : xfree ls i = true) (hs : xput2 ls i (vd x) = ls') (hp : pc + 1 = pc') (k : X Ω own cc nL ret ini R PR PX kc ks pc' ls' st h) : X Ω own cc nL ret ini R PR PX kc ks pc ls (vd x :: st) h := by
  intro p e s m args below meth c H locs lr cx wd hS r hl
  obtain ⟨hx, hb, hr, hml, hown, hlocks, hts, hin, hexc⟩ := id cx
  subst hp
  subst hs
  exact lv_dstore_n hx hb hd hi (xLo_has hl) hn rfl (fun lr2 h2 => k p e s m args below meth c H locs lr2 cx wd hS r (xLo_put2 hl hf h2))

theorem X.dstore {i : Nat} {x : UInt64} {ls' : List (Option xV)} (hd : decode cc pc = .ok (.dstore i, 2)) (hn : i + 1 < nL) (hf : xfree ls i = true) (hs : xput2 ls i (vd x) = ls') (hp : pc + 2 = pc') (k : X Ω own cc nL ret ini R PR PX kc ks pc' ls' st h) : X Ω own cc nL ret ini R PR PX kc ks pc ls (vd x :: st) h := by
  intro p e s m args below meth c H locs lr cx wd hS r hl
  obtain ⟨hx, hb, hr, hml, hown, hlocks, hts, hin, hexc⟩ := id cx
  subst hp
  subst hs
  exact lv_dstore hx hb hd (xLo_has hl) hn rfl (fun lr2 h2 => k p e s m args below meth c H locs lr2 cx wd hS r (xLo_put2 hl hf h2))

theorem X.astore_n {i : Nat} {q4 : Fin 4} (hi : (q4 : Nat) = i) {x : Option Nat} {ls' : List (Option xV)} (hd : decode cc pc = .ok (.astore_n q4, 1)) (hn : i < nL) (hf : xfree ls i = true) (hs : xput ls i (vr x) = ls') (hp : pc + 1 = pc') (k : X Ω own cc nL ret ini R PR PX kc ks pc' ls' st h) : X Ω own cc nL ret ini R PR PX kc ks pc ls (vr x :: st) h := by
  intro p e s m args below meth c H locs lr cx wd hS r hl
  obtain ⟨hx, hb, hr, hml, hown, hlocks, hts, hin, hexc⟩ := id cx
  subst hp
  subst hs
  cases x with
  | none => exact lv_astore_nN hx hb hd hi (xLo_has hl) hn rfl (fun lr2 h2 => k p e s m args below meth c H locs lr2 cx wd hS r (xLo_put hl hf h2))
  | some x => exact lv_astore_n hx hb hd hi (xLo_has hl) hn rfl (fun lr2 h2 => k p e s m args below meth c H locs lr2 cx wd hS r (xLo_put hl hf h2))

theorem X.astore {i : Nat} {x : Option Nat} {ls' : List (Option xV)} (hd : decode cc pc = .ok (.astore i, 2)) (hn : i < nL) (hf : xfree ls i = true) (hs : xput ls i (vr x) = ls') (hp : pc + 2 = pc') (k : X Ω own cc nL ret ini R PR PX kc ks pc' ls' st h) : X Ω own cc nL ret ini R PR PX kc ks pc ls (vr x :: st) h := by
  intro p e s m args below meth c H locs lr cx wd hS r hl
  obtain ⟨hx, hb, hr, hml, hown, hlocks, hts, hin, hexc⟩ := id cx
  subst hp
  subst hs
  cases x with
  | none => exact lv_astoreN hx hb hd (xLo_has hl) hn rfl (fun lr2 h2 => k p e s m args below meth c H locs lr2 cx wd hS r (xLo_put hl hf h2))
  | some x => exact lv_astore hx hb hd (xLo_has hl) hn rfl (fun lr2 h2 => k p e s m args below meth c H locs lr2 cx wd hS r (xLo_put hl hf h2))

theorem X.iinc {i : Nat} {n x : Int} {ls' : List (Option xV)} (hd : decode cc pc = .ok (.iinc i n, 3)) (hv : ls[i]? = some (some (vi x))) (hn : i < nL) (hf : xfree ls i = true) (hs : xput ls i (vi (x + n)) = ls') (hp : pc + 3 = pc') (k : X Ω own cc nL ret ini R PR PX kc ks pc' ls' st h) : X Ω own cc nL ret ini R PR PX kc ks pc ls st h := by
  intro p e s m args below meth c H locs lr cx wd hS r hl
  obtain ⟨hx, hb, hr, hml, hown, hlocks, hts, hin, hexc⟩ := id cx
  subst hp
  subst hs
  obtain ⟨q, hq⟩ := List.getElem?_of_mem (xLo_mem (ls := ls) hv)
  exact lv_iinc hx hb hd (xLo_has hl) (k := q) (x := Int32.ofInt x) hq (v := Int32.ofInt (x + n)) (Int32.ofInt_add ..).symm hn rfl (fun lr2 h2 => k p e s m args below meth c H locs lr2 cx wd hS r (xLo_put hl hf h2))

theorem X.iadd {x y : Int} (hd : decode cc pc = .ok (.iadd, 1)) (hp : pc + 1 = pc') (k : X Ω own cc nL ret ini R PR PX kc ks pc' ls (vi (x + y) :: st) h) : X Ω own cc nL ret ini R PR PX kc ks pc ls (vi y :: vi x :: st) h := by
  intro p e s m args below meth c H locs lr cx wd hS r hl
  obtain ⟨hx, hb, hr, hml, hown, hlocks, hts, hin, hexc⟩ := id cx
  subst hp
  refine lv_iadd hx hb hd ?_
  rw [← Int32.ofInt_add]
  exact (k p e s m args below meth c H locs lr cx wd hS r hl)

theorem X.isub {x y : Int} (hd : decode cc pc = .ok (.isub, 1)) (hp : pc + 1 = pc') (k : X Ω own cc nL ret ini R PR PX kc ks pc' ls (vi (x - y) :: st) h) : X Ω own cc nL ret ini R PR PX kc ks pc ls (vi y :: vi x :: st) h := by
  intro p e s m args below meth c H locs lr cx wd hS r hl
  obtain ⟨hx, hb, hr, hml, hown, hlocks, hts, hin, hexc⟩ := id cx
  subst hp
  refine lv_isub hx hb hd ?_
  rw [← Int32.ofInt_sub]
  exact (k p e s m args below meth c H locs lr cx wd hS r hl)

theorem X.imul {x y : Int} (hd : decode cc pc = .ok (.imul, 1)) (hp : pc + 1 = pc') (k : X Ω own cc nL ret ini R PR PX kc ks pc' ls (vi (x * y) :: st) h) : X Ω own cc nL ret ini R PR PX kc ks pc ls (vi y :: vi x :: st) h := by
  intro p e s m args below meth c H locs lr cx wd hS r hl
  obtain ⟨hx, hb, hr, hml, hown, hlocks, hts, hin, hexc⟩ := id cx
  subst hp
  refine lv_imul hx hb hd ?_
  rw [← Int32.ofInt_mul]
  exact (k p e s m args below meth c H locs lr cx wd hS r hl)

theorem X.ineg {x : Int} (hd : decode cc pc = .ok (.ineg, 1)) (hp : pc + 1 = pc') (k : X Ω own cc nL ret ini R PR PX kc ks pc' ls (vi (-x) :: st) h) : X Ω own cc nL ret ini R PR PX kc ks pc ls (vi x :: st) h := by
  intro p e s m args below meth c H locs lr cx wd hS r hl
  obtain ⟨hx, hb, hr, hml, hown, hlocks, hts, hin, hexc⟩ := id cx
  subst hp
  refine lv_ineg hx hb hd ?_
  rw [← Int32.ofInt_neg]
  exact (k p e s m args below meth c H locs lr cx wd hS r hl)

theorem X.idiv {x y : Int} (hx0 : inR x) (hx1 : 0 ≤ x) (hy0 : inR y) (hy1 : 0 < y) (hd : decode cc pc = .ok (.idiv, 1)) (hp : pc + 1 = pc') (k : X Ω own cc nL ret ini R PR PX kc ks pc' ls (vi (x / y) :: st) h) : X Ω own cc nL ret ini R PR PX kc ks pc ls (vi y :: vi x :: st) h := by
  intro p e s m args below meth c H locs lr cx wd hS r hl
  obtain ⟨hx, hb, hr, hml, hown, hlocks, hts, hin, hexc⟩ := id cx
  subst hp
  refine lv_idiv hx hb hd (by rw [show (0 : Int32) = Int32.ofInt 0 from rfl, x_eq hy0 inR_0]; omega) ?_
  rw [x_div hx0 hx1 hy0 hy1]
  exact (k p e s m args below meth c H locs lr cx wd hS r hl)

theorem X.irem {x y : Int} (hx0 : inR x) (hx1 : 0 ≤ x) (hy0 : inR y) (hy1 : 0 < y) (hd : decode cc pc = .ok (.irem, 1)) (hp : pc + 1 = pc') (k : X Ω own cc nL ret ini R PR PX kc ks pc' ls (vi (x % y) :: st) h) : X Ω own cc nL ret ini R PR PX kc ks pc ls (vi y :: vi x :: st) h := by
  intro p e s m args below meth c H locs lr cx wd hS r hl
  obtain ⟨hx, hb, hr, hml, hown, hlocks, hts, hin, hexc⟩ := id cx
  subst hp
  refine lv_irem hx hb hd (by rw [show (0 : Int32) = Int32.ofInt 0 from rfl, x_eq hy0 inR_0]; omega) ?_
  rw [x_rem hx0 hx1 hy0 hy1]
  exact (k p e s m args below meth c H locs lr cx wd hS r hl)

theorem X.iand {x y z : Int} (hz : Int32.ofInt x &&& Int32.ofInt y = Int32.ofInt z) (hd : decode cc pc = .ok (.iand, 1)) (hp : pc + 1 = pc') (k : X Ω own cc nL ret ini R PR PX kc ks pc' ls (vi z :: st) h) : X Ω own cc nL ret ini R PR PX kc ks pc ls (vi y :: vi x :: st) h := by
  intro p e s m args below meth c H locs lr cx wd hS r hl
  obtain ⟨hx, hb, hr, hml, hown, hlocks, hts, hin, hexc⟩ := id cx
  subst hp
  refine lv_iand hx hb hd ?_
  rw [hz]
  exact (k p e s m args below meth c H locs lr cx wd hS r hl)

theorem X.ior {x y z : Int} (hz : Int32.ofInt x ||| Int32.ofInt y = Int32.ofInt z) (hd : decode cc pc = .ok (.ior, 1)) (hp : pc + 1 = pc') (k : X Ω own cc nL ret ini R PR PX kc ks pc' ls (vi z :: st) h) : X Ω own cc nL ret ini R PR PX kc ks pc ls (vi y :: vi x :: st) h := by
  intro p e s m args below meth c H locs lr cx wd hS r hl
  obtain ⟨hx, hb, hr, hml, hown, hlocks, hts, hin, hexc⟩ := id cx
  subst hp
  refine lv_ior hx hb hd ?_
  rw [hz]
  exact (k p e s m args below meth c H locs lr cx wd hS r hl)

theorem X.ishl {x y z : Int} (hz : Int32.ofInt x <<< (Int32.ofInt y &&& 31) = Int32.ofInt z) (hd : decode cc pc = .ok (.ishl, 1)) (hp : pc + 1 = pc') (k : X Ω own cc nL ret ini R PR PX kc ks pc' ls (vi z :: st) h) : X Ω own cc nL ret ini R PR PX kc ks pc ls (vi y :: vi x :: st) h := by
  intro p e s m args below meth c H locs lr cx wd hS r hl
  obtain ⟨hx, hb, hr, hml, hown, hlocks, hts, hin, hexc⟩ := id cx
  subst hp
  refine lv_ishl hx hb hd ?_
  rw [hz]
  exact (k p e s m args below meth c H locs lr cx wd hS r hl)

theorem X.i2c {x : Int} (h0 : 0 ≤ x) (h1 : x < 65536) (hd : decode cc pc = .ok (.i2c, 1)) (hp : pc + 1 = pc') (k : X Ω own cc nL ret ini R PR PX kc ks pc' ls (vi x :: st) h) : X Ω own cc nL ret ini R PR PX kc ks pc ls (vi x :: st) h := by
  intro p e s m args below meth c H locs lr cx wd hS r hl
  obtain ⟨hx, hb, hr, hml, hown, hlocks, hts, hin, hexc⟩ := id cx
  subst hp
  exact lv_i2c hx hb hd (x_i2c h0 h1) (k p e s m args below meth c H locs lr cx wd hS r hl)

theorem X.i2l {x : Int} (h0 : inR x) (hd : decode cc pc = .ok (.i2l, 1)) (hp : pc + 1 = pc') (k : X Ω own cc nL ret ini R PR PX kc ks pc' ls (vl (Int64.ofInt x) :: st) h) : X Ω own cc nL ret ini R PR PX kc ks pc ls (vi x :: st) h := by
  intro p e s m args below meth c H locs lr cx wd hS r hl
  obtain ⟨hx, hb, hr, hml, hown, hlocks, hts, hin, hexc⟩ := id cx
  subst hp
  exact lv_i2l hx hb hd (x_i2l h0) (k p e s m args below meth c H locs lr cx wd hS r hl)

theorem X.i2d {x : Int} (hd : decode cc pc = .ok (.i2d, 1)) (hp : pc + 1 = pc') (k : X Ω own cc nL ret ini R PR PX kc ks pc' ls (vd (FP.i2d (Int32.ofInt x)) :: st) h) : X Ω own cc nL ret ini R PR PX kc ks pc ls (vi x :: st) h := by
  intro p e s m args below meth c H locs lr cx wd hS r hl
  obtain ⟨hx, hb, hr, hml, hown, hlocks, hts, hin, hexc⟩ := id cx
  subst hp
  exact lv_i2d hx hb hd (k p e s m args below meth c H locs lr cx wd hS r hl)

theorem X.d2l {x : UInt64} (hd : decode cc pc = .ok (.d2l, 1)) (hp : pc + 1 = pc') (k : X Ω own cc nL ret ini R PR PX kc ks pc' ls (vl (FP.d2l x) :: st) h) : X Ω own cc nL ret ini R PR PX kc ks pc ls (vd x :: st) h := by
  intro p e s m args below meth c H locs lr cx wd hS r hl
  obtain ⟨hx, hb, hr, hml, hown, hlocks, hts, hin, hexc⟩ := id cx
  subst hp
  exact lv_d2l hx hb hd (k p e s m args below meth c H locs lr cx wd hS r hl)

theorem X.ladd {x y : Int64} (hd : decode cc pc = .ok (.ladd, 1)) (hp : pc + 1 = pc') (k : X Ω own cc nL ret ini R PR PX kc ks pc' ls (vl (x + y) :: st) h) : X Ω own cc nL ret ini R PR PX kc ks pc ls (vl y :: vl x :: st) h := by
  intro p e s m args below meth c H locs lr cx wd hS r hl
  obtain ⟨hx, hb, hr, hml, hown, hlocks, hts, hin, hexc⟩ := id cx
  subst hp
  exact lv_ladd hx hb hd (k p e s m args below meth c H locs lr cx wd hS r hl)

theorem X.lmul {x y : Int64} (hd : decode cc pc = .ok (.lmul, 1)) (hp : pc + 1 = pc') (k : X Ω own cc nL ret ini R PR PX kc ks pc' ls (vl (x * y) :: st) h) : X Ω own cc nL ret ini R PR PX kc ks pc ls (vl y :: vl x :: st) h := by
  intro p e s m args below meth c H locs lr cx wd hS r hl
  obtain ⟨hx, hb, hr, hml, hown, hlocks, hts, hin, hexc⟩ := id cx
  subst hp
  exact lv_lmul hx hb hd (k p e s m args below meth c H locs lr cx wd hS r hl)

theorem X.lor {x y : Int64} (hd : decode cc pc = .ok (.lor, 1)) (hp : pc + 1 = pc') (k : X Ω own cc nL ret ini R PR PX kc ks pc' ls (vl (x ||| y) :: st) h) : X Ω own cc nL ret ini R PR PX kc ks pc ls (vl y :: vl x :: st) h := by
  intro p e s m args below meth c H locs lr cx wd hS r hl
  obtain ⟨hx, hb, hr, hml, hown, hlocks, hts, hin, hexc⟩ := id cx
  subst hp
  exact lv_lor hx hb hd (k p e s m args below meth c H locs lr cx wd hS r hl)

theorem X.lshl {x z : Int64} {y : Int} (hz : x <<< ((Int32.ofInt y).toInt64 &&& 63) = z) (hd : decode cc pc = .ok (.lshl, 1)) (hp : pc + 1 = pc') (k : X Ω own cc nL ret ini R PR PX kc ks pc' ls (vl z :: st) h) : X Ω own cc nL ret ini R PR PX kc ks pc ls (vi y :: vl x :: st) h := by
  intro p e s m args below meth c H locs lr cx wd hS r hl
  obtain ⟨hx, hb, hr, hml, hown, hlocks, hts, hin, hexc⟩ := id cx
  subst hp
  exact lv_lshl hx hb hd hz (k p e s m args below meth c H locs lr cx wd hS r hl)

theorem X.ddiv {x y : UInt64} (hne : vf_n64 (FP.ddiv x y)) (hd : decode cc pc = .ok (.ddiv, 1)) (hp : pc + 1 = pc') (k : X Ω own cc nL ret ini R PR PX kc ks pc' ls (vd (FP.ddiv x y) :: st) h) : X Ω own cc nL ret ini R PR PX kc ks pc ls (vd y :: vd x :: st) h := by
  intro p e s m args below meth c H locs lr cx wd hS r hl
  obtain ⟨hx, hb, hr, hml, hown, hlocks, hts, hin, hexc⟩ := id cx
  subst hp
  exact lv_ddiv hx hb hd hne (k p e s m args below meth c H locs lr cx wd hS r hl)

theorem X.dmul {x y : UInt64} (hne : vf_n64 (FP.dmul x y)) (hd : decode cc pc = .ok (.dmul, 1)) (hp : pc + 1 = pc') (k : X Ω own cc nL ret ini R PR PX kc ks pc' ls (vd (FP.dmul x y) :: st) h) : X Ω own cc nL ret ini R PR PX kc ks pc ls (vd y :: vd x :: st) h := by
  intro p e s m args below meth c H locs lr cx wd hS r hl
  obtain ⟨hx, hb, hr, hml, hown, hlocks, hts, hin, hexc⟩ := id cx
  subst hp
  exact lv_dmul hx hb hd hne (k p e s m args below meth c H locs lr cx wd hS r hl)

theorem X.dsub {x y : UInt64} (hne : vf_n64 (FP.dsub x y)) (hd : decode cc pc = .ok (.dsub, 1)) (hp : pc + 1 = pc') (k : X Ω own cc nL ret ini R PR PX kc ks pc' ls (vd (FP.dsub x y) :: st) h) : X Ω own cc nL ret ini R PR PX kc ks pc ls (vd y :: vd x :: st) h := by
  intro p e s m args below meth c H locs lr cx wd hS r hl
  obtain ⟨hx, hb, hr, hml, hown, hlocks, hts, hin, hexc⟩ := id cx
  subst hp
  exact lv_dsub hx hb hd hne (k p e s m args below meth c H locs lr cx wd hS r hl)

theorem X.dcmp {x y : UInt64} {op : CmpOp} {z : Int} (hz : Op.cmpValue (FP.dcmp x y) op = Int32.ofInt z) (hd : decode cc pc = .ok (.dcmp op, 1)) (hp : pc + 1 = pc') (k : X Ω own cc nL ret ini R PR PX kc ks pc' ls (vi z :: st) h) : X Ω own cc nL ret ini R PR PX kc ks pc ls (vd y :: vd x :: st) h := by
  intro p e s m args below meth c H locs lr cx wd hS r hl
  obtain ⟨hx, hb, hr, hml, hown, hlocks, hts, hin, hexc⟩ := id cx
  subst hp
  refine lv_dcmp hx hb hd ?_
  rw [hz]
  exact (k p e s m args below meth c H locs lr cx wd hS r hl)

theorem X.lcmp {x y : Int64} (hd : decode cc pc = .ok (.lcmp, 1)) (hp : pc + 1 = pc') (k1 : x = y → X Ω own cc nL ret ini R PR PX kc ks pc' ls (vi 0 :: st) h) (k2 : ¬ x = y → ∀ z, z ≠ 0 → inR z → X Ω own cc nL ret ini R PR PX kc ks pc' ls (vi z :: st) h) : X Ω own cc nL ret ini R PR PX kc ks pc ls (vl y :: vl x :: st) h := by
  intro p e s m args below meth c H locs lr cx wd hS r hl
  obtain ⟨hx, hb, hr, hml, hown, hlocks, hts, hin, hexc⟩ := id cx
  subst hp
  refine W.lcmp hx hb hd ?_
  obtain ⟨z, hz, hz2⟩ : ∃ z, lg_cmp x y = Int32.ofInt z ∧ inR z ∧ (x = y → z = 0) ∧ (¬ x = y → z ≠ 0) := x_lcmp x y
  rw [hz]
  by_cases e1 : x = y
  · rw [hz2.2.1 e1]
    exact (k1 e1 p e s m args below meth c H locs lr cx wd hS r hl)
  · exact (k2 e1 z (hz2.2.2 e1) hz2.1 p e s m args below meth c H locs lr cx wd hS r hl)

theorem X.dconst0  (hd : decode cc pc = .ok (.dconst 0, 1)) (hp : pc + 1 = pc') (k : X Ω own cc nL ret ini R PR PX kc ks pc' ls (vd FP.dconst0 :: st) h) : X Ω own cc nL ret ini R PR PX kc ks pc ls st h := by
  intro p e s m args below meth c H locs lr cx wd hS r hl
  obtain ⟨hx, hb, hr, hml, hown, hlocks, hts, hin, hexc⟩ := id cx
  subst hp
  exact lv_dconst0 hx hb hd (k p e s m args below meth c H locs lr cx wd hS r hl)

theorem X.dconst1  (hd : decode cc pc = .ok (.dconst 1, 1)) (hp : pc + 1 = pc') (k : X Ω own cc nL ret ini R PR PX kc ks pc' ls (vd FP.dconst1 :: st) h) : X Ω own cc nL ret ini R PR PX kc ks pc ls st h := by
  intro p e s m args below meth c H locs lr cx wd hS r hl
  obtain ⟨hx, hb, hr, hml, hown, hlocks, hts, hin, hexc⟩ := id cx
  subst hp
  exact lv_dconst1 hx hb hd (k p e s m args below meth c H locs lr cx wd hS r hl)

theorem X.lconst {n : Fin 2} {v : Int64} (hv : Int64.ofNat (n : Nat) = v) (hd : decode cc pc = .ok (.lconst n, 1)) (hp : pc + 1 = pc') (k : X Ω own cc nL ret ini R PR PX kc ks pc' ls (vl v :: st) h) : X Ω own cc nL ret ini R PR PX kc ks pc ls st h := by
  intro p e s m args below meth c H locs lr cx wd hS r hl
  obtain ⟨hx, hb, hr, hml, hown, hlocks, hts, hin, hexc⟩ := id cx
  subst hp
  exact lv_lconst hx hb hd hv (k p e s m args below meth c H locs lr cx wd hS r hl)

theorem X.ldc2 {index : Nat} {v : Int64} (hw : Cond.constantLong own index v ∈ WG) (hd : decode cc pc = .ok (.ldc2_w index, 3)) (hp : pc + 3 = pc') (k : X Ω own cc nL ret ini R PR PX kc ks pc' ls (vl v :: st) h) : X Ω own cc nL ret ini R PR PX kc ks pc ls st h := by
  intro p e s m args below meth c H locs lr cx wd hS r hl
  obtain ⟨hx, hb, hr, hml, hown, hlocks, hts, hin, hexc⟩ := id cx
  subst hp
  exact lv_ldc2 hx hb hown (hts _ hw) hd (k p e s m args below meth c H locs lr cx wd hS r hl)

theorem X.ldc2d {index : Nat} {v : UInt64} (hw : Cond.constantDouble own index v ∈ WG) (hd : decode cc pc = .ok (.ldc2_w index, 3)) (hp : pc + 3 = pc') (k : X Ω own cc nL ret ini R PR PX kc ks pc' ls (vd v :: st) h) : X Ω own cc nL ret ini R PR PX kc ks pc ls st h := by
  intro p e s m args below meth c H locs lr cx wd hS r hl
  obtain ⟨hx, hb, hr, hml, hown, hlocks, hts, hin, hexc⟩ := id cx
  subst hp
  exact lv_ldc2d hx hb hown (hts _ hw) hd (k p e s m args below meth c H locs lr cx wd hS r hl)

theorem X.dup {v : xV} (hv : xcat v = 1) (hd : decode cc pc = .ok (.dup, 1)) (hp : pc + 1 = pc') (k : X Ω own cc nL ret ini R PR PX kc ks pc' ls (v :: v :: st) h) : X Ω own cc nL ret ini R PR PX kc ks pc ls (v :: st) h := by
  intro p e s m args below meth c H locs lr cx wd hS r hl
  obtain ⟨hx, hb, hr, hml, hown, hlocks, hts, hin, hexc⟩ := id cx
  subst hp
  exact lv_dup hx hb hd ((xc_cat v).trans hv) (k p e s m args below meth c H locs lr cx wd hS r hl)

theorem X.dup2 {v w : xV} (hv : xcat v = 1) (hw : xcat w = 1) (hd : decode cc pc = .ok (.dup2, 1)) (hp : pc + 1 = pc') (k : X Ω own cc nL ret ini R PR PX kc ks pc' ls (v :: w :: v :: w :: st) h) : X Ω own cc nL ret ini R PR PX kc ks pc ls (v :: w :: st) h := by
  intro p e s m args below meth c H locs lr cx wd hS r hl
  obtain ⟨hx, hb, hr, hml, hown, hlocks, hts, hin, hexc⟩ := id cx
  subst hp
  exact lv_dup2_11 hx hb hd ((xc_cat v).trans hv) ((xc_cat w).trans hw) (k p e s m args below meth c H locs lr cx wd hS r hl)

theorem X.pop {v : xV} (hv : xcat v = 1) (hd : decode cc pc = .ok (.pop, 1)) (hp : pc + 1 = pc') (k : X Ω own cc nL ret ini R PR PX kc ks pc' ls st h) : X Ω own cc nL ret ini R PR PX kc ks pc ls (v :: st) h := by
  intro p e s m args below meth c H locs lr cx wd hS r hl
  obtain ⟨hx, hb, hr, hml, hown, hlocks, hts, hin, hexc⟩ := id cx
  subst hp
  exact lv_pop hx hb hd ((xc_cat v).trans hv) (k p e s m args below meth c H locs lr cx wd hS r hl)

theorem X.if_eq {x : Int} {off : Int} {tgt : Nat} (hd : decode cc pc = .ok (.ifCond .eq off, 3)) (hx1 : inR x) (ht : (pc : Int) + off = (tgt : Int)) (hp : pc + 3 = pc') (kt : x = 0 → X Ω own cc nL ret ini R PR PX kc ks tgt ls st h) (kf : ¬ x = 0 → X Ω own cc nL ret ini R PR PX kc ks pc' ls st h) : X Ω own cc nL ret ini R PR PX kc ks pc ls (vi x :: st) h := by
  intro p e s m args below meth c H locs lr cx wd hS r hl
  obtain ⟨hx, hb, hr, hml, hown, hlocks, hts, hin, hexc⟩ := id cx
  subst hp
  refine lv_if_eq hx hb hd ht ?_ ?_
  · intro hc
    rw [show (0 : Int32) = Int32.ofInt 0 from rfl] at hc
    rw [x_eq hx1 inR_0] at hc
    exact kt (by omega) p e s m args below meth c H locs lr cx wd hS r hl
  · intro hc
    rw [show (0 : Int32) = Int32.ofInt 0 from rfl] at hc
    rw [x_eq hx1 inR_0] at hc
    exact kf (by omega) p e s m args below meth c H locs lr cx wd hS r hl

theorem X.icmp_eq {x y : Int} {off : Int} {tgt : Nat} (hd : decode cc pc = .ok (.if_icmp .eq off, 3)) (hx1 : inR x) (hy1 : inR y) (ht : (pc : Int) + off = (tgt : Int)) (hp : pc + 3 = pc') (kt : x = y → X Ω own cc nL ret ini R PR PX kc ks tgt ls st h) (kf : ¬ x = y → X Ω own cc nL ret ini R PR PX kc ks pc' ls st h) : X Ω own cc nL ret ini R PR PX kc ks pc ls (vi y :: vi x :: st) h := by
  intro p e s m args below meth c H locs lr cx wd hS r hl
  obtain ⟨hx, hb, hr, hml, hown, hlocks, hts, hin, hexc⟩ := id cx
  subst hp
  refine lv_icmp_eq hx hb hd ht ?_ ?_
  · intro hc
    rw [x_eq hx1 hy1] at hc
    exact kt (by omega) p e s m args below meth c H locs lr cx wd hS r hl
  · intro hc
    rw [x_eq hx1 hy1] at hc
    exact kf (by omega) p e s m args below meth c H locs lr cx wd hS r hl

theorem X.if_ne {x : Int} {off : Int} {tgt : Nat} (hd : decode cc pc = .ok (.ifCond .ne off, 3)) (hx1 : inR x) (ht : (pc : Int) + off = (tgt : Int)) (hp : pc + 3 = pc') (kt : ¬ x = 0 → X Ω own cc nL ret ini R PR PX kc ks tgt ls st h) (kf : x = 0 → X Ω own cc nL ret ini R PR PX kc ks pc' ls st h) : X Ω own cc nL ret ini R PR PX kc ks pc ls (vi x :: st) h := by
  intro p e s m args below meth c H locs lr cx wd hS r hl
  obtain ⟨hx, hb, hr, hml, hown, hlocks, hts, hin, hexc⟩ := id cx
  subst hp
  refine lv_if_ne hx hb hd ht ?_ ?_
  · intro hc
    rw [show (0 : Int32) = Int32.ofInt 0 from rfl] at hc
    rw [x_eq hx1 inR_0] at hc
    exact kt (by omega) p e s m args below meth c H locs lr cx wd hS r hl
  · intro hc
    rw [show (0 : Int32) = Int32.ofInt 0 from rfl] at hc
    rw [x_eq hx1 inR_0] at hc
    exact kf (by omega) p e s m args below meth c H locs lr cx wd hS r hl

theorem X.icmp_ne {x y : Int} {off : Int} {tgt : Nat} (hd : decode cc pc = .ok (.if_icmp .ne off, 3)) (hx1 : inR x) (hy1 : inR y) (ht : (pc : Int) + off = (tgt : Int)) (hp : pc + 3 = pc') (kt : ¬ x = y → X Ω own cc nL ret ini R PR PX kc ks tgt ls st h) (kf : x = y → X Ω own cc nL ret ini R PR PX kc ks pc' ls st h) : X Ω own cc nL ret ini R PR PX kc ks pc ls (vi y :: vi x :: st) h := by
  intro p e s m args below meth c H locs lr cx wd hS r hl
  obtain ⟨hx, hb, hr, hml, hown, hlocks, hts, hin, hexc⟩ := id cx
  subst hp
  refine lv_icmp_ne hx hb hd ht ?_ ?_
  · intro hc
    rw [x_eq hx1 hy1] at hc
    exact kt (by omega) p e s m args below meth c H locs lr cx wd hS r hl
  · intro hc
    rw [x_eq hx1 hy1] at hc
    exact kf (by omega) p e s m args below meth c H locs lr cx wd hS r hl

theorem X.if_lt {x : Int} {off : Int} {tgt : Nat} (hd : decode cc pc = .ok (.ifCond .lt off, 3)) (hx1 : inR x) (ht : (pc : Int) + off = (tgt : Int)) (hp : pc + 3 = pc') (kt : x < 0 → X Ω own cc nL ret ini R PR PX kc ks tgt ls st h) (kf : 0 ≤ x → X Ω own cc nL ret ini R PR PX kc ks pc' ls st h) : X Ω own cc nL ret ini R PR PX kc ks pc ls (vi x :: st) h := by
  intro p e s m args below meth c H locs lr cx wd hS r hl
  obtain ⟨hx, hb, hr, hml, hown, hlocks, hts, hin, hexc⟩ := id cx
  subst hp
  refine lv_if_lt hx hb hd ht ?_ ?_
  · intro hc
    rw [show (0 : Int32) = Int32.ofInt 0 from rfl] at hc
    rw [x_lt hx1 inR_0] at hc
    exact kt (by omega) p e s m args below meth c H locs lr cx wd hS r hl
  · intro hc
    rw [show (0 : Int32) = Int32.ofInt 0 from rfl] at hc
    rw [x_lt hx1 inR_0] at hc
    exact kf (by omega) p e s m args below meth c H locs lr cx wd hS r hl

theorem X.icmp_lt {x y : Int} {off : Int} {tgt : Nat} (hd : decode cc pc = .ok (.if_icmp .lt off, 3)) (hx1 : inR x) (hy1 : inR y) (ht : (pc : Int) + off = (tgt : Int)) (hp : pc + 3 = pc') (kt : x < y → X Ω own cc nL ret ini R PR PX kc ks tgt ls st h) (kf : y ≤ x → X Ω own cc nL ret ini R PR PX kc ks pc' ls st h) : X Ω own cc nL ret ini R PR PX kc ks pc ls (vi y :: vi x :: st) h := by
  intro p e s m args below meth c H locs lr cx wd hS r hl
  obtain ⟨hx, hb, hr, hml, hown, hlocks, hts, hin, hexc⟩ := id cx
  subst hp
  refine lv_icmp_lt hx hb hd ht ?_ ?_
  · intro hc
    rw [x_lt hx1 hy1] at hc
    exact kt (by omega) p e s m args below meth c H locs lr cx wd hS r hl
  · intro hc
    rw [x_lt hx1 hy1] at hc
    exact kf (by omega) p e s m args below meth c H locs lr cx wd hS r hl

theorem X.if_ge {x : Int} {off : Int} {tgt : Nat} (hd : decode cc pc = .ok (.ifCond .ge off, 3)) (hx1 : inR x) (ht : (pc : Int) + off = (tgt : Int)) (hp : pc + 3 = pc') (kt : 0 ≤ x → X Ω own cc nL ret ini R PR PX kc ks tgt ls st h) (kf : x < 0 → X Ω own cc nL ret ini R PR PX kc ks pc' ls st h) : X Ω own cc nL ret ini R PR PX kc ks pc ls (vi x :: st) h := by
  intro p e s m args below meth c H locs lr cx wd hS r hl
  obtain ⟨hx, hb, hr, hml, hown, hlocks, hts, hin, hexc⟩ := id cx
  subst hp
  refine lv_if_ge hx hb hd ht ?_ ?_
  · intro hc
    rw [show (0 : Int32) = Int32.ofInt 0 from rfl] at hc
    have hc := hc
    first | rw [ge_iff_le, x_le inR_0 hx1] at hc | rw [x_le inR_0 hx1] at hc | rw [x_lt hx1 inR_0] at hc
    exact kt (by omega) p e s m args below meth c H locs lr cx wd hS r hl
  · intro hc
    rw [show (0 : Int32) = Int32.ofInt 0 from rfl] at hc
    have hc := hc
    first | rw [ge_iff_le, x_le inR_0 hx1] at hc | rw [x_le inR_0 hx1] at hc | rw [x_lt hx1 inR_0] at hc
    exact kf (by omega) p e s m args below meth c H locs lr cx wd hS r hl

theorem X.icmp_ge {x y : Int} {off : Int} {tgt : Nat} (hd : decode cc pc = .ok (.if_icmp .ge off, 3)) (hx1 : inR x) (hy1 : inR y) (ht : (pc : Int) + off = (tgt : Int)) (hp : pc + 3 = pc') (kt : y ≤ x → X Ω own cc nL ret ini R PR PX kc ks tgt ls st h) (kf : x < y → X Ω own cc nL ret ini R PR PX kc ks pc' ls st h) : X Ω own cc nL ret ini R PR PX kc ks pc ls (vi y :: vi x :: st) h := by
  intro p e s m args below meth c H locs lr cx wd hS r hl
  obtain ⟨hx, hb, hr, hml, hown, hlocks, hts, hin, hexc⟩ := id cx
  subst hp
  refine lv_icmp_ge hx hb hd ht ?_ ?_
  · intro hc
    have hc := hc
    first | rw [ge_iff_le, x_le hy1 hx1] at hc | rw [x_le hy1 hx1] at hc | rw [x_lt hx1 hy1] at hc
    exact kt (by omega) p e s m args below meth c H locs lr cx wd hS r hl
  · intro hc
    have hc := hc
    first | rw [ge_iff_le, x_le hy1 hx1] at hc | rw [x_le hy1 hx1] at hc | rw [x_lt hx1 hy1] at hc
    exact kf (by omega) p e s m args below meth c H locs lr cx wd hS r hl

theorem X.if_gt {x : Int} {off : Int} {tgt : Nat} (hd : decode cc pc = .ok (.ifCond .gt off, 3)) (hx1 : inR x) (ht : (pc : Int) + off = (tgt : Int)) (hp : pc + 3 = pc') (kt : 0 < x → X Ω own cc nL ret ini R PR PX kc ks tgt ls st h) (kf : x ≤ 0 → X Ω own cc nL ret ini R PR PX kc ks pc' ls st h) : X Ω own cc nL ret ini R PR PX kc ks pc ls (vi x :: st) h := by
  intro p e s m args below meth c H locs lr cx wd hS r hl
  obtain ⟨hx, hb, hr, hml, hown, hlocks, hts, hin, hexc⟩ := id cx
  subst hp
  refine lv_if_gt hx hb hd ht ?_ ?_
  · intro hc
    rw [show (0 : Int32) = Int32.ofInt 0 from rfl] at hc
    have hc := hc
    first | rw [gt_iff_lt, x_lt inR_0 hx1] at hc | rw [x_lt inR_0 hx1] at hc | rw [x_le hx1 inR_0] at hc
    exact kt (by omega) p e s m args below meth c H locs lr cx wd hS r hl
  · intro hc
    rw [show (0 : Int32) = Int32.ofInt 0 from rfl] at hc
    have hc := hc
    first | rw [gt_iff_lt, x_lt inR_0 hx1] at hc | rw [x_lt inR_0 hx1] at hc | rw [x_le hx1 inR_0] at hc
    exact kf (by omega) p e s m args below meth c H locs lr cx wd hS r hl

theorem X.icmp_gt {x y : Int} {off : Int} {tgt : Nat} (hd : decode cc pc = .ok (.if_icmp .gt off, 3)) (hx1 : inR x) (hy1 : inR y) (ht : (pc : Int) + off = (tgt : Int)) (hp : pc + 3 = pc') (kt : y < x → X Ω own cc nL ret ini R PR PX kc ks tgt ls st h) (kf : x ≤ y → X Ω own cc nL ret ini R PR PX kc ks pc' ls st h) : X Ω own cc nL ret ini R PR PX kc ks pc ls (vi y :: vi x :: st) h := by
  intro p e s m args below meth c H locs lr cx wd hS r hl
  obtain ⟨hx, hb, hr, hml, hown, hlocks, hts, hin, hexc⟩ := id cx
  subst hp
  refine lv_icmp_gt hx hb hd ht ?_ ?_
  · intro hc
    have hc := hc
    first | rw [gt_iff_lt, x_lt hy1 hx1] at hc | rw [x_lt hy1 hx1] at hc | rw [x_le hx1 hy1] at hc
    exact kt (by omega) p e s m args below meth c H locs lr cx wd hS r hl
  · intro hc
    have hc := hc
    first | rw [gt_iff_lt, x_lt hy1 hx1] at hc | rw [x_lt hy1 hx1] at hc | rw [x_le hx1 hy1] at hc
    exact kf (by omega) p e s m args below meth c H locs lr cx wd hS r hl

theorem X.if_le {x : Int} {off : Int} {tgt : Nat} (hd : decode cc pc = .ok (.ifCond .le off, 3)) (hx1 : inR x) (ht : (pc : Int) + off = (tgt : Int)) (hp : pc + 3 = pc') (kt : x ≤ 0 → X Ω own cc nL ret ini R PR PX kc ks tgt ls st h) (kf : 0 < x → X Ω own cc nL ret ini R PR PX kc ks pc' ls st h) : X Ω own cc nL ret ini R PR PX kc ks pc ls (vi x :: st) h := by
  intro p e s m args below meth c H locs lr cx wd hS r hl
  obtain ⟨hx, hb, hr, hml, hown, hlocks, hts, hin, hexc⟩ := id cx
  subst hp
  refine lv_if_le hx hb hd ht ?_ ?_
  · intro hc
    rw [show (0 : Int32) = Int32.ofInt 0 from rfl] at hc
    rw [x_le hx1 inR_0] at hc
    exact kt (by omega) p e s m args below meth c H locs lr cx wd hS r hl
  · intro hc
    rw [show (0 : Int32) = Int32.ofInt 0 from rfl] at hc
    rw [x_le hx1 inR_0] at hc
    exact kf (by omega) p e s m args below meth c H locs lr cx wd hS r hl

theorem X.icmp_le {x y : Int} {off : Int} {tgt : Nat} (hd : decode cc pc = .ok (.if_icmp .le off, 3)) (hx1 : inR x) (hy1 : inR y) (ht : (pc : Int) + off = (tgt : Int)) (hp : pc + 3 = pc') (kt : x ≤ y → X Ω own cc nL ret ini R PR PX kc ks tgt ls st h) (kf : y < x → X Ω own cc nL ret ini R PR PX kc ks pc' ls st h) : X Ω own cc nL ret ini R PR PX kc ks pc ls (vi y :: vi x :: st) h := by
  intro p e s m args below meth c H locs lr cx wd hS r hl
  obtain ⟨hx, hb, hr, hml, hown, hlocks, hts, hin, hexc⟩ := id cx
  subst hp
  refine lv_icmp_le hx hb hd ht ?_ ?_
  · intro hc
    rw [x_le hx1 hy1] at hc
    exact kt (by omega) p e s m args below meth c H locs lr cx wd hS r hl
  · intro hc
    rw [x_le hx1 hy1] at hc
    exact kf (by omega) p e s m args below meth c H locs lr cx wd hS r hl

theorem X.goto {off : Int} {tgt : Nat} (hd : decode cc pc = .ok (.goto off, 3)) (ht : (pc : Int) + off = (tgt : Int)) (k : X Ω own cc nL ret ini R PR PX kc ks tgt ls st h) : X Ω own cc nL ret ini R PR PX kc ks pc ls st h := by
  intro p e s m args below meth c H locs lr cx wd hS r hl
  obtain ⟨hx, hb, hr, hml, hown, hlocks, hts, hin, hexc⟩ := id cx
  exact lv_goto hx hb hd ht (k p e s m args below meth c H locs lr cx wd hS r hl)

theorem X.ifnonnull {x : Option Nat} {off : Int} {tgt : Nat} (hd : decode cc pc = .ok (.ifnonnull off, 3)) (ht : (pc : Int) + off = (tgt : Int)) (hp : pc + 3 = pc') (ks2 : ∀ a, x = some a → X Ω own cc nL ret ini R PR PX kc ks tgt ls st h) (kn : x = none → X Ω own cc nL ret ini R PR PX kc ks pc' ls st h) : X Ω own cc nL ret ini R PR PX kc ks pc ls (vr x :: st) h := by
  intro p e s m args below meth c H locs lr cx wd hS r hl
  obtain ⟨hx, hb, hr, hml, hown, hlocks, hts, hin, hexc⟩ := id cx
  subst hp
  cases x with
  | none => exact lv_ifnonnullN hx hb hd (kn rfl p e s m args below meth c H locs lr cx wd hS r hl)
  | some x => exact lv_ifnonnull hx hb hd ht (ks2 x rfl p e s m args below meth c H locs lr cx wd hS r hl)

theorem X.tableOut {dflt lo hi : Int} {offs : Array Int} {len : Nat} {x : Int} {tgt : Nat} (hd : decode cc pc = .ok (.tableswitch dflt lo hi offs, len)) (h0 : inR x) (h1 : x < lo ∨ hi < x) (ht : (pc : Int) + dflt = (tgt : Int)) (k : X Ω own cc nL ret ini R PR PX kc ks tgt ls st h) : X Ω own cc nL ret ini R PR PX kc ks pc ls (vi x :: st) h := by
  intro p e s m args below meth c H locs lr cx wd hS r hl
  obtain ⟨hx, hb, hr, hml, hown, hlocks, hts, hin, hexc⟩ := id cx
  exact lv_tableOut hx hb hd (by rw [inR_ofInt h0]; exact h1) ht (k p e s m args below meth c H locs lr cx wd hS r hl)

theorem X.tableIn {dflt lo hi : Int} {offs : Array Int} {len : Nat} {x off : Int} {tgt : Nat} (hd : decode cc pc = .ok (.tableswitch dflt lo hi offs, len)) (h0 : inR x) (h1 : lo ≤ x) (h2 : x ≤ hi) (ho : offs[(x - lo).toNat]? = some off) (ht : (pc : Int) + off = (tgt : Int)) (k : X Ω own cc nL ret ini R PR PX kc ks tgt ls st h) : X Ω own cc nL ret ini R PR PX kc ks pc ls (vi x :: st) h := by
  intro p e s m args below meth c H locs lr cx wd hS r hl
  obtain ⟨hx, hb, hr, hml, hown, hlocks, hts, hin, hexc⟩ := id cx
  exact lv_tableIn hx hb hd (by rw [inR_ofInt h0]; omega) (by rw [inR_ofInt h0]; omega) (by rw [inR_ofInt h0]; exact ho) ht (k p e s m args below meth c H locs lr cx wd hS r hl)

theorem X.lookup {dflt : Int} {ps : Array (Int × Int)} {len : Nat} {x off : Int} {tgt : Nat} (hd : decode cc pc = .ok (.lookupswitch dflt ps, len)) (h0 : inR x) (hs : (ps.toList.zip (ps.toList.drop 1)).all (fun (a, next) => a.1 < next.1) = true) (ho : Op.lookupswitch.offset ps.toList dflt x = off) (ht : (pc : Int) + off = (tgt : Int)) (k : X Ω own cc nL ret ini R PR PX kc ks tgt ls st h) : X Ω own cc nL ret ini R PR PX kc ks pc ls (vi x :: st) h := by
  intro p e s m args below meth c H locs lr cx wd hS r hl
  obtain ⟨hx, hb, hr, hml, hown, hlocks, hts, hin, hexc⟩ := id cx
  exact lv_lookup hx hb hd hs (by rw [inR_ofInt h0]; exact ho) ht (k p e s m args below meth c H locs lr cx wd hS r hl)

/-! memory -/
theorem mI_sI (h : xM) (a : Nat) (k x : Int) (b : Nat) (j : Int) : mI (sI h a k x) b j = if b = a ∧ j = k then x else mI h b j := rfl
theorem mR_sI (h : xM) (a : Nat) (k x : Int) : mR (sI h a k x) = mR h := rfl
theorem mL_sI (h : xM) (a : Nat) (k x : Int) : mL (sI h a k x) = mL h := rfl
theorem mT_sI (h : xM) (a : Nat) (k x : Int) : mT (sI h a k x) = mT h := rfl
theorem mN_sI (h : xM) (a : Nat) (k x : Int) : mN (sI h a k x) = mN h := rfl
theorem mR_sR (h : xM) (a : Nat) (k : Int) (x : Option Nat) (b : Nat) (j : Int) : mR (sR h a k x) b j = if b = a ∧ j = k then x else mR h b j := rfl
theorem mI_sR (h : xM) (a : Nat) (k : Int) (x : Option Nat) : mI (sR h a k x) = mI h := rfl
theorem mL_sR (h : xM) (a : Nat) (k : Int) (x : Option Nat) : mL (sR h a k x) = mL h := rfl
theorem mT_sR (h : xM) (a : Nat) (k : Int) (x : Option Nat) : mT (sR h a k x) = mT h := rfl
theorem mN_sR (h : xM) (a : Nat) (k : Int) (x : Option Nat) : mN (sR h a k x) = mN h := rfl
theorem mL_sL (h : xM) (a : Nat) (k : Int) (x : Int64) (b : Nat) (j : Int) : mL (sL h a k x) b j = if b = a ∧ j = k then x else mL h b j := rfl
theorem mI_sL (h : xM) (a : Nat) (k : Int) (x : Int64) : mI (sL h a k x) = mI h := rfl
theorem mR_sL (h : xM) (a : Nat) (k : Int) (x : Int64) : mR (sL h a k x) = mR h := rfl
theorem mT_sL (h : xM) (a : Nat) (k : Int) (x : Int64) : mT (sL h a k x) = mT h := rfl
theorem mN_sL (h : xM) (a : Nat) (k : Int) (x : Int64) : mN (sL h a k x) = mN h := rfl
theorem mI_cI (h : xM) (s : Nat) (sp : Int) (d : Nat) (dp n : Int) (b : Nat) (j : Int) : mI (cI h s sp d dp n) b j = if b = d ∧ dp ≤ j ∧ j < dp + n then mI h s (sp + (j - dp)) else mI h b j := rfl
theorem mR_cI (h : xM) (s : Nat) (sp : Int) (d : Nat) (dp n : Int) : mR (cI h s sp d dp n) = mR h := rfl
theorem mL_cI (h : xM) (s : Nat) (sp : Int) (d : Nat) (dp n : Int) : mL (cI h s sp d dp n) = mL h := rfl
theorem mT_cI (h : xM) (s : Nat) (sp : Int) (d : Nat) (dp n : Int) : mT (cI h s sp d dp n) = mT h := rfl
theorem mN_cI (h : xM) (s : Nat) (sp : Int) (d : Nat) (dp n : Int) : mN (cI h s sp d dp n) = mN h := rfl
theorem mN_aL (h : xM) (t n : Nat) : mN (aL h t n) = mN h + 1 := rfl
theorem mT_aL (h : xM) (t n : Nat) (b : Nat) : mT (aL h t n) b = if b = mN h then some (t, n) else mT h b := rfl
theorem mI_aL (h : xM) (t n : Nat) (b : Nat) (j : Int) : mI (aL h t n) b j = if b = mN h then 0 else mI h b j := rfl
theorem mR_aL (h : xM) (t n : Nat) (b : Nat) (j : Int) : mR (aL h t n) b j = if b = mN h then none else mR h b j := rfl
theorem mL_aL (h : xM) (t n : Nat) (b : Nat) (j : Int) : mL (aL h t n) b j = if b = mN h then 0 else mL h b j := rfl
theorem mN_aM (h : xM) (k n : Nat) : mN (aM h k n) = mN h + 1 + k := rfl
theorem mT_aM (h : xM) (k n : Nat) (b : Nat) : mT (aM h k n) b = if b = mN h then some (13, k) else if mN h < b ∧ b < mN h + 1 + k then some (10, n) else mT h b := rfl
theorem mI_aM (h : xM) (k n : Nat) (b : Nat) (j : Int) : mI (aM h k n) b j = if mN h ≤ b ∧ b < mN h + 1 + k then 0 else mI h b j := rfl
theorem mR_aM (h : xM) (k n : Nat) (b : Nat) (j : Int) : mR (aM h k n) b j = if b = mN h then (if 0 ≤ j ∧ j < k then some (mN h + 1 + j.toNat) else none) else if mN h < b ∧ b < mN h + 1 + k then none else mR h b j := rfl
theorem mL_aM (h : xM) (k n : Nat) (b : Nat) (j : Int) : mL (aM h k n) b j = if mN h ≤ b ∧ b < mN h + 1 + k then 0 else mL h b j := rfl
theorem mN_gN (h : xM) (n : Nat) : mN (gN h n) = n := rfl
theorem mT_gN (h : xM) (n : Nat) : mT (gN h n) = mT h := rfl
theorem mI_gN (h : xM) (n : Nat) : mI (gN h n) = mI h := rfl
theorem mR_gN (h : xM) (n : Nat) : mR (gN h n) = mR h := rfl
theorem mL_gN (h : xM) (n : Nat) : mL (gN h n) = mL h := rfl
/-! the relation goes on -/
theorem xE_obj {cA : Nat → ClassId} {h : xM} {a t n : Nat} (ht : t < 7) : xE cA h a t n = .inr (t, (List.range n).map (xfv h a t)) := by
  unfold xE
  rw [if_neg (by omega), if_neg (by omega), if_neg (by omega), if_neg (by omega), if_neg (by omega)]
theorem xP1 {D : va_G} {cl : List vw_C} {q : Nat × va_E} {H : Heap} (h : va_at D cl q H) : va_P D cl [q] H := by
  intro k x hx
  match k, hx with
  | 0, hx => cases hx; exact h
  | k + 1, hx => simp at hx
theorem xE_off {cA : Nat → ClassId} {h h' : xM} {b t n : Nat} (e1 : mI h' b = mI h b) (e2 : mR h' b = mR h b) (e3 : mL h' b = mL h b) : xE cA h' b t n = xE cA h b t n := by
  have e4 : xfv h' b t = xfv h b t := by
    funext k
    unfold xfv
    rw [e1, e2, e3]
  unfold xE
  rw [e1, e2, e3, e4]
theorem xRel_upd {Ω : xO} {h h' : xM} {H H' : Heap} {a : Nat} (r : xRel Ω h H) (hz : H'.size = H.size) (ho : ∀ q : Nat, q ≠ a → H'[q]? = H[q]?) (hN : mN h' = mN h) (hT : mT h' = mT h)
    (hI : ∀ b, b ≠ a → mI h' b = mI h b) (hR : ∀ b, b ≠ a → mR h' b = mR h b) (hL : ∀ b, b ≠ a → mL h' b = mL h b) (hin : ∀ k, inR (mI h' a k))
    (ha : ∀ t n, mT h a = some (t, n) → va_at Ω.2.1 vwCl (a, xE Ω.2.2.1 h' a t n) H') : xRel Ω h' H' := by
  refine ⟨by rw [hz, hN]; exact r.1, fun b k => ?_, fun b t n hb => ?_⟩
  · by_cases e : b = a
    · rw [e]; exact hin k
    · rw [hI b e]; exact r.2.1 b k
  · rw [hT] at hb
    refine ⟨(r.2.2 b t n hb).1, ?_⟩
    by_cases e : b = a
    · subst e
      exact ha t n hb
    · rw [xE_off (hI b e) (hR b e) (hL b e)]
      exact (r.2.2 b t n hb).2.kept (ho b e)
/-- new cells behind the heap -/
theorem xRel_new {Ω : xO} {h h' : xM} {H H' : Heap} (r : xRel Ω h H) (hB : Ω.2.2.2.1.size ≤ H.size) (hz : H'.size = mN h') (ho : ∀ q : Nat, q < H.size → H'[q]? = H[q]?) (hT : ∀ b, b < mN h → mT h' b = mT h b)
    (hI : ∀ b, b < mN h → mI h' b = mI h b) (hR : ∀ b, b < mN h → mR h' b = mR h b) (hL : ∀ b, b < mN h → mL h' b = mL h b) (hin : ∀ b k, mN h ≤ b → inR (mI h' b k))
    (ha : ∀ b t n, mN h ≤ b → mT h' b = some (t, n) → va_at Ω.2.1 vwCl (b, xE Ω.2.2.1 h' b t n) H') : xRel Ω h' H' := by
  refine ⟨hz, fun b k => ?_, fun b t n hb => ?_⟩
  · by_cases e : b < mN h
    · rw [hI b e]; exact r.2.1 b k
    · exact hin b k (by omega)
  · by_cases e : b < mN h
    · rw [hT b e] at hb
      refine ⟨(r.2.2 b t n hb).1, ?_⟩
      rw [xE_off (hI b e) (hR b e) (hL b e)]
      exact (r.2.2 b t n hb).2.kept (ho b (by rw [r.1]; exact e))
    · exact ⟨by unfold xA; rw [r.1] at hB; omega, ha b t n (by omega) hb⟩
theorem xS_B {Ω : xO} {s : State} {H : Heap} {locs : List Loc} (wd : xWd Ω s) (hS : va_S (xA Ω) s.heap H locs) : Ω.2.2.2.1.size ≤ H.size := Nat.le_trans wd.2.2.2.2.2.2.1.1 hS.1
theorem xS_grow {A : Nat → Prop} {H0 H H1 : Heap} {locs : List Loc} (hS : va_S A H0 H locs) (hz : H.size ≤ H1.size) (ho : ∀ q : Nat, q < H.size → H1[q]? = H[q]?) : va_S A H0 H1 locs :=
  ⟨Nat.le_trans hS.1 hz, fun q h1 h2 => (ho q (Nat.lt_of_lt_of_le h1 hS.1)).trans (hS.2.1 q h1 h2), hS.2.2⟩
/-! fields -/
/-- index of own's pool is the field k, of the kind kd, of the class ci of n fields -/
def xFld (own : String) (index ci n k kd : Nat) : Prop := ci < 7 ∧ ∃ (C : String) (T : u_T), vwCl[ci]? = some (C, T, n) ∧ k < n ∧ xft ci k = kd ∧ Cond.fieldLink own index (T k).1 (T k).2.1 (T k).2.2.1 ∈ WG
/-- what the tables say of a class of ours -/
def xCls (ci : Nat) : Prop := ∀ q : vw_C, vwCl[ci]? = some q → (∀ w ∈ u_ws q.1 q.2.1 q.2.2, w ∈ WG) ∧ (∀ a, a < q.2.2 → ∀ b, b < q.2.2 → a ≠ b → (q.2.1 a).2.1 ≠ (q.2.1 b).2.1) ∧
  ∃ ty : Nat → FieldType, (∀ k, k < q.2.2 → parseFieldDescriptor (q.2.1 k).2.2.1 = some (ty k)) ∧ ∀ k, k < q.2.2 → (xft ci k = 0 → ty k = .int) ∧ (xft ci k = 1 → ty k = .long) ∧ (xft ci k = 2 → (∃ C, ty k = .object C) ∨ ∃ t, ty k = .array t) ∧ (xft ci k = 3 → ty k = .boolean) ∧ xft ci k < 4
theorem X.getI {index ci n k kd a : Nat} {x : Int} (f : xFld own index ci n k kd) (hc : xCls ci) (hd : decode cc pc = .ok (.getfield index, 3)) (hkd : kd ≠ 1 ∧ kd ≠ 2) (ha : mT h a = some (ci, n)) (hv : mI h a k = x) (hp : pc + 3 = pc') (kk : inR x → X Ω own cc nL ret ini R PR PX kc ks pc' ls (vi x :: st) h) : X Ω own cc nL ret ini R PR PX kc ks pc ls (rf a :: st) h := by
  intro p e s m args below meth c H locs lr cx wd hS r hl
  obtain ⟨hx, hb, hr, hml, hown, hlocks, hts, hin, hexc⟩ := id cx
  subst hp
  subst hv
  obtain ⟨f1, C, T, f2, f3, f4, f5⟩ := f
  obtain ⟨g1, g2, -⟩ := hc _ f2
  have hA := (r.2.2 a ci n ha).2
  rw [xE_obj f1] at hA
  refine va_get hx hb hts g1 hown wd.1 (xP1 hA) 0 rfl f2 k f3 (hts _ f5) (fun _ q => q) (v := .int (Int32.ofInt (mI h a k))) ?_ hd (kk (r.2.1 a k) p e s m args below meth c H locs lr cx wd hS r hl)
  rw [List.getElem?_map, List.getElem?_range f3]
  simp [xfv, f4, hkd.1, hkd.2]
theorem X.getR {index ci n k a : Nat} {x : Option Nat} (f : xFld own index ci n k 2) (hc : xCls ci) (hd : decode cc pc = .ok (.getfield index, 3)) (ha : mT h a = some (ci, n)) (hv : mR h a k = x) (hp : pc + 3 = pc') (kk : X Ω own cc nL ret ini R PR PX kc ks pc' ls (vr x :: st) h) : X Ω own cc nL ret ini R PR PX kc ks pc ls (rf a :: st) h := by
  intro p e s m args below meth c H locs lr cx wd hS r hl
  obtain ⟨hx, hb, hr, hml, hown, hlocks, hts, hin, hexc⟩ := id cx
  subst hp
  subst hv
  obtain ⟨f1, C, T, f2, f3, f4, f5⟩ := f
  obtain ⟨g1, g2, -⟩ := hc _ f2
  have hA := (r.2.2 a ci n ha).2
  rw [xE_obj f1] at hA
  refine va_get hx hb hts g1 hown wd.1 (xP1 hA) 0 rfl f2 k f3 (hts _ f5) (fun _ q => q) (v := va_rf (mR h a k)) ?_ hd (kk p e s m args below meth c H locs lr cx wd hS r hl)
  rw [List.getElem?_map, List.getElem?_range f3]
  simp [xfv, f4]
theorem X.getL {index ci n k a : Nat} {x : Int64} (f : xFld own index ci n k 1) (hc : xCls ci) (hd : decode cc pc = .ok (.getfield index, 3)) (ha : mT h a = some (ci, n)) (hv : mL h a k = x) (hp : pc + 3 = pc') (kk : X Ω own cc nL ret ini R PR PX kc ks pc' ls (vl x :: st) h) : X Ω own cc nL ret ini R PR PX kc ks pc ls (rf a :: st) h := by
  intro p e s m args below meth c H locs lr cx wd hS r hl
  obtain ⟨hx, hb, hr, hml, hown, hlocks, hts, hin, hexc⟩ := id cx
  subst hp
  subst hv
  obtain ⟨f1, C, T, f2, f3, f4, f5⟩ := f
  obtain ⟨g1, g2, -⟩ := hc _ f2
  have hA := (r.2.2 a ci n ha).2
  rw [xE_obj f1] at hA
  refine va_get hx hb hts g1 hown wd.1 (xP1 hA) 0 rfl f2 k f3 (hts _ f5) (fun _ q => q) (v := .long (mL h a k)) ?_ hd (kk p e s m args below meth c H locs lr cx wd hS r hl)
  rw [List.getElem?_map, List.getElem?_range f3]
  simp [xfv, f4]
/-- a field's store, over the machine -/
theorem xPutW {p : Program} {l : Launch} {e : Env} {s : State} {m : MethodId} {args : Array Value} {below : List Frame} {meth : Method} {c : Code} {H : Heap} {locs : List Loc} {lr : Array Slot} {Q : State → Prop} {v : Value} {rest : List Value} {index ci n k a : Nat} {fs : List Value} {D : va_G} {tys : List (ClassId × FieldType)} {C : String} {T : u_T}
    (hx : p.tables.exec = Jvm.exec) (hb : c.code = cc) (hts : ∀ w ∈ WG, w.before args s = true) (hown : s.vm.findClass own = some m.cls) (hin : ini = true → meth.name = "<init>") (hc : xCls ci) (f2 : vwCl[ci]? = some (C, T, n)) (f3 : k < n) (f5 : Cond.fieldLink own index (T k).1 (T k).2.1 (T k).2.2.1 ∈ WG)
    (hfin : (T k).2.2.2 = false ∨ (ini = true ∧ (T k).1 = own)) (hK : va_K D vwCl tys s) (hA : va_at D vwCl (a, .inr (ci, fs)) H) (hl : k < fs.length) {ty : FieldType} (hd : parseFieldDescriptor (T k).2.2.1 = some ty) (hn : narrow ty v = v) (hfit : fits ty v = true) (hdg : decode cc pc = .ok (.putfield index, 3))
    (kk : ∀ (H' : Heap) (j : Nat), va_at D vwCl (a, .inr (ci, fs.set k v)) H' → H'.size = H.size → (∀ q : Nat, q ≠ a → H'[q]? = H[q]?) → W p l e R s m args below meth c H' (locs ++ [⟨a, j⟩]) kc ks Q (F0 m (pc + 3) lr rest)) : W p l e R s m args below meth c H locs kc ks Q (F0 m pc lr (v :: .ref a :: rest)) := by
  obtain ⟨g1, g2, ty0, g3, -⟩ := hc _ f2
  have hap := va_apart (own := own) hts g1 ty0 g3 g2 hK f2
  obtain ⟨r, h1, cell, q1, q2, q3, q4⟩ := hA
  have hr : r = (C, T, n) := Option.some.inj (h1.symm.trans f2)
  subst hr
  obtain ⟨hS, hfc, kC, hkC, hkind⟩ := hK.1 ci _ f2
  obtain ⟨cf, kf, fi, f, hi, hsl⟩ := hS k f3
  have hlay := hts _ (g1 _ (u_in_lay f3))
  have hst := (u_facts hfc hkC (u_lays hts g1 f3) hi).1
  unfold u_lay at hlay
  rcases hfin with hfin | ⟨hfin, hdecl⟩
  · rw [if_neg (by rw [hfin]; decide)] at hlay
    have h6 := u_store hfc hkC hkind hlay hi hd hn hfit
    refine W.putK hx hb (f := f) ⟨hown, hts _ f5, ⟨_, _, _, hi⟩, hst⟩ (by rw [q2]; exact h6) q1 q3 (by rw [hsl]; exact k2_hasslot (q4 k f3)) rfl rfl hdg fun H' e1 e2 e3 => ?_
    rw [hsl] at e1 ⊢
    exact kk H' _ ⟨_, f2, t_OB.to (V := updV (vp_V fs) k v) ⟨_, e1, q2, q3, t_set q4 hap f3 v⟩ (fun j _ => vp_updV_set hl v j)⟩ e2 e3
  · by_cases hfb : (T k).2.2.2 = true
    · rw [if_pos hfb] at hlay
      have hcf : m.cls = cf := by
        obtain ⟨_, _, c', _, _, _, -, -, hf', -, -, -, hown2, -⟩ := Cond.laysFinal_spec hlay
        have e1 : c' = cf := by have := hi.symm.trans hf'; simp at this; exact this.1.symm
        rw [hdecl] at hown2
        rw [← e1]; exact Option.some.inj (hown.symm.trans hown2)
      have h6 := u_fits hfc hkC hkind (Or.inr hlay) hi hd hn hfit
      refine W.putFinK hx hb hown (hts _ f5) hi hst hcf (hin hfin) (by rw [q2]; exact h6) q1 q3 (by rw [hsl]; exact k2_hasslot (q4 k f3)) rfl rfl hdg fun H' e1 e2 e3 => ?_
      rw [hsl] at e1 ⊢
      exact kk H' _ ⟨_, f2, t_OB.to (V := updV (vp_V fs) k v) ⟨_, e1, q2, q3, t_set q4 hap f3 v⟩ (fun j _ => vp_updV_set hl v j)⟩ e2 e3
    · rw [if_neg hfb] at hlay
      have h6 := u_store hfc hkC hkind hlay hi hd hn hfit
      refine W.putK hx hb (f := f) ⟨hown, hts _ f5, ⟨_, _, _, hi⟩, hst⟩ (by rw [q2]; exact h6) q1 q3 (by rw [hsl]; exact k2_hasslot (q4 k f3)) rfl rfl hdg fun H' e1 e2 e3 => ?_
      rw [hsl] at e1 ⊢
      exact kk H' _ ⟨_, f2, t_OB.to (V := updV (vp_V fs) k v) ⟨_, e1, q2, q3, t_set q4 hap f3 v⟩ (fun j _ => vp_updV_set hl v j)⟩ e2 e3
theorem xfs_set {h h' : xM} {a ci n k : Nat} {v : Value} (hk : k < n) (hv : xfv h' a ci k = v) (ho : ∀ j, j ≠ k → xfv h' a ci j = xfv h a ci j) : ((List.range n).map (xfv h a ci)).set k v = (List.range n).map (xfv h' a ci) := by
  apply List.ext_getElem?
  intro j
  rw [List.getElem?_set]
  by_cases e : k = j
  · subst e
    simp [hk, hv]
  · rw [if_neg e]
    by_cases hj : j < n
    · simp [List.getElem?_map, List.getElem?_range hj, ho j (fun q => e q.symm)]
    · rw [List.getElem?_eq_none (by simp; omega), List.getElem?_eq_none (by simp; omega)]
/-- may this field be written here -/
def xMay (own : String) (ini : Bool) (ci k : Nat) : Prop := ∃ q : vw_C, vwCl[ci]? = some q ∧ ((q.2.1 k).2.2.2 = false ∨ (ini = true ∧ (q.2.1 k).1 = own))
theorem X.putI {index ci n k a kd : Nat} {x : Int} (f : xFld own index ci n k kd) (hc : xCls ci) (hm : xMay own ini ci k) (hd : decode cc pc = .ok (.putfield index, 3)) (hkd : kd = 0 ∨ (kd = 3 ∧ (x = 0 ∨ x = 1))) (hx0 : inR x) (ha : mT h a = some (ci, n)) (hp : pc + 3 = pc') (kk : X Ω own cc nL ret ini R PR PX kc ks pc' ls st (sI h a k x)) : X Ω own cc nL ret ini R PR PX kc ks pc ls (vi x :: rf a :: st) h := by
  intro p e s m args below meth c H locs lr cx wd hS r hl
  obtain ⟨hx, hb, hr, hml, hown, hlocks, hts, hin, hexc⟩ := id cx
  subst hp
  obtain ⟨f1, C, T, f2, f3, f4, f5⟩ := f
  obtain ⟨q, q1, q2⟩ := hm
  cases f2.symm.trans q1
  obtain ⟨g1, g2, ty, g3, g4⟩ := id (hc _ f2)
  have hA := (r.2.2 a ci n ha)
  rw [xE_obj f1] at hA
  have hty : narrow (ty k) (.int (Int32.ofInt x)) = .int (Int32.ofInt x) ∧ fits (ty k) (.int (Int32.ofInt x)) = true := by
    rcases hkd with e | ⟨e, e2⟩
    · rw [(g4 k f3).1 (f4.trans e)]
      exact ⟨rfl, rfl⟩
    · rw [(g4 k f3).2.2.2.1 (f4.trans e)]
      rcases e2 with rfl | rfl <;> exact ⟨by decide, by decide⟩
  refine xPutW hx hb hts hown hin hc f2 f3 f5 q2 wd.1 hA.2 (by simp [f3]) (g3 k f3) hty.1 hty.2 hd (fun H' j a1 a2 a3 => ?_)
  refine kk p e s m args below meth c H' _ lr cx wd (hS.put a2 a3 hA.1) (xRel_upd r a2 a3 rfl rfl (fun b hb => ?_) (fun _ _ => rfl) (fun _ _ => rfl) (fun j => ?_) (fun t n2 ht => ?_)) hl
  · funext j
    rw [mI_sI, if_neg (fun q => hb q.1)]
  · rw [mI_sI]
    split
    · exact hx0
    · exact r.2.1 _ _
  · rw [ha] at ht
    cases ht
    rw [xE_obj f1]
    have hkd2 : xft ci k ≠ 1 ∧ xft ci k ≠ 2 := by rw [f4]; rcases hkd with e | ⟨e, -⟩ <;> rw [e] <;> decide
    rw [xfs_set (h' := sI h a k x) f3 (by simp [xfv, hkd2.1, hkd2.2, mI_sI]; rfl) (fun j hj => by
      have : ¬ ((j : Int) = (k : Int)) := by omega
      simp [xfv, mI_sI, mL_sI, mR_sI, this])] at a1
    exact a1
theorem xrf_cat (x : Option Nat) : (va_rf x).category = 1 := by cases x <;> rfl
theorem xrf_fit {ty : FieldType} {x : Option Nat} (h : (∃ C, ty = .object C) ∨ ∃ t, ty = .array t) : narrow ty (va_rf x) = va_rf x ∧ fits ty (va_rf x) = true := by
  rcases h with ⟨C, rfl⟩ | ⟨t, rfl⟩ <;> cases x <;> exact ⟨rfl, rfl⟩
theorem X.putR {index ci n k a : Nat} {x : Option Nat} (f : xFld own index ci n k 2) (hc : xCls ci) (hm : xMay own ini ci k) (hd : decode cc pc = .ok (.putfield index, 3)) (ha : mT h a = some (ci, n)) (hp : pc + 3 = pc') (kk : X Ω own cc nL ret ini R PR PX kc ks pc' ls st (sR h a k x)) : X Ω own cc nL ret ini R PR PX kc ks pc ls (vr x :: rf a :: st) h := by
  intro p e s m args below meth c H locs lr cx wd hS r hl
  obtain ⟨hx, hb, hr, hml, hown, hlocks, hts, hin, hexc⟩ := id cx
  subst hp
  obtain ⟨f1, C, T, f2, f3, f4, f5⟩ := f
  obtain ⟨q, q1, q2⟩ := hm
  cases f2.symm.trans q1
  obtain ⟨g1, g2, ty, g3, g4⟩ := id (hc _ f2)
  have hA := (r.2.2 a ci n ha)
  rw [xE_obj f1] at hA
  have hty := xrf_fit (x := x) ((g4 k f3).2.2.1 f4)
  refine xPutW hx hb hts hown hin hc f2 f3 f5 q2 wd.1 hA.2 (by simp [f3]) (g3 k f3) hty.1 hty.2 hd (fun H' j a1 a2 a3 => ?_)
  refine kk p e s m args below meth c H' _ lr cx wd (hS.put a2 a3 hA.1) (xRel_upd r a2 a3 rfl rfl (fun _ _ => rfl) (fun b hb => ?_) (fun _ _ => rfl) (fun j => r.2.1 _ _) (fun t n2 ht => ?_)) hl
  · funext j
    rw [mR_sR, if_neg (fun q => hb q.1)]
  · rw [ha] at ht
    cases ht
    rw [xE_obj f1]
    have a1 : va_at Ω.2.1 vwCl (a, .inr (ci, ((List.range n).map (xfv h a ci)).set k (va_rf x))) H' := a1
    rw [xfs_set (h' := sR h a k x) f3 (v := va_rf x) (by simp [xfv, f4, mR_sR]) (fun j hj => by
      have : ¬ ((j : Int) = (k : Int)) := by omega
      simp [xfv, mI_sR, mL_sR, mR_sR, this])] at a1
    exact a1
theorem X.putL {index ci n k a : Nat} {x : Int64} (f : xFld own index ci n k 1) (hc : xCls ci) (hm : xMay own ini ci k) (hd : decode cc pc = .ok (.putfield index, 3)) (ha : mT h a = some (ci, n)) (hp : pc + 3 = pc') (kk : X Ω own cc nL ret ini R PR PX kc ks pc' ls st (sL h a k x)) : X Ω own cc nL ret ini R PR PX kc ks pc ls (vl x :: rf a :: st) h := by
  intro p e s m args below meth c H locs lr cx wd hS r hl
  obtain ⟨hx, hb, hr, hml, hown, hlocks, hts, hin, hexc⟩ := id cx
  subst hp
  obtain ⟨f1, C, T, f2, f3, f4, f5⟩ := f
  obtain ⟨q, q1, q2⟩ := hm
  cases f2.symm.trans q1
  obtain ⟨g1, g2, ty, g3, g4⟩ := id (hc _ f2)
  have hA := (r.2.2 a ci n ha)
  rw [xE_obj f1] at hA
  have hty : narrow (ty k) (.long x) = .long x ∧ fits (ty k) (.long x) = true := by
    rw [(g4 k f3).2.1 f4]
    exact ⟨rfl, rfl⟩
  refine xPutW hx hb hts hown hin hc f2 f3 f5 q2 wd.1 hA.2 (by simp [f3]) (g3 k f3) hty.1 hty.2 hd (fun H' j a1 a2 a3 => ?_)
  refine kk p e s m args below meth c H' _ lr cx wd (hS.put a2 a3 hA.1) (xRel_upd r a2 a3 rfl rfl (fun _ _ => rfl) (fun _ _ => rfl) (fun b hb => ?_) (fun j => r.2.1 _ _) (fun t n2 ht => ?_)) hl
  · funext j
    rw [mL_sL, if_neg (fun q => hb q.1)]
  · rw [ha] at ht
    cases ht
    rw [xE_obj f1]
    have a1 : va_at Ω.2.1 vwCl (a, .inr (ci, ((List.range n).map (xfv h a ci)).set k (.long x))) H' := a1
    rw [xfs_set (h' := sL h a k x) f3 (v := .long x) (by simp [xfv, f4, mL_sL]) (fun j hj => by
      have : ¬ ((j : Int) = (k : Int)) := by omega
      simp [xfv, mI_sL, mL_sL, mR_sL, this])] at a1
    exact a1

end XR
