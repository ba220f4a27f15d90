/-! ===== X: arrays, new cells, calls, ends ===== -/
section XR2
variable {Ω : xO} {own : String} {cc : ByteArray} {nL : Nat} {ret : Option FieldType} {ini : Bool} {R : Room} {PR : Option xV → xM → Prop} {PX : String → xM → Prop} {kc ks pc pc' : Nat} {ls : List (Option xV)} {st : List xV} {h : xM}
theorem xE_10 {cA : Nat → ClassId} {h : xM} {a n : Nat} : xE cA h a 10 n = .inl (cA 0, n, .inl (fun j => Int32.ofInt (mI h a j))) := rfl
theorem xE_11 {cA : Nat → ClassId} {h : xM} {a n : Nat} : xE cA h a 11 n = .inl (cA 1, n, .inl (fun j => Int32.ofInt (mI h a j))) := rfl
theorem xE_12 {cA : Nat → ClassId} {h : xM} {a n : Nat} : xE cA h a 12 n = .inl (cA 2, n, .inr (.inl (fun j => mL h a j))) := rfl
theorem xE_13 {cA : Nat → ClassId} {h : xM} {a n : Nat} : xE cA h a 13 n = .inl (cA 3, n, .inr (.inr (.inr (.inr (fun j => mR h a j))))) := rfl
theorem xE_14 {cA : Nat → ClassId} {h : xM} {a n : Nat} : xE cA h a 14 n = .inl (cA 4, n, .inr (.inr (.inr (.inr (fun j => mR h a j))))) := rfl
theorem x_toNat {i : Int} (h0 : 0 ≤ i) : ((i.toNat : Nat) : Int) = i := Int.toNat_of_nonneg h0
theorem X.iald {a n : Nat} {i x : Int} (hd : decode cc pc = .ok (.iaload, 1)) (ha : mT h a = some (10, n)) (h0 : 0 ≤ i) (h1 : i < n) (h2 : inR i) (hv : mI h a i = x) (hp : pc + 1 = pc') (kk : inR x → X Ω own cc nL ret ini R PR PX kc ks pc' ls (vi x :: st) h) : X Ω own cc nL ret ini R PR PX kc ks pc ls (vi i :: rf a :: st) h := by
  intro p e s m args below meth c H locs lr cx wd hS r hl
  obtain ⟨hx, hb, hr, hml, hown, hlocks, hts, hin, hexc⟩ := id cx
  subst hp
  subst hv
  have hA := (r.2.2 a 10 n ha).2
  rw [xE_10] at hA
  refine va_iald hx hb wd.1 (xP1 hA) 0 0 rfl rfl (i := Int32.ofInt i) (x_in h2 h0 h1) hd ?_
  have := kk (r.2.1 a i) p e s m args below meth c H locs lr cx wd hS r hl
  rw [x_nat h2, x_toNat h0]
  exact this
theorem X.cald {a n : Nat} {i x : Int} (hd : decode cc pc = .ok (.caload, 1)) (ha : mT h a = some (11, n)) (h0 : 0 ≤ i) (h1 : i < n) (h2 : inR i) (hv : mI h a i = x) (hp : pc + 1 = pc') (kk : inR x → X Ω own cc nL ret ini R PR PX kc ks pc' ls (vi x :: st) h) : X Ω own cc nL ret ini R PR PX kc ks pc ls (vi i :: rf a :: st) h := by
  intro p e s m args below meth c H locs lr cx wd hS r hl
  obtain ⟨hx, hb, hr, hml, hown, hlocks, hts, hin, hexc⟩ := id cx
  subst hp
  subst hv
  have hA := (r.2.2 a 11 n ha).2
  rw [xE_11] at hA
  refine va_cald hx hb wd.1 (xP1 hA) 0 1 rfl rfl (i := Int32.ofInt i) (x_in h2 h0 h1) hd ?_
  have := kk (r.2.1 a i) p e s m args below meth c H locs lr cx wd hS r hl
  rw [x_nat h2, x_toNat h0]
  exact this
theorem xArr {Ω : xO} {s : State} (wd : xWd Ω s) {k : Nat} {q : ClassId × FieldType} (h : (xty Ω.2.2.1)[k]? = some q) : ArrOfT s q.1 q.2 := (wd.1.2 k q h).1
theorem X.aald13 {a n : Nat} {i : Int} {x : Option Nat} (hd : decode cc pc = .ok (.aaload, 1)) (ha : mT h a = some (13, n)) (h0 : 0 ≤ i) (h1 : i < n) (h2 : inR i) (hv : mR h a i = x) (hp : pc + 1 = pc') (kk : X Ω own cc nL ret ini R PR PX kc ks pc' ls (vr x :: st) h) : X Ω own cc nL ret ini R PR PX kc ks pc ls (vi i :: rf a :: st) h := by
  intro p e s m args below meth c H locs lr cx wd hS r hl
  obtain ⟨hx, hb, hr, hml, hown, hlocks, hts, hin, hexc⟩ := id cx
  subst hp
  subst hv
  have hA := (r.2.2 a 13 n ha).2
  rw [xE_13] at hA
  have hlt : i.toNat < n := by omega
  refine W.aald hx hb (a := a) (cell := arrV (Ω.2.2.1 3) n (fun j => va_rf (mR h a j))) (j := Int32.ofInt i) (v := va_rf (mR h a i)) (ty := .array .int) hA (xArr wd (k := 3) rfl n _) rfl (fun q => by cases q) (by rw [arrV_size]; exact x_in h2 h0 h1) ?_ rfl rfl hd (kk p e s m args below meth c H locs lr cx wd hS r hl)
  rw [x_nat h2, arrV_read _ _ hlt, x_toNat h0]
theorem X.aald14 {a n : Nat} {i : Int} {x : Option Nat} (hd : decode cc pc = .ok (.aaload, 1)) (ha : mT h a = some (14, n)) (h0 : 0 ≤ i) (h1 : i < n) (h2 : inR i) (hv : mR h a i = x) (hp : pc + 1 = pc') (kk : X Ω own cc nL ret ini R PR PX kc ks pc' ls (vr x :: st) h) : X Ω own cc nL ret ini R PR PX kc ks pc ls (vi i :: rf a :: st) h := by
  intro p e s m args below meth c H locs lr cx wd hS r hl
  obtain ⟨hx, hb, hr, hml, hown, hlocks, hts, hin, hexc⟩ := id cx
  subst hp
  subst hv
  have hA := (r.2.2 a 14 n ha).2
  rw [xE_14] at hA
  have hlt : i.toNat < n := by omega
  refine W.aald hx hb (a := a) (cell := arrV (Ω.2.2.1 4) n (fun j => va_rf (mR h a j))) (j := Int32.ofInt i) (v := va_rf (mR h a i)) (ty := .object RX0) hA (xArr wd (k := 4) rfl n _) rfl (fun q => by cases q) (by rw [arrV_size]; exact x_in h2 h0 h1) ?_ rfl rfl hd (kk p e s m args below meth c H locs lr cx wd hS r hl)
  rw [x_nat h2, arrV_read _ _ hlt, x_toNat h0]
theorem X.alen {a n t : Nat} (hd : decode cc pc = .ok (.arraylength, 1)) (ha : mT h a = some (t, n)) (ht : t = 10) (hp : pc + 1 = pc') (kk : X Ω own cc nL ret ini R PR PX kc ks pc' ls (vi n :: st) h) : X Ω own cc nL ret ini R PR PX kc ks pc ls (rf a :: st) h := by
  intro p e s m args below meth c H locs lr cx wd hS r hl
  obtain ⟨hx, hb, hr, hml, hown, hlocks, hts, hin, hexc⟩ := id cx
  subst hp
  subst ht
  have hA := (r.2.2 a 10 n ha).2
  rw [xE_10] at hA
  exact va_alen hx hb wd.1 (xP1 hA) 0 0 rfl rfl (v := Int32.ofInt n) rfl hd (kk p e s m args below meth c H locs lr cx wd hS r hl)
theorem X.iast {a n : Nat} {i x : Int} (hd : decode cc pc = .ok (.iastore, 1)) (ha : mT h a = some (10, n)) (h0 : 0 ≤ i) (h1 : i < n) (h2 : inR i) (hx0 : inR x) (hp : pc + 1 = pc') (kk : X Ω own cc nL ret ini R PR PX kc ks pc' ls st (sI h a i x)) : X Ω own cc nL ret ini R PR PX kc ks pc ls (vi x :: vi i :: rf a :: st) h := by
  intro p e s m args below meth c H locs lr cx wd hS r hl
  obtain ⟨hx, hb, hr, hml, hown, hlocks, hts, hin, hexc⟩ := id cx
  subst hp
  have hA := r.2.2 a 10 n ha
  rw [xE_10] at hA
  have hlt : i.toNat < n := by omega
  refine W.iast hx hb (a := a) (cell := arrV (Ω.2.2.1 0) n (fun j => .int (Int32.ofInt (mI h a j)))) (j := Int32.ofInt i) (x := Int32.ofInt x) hA.2 (xArr wd (k := 0) rfl n _) (fun q => by cases q) (by rw [arrV_size]; exact x_in h2 h0 h1) rfl rfl hd (fun H' e1 e2 e3 => ?_)
  refine kk p e s m args below meth c H' _ lr cx wd (hS.put e2 e3 hA.1) (xRel_upd r e2 e3 rfl rfl (fun b hb => ?_) (fun _ _ => rfl) (fun _ _ => rfl) (fun j => ?_) (fun t n2 ht => ?_)) hl
  · funext j
    rw [mI_sI, if_neg (fun q => hb q.1)]
  · rw [mI_sI]
    split
    · exact hx0
    · exact r.2.1 _ _
  · rw [ha] at ht
    cases ht
    rw [xE_10]
    show H'[a]? = some (vp_cell _ _)
    rw [e1, vp_cell_i, arrV_store, x_nat h2]
    congr 2
    funext j
    unfold updV
    rw [mI_sI]
    by_cases e : j = i.toNat
    · rw [if_pos e, if_pos ⟨rfl, by omega⟩]
    · rw [if_neg e, if_neg (fun q => e (by have := q.2; omega))]
theorem X.cast {a n : Nat} {i x : Int} (hd : decode cc pc = .ok (.castore, 1)) (ha : mT h a = some (11, n)) (h0 : 0 ≤ i) (h1 : i < n) (h2 : inR i) (hx0 : 0 ≤ x) (hx1 : x < 65536) (hp : pc + 1 = pc') (kk : X Ω own cc nL ret ini R PR PX kc ks pc' ls st (sI h a i x)) : X Ω own cc nL ret ini R PR PX kc ks pc ls (vi x :: vi i :: rf a :: st) h := by
  intro p e s m args below meth c H locs lr cx wd hS r hl
  obtain ⟨hx, hb, hr, hml, hown, hlocks, hts, hin, hexc⟩ := id cx
  subst hp
  have hA := r.2.2 a 11 n ha
  rw [xE_11] at hA
  have hlt : i.toNat < n := by omega
  have hnar : narrow .char (.int (Int32.ofInt x)) = .int (Int32.ofInt x) := by
    show Value.int ((Int32.ofInt x).toUInt32 % 65536).toInt32 = _
    rw [x_i2c hx0 hx1]
  refine W.cast hx hb (a := a) (cell := arrV (Ω.2.2.1 1) n (fun j => .int (Int32.ofInt (mI h a j)))) (j := Int32.ofInt i) (x := Int32.ofInt x) hA.2 (xArr wd (k := 1) rfl n _) (fun q => by cases q) (by rw [arrV_size]; exact x_in h2 h0 h1) rfl rfl hd (fun H' e1 e2 e3 => ?_)
  rw [hnar] at e1
  refine kk p e s m args below meth c H' _ lr cx wd (hS.put e2 e3 hA.1) (xRel_upd r e2 e3 rfl rfl (fun b hb => ?_) (fun _ _ => rfl) (fun _ _ => rfl) (fun j => ?_) (fun t n2 ht => ?_)) hl
  · funext j
    rw [mI_sI, if_neg (fun q => hb q.1)]
  · rw [mI_sI]
    split
    · exact ⟨by omega, by omega⟩
    · exact r.2.1 _ _
  · rw [ha] at ht
    cases ht
    rw [xE_11]
    show H'[a]? = some (vp_cell _ _)
    rw [e1, vp_cell_i, arrV_store, x_nat h2]
    congr 2
    funext j
    unfold updV
    rw [mI_sI]
    by_cases e : j = i.toNat
    · rw [if_pos e, if_pos ⟨rfl, by omega⟩]
    · rw [if_neg e, if_neg (fun q => e (by have := q.2; omega))]
end XR2
