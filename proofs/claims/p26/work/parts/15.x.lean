/-! ===== X: names for values, memories; less known of the locals ===== -/
section XR6
variable {Ω : xO} {own : String} {cc : ByteArray} {nL : Nat} {ret : Option FieldType} {ini : Bool} {R : Room} {PR : Option xV → xM → Prop} {PX : String → xM → Prop} {kc ks pc pc' : Nat} {ls : List (Option xV)} {st : List xV} {h : xM}
theorem X.gen {x : Int} (k : ∀ z, z = x → X Ω own cc nL ret ini R PR PX kc ks pc ls (vi z :: st) h) : X Ω own cc nL ret ini R PR PX kc ks pc ls (vi x :: st) h := k x rfl
theorem X.genH (k : ∀ z, z = h → X Ω own cc nL ret ini R PR PX kc ks pc ls st z) : X Ω own cc nL ret ini R PR PX kc ks pc ls st h := k h rfl
def xmask : List Bool → List (Option xV) → List (Option xV)
  | b :: bs, l :: ls => (match b with | true => l | false => none) :: xmask bs ls
  | _, _ => []
theorem xmask_at : ∀ (bs : List Bool) (ls : List (Option xV)) (k : Nat) (v : xV), (xmask bs ls)[k]? = some (some v) → ls[k]? = some (some v)
  | [], _, k, v, h => by simp [xmask] at h
  | b :: bs, [], k, v, h => by simp [xmask] at h
  | b :: bs, l :: ls, 0, v, h => by
    cases b with
    | true => exact h
    | false => cases h
  | b :: bs, l :: ls, k + 1, v, h => by
    have := xmask_at bs ls k v (by simpa [xmask] using h)
    simpa using this
theorem X.mask {bs : List Bool} {ls' : List (Option xV)} (hs : xmask bs ls = ls') (k : X Ω own cc nL ret ini R PR PX kc ks pc ls' st h) : X Ω own cc nL ret ini R PR PX kc ks pc ls st h := by
  intro p e s m args below meth c H locs lr cx wd hS r hl
  subst hs
  exact k p e s m args below meth c H locs lr cx wd hS r ⟨hl.1, hl.2.1, fun j v hj => hl.2.2 j v (xmask_at bs ls j v hj)⟩
end XR6
