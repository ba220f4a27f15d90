/-! ===== doubles: shares and their bits ===== -/
def fpN (E t : Nat) : UInt64 := UInt64.ofNat (E * 4503599627370496 + t)
theorem fpN_nat {E t : Nat} (hE : E ≤ 2046) (ht : t < 4503599627370496) : (fpN E t).toNat = E * 4503599627370496 + t := by
  unfold fpN
  exact UInt64.toNat_ofNat_of_lt' (by show _ < 18446744073709551616; omega)
theorem fp_dec {E t : Nat} (h1 : 1 ≤ E) (h2 : E ≤ 2046) (ht : t < 4503599627370496) : FP.Core.decode FP.Core.b64 (E * 4503599627370496 + t) = .fin false (4503599627370496 + t) ((E : Int) - 1075) := by
  have hT : FP.Core.fieldT FP.Core.b64 (E * 4503599627370496 + t) = t := by
    show (E * 4503599627370496 + t) % 4503599627370496 = t
    omega
  have hE : FP.Core.fieldE FP.Core.b64 (E * 4503599627370496 + t) = E := by
    show (E * 4503599627370496 + t) / 4503599627370496 % 2048 = E
    omega
  have hS : FP.Core.fieldS FP.Core.b64 (E * 4503599627370496 + t) = false := by
    show ((E * 4503599627370496 + t) / 4503599627370496 / 2048 % 2 == 1) = false
    have : (E * 4503599627370496 + t) / 4503599627370496 / 2048 % 2 = 0 := by omega
    rw [this]
    rfl
  unfold FP.Core.decode
  rw [hT, hE, hS, if_neg (show ¬ E = FP.Core.b64.exps - 1 by show ¬ E = 2047; omega), if_neg (by omega)]
  rw [show FP.Core.b64.tails = 4503599627370496 from rfl, show FP.Core.b64.qmin = -1074 by decide]
  congr 1
  omega
theorem fp_enc {c : Nat} {q : Int} (h1 : 4503599627370496 ≤ c) : FP.Core.encode FP.Core.b64 (.fin false c q) = ((q + 1074).toNat + 1) * 4503599627370496 + (c - 4503599627370496) := by
  unfold FP.Core.encode
  dsimp only
  rw [show FP.Core.b64.tails = 4503599627370496 from rfl, if_neg (by omega), show FP.Core.b64.qmin = -1074 by decide]
  show (0 * 2048 + ((q - -1074).toNat + 1)) * 4503599627370496 + (c - 4503599627370496) = _
  rw [show q - -1074 = q + 1074 by omega, Nat.zero_mul, Nat.zero_add]
theorem fp_set {c : Nat} {q : Int} (h2 : c < 9007199254740992) (hq : q ≤ 971) : FP.Core.settle FP.Core.b64 false c q = .fin false c q := by
  unfold FP.Core.settle
  rw [if_pos (show c < 2 ^ FP.Core.b64.p by show c < 9007199254740992; exact h2)]
  unfold FP.Core.bound
  rw [if_pos (show q ≤ FP.Core.b64.qmax by rw [show FP.Core.b64.qmax = 971 by decide]; exact hq)]
theorem fp_set2 {q : Int} (hq : q + 1 ≤ 971) : FP.Core.settle FP.Core.b64 false 9007199254740992 q = .fin false 4503599627370496 (q + 1) := by
  unfold FP.Core.settle
  rw [if_neg (show ¬ 9007199254740992 < 2 ^ FP.Core.b64.p by show ¬ 9007199254740992 < 9007199254740992; omega)]
  unfold FP.Core.bound
  rw [if_pos (show q + 1 ≤ FP.Core.b64.qmax by rw [show FP.Core.b64.qmax = 971 by decide]; exact hq)]
  rfl
theorem fp_near (c : Nat) {d : Nat} (hd : 0 < d) : FP.Core.nearest (c * d) d = c := by
  unfold FP.Core.nearest
  rw [Nat.mul_mod_left, if_pos (by omega), Nat.mul_div_cancel _ hd]
theorem fp_nearR {a d lo hi : Nat} (hd : 0 < d) (h1 : lo * d ≤ a) (h2 : a < hi * d) : lo ≤ FP.Core.nearest a d ∧ FP.Core.nearest a d ≤ hi := by
  have g1 := (Nat.le_div_iff_mul_le hd).mpr h1
  have g2 := (Nat.div_lt_iff_lt_mul hd).mpr h2
  unfold FP.Core.nearest
  generalize a / d = x at *
  generalize a % d = y at *
  split
  · omega
  · split
    · omega
    · omega
theorem fp_exact {c j : Nat} {e : Int} (h1 : 4503599627370496 ≤ c) (h2 : c < 9007199254740992) (he : -1074 ≤ e + j) (he2 : e + j ≤ 971) : FP.Core.roundRatio FP.Core.b64 false (c * 2 ^ j) 1 e = .fin false c (e + j) := by
  have hp : 0 < 2 ^ j := Nat.two_pow_pos j
  have h0 : c * 2 ^ j ≠ 0 := by
    have := Nat.mul_pos (show 0 < c by omega) hp
    omega
  have hlog : (c * 2 ^ j).log2 = 52 + j := by
    rw [Nat.log2_eq_iff h0]
    refine ⟨?_, ?_⟩
    · rw [Nat.pow_add]
      exact Nat.mul_le_mul_right _ h1
    · rw [show 52 + j + 1 = 53 + j by omega, Nat.pow_add]
      exact Nat.mul_lt_mul_of_pos_right h2 hp
  have hl : FP.Core.leading (c * 2 ^ j) 1 = 52 + j := by
    unfold FP.Core.leading
    rw [hlog, show Nat.log2 1 = 0 by decide]
    dsimp only
    rw [show (((52 + j : Nat) : Int) - ((0 : Nat) : Int)).toNat = 52 + j by omega, show (-(((52 + j : Nat) : Int) - ((0 : Nat) : Int))).toNat = 0 by omega, if_pos ?_]
    · omega
    · rw [Nat.one_mul, Nat.pow_zero, Nat.mul_one, Nat.pow_add]
      exact Nat.mul_le_mul_right _ h1
  have hq : FP.Core.quantum FP.Core.b64 (c * 2 ^ j) 1 e = e + j := by
    unfold FP.Core.quantum
    rw [hl, show FP.Core.b64.qmin = -1074 by decide, show ((FP.Core.b64.p : Int) - 1) = 52 by decide]
    omega
  unfold FP.Core.roundRatio
  rw [if_neg h0, hq]
  unfold FP.Core.roundAt FP.Core.unitsNum FP.Core.unitsDen
  rw [show (e - (e + j)).toNat = 0 by omega, show (e + j - e).toNat = j by omega, Nat.pow_zero, Nat.mul_one, Nat.one_mul, fp_near c hp]
  exact fp_set h2 he2
theorem fp_exact2 {t j : Nat} {e : Int} (h1 : 4503599627370496 ≤ t * 2 ^ j) (h2 : t * 2 ^ j < 9007199254740992) (hj : j ≤ 52) (he : -1074 ≤ e - j) (he2 : e - j ≤ 971) : FP.Core.roundRatio FP.Core.b64 false t 1 e = .fin false (t * 2 ^ j) (e - j) := by
  have hp : 0 < 2 ^ j := Nat.two_pow_pos j
  have h0 : t ≠ 0 := by
    intro z
    rw [z, Nat.zero_mul] at h1
    omega
  have hb1 : 2 ^ (52 - j) ≤ t := by
    refine Nat.le_of_mul_le_mul_right (c := 2 ^ j) ?_ hp
    rw [← Nat.pow_add, show 52 - j + j = 52 by omega]
    exact h1
  have hb2 : t < 2 ^ (52 - j + 1) := by
    refine Nat.lt_of_mul_lt_mul_right (a := 2 ^ j) ?_
    rw [← Nat.pow_add, show 52 - j + 1 + j = 53 by omega]
    exact h2
  have hlog : t.log2 = 52 - j := (Nat.log2_eq_iff h0).mpr ⟨hb1, hb2⟩
  have hl : FP.Core.leading t 1 = 52 - j := by
    unfold FP.Core.leading
    rw [hlog, show Nat.log2 1 = 0 by decide]
    dsimp only
    rw [show (((52 - j : Nat) : Int) - ((0 : Nat) : Int)).toNat = 52 - j by omega, show (-(((52 - j : Nat) : Int) - ((0 : Nat) : Int))).toNat = 0 by omega, if_pos ?_]
    · omega
    · rw [Nat.one_mul, Nat.pow_zero, Nat.mul_one]
      exact hb1
  have hq : FP.Core.quantum FP.Core.b64 t 1 e = e - j := by
    unfold FP.Core.quantum
    rw [hl, show FP.Core.b64.qmin = -1074 by decide, show ((FP.Core.b64.p : Int) - 1) = 52 by decide]
    omega
  unfold FP.Core.roundRatio
  rw [if_neg h0, hq]
  unfold FP.Core.roundAt FP.Core.unitsNum FP.Core.unitsDen
  have hn := fp_near (t * 2 ^ j) (d := 1) (by decide)
  rw [Nat.mul_one] at hn
  rw [show (e - (e - j)).toNat = j by omega, show (e - j - e).toNat = 0 by omega, Nat.pow_zero, Nat.mul_one, hn]
  exact fp_set h2 he2
/-- a quotient of numbers below each other -/
theorem fp_quo {c d : Nat} {e : Int} (hc : 4503599627370496 ≤ c ∧ c < 9007199254740992) (hd : 4503599627370496 ≤ d ∧ d < 9007199254740992) (he : -900 ≤ e) (he0 : e ≤ 0) (hle : e = 0 → c ≤ d) : ∃ E t : Nat, 1 ≤ E ∧ E ≤ 1023 ∧ t < 4503599627370496 ∧ FP.Core.encode FP.Core.b64 (FP.Core.roundRatio FP.Core.b64 false c d e) = E * 4503599627370496 + t := by
  have hlc : c.log2 = 52 := (Nat.log2_eq_iff (by omega)).mpr hc
  have hld : d.log2 = 52 := (Nat.log2_eq_iff (by omega)).mpr hd
  have key : ∀ (C : Nat) (q : Int), 4503599627370496 ≤ C → C ≤ 9007199254740992 → -1000 ≤ q → (q ≤ -53 ∨ (q = -52 ∧ C < 9007199254740992)) → ∃ E t : Nat, 1 ≤ E ∧ E ≤ 1023 ∧ t < 4503599627370496 ∧ FP.Core.encode FP.Core.b64 (FP.Core.settle FP.Core.b64 false C q) = E * 4503599627370496 + t := by
    intro C q g1 g2 g3 g4
    by_cases g5 : C < 9007199254740992
    · rw [fp_set g5 (by omega), fp_enc g1]
      exact ⟨(q + 1074).toNat + 1, C - 4503599627370496, by omega, by omega, by omega, rfl⟩
    · have g6 : C = 9007199254740992 := by omega
      rw [g6, fp_set2 (by omega), fp_enc (Nat.le_refl _)]
      exact ⟨(q + 1 + 1074).toNat + 1, 0, by omega, by omega, by omega, rfl⟩
  by_cases hcd : d ≤ c
  · have hl : FP.Core.leading c d = 0 := by
      unfold FP.Core.leading
      rw [hlc, hld]
      dsimp only
      rw [show (((52 : Nat) : Int) - ((52 : Nat) : Int)).toNat = 0 by decide, show (-(((52 : Nat) : Int) - ((52 : Nat) : Int))).toNat = 0 by decide, if_pos (by rw [Nat.pow_zero]; omega)]
      decide
    have hq : FP.Core.quantum FP.Core.b64 c d e = e - 52 := by
      unfold FP.Core.quantum
      rw [hl, show FP.Core.b64.qmin = -1074 by decide, show ((FP.Core.b64.p : Int) - 1) = 52 by decide]
      omega
    unfold FP.Core.roundRatio
    rw [if_neg (by omega), hq]
    unfold FP.Core.roundAt FP.Core.unitsNum FP.Core.unitsDen
    rw [show (e - (e - 52)).toNat = 52 by omega, show (e - 52 - e).toNat = 0 by omega, Nat.pow_zero, Nat.mul_one, show (2 : Nat) ^ 52 = 4503599627370496 from rfl]
    obtain ⟨n1, n2⟩ := fp_nearR (a := c * 4503599627370496) (d := d) (lo := 4503599627370496) (hi := 9007199254740992) (by omega) (by omega) (by omega)
    refine key _ _ n1 n2 (by omega) ?_
    by_cases z : e = 0
    · have z2 : c = d := by have := hle z; omega
      refine Or.inr ⟨by omega, ?_⟩
      rw [z2, Nat.mul_comm, fp_near _ (by omega)]
      decide
    · exact Or.inl (by omega)
  · have hl : FP.Core.leading c d = -1 := by
      unfold FP.Core.leading
      rw [hlc, hld]
      dsimp only
      rw [show (((52 : Nat) : Int) - ((52 : Nat) : Int)).toNat = 0 by decide, show (-(((52 : Nat) : Int) - ((52 : Nat) : Int))).toNat = 0 by decide, if_neg (by rw [Nat.pow_zero]; omega)]
      decide
    have hq : FP.Core.quantum FP.Core.b64 c d e = e - 53 := by
      unfold FP.Core.quantum
      rw [hl, show FP.Core.b64.qmin = -1074 by decide, show ((FP.Core.b64.p : Int) - 1) = 52 by decide]
      omega
    unfold FP.Core.roundRatio
    rw [if_neg (by omega), hq]
    unfold FP.Core.roundAt FP.Core.unitsNum FP.Core.unitsDen
    rw [show (e - (e - 53)).toNat = 53 by omega, show (e - 53 - e).toNat = 0 by omega, Nat.pow_zero, Nat.mul_one, show (2 : Nat) ^ 53 = 9007199254740992 from rfl]
    obtain ⟨n1, n2⟩ := fp_nearR (a := c * 9007199254740992) (d := d) (lo := 4503599627370496) (hi := 9007199254740992) (by omega) (by omega) (by omega)
    exact key _ _ n1 n2 (by omega) (Or.inl (by omega))
theorem fp_i2d {x : Nat} (h0 : 0 < x) (h1 : x < 4000) : (4503599627370496 ≤ x * 2 ^ (52 - x.log2) ∧ x * 2 ^ (52 - x.log2) < 9007199254740992) ∧ x.log2 ≤ 11 ∧ FP.Core.decode FP.Core.b64 (FP.i2d (Int32.ofInt (x : Int))).toNat = .fin false (x * 2 ^ (52 - x.log2)) ((x.log2 : Int) - 52) := by
  have hl : x.log2 ≤ 11 := by
    have := (Nat.log2_lt (n := x) (k := 12) (by omega)).mpr (by show x < 4096; omega)
    omega
  have b1 := Nat.log2_self_le (n := x) (by omega)
  have b2 := Nat.lt_log2_self (n := x)
  have hp : 0 < 2 ^ (52 - x.log2) := Nat.two_pow_pos _
  have c1 : 4503599627370496 ≤ x * 2 ^ (52 - x.log2) := by
    have z := Nat.mul_le_mul_right (2 ^ (52 - x.log2)) b1
    rw [← Nat.pow_add, show x.log2 + (52 - x.log2) = 52 by omega] at z
    exact z
  have c2 : x * 2 ^ (52 - x.log2) < 9007199254740992 := by
    have z := Nat.mul_lt_mul_of_pos_right b2 hp
    rw [← Nat.pow_add, show x.log2 + 1 + (52 - x.log2) = 53 by omega] at z
    exact z
  refine ⟨⟨c1, c2⟩, hl, ?_⟩
  have hr : FP.Core.fromInt FP.Core.b64 (x : Int) = (1023 + x.log2) * 4503599627370496 + (x * 2 ^ (52 - x.log2) - 4503599627370496) := by
    unfold FP.Core.fromInt FP.Core.ofInt
    rw [show decide ((x : Int) < 0) = false from decide_eq_false (by omega), show (x : Int).natAbs = x from Int.natAbs_natCast x]
    unfold FP.Core.round
    dsimp only
    rw [fp_exact2 (j := 52 - x.log2) c1 c2 (by omega) (by omega) (by omega), fp_enc c1]
    congr 2
    omega
  have hn : (FP.i2d (Int32.ofInt (x : Int))).toNat = (1023 + x.log2) * 4503599627370496 + (x * 2 ^ (52 - x.log2) - 4503599627370496) := by
    show (UInt64.ofNat (FP.Core.fromInt FP.Core.b64 (Int32.ofInt (x : Int)).toInt)).toNat = _
    rw [inR_ofInt ⟨by omega, by omega⟩, hr]
    exact fpN_nat (by omega) (by omega)
  rw [hn, fp_dec (by omega) (by omega) (by omega), show 4503599627370496 + (x * 2 ^ (52 - x.log2) - 4503599627370496) = x * 2 ^ (52 - x.log2) by omega, show (((1023 + x.log2 : Nat) : Int) - 1075) = (x.log2 : Int) - 52 by omega]
theorem fp_share {p q : Nat} (hp : 0 < p) (hpq : p ≤ q) (hq : q < 4000) : ∃ E t : Nat, 1 ≤ E ∧ E ≤ 1023 ∧ t < 4503599627370496 ∧ FP.ddiv (FP.i2d (Int32.ofInt (p : Int))) (FP.i2d (Int32.ofInt (q : Int))) = fpN E t := by
  obtain ⟨hc, hlp, hdp⟩ := fp_i2d hp (by omega)
  obtain ⟨hd, hlq, hdq⟩ := fp_i2d (show 0 < q by omega) hq
  have b1 := Nat.log2_self_le (n := p) (by omega)
  have b2 := Nat.lt_log2_self (n := q)
  have hlog : p.log2 ≤ q.log2 := by
    by_cases z : p.log2 ≤ q.log2
    · exact z
    · exfalso
      have := Nat.pow_le_pow_right (n := 2) (by decide) (show q.log2 + 1 ≤ p.log2 by omega)
      omega
  obtain ⟨E, t, h1, h2, h3, h4⟩ := fp_quo (c := p * 2 ^ (52 - p.log2)) (d := q * 2 ^ (52 - q.log2)) (e := (p.log2 : Int) - 52 - ((q.log2 : Int) - 52)) hc hd (by omega) (by omega) (fun z => by
    rw [show p.log2 = q.log2 by omega]
    exact Nat.mul_le_mul_right _ hpq)
  refine ⟨E, t, h1, h2, h3, ?_⟩
  show UInt64.ofNat (FP.Core.encode FP.Core.b64 (FP.Core.quotient FP.Core.b64 (FP.Core.decode FP.Core.b64 (FP.i2d (Int32.ofInt (p : Int))).toNat) (FP.Core.decode FP.Core.b64 (FP.i2d (Int32.ofInt (q : Int))).toNat))) = _
  rw [hdp, hdq]
  unfold FP.Core.quotient
  dsimp only
  rw [if_neg (by omega)]
  unfold fpN
  rw [← h4]
  rfl
theorem fp_share0 {q : Nat} (h0 : 0 < q) (hq : q < 4000) : FP.ddiv (FP.i2d (Int32.ofInt 0)) (FP.i2d (Int32.ofInt (q : Int))) = 0 := by
  obtain ⟨hd, hlq, hdq⟩ := fp_i2d h0 hq
  show UInt64.ofNat (FP.Core.encode FP.Core.b64 (FP.Core.quotient FP.Core.b64 (FP.Core.decode FP.Core.b64 (FP.i2d (Int32.ofInt 0)).toNat) (FP.Core.decode FP.Core.b64 (FP.i2d (Int32.ofInt (q : Int))).toNat))) = _
  rw [hdq, show FP.Core.decode FP.Core.b64 (FP.i2d (Int32.ofInt 0)).toNat = .fin false 0 (-1074) by decide +kernel]
  unfold FP.Core.quotient
  dsimp only
  rw [if_neg (by omega)]
  unfold FP.Core.roundRatio
  rw [if_pos rfl]
  decide +kernel
theorem fp_n64 {x : UInt64} (h : x.toNat ≤ 9218868437227405312) : vf_n64 x := by
  unfold vf_n64
  rw [UInt64.le_iff_toNat_le, UInt64.toNat_and]
  exact Nat.le_trans Nat.and_le_left h
/-- a share, or its scaled one -/
def shOK (s : UInt64) : Prop := s = 0 ∨ ∃ E t : Nat, 1 ≤ E ∧ E ≤ 1023 ∧ t < 4503599627370496 ∧ s = fpN E t
theorem shOK.n64 {s : UInt64} (h : shOK s) : vf_n64 s := by
  rcases h with h | ⟨E, t, h1, h2, h3, h4⟩
  · rw [h]; exact fp_n64 (by decide)
  · rw [h4]; exact fp_n64 (by rw [fpN_nat (by omega) h3]; omega)
theorem shr_ok {A : aS} (hA : aOK A) : shOK (shr A) := by
  have h1 := shN_rng hA
  have h2 := hA.1
  unfold shr
  by_cases e : aB A = 0
  · rw [if_pos e]; exact Or.inl rfl
  · rw [if_neg e]
    have e1 : shN A = ((shN A).toNat : Int) := by omega
    have e2 : 6 * aB A = ((6 * aB A).toNat : Int) := by omega
    by_cases e3 : shN A = 0
    · rw [e3, e2]
      exact Or.inl (fp_share0 (by omega) (by omega))
    · rw [e1, e2]
      exact Or.inr (fp_share (by omega) (by omega) (by omega))
theorem fp_gt0 {E t : Nat} (h1 : 1 ≤ E) (h2 : E ≤ 1023) (h3 : t < 4503599627370496) : Op.cmpValue (FP.dcmp (fpN E t) FP.dconst0) .g = Int32.ofInt 1 := by
  have hx : FP.dcmp (fpN E t) FP.dconst0 = some .gt := by
    show FP.Core.order (FP.Core.decode FP.Core.b64 (fpN E t).toNat) (FP.Core.decode FP.Core.b64 (FP.dconst0).toNat) = _
    rw [fpN_nat (by omega) h3, fp_dec h1 (by omega) h3, show FP.Core.decode FP.Core.b64 (FP.dconst0).toNat = .fin false 0 (-1074) by decide +kernel]
    unfold FP.Core.order
    dsimp only
    rw [show min ((E : Int) - 1075) (-1074) = -1074 by omega]
    refine congrArg some (Int.compare_eq_gt.mpr ?_)
    show ((FP.Core.inUnits 0 (-1074) (-1074) : Nat) : Int) < ((FP.Core.inUnits (4503599627370496 + t) ((E : Int) - 1075) (-1074) : Nat) : Int)
    unfold FP.Core.inUnits
    rw [Nat.zero_mul]
    have := Nat.mul_pos (show 0 < 4503599627370496 + t by omega) (Nat.two_pow_pos ((E : Int) - 1075 - -1074).toNat)
    omega
  rw [hx]
  rfl
theorem fp_cmp1 {E t : Nat} (h1 : 1 ≤ E) (h2 : E ≤ 1023) (h3 : t < 4503599627370496) : ∃ z, Op.cmpValue (FP.dcmp (fpN E t) FP.dconst1) .g = Int32.ofInt z ∧ ((z = -1 ∧ E < 1023) ∨ ((z = 0 ∨ z = 1) ∧ E = 1023)) := by
  have hd : FP.dcmp (fpN E t) FP.dconst1 = some (compare ((4503599627370496 + t : Nat) : Int) ((4503599627370496 * 2 ^ (1023 - E) : Nat) : Int)) := by
    show FP.Core.order (FP.Core.decode FP.Core.b64 (fpN E t).toNat) (FP.Core.decode FP.Core.b64 (FP.dconst1).toNat) = _
    rw [fpN_nat (by omega) h3, fp_dec h1 (by omega) h3, show FP.Core.decode FP.Core.b64 (FP.dconst1).toNat = .fin false 4503599627370496 (-52) by decide +kernel]
    unfold FP.Core.order
    dsimp only
    rw [show min ((E : Int) - 1075) (-52) = (E : Int) - 1075 by omega]
    unfold FP.Core.inUnits
    rw [show ((E : Int) - 1075 - ((E : Int) - 1075)).toNat = 0 by omega, show (-52 - ((E : Int) - 1075)).toNat = 1023 - E by omega, Nat.pow_zero, Nat.mul_one]
    rfl
  rw [hd]
  by_cases e : E = 1023
  · rw [show 1023 - E = 0 by omega, Nat.pow_zero, Nat.mul_one]
    by_cases e2 : t = 0
    · refine ⟨0, ?_, Or.inr ⟨Or.inl rfl, e⟩⟩
      rw [Int.compare_eq_eq.mpr (by omega)]
      rfl
    · refine ⟨1, ?_, Or.inr ⟨Or.inr rfl, e⟩⟩
      rw [Int.compare_eq_gt.mpr (by omega)]
      rfl
  · refine ⟨-1, ?_, Or.inl ⟨rfl, by omega⟩⟩
    have hk : 2 ≤ 2 ^ (1023 - E) := Nat.pow_le_pow_right (n := 2) (i := 1) (by decide) (show 1 ≤ 1023 - E by omega)
    have hk2 := Nat.mul_le_mul_left 4503599627370496 hk
    rw [Int.compare_eq_lt.mpr (by omega)]
    rfl
theorem fp_mul {E t k : Nat} {b : UInt64} {r : Int} (h1 : 1 ≤ E) (h2 : E ≤ 1900) (h3 : t < 4503599627370496) (hb : FP.Core.decode FP.Core.b64 b.toNat = .fin false 4503599627370496 r) (hk : r + 52 = k) (hk2 : k ≤ 60) : FP.dmul (fpN E t) b = fpN (E + k) t := by
  show UInt64.ofNat (FP.Core.encode FP.Core.b64 (FP.Core.round FP.Core.b64 (FP.Core.exactProduct (FP.Core.decode FP.Core.b64 (fpN E t).toNat) (FP.Core.decode FP.Core.b64 b.toNat)))) = _
  rw [fpN_nat (by omega) h3, fp_dec h1 (by omega) h3, hb]
  unfold FP.Core.exactProduct
  dsimp only
  unfold FP.Core.round
  dsimp only
  have h := fp_exact (c := 4503599627370496 + t) (j := 52) (e := (E : Int) - 1075 + r) (by omega) (by omega) (by omega) (by omega)
  rw [show (2 : Nat) ^ 52 = 4503599627370496 from rfl] at h
  rw [show (false != false) = false from rfl, h, fp_enc (by omega)]
  unfold fpN
  exact congrArg UInt64.ofNat (by omega)
theorem fp_dbl {E t : Nat} (h1 : 1 ≤ E) (h2 : E ≤ 1022) (h3 : t < 4503599627370496) : FP.dmul (fpN E t) 4611686018427387904 = fpN (E + 1) t := fp_mul (r := -51) h1 (by omega) h3 (by decide +kernel) (by decide) (by decide)
theorem fp_norm {x : Nat} (h0 : 0 < x) (h1 : x < 4503599627370496) : (4503599627370496 ≤ x * 2 ^ (52 - x.log2) ∧ x * 2 ^ (52 - x.log2) < 9007199254740992) ∧ x.log2 ≤ 51 := by
  have hl : x.log2 ≤ 51 := by
    have := (Nat.log2_lt (n := x) (k := 52) (by omega)).mpr h1
    omega
  have b1 := Nat.log2_self_le (n := x) (by omega)
  have b2 := Nat.lt_log2_self (n := x)
  have hp : 0 < 2 ^ (52 - x.log2) := Nat.two_pow_pos _
  refine ⟨⟨?_, ?_⟩, hl⟩
  · have z := Nat.mul_le_mul_right (2 ^ (52 - x.log2)) b1
    rw [← Nat.pow_add, show x.log2 + (52 - x.log2) = 52 by omega] at z
    exact z
  · have z := Nat.mul_lt_mul_of_pos_right b2 hp
    rw [← Nat.pow_add, show x.log2 + 1 + (52 - x.log2) = 53 by omega] at z
    exact z
theorem fp_sub1 {t : Nat} (h0 : 0 < t) (ht : t < 4503599627370496) : FP.dsub (fpN 1023 t) FP.dconst1 = fpN (971 + t.log2) (t * 2 ^ (52 - t.log2) - 4503599627370496) := by
  obtain ⟨⟨c1, c2⟩, hl⟩ := fp_norm h0 ht
  show UInt64.ofNat (FP.Core.encode FP.Core.b64 (FP.Core.round FP.Core.b64 (FP.Core.exactSum (FP.Core.decode FP.Core.b64 (fpN 1023 t).toNat) (FP.Core.negate (FP.Core.decode FP.Core.b64 (FP.dconst1).toNat))))) = _
  rw [fpN_nat (by omega) ht, fp_dec (by omega) (by omega) ht, show FP.Core.decode FP.Core.b64 (FP.dconst1).toNat = .fin false 4503599627370496 (-52) by decide +kernel, show (((1023 : Nat) : Int) - 1075) = -52 by decide]
  unfold FP.Core.negate
  dsimp only
  unfold FP.Core.exactSum
  dsimp only
  rw [show min (-52 : Int) (-52) = -52 by decide]
  have hu : FP.Core.sumUnits false (4503599627370496 + t) (-52) (!false) 4503599627370496 (-52) (-52) = (t : Int) := by
    unfold FP.Core.sumUnits FP.Core.inUnits
    rw [show ((-52 : Int) - -52).toNat = 0 by decide, Nat.pow_zero, Nat.mul_one, Nat.mul_one]
    show ((4503599627370496 + t : Nat) : Int) + -((4503599627370496 : Nat) : Int) = t
    omega
  have hsg : FP.Core.sumSign false (!false) (t : Int) = false := by
    unfold FP.Core.sumSign
    split
    · rfl
    · exact decide_eq_false (by omega)
  rw [hu, hsg, Int.natAbs_natCast]
  unfold FP.Core.round
  dsimp only
  rw [fp_exact2 (j := 52 - t.log2) c1 c2 (by omega) (by omega) (by omega), fp_enc c1]
  unfold fpN
  exact congrArg UInt64.ofNat (by omega)
theorem fp_end {t : Nat} (ht : t < 4503599627370496) : vf_n64 (FP.dsub (fpN 1023 t) FP.dconst1) ∧ vf_n64 (FP.dmul (FP.dsub (fpN 1023 t) FP.dconst1) 4841369599423283200) ∧ FP.d2l (FP.dmul (FP.dsub (fpN 1023 t) FP.dconst1) 4841369599423283200) = Int64.ofInt (t : Int) := by
  by_cases e : t = 0
  · subst e
    exact ⟨by unfold vf_n64; decide +kernel, by unfold vf_n64; decide +kernel, by decide +kernel⟩
  · obtain ⟨⟨c1, c2⟩, hl⟩ := fp_norm (show 0 < t by omega) ht
    have hp : 0 < 2 ^ (52 - t.log2) := Nat.two_pow_pos _
    have hm : FP.dmul (fpN (971 + t.log2) (t * 2 ^ (52 - t.log2) - 4503599627370496)) 4841369599423283200 = fpN (971 + t.log2 + 52) (t * 2 ^ (52 - t.log2) - 4503599627370496) := fp_mul (r := 0) (by omega) (by omega) (by omega) (by decide +kernel) (by decide) (by decide)
    rw [fp_sub1 (by omega) ht, hm]
    refine ⟨fp_n64 (by rw [fpN_nat (by omega) (by omega)]; omega), fp_n64 (by rw [fpN_nat (by omega) (by omega)]; omega), ?_⟩
    show FP.Core.toL (FP.Core.decode FP.Core.b64 (fpN (971 + t.log2 + 52) (t * 2 ^ (52 - t.log2) - 4503599627370496)).toNat) = _
    rw [fpN_nat (by omega) (by omega), fp_dec (by omega) (by omega) (by omega)]
    unfold FP.Core.toL FP.Core.toInt FP.Core.truncate
    dsimp only
    rw [show (((971 + t.log2 + 52 : Nat) : Int) - 1075).toNat = 0 by omega, show (-(((971 + t.log2 + 52 : Nat) : Int) - 1075)).toNat = 52 - t.log2 by omega, show 4503599627370496 + (t * 2 ^ (52 - t.log2) - 4503599627370496) = t * 2 ^ (52 - t.log2) by omega, Nat.pow_zero, Nat.mul_one, Nat.mul_div_cancel _ hp]
    refine congrArg Int64.ofInt ?_
    show max (-9223372036854775808) (min (9223372036854775808 - 1) (t : Int)) = t
    omega
theorem fp_or {E t : Nat} (hE : E ≤ 1023) (ht : t < 4503599627370496) : (Int64.ofInt (E : Int) <<< (52 : Int64)) ||| Int64.ofInt (t : Int) = (fpN E t).toInt64 := by
  rw [← Int64.toBitVec_inj, Int64.toBitVec_or, Int64.toBitVec_shiftLeft, Int64.toBitVec_ofInt, Int64.toBitVec_ofInt]
  apply BitVec.eq_of_toNat_eq
  rw [BitVec.toNat_or]
  have h1 : (BitVec.ofInt 64 (t : Int)).toNat = t := by
    rw [BitVec.toNat_ofInt]; omega
  have h2 : (BitVec.ofInt 64 (E : Int)).toNat = E := by
    rw [BitVec.toNat_ofInt]; omega
  rw [h1]
  show ((BitVec.ofInt 64 (E : Int)) <<< (52 : Nat)).toNat ||| t = (fpN E t).toNat
  rw [BitVec.toNat_shiftLeft, h2, fpN_nat (by omega) ht, Nat.shiftLeft_eq, Nat.mod_eq_of_lt (by omega), ← Nat.shiftLeft_eq, ← Nat.shiftLeft_add_eq_or_of_lt ht, Nat.shiftLeft_eq]
