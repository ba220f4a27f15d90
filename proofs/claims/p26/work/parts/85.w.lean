theorem wT_44 : Cond.instantiable RX0 12 ∈ lw_tbl := List.mem_of_getElem? (i := 44) (by decide +kernel)
theorem wT_212 : Cond.instantiable RX1 1 ∈ lw_tbl := List.mem_of_getElem? (i := 212) (by decide +kernel)
theorem wT_117 : Cond.instantiable RX2 2 ∈ lw_tbl := List.mem_of_getElem? (i := 117) (by decide +kernel)
theorem wT_107 : Cond.instantiable RX3 1 ∈ lw_tbl := List.mem_of_getElem? (i := 107) (by decide +kernel)
theorem wT_133 : Cond.instantiable RX4 2 ∈ lw_tbl := List.mem_of_getElem? (i := 133) (by decide +kernel)
theorem wT_36 : Cond.instantiable RX5 5 ∈ lw_tbl := List.mem_of_getElem? (i := 36) (by decide +kernel)
theorem wT_105 : Cond.arrayClass .int ∈ lw_tbl := List.mem_of_getElem? (i := 105) (by decide +kernel)
theorem wT_146 : Cond.arrayClass .char ∈ lw_tbl := List.mem_of_getElem? (i := 146) (by decide +kernel)
theorem wT_50 : Cond.arrayOver (.array .int) ∈ lw_tbl := List.mem_of_getElem? (i := 50) (by decide +kernel)
theorem wT_123 : Cond.arrayOver (.object RX0) ∈ lw_tbl := List.mem_of_getElem? (i := 123) (by decide +kernel)
theorem wT_468 : Cond.stringRef RX5 221 "no such seat" ∈ lw_tbl := List.mem_of_getElem? (i := 468) (by decide +kernel)
theorem wT_487 : Cond.stringRef RX5 225 "out of range, or not a complete dialogue" ∈ lw_tbl := List.mem_of_getElem? (i := 487) (by decide +kernel)
theorem wT_563 : Cond.stringRef RX5 57 "no more words, or no more beats" ∈ lw_tbl := List.mem_of_getElem? (i := 563) (by decide +kernel)
theorem wT_542 : Cond.stringRef RX5 73 "the beat would be above the last one" ∈ lw_tbl := List.mem_of_getElem? (i := 542) (by decide +kernel)
theorem wT_526 : Cond.stringRef RX5 88 "no such setting" ∈ lw_tbl := List.mem_of_getElem? (i := 526) (by decide +kernel)
theorem wT_394 : Cond.stringRef RX5 126 "no saved state" ∈ lw_tbl := List.mem_of_getElem? (i := 394) (by decide +kernel)
theorem wT_433 : Cond.stringRef RX5 140 "no snapshot" ∈ lw_tbl := List.mem_of_getElem? (i := 433) (by decide +kernel)
theorem wT_380 : Cond.laysStatic "java/lang/Throwable" "UNASSIGNED_STACK" "[Ljava/lang/StackTraceElement;" ∈ lw_tbl := List.mem_of_getElem? (i := 380) (by decide +kernel)
theorem wT_382 : Cond.laysStatic "java/lang/Throwable" "SUPPRESSED_SENTINEL" "Ljava/util/List;" ∈ lw_tbl := List.mem_of_getElem? (i := 382) (by decide +kernel)
theorem wT_528 : Cond.laysStatic "EchoLine" "LOWEST_VALUE" "[I" ∈ lw_tbl := List.mem_of_getElem? (i := 528) (by decide +kernel)
theorem wT_530 : Cond.laysStatic "EchoLine" "HIGHEST_VALUE" "[I" ∈ lw_tbl := List.mem_of_getElem? (i := 530) (by decide +kernel)
theorem wT_26 : Cond.initialized "java/lang/Throwable" ∈ lw_tbl := List.mem_of_getElem? (i := 26) (by decide +kernel)
theorem wT_21 : Cond.initialized "EchoLine" ∈ lw_tbl := List.mem_of_getElem? (i := 21) (by decide +kernel)
theorem y_over {args : Array Value} {s : State} (h : (Cond.arrayOver (.array .int)).before args s = true) : ∃ comp c k, s.vm.findClass (FieldType.array .int).toString = some comp ∧ s.vm.classes[c]? = some k ∧ k.kind = .array comp (.array .int) ∧ s.vm.findClass ("[" ++ (FieldType.array .int).toString) = some c := by
  have h : (Cond.arrayOver (.array .int)).holds args s none s [] = true := h
  simp only [Cond.holds, Cond.value, beq_iff_eq] at h
  cases hc : s.vm.findClass (FieldType.array .int).toString with
  | none => simp [hc] at h
  | some comp =>
    simp only [hc, Option.bind_some, Option.bind_eq_some_iff, Option.map_eq_some_iff] at h
    obtain ⟨c, hi, k, hk, hb⟩ := h
    obtain ⟨hlt, hp, -⟩ := Array.findIdx?_eq_some_iff_getElem.mp hi
    have hkk : s.vm.classes[c] = k := (Array.getElem?_eq_some_iff.mp hk).2
    rw [hkk] at hp
    cases hkind : k.kind with
    | array component ty =>
      rw [hkind] at hb hp
      simp at hb hp
      exact ⟨comp, c, k, rfl, hk, by rw [hkind, hp, hb.1], hb.2⟩
    | _ => rw [hkind] at hb; simp at hb
theorem y_nw {b : Nat} {s : State} {w : Cond} (g : xnw w = true) (h : w.before #[Value.ref b] s = true) : va_Nw w s := by
  cases w with
  | methodLinkNest a i x q => exact h
  | _ =>
    simp only [xnw, Bool.and_eq_true] at g
    exact va_tabs g.2 rfl h
set_option maxHeartbeats 4000000 in
set_option maxRecDepth 100000 in
theorem y_world {s : State} {b : Nat} (l : Launch) (hflags : l.flags = flags0) (hts : ∀ w ∈ lw_tbl, w.before #[Value.ref b] s = true) (hgv : (Jvm.Cond.and given_1 narrow_1).before #[Value.ref b] s = true) : ∃ Ω : xO, Ω.1 = l ∧ Ω.2.2.2.1 = s.heap ∧ xWd Ω s := by
  have hsg := flat_of_before _ hgv
  have hAt : ∀ a : Nat, a < s.heap.size → ¬ (fun q : Nat => s.heap.size ≤ q) a := fun a h1 h2 => absurd h2 (Nat.not_le.mpr h1)
  have htG : ∀ w ∈ WG, w.before #[Value.ref b] s = true := fun w hw => hts w (List.mem_filter.mp hw).1
  obtain ⟨c0, i0, K0⟩ := u_known (C := RX0) (T := TX0) (N := 12) (n := 12) htG xcw_0 (hts _ wT_44)
  obtain ⟨c1, i1, K1⟩ := u_known (C := RX1) (T := TX1) (N := 1) (n := 1) htG xcw_1 (hts _ wT_212)
  obtain ⟨c2, i2, K2⟩ := u_known (C := RX2) (T := TX2) (N := 2) (n := 2) htG xcw_2 (hts _ wT_117)
  obtain ⟨c3, i3, K3⟩ := u_known (C := RX3) (T := TX3) (N := 1) (n := 1) htG xcw_3 (hts _ wT_107)
  obtain ⟨c4, i4, K4⟩ := u_known (C := RX4) (T := TX4) (N := 2) (n := 2) htG xcw_4 (hts _ wT_133)
  obtain ⟨c5, i5, K5⟩ := u_known (C := RX5) (T := TX5) (N := 5) (n := 5) htG xcw_5 (hts _ wT_36)
  obtain ⟨dC, dI, hKc⟩ : ∃ (dC : Nat → ClassId) (dI : Nat → Nat → Nat), ∀ (k : Nat) (q : vw_C), vwCl[k]? = some q → u_Kn s q.1 q.2.1 q.2.2 (dC k) (dI k) := by
    refine ⟨fun k => match k with | 0 => c0 | 1 => c1 | 2 => c2 | 3 => c3 | 4 => c4 | _ => c5, fun k => match k with | 0 => i0 | 1 => i1 | 2 => i2 | 3 => i3 | 4 => i4 | _ => i5, ?_⟩
    intro k q hq
    match k, hq with
    | 0, hq => cases hq; exact K0
    | 1, hq => cases hq; exact K1
    | 2, hq => cases hq; exact K2
    | 3, hq => cases hq; exact K3
    | 4, hq => cases hq; exact K4
    | 5, hq => cases hq; exact K5
    | k + 6, hq => simp at hq
  obtain ⟨a0, k0, o0, f0, g0, h0⟩ := Cond.arrayClass_spec (hts _ wT_105)
  obtain ⟨a1, k1, o1, f1, g1, h1⟩ := Cond.arrayClass_spec (hts _ wT_146)
  obtain ⟨a2, k2, o2, f2, g2, h2⟩ := Cond.arrayClass_spec (hts _ wT_105)
  obtain ⟨o3, a3, k3, p3, g3, h3, f3⟩ := y_over (hts _ wT_50)
  obtain ⟨o4, a4, k4, p4, -, g4, h4, f4⟩ := Cond.arrayOver_spec (hts _ wT_123)
  have p3' : a0 = o3 := by
    have : s.vm.findClass (FieldType.array .int).toString = some a0 := f0
    rw [this] at p3
    exact Option.some.inj p3
  obtain ⟨t1, et1, Tt1⟩ := va_Tof (args := #[Value.ref b]) (s := s) (tm := (Term.static "EchoLine" "LOWEST_VALUE" "[I")) (ty := .int) (N := 3) (f := xsv 0) (A := fun q => s.heap.size ≤ q) (by decide) (hsg (Cond.arrayOf (Term.static "EchoLine" "LOWEST_VALUE" "[I") .int) (by decide +kernel)) (va_eqt (hsg (Cond.eq (.length (Term.static "EchoLine" "LOWEST_VALUE" "[I")) (.int 3)) (by decide +kernel))) (fun j hj => by
    rcases (show j = 0 ∨ j = 1 ∨ j = 2 by omega) with rfl | rfl | rfl
    · exact va_eqt (hsg (Cond.eq (.elem (Term.static "EchoLine" "LOWEST_VALUE" "[I") (.int 0)) (.int 0)) (by decide +kernel))
    · exact va_eqt (hsg (Cond.eq (.elem (Term.static "EchoLine" "LOWEST_VALUE" "[I") (.int 1)) (.int 0)) (by decide +kernel))
    · exact va_eqt (hsg (Cond.eq (.elem (Term.static "EchoLine" "LOWEST_VALUE" "[I") (.int 2)) (.int 1)) (by decide +kernel))) hAt
  have Zt1 := va_Zof (hts _ wT_528) (hts _ wT_21) et1 hAt
  obtain ⟨t2, et2, Tt2⟩ := va_Tof (args := #[Value.ref b]) (s := s) (tm := (Term.static "EchoLine" "HIGHEST_VALUE" "[I")) (ty := .int) (N := 3) (f := xsv 1) (A := fun q => s.heap.size ≤ q) (by decide) (hsg (Cond.arrayOf (Term.static "EchoLine" "HIGHEST_VALUE" "[I") .int) (by decide +kernel)) (va_eqt (hsg (Cond.eq (.length (Term.static "EchoLine" "HIGHEST_VALUE" "[I")) (.int 3)) (by decide +kernel))) (fun j hj => by
    rcases (show j = 0 ∨ j = 1 ∨ j = 2 by omega) with rfl | rfl | rfl
    · exact va_eqt (hsg (Cond.eq (.elem (Term.static "EchoLine" "HIGHEST_VALUE" "[I") (.int 0)) (.int 5)) (by decide +kernel))
    · exact va_eqt (hsg (Cond.eq (.elem (Term.static "EchoLine" "HIGHEST_VALUE" "[I") (.int 1)) (.int 4)) (by decide +kernel))
    · exact va_eqt (hsg (Cond.eq (.elem (Term.static "EchoLine" "HIGHEST_VALUE" "[I") (.int 2)) (.int 50)) (by decide +kernel))) hAt
  have Zt2 := va_Zof (hts _ wT_530) (hts _ wT_21) et2 hAt
  refine ⟨(l, (dC, dI), (fun k => match k with | 0 => a0 | 1 => a1 | 2 => a2 | 3 => a3 | _ => a4), s.heap, (t1, t2)), rfl, rfl, ⟨hKc, fun k q hq => ?_⟩, ⟨f3, f0, f4⟩, fun w hw => y_nw (List.mem_filter.mp hw).2 (hts w (List.mem_filter.mp hw).1), fun q hq => ?_, ⟨hts _ wT_123, hts _ wT_50⟩, fun i j q1 q2 q3 => ?_, ⟨Nat.le_refl _, fun _ _ => rfl⟩, ⟨vx_Zqof (hts _ wT_380) (hts _ wT_26) (hsg (Cond.isRef (.static "java/lang/Throwable" "UNASSIGNED_STACK" "[Ljava/lang/StackTraceElement;")) (by decide +kernel)) hAt, vx_Zqof (hts _ wT_382) (hts _ wT_26) (hsg (Cond.isRef (.static "java/lang/Throwable" "SUPPRESSED_SENTINEL" "Ljava/util/List;")) (by decide +kernel)) hAt⟩, ⟨Zt1, Tt1⟩, ⟨Zt2, Tt2⟩, ?_⟩
  · match k, hq with
    | 0, hq => cases hq; exact ⟨fun n z => ⟨fun k h => (by cases h), k0, g0, o0, h0⟩, f0⟩
    | 1, hq => cases hq; exact ⟨fun n z => ⟨fun k h => (by cases h), k1, g1, o1, h1⟩, f1⟩
    | 2, hq => cases hq; exact ⟨fun n z => ⟨fun k h => (by cases h), k2, g2, o2, h2⟩, f2⟩
    | 3, hq => cases hq; exact ⟨fun n z => ⟨fun k h => (by cases h), k3, g3, o3, h3⟩, f3⟩
    | 4, hq => cases hq; exact ⟨fun n z => ⟨fun k h => (by cases h), k4, g4, o4, h4⟩, k4, o4, g4, h4, p4, f4⟩
    | k + 5, hq => simp [xty] at hq
  · simp only [xTx, List.mem_cons, List.not_mem_nil, or_false] at hq
    rcases hq with rfl | rfl | rfl | rfl | rfl | rfl | rfl
    · obtain ⟨a, cc, cell, kk, ha, -⟩ := Cond.exactly_spec (hsg (Cond.exactly (.string "EchoLine" 221) "java/lang/String") (by decide +kernel))
      exact ⟨a, vk_R.of (hts _ wT_468) ha⟩
    · obtain ⟨a, cc, cell, kk, ha, -⟩ := Cond.exactly_spec (hsg (Cond.exactly (.string "EchoLine" 225) "java/lang/String") (by decide +kernel))
      exact ⟨a, vk_R.of (hts _ wT_487) ha⟩
    · obtain ⟨a, cc, cell, kk, ha, -⟩ := Cond.exactly_spec (hsg (Cond.exactly (.string "EchoLine" 57) "java/lang/String") (by decide +kernel))
      exact ⟨a, vk_R.of (hts _ wT_563) ha⟩
    · obtain ⟨a, cc, cell, kk, ha, -⟩ := Cond.exactly_spec (hsg (Cond.exactly (.string "EchoLine" 73) "java/lang/String") (by decide +kernel))
      exact ⟨a, vk_R.of (hts _ wT_542) ha⟩
    · obtain ⟨a, cc, cell, kk, ha, -⟩ := Cond.exactly_spec (hsg (Cond.exactly (.string "EchoLine" 88) "java/lang/String") (by decide +kernel))
      exact ⟨a, vk_R.of (hts _ wT_526) ha⟩
    · obtain ⟨a, cc, cell, kk, ha, -⟩ := Cond.exactly_spec (hsg (Cond.exactly (.string "EchoLine" 126) "java/lang/String") (by decide +kernel))
      exact ⟨a, vk_R.of (hts _ wT_394) ha⟩
    · obtain ⟨a, cc, cell, kk, ha, -⟩ := Cond.exactly_spec (hsg (Cond.exactly (.string "EchoLine" 140) "java/lang/String") (by decide +kernel))
      exact ⟨a, vk_R.of (hts _ wT_433) ha⟩
  · rcases (show (i = 0 ∨ i = 1 ∨ i = 2) by omega) with rfl | rfl | rfl <;> rcases (show (j = 0 ∨ j = 1 ∨ j = 2) by omega) with rfl | rfl | rfl
    · exact absurd rfl q3
    · exact va_Nc.of (hsg (Cond.not (.castable "java/lang/IndexOutOfBoundsException" "java/lang/IllegalArgumentException")) (by decide +kernel))
    · exact va_Nc.of (hsg (Cond.not (.castable "java/lang/IndexOutOfBoundsException" "java/lang/IllegalStateException")) (by decide +kernel))
    · exact va_Nc.of (hsg (Cond.not (.castable "java/lang/IllegalArgumentException" "java/lang/IndexOutOfBoundsException")) (by decide +kernel))
    · exact absurd rfl q3
    · exact va_Nc.of (hsg (Cond.not (.castable "java/lang/IllegalArgumentException" "java/lang/IllegalStateException")) (by decide +kernel))
    · exact va_Nc.of (hsg (Cond.not (.castable "java/lang/IllegalStateException" "java/lang/IndexOutOfBoundsException")) (by decide +kernel))
    · exact va_Nc.of (hsg (Cond.not (.castable "java/lang/IllegalStateException" "java/lang/IllegalArgumentException")) (by decide +kernel))
    · exact absurd rfl q3
  · show (!l.flags.contains noTraceFlag) = false
    rw [hflags]
    decide +kernel
