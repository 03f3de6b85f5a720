/-! AT THE LAW'S ENTRY: classes, rows of numbers, statics, nest mates -/
set_option maxRecDepth 100000 in
theorem law_K {s : State} {args : Array Value} (hts : ∀ w ∈ lw_tbl, w.before args s = true) : ∃ (D : va_G) (I C T S : ClassId), va_K D vwCl [(I, .int), (C, .char), (T, .object "DishPointer$Target"), (S, .object "DishPointer$State")] s := by
  obtain ⟨c0, i0, k0⟩ := u_known (C := RX0) (T := TX0) (N := 10) (n := 10) hts inX0 (hts (.instantiable RX0 10) (dp_t1 (List.mem_of_getElem? (i := 25) (by decide +kernel))))
  obtain ⟨c1, i1, k1⟩ := u_known (C := RX1) (T := TX1) (N := 2) (n := 2) hts inX1 (hts (.instantiable RX1 2) (dp_t1 (List.mem_of_getElem? (i := 209) (by decide +kernel))))
  obtain ⟨c2, i2, k2⟩ := u_known (C := RX2) (T := TX2) (N := 11) (n := 11) hts inX2 (hts (.instantiable RX2 11) (dp_t1 (List.mem_of_getElem? (i := 19) (by decide +kernel))))
  obtain ⟨c3, i3, k3⟩ := u_known (C := RX3) (T := TX3) (N := 14) (n := 14) hts inX3 (hts (.instantiable RX3 14) (dp_t1 (List.mem_of_getElem? (i := 107) (by decide +kernel))))
  obtain ⟨c4, i4, k4⟩ := u_known (C := RX4) (T := TX4) (N := 6) (n := 6) hts inX4 (hts (.instantiable RX4 6) (dp_t1 (List.mem_of_getElem? (i := 226) (by decide +kernel))))
  obtain ⟨c5, i5, k5⟩ := u_known (C := RX5) (T := TX5) (N := 7) (n := 7) hts inX5 (hts (.instantiable RX5 7) (dp_t1 (List.mem_of_getElem? (i := 73) (by decide +kernel))))
  obtain ⟨c6, i6, k6⟩ := u_known (C := RX6) (T := TX6) (N := 4) (n := 4) hts inX6 (hts (.instantiable RX6 4) (dp_t1 (List.mem_of_getElem? (i := 11) (by decide +kernel))))
  obtain ⟨aI, kI, mI, a1, a2, a3⟩ := Cond.arrayClass_spec (hts (.arrayClass .int) (dp_t1 (List.mem_of_getElem? (i := 69) (by decide +kernel))))
  obtain ⟨aC, kC, mC, b1, b2, b3⟩ := Cond.arrayClass_spec (hts (.arrayClass .char) (dp_t2 (List.mem_of_getElem? (i := 7) (by decide +kernel))))
  obtain ⟨pT, aT, kT, t1, -, t3, t4, t5⟩ := Cond.arrayOver_spec (hts (.arrayOver (.object "DishPointer$Target")) (dp_t1 (List.mem_of_getElem? (i := 71) (by decide +kernel))))
  obtain ⟨pS, aS, kS, s1, -, s3, s4, s5⟩ := Cond.arrayOver_spec (hts (.arrayOver (.object "DishPointer$State")) (dp_t1 (List.mem_of_getElem? (i := 215) (by decide +kernel))))
  refine ⟨(fun k => match k with | 0 => c0 | 1 => c1 | 2 => c2 | 3 => c3 | 4 => c4 | 5 => c5 | _ => c6, fun k => match k with | 0 => i0 | 1 => i1 | 2 => i2 | 3 => i3 | 4 => i4 | 5 => i5 | _ => i6), aI, aC, aT, aS, fun k q hq => ?_, fun k q hq => ?_⟩
  · match k, hq with
    | 0, hq => cases hq; exact k0
    | 1, hq => cases hq; exact k1
    | 2, hq => cases hq; exact k2
    | 3, hq => cases hq; exact k3
    | 4, hq => cases hq; exact k4
    | 5, hq => cases hq; exact k5
    | 6, hq => cases hq; exact k6
    | n + 7, hq => simp [vwCl] at hq
  · match k, hq with
    | 0, hq => cases hq; exact ⟨fun n z => ⟨fun k h => (by cases h), kI, a2, mI, a3⟩, a1⟩
    | 1, hq => cases hq; exact ⟨fun n z => ⟨fun k h => (by cases h), kC, b2, mC, b3⟩, b1⟩
    | 2, hq => cases hq; exact ⟨fun n z => ⟨fun k h => (by cases h), kT, t3, pT, t4⟩, kT, pT, t3, t4, t1, t5⟩
    | 3, hq => cases hq; exact ⟨fun n z => ⟨fun k h => (by cases h), kS, s3, pS, s4⟩, kS, pS, s3, s4, s1, s5⟩
    | n + 4, hq => simp at hq
set_option maxRecDepth 100000 in
theorem law_X {s : State} {args : Array Value} (hts : ∀ w ∈ lw_tbl, w.before args s = true) : nw_X s := ⟨va_AO.of (hts _ (dp_t1 (List.mem_of_getElem? (i := 71) (by decide +kernel)))), va_AO.of (hts _ (dp_t1 (List.mem_of_getElem? (i := 215) (by decide +kernel)))), va_Nw.of rfl (hts _ (dp_t1 (List.mem_of_getElem? (i := 227) (by decide +kernel)))), va_Nw.of rfl (hts _ (dp_t1 (List.mem_of_getElem? (i := 74) (by decide +kernel)))), va_Nw.of rfl (hts _ (dp_t1 (List.mem_of_getElem? (i := 108) (by decide +kernel))))⟩
set_option maxRecDepth 100000 in
theorem law_dp_sm {s : State} {args : Array Value} {A : Nat → Prop} (hts : ∀ w ∈ lw_tbl, w.before args s = true) (hgv : (Jvm.Cond.and given_1 narrow_1).before args s = true) (hA : ∀ a : Nat, a < s.heap.size → ¬ A a) : ∃ t, dp_Z1 A "SETTING_MOST" "[I" .int t 4 dp_sm s s.heap := by
  have hs := flat_of_before _ hgv
  have e0 : (Cond.eq (.elem (.static "DishPointer" "SETTING_MOST" "[I") (.int 0)) (.int 500)).before args s = true := hs _ (by decide +kernel)
  have e1 : (Cond.eq (.elem (.static "DishPointer" "SETTING_MOST" "[I") (.int 1)) (.int 27000)).before args s = true := hs _ (by decide +kernel)
  have e2 : (Cond.eq (.elem (.static "DishPointer" "SETTING_MOST" "[I") (.int 2)) (.int 100)).before args s = true := hs _ (by decide +kernel)
  have e3 : (Cond.eq (.elem (.static "DishPointer" "SETTING_MOST" "[I") (.int 3)) (.int 100)).before args s = true := hs _ (by decide +kernel)
  have eL : (Cond.eq (.length (.static "DishPointer" "SETTING_MOST" "[I")) (.int 4)).before args s = true := hs _ (by decide +kernel)
  have eA : (Cond.arrayOf (.static "DishPointer" "SETTING_MOST" "[I") .int).before args s = true := hs _ (by decide +kernel)
  obtain ⟨t, ht, hT⟩ := va_Tof (tm := (.static "DishPointer" "SETTING_MOST" "[I")) (ty := .int) (N := 4) (f := fun j => .int (dp_I (dp_sm j))) (A := A) (by decide) eA (va_eqt eL) (fun j hj => by
    rcases (by omega : j = 0 ∨ j = 1 ∨ j = 2 ∨ j = 3) with rfl | rfl | rfl | rfl
    · exact (va_eqt e0).trans rfl
    · exact (va_eqt e1).trans rfl
    · exact (va_eqt e2).trans rfl
    · exact (va_eqt e3).trans rfl) hA
  exact ⟨t, va_Zof (hts (.laysStatic "DishPointer" "SETTING_MOST" "[I") (dp_t2 (List.mem_of_getElem? (i := 146) (by decide +kernel)))) (hts (.initialized "DishPointer") (dp_t1 (List.mem_of_getElem? (i := 1) (by decide +kernel)))) ht hA, hT⟩
set_option maxRecDepth 100000 in
theorem law_dp_al {s : State} {args : Array Value} {A : Nat → Prop} (hts : ∀ w ∈ lw_tbl, w.before args s = true) (hgv : (Jvm.Cond.and given_1 narrow_1).before args s = true) (hA : ∀ a : Nat, a < s.heap.size → ¬ A a) : ∃ t, dp_Z1 A "AXIS_LEAST" "[I" .int t 3 dp_al s s.heap := by
  have hs := flat_of_before _ hgv
  have e0 : (Cond.eq (.elem (.static "DishPointer" "AXIS_LEAST" "[I") (.int 0)) (.int 0)).before args s = true := hs _ (by decide +kernel)
  have e1 : (Cond.eq (.elem (.static "DishPointer" "AXIS_LEAST" "[I") (.int 1)) (.int 0)).before args s = true := hs _ (by decide +kernel)
  have e2 : (Cond.eq (.elem (.static "DishPointer" "AXIS_LEAST" "[I") (.int 2)) (.int 1)).before args s = true := hs _ (by decide +kernel)
  have eL : (Cond.eq (.length (.static "DishPointer" "AXIS_LEAST" "[I")) (.int 3)).before args s = true := hs _ (by decide +kernel)
  have eA : (Cond.arrayOf (.static "DishPointer" "AXIS_LEAST" "[I") .int).before args s = true := hs _ (by decide +kernel)
  obtain ⟨t, ht, hT⟩ := va_Tof (tm := (.static "DishPointer" "AXIS_LEAST" "[I")) (ty := .int) (N := 3) (f := fun j => .int (dp_I (dp_al j))) (A := A) (by decide) eA (va_eqt eL) (fun j hj => by
    rcases (by omega : j = 0 ∨ j = 1 ∨ j = 2) with rfl | rfl | rfl
    · exact (va_eqt e0).trans rfl
    · exact (va_eqt e1).trans rfl
    · exact (va_eqt e2).trans rfl) hA
  exact ⟨t, va_Zof (hts (.laysStatic "DishPointer" "AXIS_LEAST" "[I") (dp_t2 (List.mem_of_getElem? (i := 181) (by decide +kernel)))) (hts (.initialized "DishPointer") (dp_t1 (List.mem_of_getElem? (i := 1) (by decide +kernel)))) ht hA, hT⟩
set_option maxRecDepth 100000 in
theorem law_dp_am {s : State} {args : Array Value} {A : Nat → Prop} (hts : ∀ w ∈ lw_tbl, w.before args s = true) (hgv : (Jvm.Cond.and given_1 narrow_1).before args s = true) (hA : ∀ a : Nat, a < s.heap.size → ¬ A a) : ∃ t, dp_Z1 A "AXIS_MOST" "[I" .int t 3 dp_am s s.heap := by
  have hs := flat_of_before _ hgv
  have e0 : (Cond.eq (.elem (.static "DishPointer" "AXIS_MOST" "[I") (.int 0)) (.int 300)).before args s = true := hs _ (by decide +kernel)
  have e1 : (Cond.eq (.elem (.static "DishPointer" "AXIS_MOST" "[I") (.int 1)) (.int 2)).before args s = true := hs _ (by decide +kernel)
  have e2 : (Cond.eq (.elem (.static "DishPointer" "AXIS_MOST" "[I") (.int 2)) (.int 2000)).before args s = true := hs _ (by decide +kernel)
  have eL : (Cond.eq (.length (.static "DishPointer" "AXIS_MOST" "[I")) (.int 3)).before args s = true := hs _ (by decide +kernel)
  have eA : (Cond.arrayOf (.static "DishPointer" "AXIS_MOST" "[I") .int).before args s = true := hs _ (by decide +kernel)
  obtain ⟨t, ht, hT⟩ := va_Tof (tm := (.static "DishPointer" "AXIS_MOST" "[I")) (ty := .int) (N := 3) (f := fun j => .int (dp_I (dp_am j))) (A := A) (by decide) eA (va_eqt eL) (fun j hj => by
    rcases (by omega : j = 0 ∨ j = 1 ∨ j = 2) with rfl | rfl | rfl
    · exact (va_eqt e0).trans rfl
    · exact (va_eqt e1).trans rfl
    · exact (va_eqt e2).trans rfl) hA
  exact ⟨t, va_Zof (hts (.laysStatic "DishPointer" "AXIS_MOST" "[I") (dp_t2 (List.mem_of_getElem? (i := 179) (by decide +kernel)))) (hts (.initialized "DishPointer") (dp_t1 (List.mem_of_getElem? (i := 1) (by decide +kernel)))) ht hA, hT⟩
