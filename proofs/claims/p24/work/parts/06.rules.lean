/-! THE JUDGEMENT: at pc with locals L and stack st, over the memory M, the machine comes to Q; a rule an instruction -/
def dp_sm (i : Nat) : Int := match i with
  | 0 => 500
  | 1 => 27000
  | _ => 100
def dp_al (i : Nat) : Int := match i with
  | 2 => 1
  | _ => 0
def dp_am (i : Nat) : Int := match i with
  | 0 => 300
  | 1 => 2
  | _ => 2000
def dp_ty (E : dp_E) : List (ClassId × FieldType) := [(eI E, .int), (eC E, .char), (eT E, .object "DishPointer$Target"), (eS E, .object "DishPointer$State")]
def dp_K (E : dp_E) (U : State) : Prop := va_K E.1 vwCl (dp_ty E) U
def dp_Z1 (A : Nat → Prop) (n d : String) (ty : FieldType) (t N : Nat) (f : Nat → Int) (U : State) (H : Heap) : Prop := va_Z "DishPointer" n d (.ref t) A U H ∧ va_T ty t N (fun j => .int (dp_I (f j))) A U H
def dp_N (U : State) : Prop := va_Nw (.methodLinkNest RX6 28 yX4_init "DishPointer") U ∧ va_Nw (.methodLinkNest RX2 38 yX5_init "DishPointer") U ∧ va_Nw (.methodLinkNest RX2 49 yX3_init "DishPointer") U
theorem dp_N.same {u U : State} (h : u.vm = U.vm) (hN : dp_N u) : dp_N U := ⟨hN.1.same rfl h, hN.2.1.same rfl h, hN.2.2.same rfl h⟩
theorem dp_N.warm {s U : State} (hW : s.WarmedH U.vm) (hN : dp_N s) : dp_N U := ⟨va_Nw.warmM hW hN.1, va_Nw.warmM hW hN.2.1, va_Nw.warmM hW hN.2.2⟩
def dp_Z (E : dp_E) (A : Nat → Prop) (U : State) (H : Heap) : Prop := dp_Z1 A "SETTING_MOST" "[I" .int (z0 E) 4 dp_sm U H ∧ dp_Z1 A "AXIS_LEAST" "[I" .int (z1 E) 3 dp_al U H ∧ dp_Z1 A "AXIS_MOST" "[I" .int (z2 E) 3 dp_am U H ∧ dp_N U
theorem dp_Z1.mv {A B : Nat → Prop} {n d : String} {ty : FieldType} {t N : Nat} {f : Nat → Int} {u U : State} {H H1 : Heap} (h : dp_Z1 A n d ty t N f u H) (hvm : u.vm.Alike U.vm) (hq : ∀ a : Nat, a < H.size → ¬ A a → H1[a]? = H[a]?) (hAB : ∀ q, B q → A q) : dp_Z1 B n d ty t N f U H1 := ⟨((h.1.moved hvm).kept hq).narrow hAB, ((h.2.moved hvm).kept hq).narrow hAB⟩
theorem dp_Z.mv {E : dp_E} {A B : Nat → Prop} {u U : State} {H H1 : Heap} (h : dp_Z E A u H) (hvm : u.vm.Alike U.vm) (hN : dp_N u → dp_N U) (hq : ∀ a : Nat, a < H.size → ¬ A a → H1[a]? = H[a]?) (hAB : ∀ q, B q → A q) : dp_Z E B U H1 := ⟨h.1.mv hvm hq hAB, h.2.1.mv hvm hq hAB, h.2.2.1.mv hvm hq hAB, hN h.2.2.2⟩
def dp_B (E : dp_E) (M : dp_M) (U : State) : Prop := dp_W E M U.heap ∧ dp_K E U ∧ dp_Z E (dp_A E) U U.heap
theorem dp_B.calling {E : dp_E} {M : dp_M} {U : State} (h : dp_B E M U) (g : JFrame) (mk : MethodId) (a : Array Value) : dp_B E M (U.calling g mk a) := ⟨h.1, va_K.moved (u := U) (U := U.calling g mk a) (Vm.Alike.refl U.vm) h.2.1, dp_Z.mv (u := U) (U := U.calling g mk a) h.2.2 (Vm.Alike.refl U.vm) (fun q => q.same rfl) (fun _ _ _ => rfl) (fun _ h => h)⟩
/-- the locals: at most one value each; a long has the slot behind it -/
def dp_L (ls : Array Slot) (L : List (Option Value)) : Prop := ls.size = L.length ∧ lv_wf ls ∧ ∀ (i : Nat) (v : Value), L[i]? = some (some v) → ls[i]? = some (.val v)
/-- no value of two slots lies ahead of i -/
def dp_c1 (o : Option (Option Value)) : Bool := match o with
  | some (some (.int _)) => true
  | some (some (.ref _)) => true
  | some none => true
  | none => true
  | _ => false
def dp_nl (L : List (Option Value)) (i : Nat) : Bool := match i with
  | 0 => true
  | i + 1 => dp_c1 (L[i]?)
theorem dp_nl1 {L : List (Option Value)} {i j : Nat} {v : Value} (h : dp_nl L i = true) (hj : L[j]? = some (some v)) (e : j + 1 = i) : v.category = 1 := by
  subst e
  have h2 : dp_c1 (L[j]?) = true := h
  rw [hj] at h2
  cases v <;> first | rfl | cases h2
theorem dp_L.ix {ls : Array Slot} {L : List (Option Value)} (h : dp_L ls L) {i : Nat} {v : Value} (hi : L[i]? = some (some v)) : ls[i]? = some (.val v) := h.2.2 i v hi
theorem dp_L.has {ls : Array Slot} {L : List (Option Value)} (h : dp_L ls L) (l : List (Nat × Value)) (hl : ∀ q ∈ l, L[q.1]? = some (some q.2)) : lv_has ls L.length l := ⟨h.1, h.2.1, fun q hq => h.2.2 q.1 q.2 (hl q hq)⟩
def dp_en (L : List (Option Value)) : List (Nat × Value) := (List.range L.length).filterMap (fun i => match L[i]? with
  | some (some v) => some (i, v)
  | _ => none)
theorem dp_en_mem {L : List (Option Value)} {i : Nat} {v : Value} : (i, v) ∈ dp_en L ↔ L[i]? = some (some v) := by
  unfold dp_en
  rw [List.mem_filterMap]
  constructor
  · rintro ⟨j, -, hj⟩
    cases h : L[j]? with
    | none => rw [h] at hj; cases hj
    | some o =>
      cases o with
      | none => rw [h] at hj; cases hj
      | some w =>
        rw [h] at hj
        cases hj
        exact h
  · intro h
    exact ⟨i, List.mem_range.mpr (List.getElem?_eq_some_iff.mp h).1, by rw [h]⟩
theorem dp_L.put {ls ls' : Array Slot} {L : List (Option Value)} (h : dp_L ls L) {i : Nat} {v : Value} (hi : i < L.length) (hnl : dp_nl L i = true) (h' : lv_has ls' L.length ((i, v) :: (dp_en L).filter (fun q => !(q.1 == i) && !(q.1 + 1 == i && q.2.category == 2)))) : dp_L ls' (L.set i (some v)) := by
  refine ⟨by rw [h'.1, List.length_set], h'.2.1, fun j w hj => ?_⟩
  by_cases e : j = i
  · subst e
    rw [List.getElem?_set_self hi] at hj
    cases hj
    exact h'.2.2 (j, _) List.mem_cons_self
  · rw [List.getElem?_set_ne (Ne.symm e)] at hj
    refine h'.2.2 (j, w) (List.mem_cons_of_mem _ (List.mem_filter.mpr ⟨dp_en_mem.mpr hj, ?_⟩))
    by_cases q : j + 1 = i
    · simp [e, dp_nl1 hnl hj q]
    · simp [e, q]
theorem dp_L.putl {ls ls' : Array Slot} {L : List (Option Value)} (h : dp_L ls L) {i : Nat} {v : Value} (hi : i + 1 < L.length) (hnl : dp_nl L i = true) (h' : lv_has ls' L.length ((i, v) :: (dp_en L).filter (fun q => !(q.1 == i) && (!(q.1 == i + 1) && !(q.1 + 1 == i && q.2.category == 2))))) : dp_L ls' ((L.set i (some v)).set (i + 1) none) := by
  refine ⟨by rw [h'.1, List.length_set, List.length_set], h'.2.1, fun j w hj => ?_⟩
  by_cases e : j = i + 1
  · subst e
    rw [List.getElem?_set_self (by rw [List.length_set]; exact hi)] at hj
    cases hj
  · rw [List.getElem?_set_ne (Ne.symm e)] at hj
    by_cases e1 : j = i
    · subst e1
      rw [List.getElem?_set_self (by omega)] at hj
      cases hj
      exact h'.2.2 (j, _) List.mem_cons_self
    · rw [List.getElem?_set_ne (Ne.symm e1)] at hj
      refine h'.2.2 (j, w) (List.mem_cons_of_mem _ (List.mem_filter.mpr ⟨dp_en_mem.mpr hj, ?_⟩))
      by_cases q : j + 1 = i
      · simp [e, e1, dp_nl1 hnl hj q]
      · simp [e, e1, q]
def dp_C (E : dp_E) (A : Nat → Prop) (p : Program) (s : State) (m : MethodId) (args : Array Value) (meth : Method) (co : Code) (cc : ByteArray) (own : String) (nL : Nat) (Ts : List Cond) : Prop := CallFix p m co cc nL s args Ts own ∧ meth.locks = false ∧ dp_OK E ∧ (∀ q, dp_A E q → A q) ∧ dp_K E s ∧ dp_Z E A s s.heap
def dp_G (E : dp_E) (A : Nat → Prop) (p : Program) (l : Launch) (e : Env) (R : Room) (s : State) (m : MethodId) (args : Array Value) (below : List Frame) (meth : Method) (co : Code) (ce sl : Nat) (Q : State → Prop) (M : dp_M) (pc : Nat) (L : List (Option Value)) (st : List Value) : Prop :=
  ∀ (H : Heap) (locs : List Loc) (ls : Array Slot), dp_W E M H → va_S A s.heap H locs → dp_L ls L → W p l e R s m args below meth co H locs ce sl Q (F0 m pc ls st)
section DG
variable {E : dp_E} {A : Nat → Prop} {p : Program} {l : Launch} {e : Env} {R : Room} {s : State} {m : MethodId} {args : Array Value} {below : List Frame} {meth : Method} {co : Code} {ce sl : Nat} {Q : State → Prop} {cc : ByteArray} {own : String} {nL : Nat} {Ts : List Cond} {M : dp_M} {pc : Nat} {L : List (Option Value)} {st : List Value}
theorem dp_iconst (C : dp_C E A p s m args meth co cc own nL Ts) {n : Int} (hd : decode cc pc = .ok (.iconst n, 1)) (k : dp_G E A p l e R s m args below meth co ce sl Q M (pc + 1) L (.int (dp_I n) :: st)) : dp_G E A p l e R s m args below meth co ce sl Q M pc L (st) := fun H locs ls hW hS hL => lv_iconst C.1.1 C.1.2.1 hd rfl (k H locs ls hW hS hL)
theorem dp_bipush (C : dp_C E A p s m args meth co cc own nL Ts) {n : Int} (hd : decode cc pc = .ok (.bipush n, 2)) (hv : (Int8.ofInt n).toInt32 = dp_I n) (k : dp_G E A p l e R s m args below meth co ce sl Q M (pc + 2) L (.int (dp_I n) :: st)) : dp_G E A p l e R s m args below meth co ce sl Q M pc L (st) := fun H locs ls hW hS hL => lv_bipush C.1.1 C.1.2.1 hd hv (k H locs ls hW hS hL)
theorem dp_sipush (C : dp_C E A p s m args meth co cc own nL Ts) {n : Int} (hd : decode cc pc = .ok (.sipush n, 3)) (hv : (Int16.ofInt n).toInt32 = dp_I n) (k : dp_G E A p l e R s m args below meth co ce sl Q M (pc + 3) L (.int (dp_I n) :: st)) : dp_G E A p l e R s m args below meth co ce sl Q M pc L (st) := fun H locs ls hW hS hL => lv_sipush C.1.1 C.1.2.1 hd hv (k H locs ls hW hS hL)
theorem dp_ldc (C : dp_C E A p s m args meth co cc own nL Ts) {i : Nat} {v : Int32} (n : Int) (hc : Cond.constant own i v ∈ Ts) (hv : v = dp_I n) (hd : decode cc pc = .ok (.ldc i, 2)) (k : dp_G E A p l e R s m args below meth co ce sl Q M (pc + 2) L (.int (dp_I n) :: st)) : dp_G E A p l e R s m args below meth co ce sl Q M pc L (st) := fun H locs ls hW hS hL => lv_ldc C.1.1 C.1.2.1 C.1.2.2.2.1 (by rw [← hv]; exact C.1.2.2.2.2 _ hc) hd (k H locs ls hW hS hL)
theorem dp_iload_n (C : dp_C E A p s m args meth co cc own nL Ts) {i : Fin 4} {x : Int32} (hd : decode cc pc = .ok (.iload_n i, 1)) (hl : L[(i : Nat)]? = some (some (.int x))) (k : dp_G E A p l e R s m args below meth co ce sl Q M (pc + 1) L (.int x :: st)) : dp_G E A p l e R s m args below meth co ce sl Q M pc L (st) := fun H locs ls hW hS hL => lv_iload_n C.1.1 C.1.2.1 hd rfl (hL.ix hl) (k H locs ls hW hS hL)
theorem dp_iload (C : dp_C E A p s m args meth co cc own nL Ts) {i : Nat} {x : Int32} (hd : decode cc pc = .ok (.iload i, 2)) (hl : L[i]? = some (some (.int x))) (k : dp_G E A p l e R s m args below meth co ce sl Q M (pc + 2) L (.int x :: st)) : dp_G E A p l e R s m args below meth co ce sl Q M pc L (st) := fun H locs ls hW hS hL => lv_iload C.1.1 C.1.2.1 hd (hL.ix hl) (k H locs ls hW hS hL)
theorem dp_aload_n (C : dp_C E A p s m args meth co cc own nL Ts) {i : Fin 4} {x : Nat} (hd : decode cc pc = .ok (.aload_n i, 1)) (hl : L[(i : Nat)]? = some (some (.ref x))) (k : dp_G E A p l e R s m args below meth co ce sl Q M (pc + 1) L (.ref x :: st)) : dp_G E A p l e R s m args below meth co ce sl Q M pc L (st) := fun H locs ls hW hS hL => lv_aload_n C.1.1 C.1.2.1 hd rfl (hL.ix hl) (k H locs ls hW hS hL)
theorem dp_aload (C : dp_C E A p s m args meth co cc own nL Ts) {i : Nat} {x : Nat} (hd : decode cc pc = .ok (.aload i, 2)) (hl : L[i]? = some (some (.ref x))) (k : dp_G E A p l e R s m args below meth co ce sl Q M (pc + 2) L (.ref x :: st)) : dp_G E A p l e R s m args below meth co ce sl Q M pc L (st) := fun H locs ls hW hS hL => lv_aload C.1.1 C.1.2.1 hd (hL.ix hl) (k H locs ls hW hS hL)
theorem dp_iadd (C : dp_C E A p s m args meth co cc own nL Ts) {x y : Int} (hd : decode cc pc = .ok (.iadd, 1)) (k : dp_G E A p l e R s m args below meth co ce sl Q M (pc + 1) L (.int (dp_I (x + y)) :: st)) : dp_G E A p l e R s m args below meth co ce sl Q M pc L (.int (dp_I y) :: .int (dp_I x) :: st) := fun H locs ls hW hS hL => lv_iadd C.1.1 C.1.2.1 hd (by rw [dp_I_add]; exact k H locs ls hW hS hL)
theorem dp_isub (C : dp_C E A p s m args meth co cc own nL Ts) {x y : Int} (hd : decode cc pc = .ok (.isub, 1)) (k : dp_G E A p l e R s m args below meth co ce sl Q M (pc + 1) L (.int (dp_I (x - y)) :: st)) : dp_G E A p l e R s m args below meth co ce sl Q M pc L (.int (dp_I y) :: .int (dp_I x) :: st) := fun H locs ls hW hS hL => lv_isub C.1.1 C.1.2.1 hd (by rw [dp_I_sub]; exact k H locs ls hW hS hL)
theorem dp_imul (C : dp_C E A p s m args meth co cc own nL Ts) {x y : Int} (hd : decode cc pc = .ok (.imul, 1)) (k : dp_G E A p l e R s m args below meth co ce sl Q M (pc + 1) L (.int (dp_I (x * y)) :: st)) : dp_G E A p l e R s m args below meth co ce sl Q M pc L (.int (dp_I y) :: .int (dp_I x) :: st) := fun H locs ls hW hS hL => lv_imul C.1.1 C.1.2.1 hd (by rw [dp_I_mul]; exact k H locs ls hW hS hL)
theorem dp_ineg (C : dp_C E A p s m args meth co cc own nL Ts) {x : Int} (hd : decode cc pc = .ok (.ineg, 1)) (k : dp_G E A p l e R s m args below meth co ce sl Q M (pc + 1) L (.int (dp_I (-x)) :: st)) : dp_G E A p l e R s m args below meth co ce sl Q M pc L (.int (dp_I x) :: st) := fun H locs ls hW hS hL => lv_ineg C.1.1 C.1.2.1 hd (by rw [dp_I_neg]; exact k H locs ls hW hS hL)
theorem dp_idiv (C : dp_C E A p s m args meth co cc own nL Ts) {x y : Int} (h : 0 ≤ x ∧ x < 2147483648 ∧ 0 < y ∧ y < 2147483648) (hd : decode cc pc = .ok (.idiv, 1)) (k : dp_G E A p l e R s m args below meth co ce sl Q M (pc + 1) L (.int (dp_I (x / y)) :: st)) : dp_G E A p l e R s m args below meth co ce sl Q M pc L (.int (dp_I y) :: .int (dp_I x) :: st) := fun H locs ls hW hS hL => lv_idiv C.1.1 C.1.2.1 hd (fun q => by rw [dp_I_z, dp_I_eq ⟨by omega, by omega⟩ dp_R0] at q; omega) (by rw [dp_I_div h.1 h.2.1 h.2.2.1 h.2.2.2]; exact k H locs ls hW hS hL)
theorem dp_irem (C : dp_C E A p s m args meth co cc own nL Ts) {x y : Int} (h : 0 ≤ x ∧ x < 2147483648 ∧ 0 < y ∧ y < 2147483648) (hd : decode cc pc = .ok (.irem, 1)) (k : dp_G E A p l e R s m args below meth co ce sl Q M (pc + 1) L (.int (dp_I (x % y)) :: st)) : dp_G E A p l e R s m args below meth co ce sl Q M pc L (.int (dp_I y) :: .int (dp_I x) :: st) := fun H locs ls hW hS hL => lv_irem C.1.1 C.1.2.1 hd (fun q => by rw [dp_I_z, dp_I_eq ⟨by omega, by omega⟩ dp_R0] at q; omega) (by rw [dp_I_div h.1 h.2.1 h.2.2.1 h.2.2.2, dp_I_mul, dp_I_sub, show x - x / y * y = x % y by rw [Int.emod_def, Int.mul_comm]]; exact k H locs ls hW hS hL)
theorem dp_dup (C : dp_C E A p s m args meth co cc own nL Ts) {v : Value} (hd : decode cc pc = .ok (.dup, 1)) (hv : v.category = 1) (k : dp_G E A p l e R s m args below meth co ce sl Q M (pc + 1) L (v :: v :: st)) : dp_G E A p l e R s m args below meth co ce sl Q M pc L (v :: st) := fun H locs ls hW hS hL => lv_dup C.1.1 C.1.2.1 hd hv (k H locs ls hW hS hL)
theorem dp_dup2 (C : dp_C E A p s m args meth co cc own nL Ts) {v u : Value} (hd : decode cc pc = .ok (.dup2, 1)) (hv : v.category = 1) (hu : u.category = 1) (k : dp_G E A p l e R s m args below meth co ce sl Q M (pc + 1) L (v :: u :: v :: u :: st)) : dp_G E A p l e R s m args below meth co ce sl Q M pc L (v :: u :: st) := fun H locs ls hW hS hL => lv_dup2_11 C.1.1 C.1.2.1 hd hv hu (k H locs ls hW hS hL)
theorem dp_pop (C : dp_C E A p s m args meth co cc own nL Ts) {v : Value} (hd : decode cc pc = .ok (.pop, 1)) (hv : v.category = 1) (k : dp_G E A p l e R s m args below meth co ce sl Q M (pc + 1) L (st)) : dp_G E A p l e R s m args below meth co ce sl Q M pc L (v :: st) := fun H locs ls hW hS hL => lv_pop C.1.1 C.1.2.1 hd hv (k H locs ls hW hS hL)
theorem dp_goto (C : dp_C E A p s m args meth co cc own nL Ts) {off : Int} {tgt : Nat} (hd : decode cc pc = .ok (.goto off, 3)) (ht : (pc : Int) + off = (tgt : Int)) (k : dp_G E A p l e R s m args below meth co ce sl Q M tgt L st) : dp_G E A p l e R s m args below meth co ce sl Q M pc L st := fun H locs ls hW hS hL => lv_goto C.1.1 C.1.2.1 hd ht (k H locs ls hW hS hL)
theorem dp_istore_n (C : dp_C E A p s m args meth co cc own nL Ts) {i : Fin 4} {x : Int32} (hd : decode cc pc = .ok (.istore_n i, 1)) (hi : (i : Nat) < L.length) (k : dp_G E A p l e R s m args below meth co ce sl Q M (pc + 1) (L.set (i : Nat) (some (.int x))) st) (hnl : dp_nl L (i : Nat) = true := by rfl) : dp_G E A p l e R s m args below meth co ce sl Q M pc L (.int x :: st) := fun H locs ls hW hS hL => lv_istore_n C.1.1 C.1.2.1 hd rfl (hL.has (dp_en L) (fun q hq => dp_en_mem.mp hq)) hi rfl (fun ls1 h1 => k H locs ls1 hW hS (hL.put hi hnl h1))
theorem dp_istore (C : dp_C E A p s m args meth co cc own nL Ts) {i : Nat} {x : Int32} (hd : decode cc pc = .ok (.istore i, 2)) (hi : i < L.length) (k : dp_G E A p l e R s m args below meth co ce sl Q M (pc + 2) (L.set i (some (.int x))) st) (hnl : dp_nl L i = true := by rfl) : dp_G E A p l e R s m args below meth co ce sl Q M pc L (.int x :: st) := fun H locs ls hW hS hL => lv_istore C.1.1 C.1.2.1 hd (hL.has (dp_en L) (fun q hq => dp_en_mem.mp hq)) hi rfl (fun ls1 h1 => k H locs ls1 hW hS (hL.put hi hnl h1))
theorem dp_astore_n (C : dp_C E A p s m args meth co cc own nL Ts) {i : Fin 4} {x : Nat} (hd : decode cc pc = .ok (.astore_n i, 1)) (hi : (i : Nat) < L.length) (k : dp_G E A p l e R s m args below meth co ce sl Q M (pc + 1) (L.set (i : Nat) (some (.ref x))) st) (hnl : dp_nl L (i : Nat) = true := by rfl) : dp_G E A p l e R s m args below meth co ce sl Q M pc L (.ref x :: st) := fun H locs ls hW hS hL => lv_astore_n C.1.1 C.1.2.1 hd rfl (hL.has (dp_en L) (fun q hq => dp_en_mem.mp hq)) hi rfl (fun ls1 h1 => k H locs ls1 hW hS (hL.put hi hnl h1))
theorem dp_astore (C : dp_C E A p s m args meth co cc own nL Ts) {i : Nat} {x : Nat} (hd : decode cc pc = .ok (.astore i, 2)) (hi : i < L.length) (k : dp_G E A p l e R s m args below meth co ce sl Q M (pc + 2) (L.set i (some (.ref x))) st) (hnl : dp_nl L i = true := by rfl) : dp_G E A p l e R s m args below meth co ce sl Q M pc L (.ref x :: st) := fun H locs ls hW hS hL => lv_astore C.1.1 C.1.2.1 hd (hL.has (dp_en L) (fun q hq => dp_en_mem.mp hq)) hi rfl (fun ls1 h1 => k H locs ls1 hW hS (hL.put hi hnl h1))
theorem dp_iinc (C : dp_C E A p s m args meth co cc own nL Ts) {i : Nat} {n x : Int} (hd : decode cc pc = .ok (.iinc i n, 3)) (hl : L[i]? = some (some (.int (dp_I x)))) (k : dp_G E A p l e R s m args below meth co ce sl Q M (pc + 3) (L.set i (some (.int (dp_I (x + n))))) st) (hnl : dp_nl L i = true := by rfl) : dp_G E A p l e R s m args below meth co ce sl Q M pc L st := fun H locs ls hW hS hL => by
  have hi : i < L.length := (List.getElem?_eq_some_iff.mp hl).1
  obtain ⟨kk, hk⟩ := List.getElem?_of_mem (dp_en_mem.mpr hl)
  exact lv_iinc (v := dp_I (x + n)) C.1.1 C.1.2.1 hd (hL.has (dp_en L) (fun q hq => dp_en_mem.mp hq)) hk (dp_I_add x n) hi rfl (fun ls1 h1 => k H locs ls1 hW hS (hL.put hi hnl h1))
theorem dp_icmp_eq (C : dp_C E A p s m args meth co cc own nL Ts) {x y off : Int} {tgt : Nat} (hd : decode cc pc = .ok (.if_icmp .eq off, 3)) (ht : (pc : Int) + off = (tgt : Int)) (hx : dp_R x) (hy : dp_R y) (kt : x = y → dp_G E A p l e R s m args below meth co ce sl Q M tgt L st) (kf : ¬ x = y → dp_G E A p l e R s m args below meth co ce sl Q M (pc + 3) L st) : dp_G E A p l e R s m args below meth co ce sl Q M pc L (.int (dp_I y) :: .int (dp_I x) :: st) := fun H locs ls hW hS hL => lv_icmp_eq C.1.1 C.1.2.1 hd ht (fun h => kt ((dp_I_eq hx hy).mp h) H locs ls hW hS hL) (fun h => kf (fun q => h ((dp_I_eq hx hy).mpr q)) H locs ls hW hS hL)
theorem dp_if_eq (C : dp_C E A p s m args meth co cc own nL Ts) {x off : Int} {tgt : Nat} (hd : decode cc pc = .ok (.ifCond .eq off, 3)) (ht : (pc : Int) + off = (tgt : Int)) (hx : dp_R x) (kt : x = 0 → dp_G E A p l e R s m args below meth co ce sl Q M tgt L st) (kf : ¬ x = 0 → dp_G E A p l e R s m args below meth co ce sl Q M (pc + 3) L st) : dp_G E A p l e R s m args below meth co ce sl Q M pc L (.int (dp_I x) :: st) := fun H locs ls hW hS hL => lv_if_eq C.1.1 C.1.2.1 hd ht (fun h => kt ((dp_I_eq hx dp_R0).mp h) H locs ls hW hS hL) (fun h => kf (fun q => h ((dp_I_eq hx dp_R0).mpr q)) H locs ls hW hS hL)
theorem dp_icmp_ne (C : dp_C E A p s m args meth co cc own nL Ts) {x y off : Int} {tgt : Nat} (hd : decode cc pc = .ok (.if_icmp .ne off, 3)) (ht : (pc : Int) + off = (tgt : Int)) (hx : dp_R x) (hy : dp_R y) (kt : ¬ x = y → dp_G E A p l e R s m args below meth co ce sl Q M tgt L st) (kf : x = y → dp_G E A p l e R s m args below meth co ce sl Q M (pc + 3) L st) : dp_G E A p l e R s m args below meth co ce sl Q M pc L (.int (dp_I y) :: .int (dp_I x) :: st) := fun H locs ls hW hS hL => lv_icmp_ne C.1.1 C.1.2.1 hd ht (fun h => kt (fun q => h ((dp_I_eq hx hy).mpr q)) H locs ls hW hS hL) (fun h => kf ((dp_I_eq hx hy).mp h) H locs ls hW hS hL)
theorem dp_if_ne (C : dp_C E A p s m args meth co cc own nL Ts) {x off : Int} {tgt : Nat} (hd : decode cc pc = .ok (.ifCond .ne off, 3)) (ht : (pc : Int) + off = (tgt : Int)) (hx : dp_R x) (kt : ¬ x = 0 → dp_G E A p l e R s m args below meth co ce sl Q M tgt L st) (kf : x = 0 → dp_G E A p l e R s m args below meth co ce sl Q M (pc + 3) L st) : dp_G E A p l e R s m args below meth co ce sl Q M pc L (.int (dp_I x) :: st) := fun H locs ls hW hS hL => lv_if_ne C.1.1 C.1.2.1 hd ht (fun h => kt (fun q => h ((dp_I_eq hx dp_R0).mpr q)) H locs ls hW hS hL) (fun h => kf ((dp_I_eq hx dp_R0).mp h) H locs ls hW hS hL)
theorem dp_icmp_lt (C : dp_C E A p s m args meth co cc own nL Ts) {x y off : Int} {tgt : Nat} (hd : decode cc pc = .ok (.if_icmp .lt off, 3)) (ht : (pc : Int) + off = (tgt : Int)) (hx : dp_R x) (hy : dp_R y) (kt : x < y → dp_G E A p l e R s m args below meth co ce sl Q M tgt L st) (kf : ¬ x < y → dp_G E A p l e R s m args below meth co ce sl Q M (pc + 3) L st) : dp_G E A p l e R s m args below meth co ce sl Q M pc L (.int (dp_I y) :: .int (dp_I x) :: st) := fun H locs ls hW hS hL => lv_icmp_lt C.1.1 C.1.2.1 hd ht (fun h => kt ((dp_I_lt hx hy).mp h) H locs ls hW hS hL) (fun h => kf (fun q => h ((dp_I_lt hx hy).mpr q)) H locs ls hW hS hL)
theorem dp_if_lt (C : dp_C E A p s m args meth co cc own nL Ts) {x off : Int} {tgt : Nat} (hd : decode cc pc = .ok (.ifCond .lt off, 3)) (ht : (pc : Int) + off = (tgt : Int)) (hx : dp_R x) (kt : x < 0 → dp_G E A p l e R s m args below meth co ce sl Q M tgt L st) (kf : ¬ x < 0 → dp_G E A p l e R s m args below meth co ce sl Q M (pc + 3) L st) : dp_G E A p l e R s m args below meth co ce sl Q M pc L (.int (dp_I x) :: st) := fun H locs ls hW hS hL => lv_if_lt C.1.1 C.1.2.1 hd ht (fun h => kt ((dp_I_lt hx dp_R0).mp h) H locs ls hW hS hL) (fun h => kf (fun q => h ((dp_I_lt hx dp_R0).mpr q)) H locs ls hW hS hL)
theorem dp_icmp_ge (C : dp_C E A p s m args meth co cc own nL Ts) {x y off : Int} {tgt : Nat} (hd : decode cc pc = .ok (.if_icmp .ge off, 3)) (ht : (pc : Int) + off = (tgt : Int)) (hx : dp_R x) (hy : dp_R y) (kt : ¬ x < y → dp_G E A p l e R s m args below meth co ce sl Q M tgt L st) (kf : x < y → dp_G E A p l e R s m args below meth co ce sl Q M (pc + 3) L st) : dp_G E A p l e R s m args below meth co ce sl Q M pc L (.int (dp_I y) :: .int (dp_I x) :: st) := fun H locs ls hW hS hL => lv_icmp_ge C.1.1 C.1.2.1 hd ht (fun h => kt (Int.not_lt.mpr ((dp_I_le hy hx).mp h)) H locs ls hW hS hL) (fun h => kf (Int.not_le.mp (fun q => h ((dp_I_le hy hx).mpr q))) H locs ls hW hS hL)
theorem dp_if_ge (C : dp_C E A p s m args meth co cc own nL Ts) {x off : Int} {tgt : Nat} (hd : decode cc pc = .ok (.ifCond .ge off, 3)) (ht : (pc : Int) + off = (tgt : Int)) (hx : dp_R x) (kt : ¬ x < 0 → dp_G E A p l e R s m args below meth co ce sl Q M tgt L st) (kf : x < 0 → dp_G E A p l e R s m args below meth co ce sl Q M (pc + 3) L st) : dp_G E A p l e R s m args below meth co ce sl Q M pc L (.int (dp_I x) :: st) := fun H locs ls hW hS hL => lv_if_ge C.1.1 C.1.2.1 hd ht (fun h => kt (Int.not_lt.mpr ((dp_I_le dp_R0 hx).mp h)) H locs ls hW hS hL) (fun h => kf (Int.not_le.mp (fun q => h ((dp_I_le dp_R0 hx).mpr q))) H locs ls hW hS hL)
theorem dp_icmp_gt (C : dp_C E A p s m args meth co cc own nL Ts) {x y off : Int} {tgt : Nat} (hd : decode cc pc = .ok (.if_icmp .gt off, 3)) (ht : (pc : Int) + off = (tgt : Int)) (hx : dp_R x) (hy : dp_R y) (kt : y < x → dp_G E A p l e R s m args below meth co ce sl Q M tgt L st) (kf : ¬ y < x → dp_G E A p l e R s m args below meth co ce sl Q M (pc + 3) L st) : dp_G E A p l e R s m args below meth co ce sl Q M pc L (.int (dp_I y) :: .int (dp_I x) :: st) := fun H locs ls hW hS hL => lv_icmp_gt C.1.1 C.1.2.1 hd ht (fun h => kt ((dp_I_lt hy hx).mp h) H locs ls hW hS hL) (fun h => kf (fun q => h ((dp_I_lt hy hx).mpr q)) H locs ls hW hS hL)
theorem dp_if_gt (C : dp_C E A p s m args meth co cc own nL Ts) {x off : Int} {tgt : Nat} (hd : decode cc pc = .ok (.ifCond .gt off, 3)) (ht : (pc : Int) + off = (tgt : Int)) (hx : dp_R x) (kt : 0 < x → dp_G E A p l e R s m args below meth co ce sl Q M tgt L st) (kf : ¬ 0 < x → dp_G E A p l e R s m args below meth co ce sl Q M (pc + 3) L st) : dp_G E A p l e R s m args below meth co ce sl Q M pc L (.int (dp_I x) :: st) := fun H locs ls hW hS hL => lv_if_gt C.1.1 C.1.2.1 hd ht (fun h => kt ((dp_I_lt dp_R0 hx).mp h) H locs ls hW hS hL) (fun h => kf (fun q => h ((dp_I_lt dp_R0 hx).mpr q)) H locs ls hW hS hL)
theorem dp_icmp_le (C : dp_C E A p s m args meth co cc own nL Ts) {x y off : Int} {tgt : Nat} (hd : decode cc pc = .ok (.if_icmp .le off, 3)) (ht : (pc : Int) + off = (tgt : Int)) (hx : dp_R x) (hy : dp_R y) (kt : ¬ y < x → dp_G E A p l e R s m args below meth co ce sl Q M tgt L st) (kf : y < x → dp_G E A p l e R s m args below meth co ce sl Q M (pc + 3) L st) : dp_G E A p l e R s m args below meth co ce sl Q M pc L (.int (dp_I y) :: .int (dp_I x) :: st) := fun H locs ls hW hS hL => lv_icmp_le C.1.1 C.1.2.1 hd ht (fun h => kt (Int.not_lt.mpr ((dp_I_le hx hy).mp h)) H locs ls hW hS hL) (fun h => kf (Int.not_le.mp (fun q => h ((dp_I_le hx hy).mpr q))) H locs ls hW hS hL)
theorem dp_if_le (C : dp_C E A p s m args meth co cc own nL Ts) {x off : Int} {tgt : Nat} (hd : decode cc pc = .ok (.ifCond .le off, 3)) (ht : (pc : Int) + off = (tgt : Int)) (hx : dp_R x) (kt : ¬ 0 < x → dp_G E A p l e R s m args below meth co ce sl Q M tgt L st) (kf : 0 < x → dp_G E A p l e R s m args below meth co ce sl Q M (pc + 3) L st) : dp_G E A p l e R s m args below meth co ce sl Q M pc L (.int (dp_I x) :: st) := fun H locs ls hW hS hL => lv_if_le C.1.1 C.1.2.1 hd ht (fun h => kt (Int.not_lt.mpr ((dp_I_le hx dp_R0).mp h)) H locs ls hW hS hL) (fun h => kf (Int.not_le.mp (fun q => h ((dp_I_le hx dp_R0).mpr q))) H locs ls hW hS hL)
theorem dp_b0 {P : Prop} {_ : Decidable P} : dp_b P = 0 ↔ ¬ P := by
  unfold dp_b
  by_cases h : P <;> simp [h]
theorem dp_Rb {P : Prop} {_ : Decidable P} : dp_R (dp_b P) := by
  unfold dp_b dp_R
  by_cases h : P <;> simp [h]
theorem dp_ifz_eq (C : dp_C E A p s m args meth co cc own nL Ts) {P : Prop} {_ : Decidable P} {off : Int} {tgt : Nat} (hd : decode cc pc = .ok (.ifCond .eq off, 3)) (ht : (pc : Int) + off = (tgt : Int)) (kt : ¬ P → dp_G E A p l e R s m args below meth co ce sl Q M tgt L st) (kf : P → dp_G E A p l e R s m args below meth co ce sl Q M (pc + 3) L st) : dp_G E A p l e R s m args below meth co ce sl Q M pc L (.int (dp_I (dp_b P)) :: st) := dp_if_eq C hd ht dp_Rb (fun h => kt (dp_b0.mp h)) (fun h => kf (Decidable.of_not_not (fun q => h (dp_b0.mpr q))))
theorem dp_ifz_ne (C : dp_C E A p s m args meth co cc own nL Ts) {P : Prop} {_ : Decidable P} {off : Int} {tgt : Nat} (hd : decode cc pc = .ok (.ifCond .ne off, 3)) (ht : (pc : Int) + off = (tgt : Int)) (kt : P → dp_G E A p l e R s m args below meth co ce sl Q M tgt L st) (kf : ¬ P → dp_G E A p l e R s m args below meth co ce sl Q M (pc + 3) L st) : dp_G E A p l e R s m args below meth co ce sl Q M pc L (.int (dp_I (dp_b P)) :: st) := dp_if_ne C hd ht dp_Rb (fun h => kt (Decidable.of_not_not (fun q => h (dp_b0.mpr q)))) (fun h => kf (dp_b0.mp h))
def dp_sw (P : Nat → Prop) (x : Int) : Int → List Nat → Prop
  | _, [] => True
  | lo, t :: ts => (x = lo → P t) ∧ dp_sw P x (lo + 1) ts
theorem dp_sw_at {P : Nat → Prop} {x : Int} : ∀ {ts : List Nat} {lo : Int}, dp_sw P x lo ts → ∀ (k : Nat) (t : Nat), ts[k]? = some t → x = lo + k → P t := by
  intro ts
  induction ts with
  | nil => intro lo h k t hk; simp at hk
  | cons a ts ih =>
    intro lo h k t hk hx
    cases k with
    | zero =>
      simp at hk
      subst hk
      exact h.1 (by omega)
    | succ k => exact ih h.2 k t (by simpa using hk) (by omega)
theorem dp_table (C : dp_C E A p s m args meth co cc own nL Ts) (tg : List Nat) {lo hi dflt x : Int} {offs : Array Int} {len td : Nat} (hd : decode cc pc = .ok (.tableswitch dflt lo hi offs, len)) (hoff : offs.toList = tg.map (fun (t : Nat) => (t : Int) - (pc : Int))) (hlen : hi - lo + 1 = (tg.length : Int)) (ht : (pc : Int) + dflt = (td : Int)) (hx : dp_R x) (kd : (x < lo ∨ hi < x) → dp_G E A p l e R s m args below meth co ce sl Q M td L st) (kk : dp_sw (fun t => dp_G E A p l e R s m args below meth co ce sl Q M t L st) x lo tg) : dp_G E A p l e R s m args below meth co ce sl Q M pc L (.int (dp_I x) :: st) := fun H locs ls hW hS hL => by
  by_cases h1 : x < lo
  · exact lv_tableOut C.1.1 C.1.2.1 hd (by rw [dp_I_toInt hx]; exact Or.inl h1) ht (kd (Or.inl h1) H locs ls hW hS hL)
  by_cases h2 : hi < x
  · exact lv_tableOut C.1.1 C.1.2.1 hd (by rw [dp_I_toInt hx]; exact Or.inr h2) ht (kd (Or.inr h2) H locs ls hW hS hL)
  have hk : (x - lo).toNat < tg.length := by omega
  have g1 : offs[(x - lo).toNat]? = some ((tg[(x - lo).toNat] : Int) - (pc : Int)) := by
    rw [← Array.getElem?_toList, hoff, List.getElem?_map, List.getElem?_eq_getElem hk]
    rfl
  exact lv_tableIn (tgt := tg[(x - lo).toNat]) C.1.1 C.1.2.1 hd (by rw [dp_I_toInt hx]; exact h1) (by rw [dp_I_toInt hx]; exact h2) (by rw [dp_I_toInt hx]; exact g1) (by omega) (dp_sw_at kk _ _ (List.getElem?_eq_getElem hk) (by omega) H locs ls hW hS hL)
theorem dp_look2 (C : dp_C E A p s m args meth co cc own nL Ts) {a b o1 o2 dflt x : Int} {len t1 t2 td : Nat} (hd : decode cc pc = .ok (.lookupswitch dflt #[(a, o1), (b, o2)], len)) (hab : a < b) (h1 : (pc : Int) + o1 = (t1 : Int)) (h2 : (pc : Int) + o2 = (t2 : Int)) (h3 : (pc : Int) + dflt = (td : Int)) (hx : dp_R x) (k1 : x = a → dp_G E A p l e R s m args below meth co ce sl Q M t1 L st) (k2 : x = b → dp_G E A p l e R s m args below meth co ce sl Q M t2 L st) (kd : ¬ x = a → ¬ x = b → dp_G E A p l e R s m args below meth co ce sl Q M td L st) : dp_G E A p l e R s m args below meth co ce sl Q M pc L (.int (dp_I x) :: st) := fun H locs ls hW hS hL => by
  have hp : ((#[(a, o1), (b, o2)] : Array (Int × Int)).toList.zip ((#[(a, o1), (b, o2)] : Array (Int × Int)).toList.drop 1)).all (fun (a, next) => a.1 < next.1) = true := by simpa using hab
  by_cases e1 : x = a
  · exact lv_lookup C.1.1 C.1.2.1 hd hp (off := o1) (by rw [dp_I_toInt hx, Op.lookupswitch.offset_cons, if_pos e1.symm]) h1 (k1 e1 H locs ls hW hS hL)
  by_cases e2 : x = b
  · exact lv_lookup C.1.1 C.1.2.1 hd hp (off := o2) (by rw [dp_I_toInt hx, Op.lookupswitch.offset_cons, if_neg (fun q => e1 q.symm), Op.lookupswitch.offset_cons, if_pos e2.symm]) h2 (k2 e2 H locs ls hW hS hL)
  exact lv_lookup C.1.1 C.1.2.1 hd hp (off := dflt) (by rw [dp_I_toInt hx, Op.lookupswitch.offset_cons, if_neg (fun q => e1 q.symm), Op.lookupswitch.offset_cons, if_neg (fun q => e2 q.symm), Op.lookupswitch.offset_nil]) h3 (kd e1 e2 H locs ls hW hS hL)
end DG
