/-! THE LAW'S OWN METHODS: rules that only they want -/
section DL
variable {E : dp_E} {A : Nat → Prop} {p : Program} {l : Launch} {e : Env} {R : Room} {s : State} {m : MethodId} {args : Array Value} {below : List Frame} {meth : Method} {co : Code} {ce sl : Nat} {Q : State → Prop} {cc : ByteArray} {own : String} {nL : Nat} {Ts : List Cond} {M : dp_M} {pc : Nat} {L : List (Option Value)} {st : List Value}
theorem dp_iandm (C : dp_C E A p s m args meth co cc own nL Ts) {x : Int} (hd : decode cc pc = .ok (.iand, 1)) (k : ∀ v : Int, 0 ≤ v → v < 2147483648 → dp_G E A p l e R s m args below meth co ce sl Q M (pc + 1) L (.int (dp_I v) :: st)) : dp_G E A p l e R s m args below meth co ce sl Q M pc L (.int (dp_I 2147483647) :: .int (dp_I x) :: st) := fun H locs ls hW hS hL => by
  refine lv_iand C.1.1 C.1.2.1 hd ?_
  have e1 : dp_I x &&& dp_I 2147483647 = dp_I (dp_I x &&& dp_I 2147483647).toInt := dp_I_of _
  rw [e1]
  have sg : ∀ w : Int32, w.toBitVec.msb = decide (w.toInt < 0) := fun w => BitVec.msb_eq_toInt
  have e2 : (dp_I x &&& dp_I 2147483647).toBitVec.msb = ((dp_I x).toBitVec.msb && (dp_I 2147483647).toBitVec.msb) := by
    show ((dp_I x).toBitVec &&& (dp_I 2147483647).toBitVec).msb = _
    exact BitVec.msb_and
  have e3 : (dp_I 2147483647).toBitVec.msb = false := by decide
  rw [e3, Bool.and_false, sg] at e2
  have e4 := of_decide_eq_false e2
  exact k _ (by omega) (dp_R_to _).2 H locs ls hW hS hL
theorem dp_any {x : Int32} (k : ∀ v : Int, dp_R v → dp_G E A p l e R s m args below meth co ce sl Q M pc L (.int (dp_I v) :: st)) : dp_G E A p l e R s m args below meth co ce sl Q M pc L (.int x :: st) := by
  rw [dp_I_of x]
  exact k _ (dp_R_to x)
theorem dp_ixorA (C : dp_C E A p s m args meth co cc own nL Ts) {x y : Int32} (hd : decode cc pc = .ok (.ixor, 1)) (k : ∀ v : Int, dp_R v → dp_G E A p l e R s m args below meth co ce sl Q M (pc + 1) L (.int (dp_I v) :: st)) : dp_G E A p l e R s m args below meth co ce sl Q M pc L (.int y :: .int x :: st) := fun H locs ls hW hS hL => lv_ixor C.1.1 C.1.2.1 hd (dp_any k H locs ls hW hS hL)
theorem dp_ishrA (C : dp_C E A p s m args meth co cc own nL Ts) {x y : Int32} (hd : decode cc pc = .ok (.ishr, 1)) (k : ∀ v : Int, dp_R v → dp_G E A p l e R s m args below meth co ce sl Q M (pc + 1) L (.int (dp_I v) :: st)) : dp_G E A p l e R s m args below meth co ce sl Q M pc L (.int y :: .int x :: st) := fun H locs ls hW hS hL => lv_ishr C.1.1 C.1.2.1 hd (dp_any k H locs ls hW hS hL)
/-- a local forgotten -/
theorem dp_dr (i : Nat) (k : dp_G E A p l e R s m args below meth co ce sl Q M pc (L.set i none) st) : dp_G E A p l e R s m args below meth co ce sl Q M pc L st := fun H locs ls hW hS hL => k H locs ls hW hS ⟨by rw [List.length_set]; exact hL.1, hL.2.1, fun j v hj => by
  by_cases q : j = i
  · subst q
    by_cases z : j < L.length
    · rw [List.getElem?_set_self z] at hj
      cases hj
    · rw [List.getElem?_eq_none (by rw [List.length_set]; omega)] at hj
      cases hj
  · rw [List.getElem?_set_ne (fun z => q z.symm)] at hj
    exact hL.2.2 j v hj⟩
/-! longs -/
def dp_J (x : Int) : Int64 := Int64.ofInt x
def dp_RJ (x : Int) : Prop := -9223372036854775808 ≤ x ∧ x < 9223372036854775808
theorem dp_J_toInt {x : Int} (h : dp_RJ x) : (dp_J x).toInt = x := Int64.toInt_ofInt_of_le (by have := h.1; omega) (by have := h.2; omega)
def cmpL (x y : Int) : Int := if y < x then 1 else if x = y then 0 else -1
theorem cmpL_R {x y : Int} : dp_R (cmpL x y) := by
  unfold cmpL dp_R
  repeat' split
  all_goals omega
theorem cmpL_lt {x y : Int} : cmpL x y < 0 ↔ x < y := by
  unfold cmpL
  repeat' split
  all_goals omega
theorem dp_J_cmp {x y : Int} (hx : dp_RJ x) (hy : dp_RJ y) : lg_cmp (dp_J x) (dp_J y) = dp_I (cmpL x y) := by
  unfold lg_cmp cmpL
  by_cases h : y < x
  · rw [if_pos h, if_pos (show dp_J x > dp_J y from Int64.lt_iff_toInt_lt.mpr (by rw [dp_J_toInt hx, dp_J_toInt hy]; exact h))]
    rfl
  · rw [if_neg h, if_neg (show ¬ dp_J x > dp_J y from fun q => h (by have q2 := Int64.lt_iff_toInt_lt.mp q; rw [dp_J_toInt hx, dp_J_toInt hy] at q2; exact q2))]
    by_cases h2 : x = y
    · subst h2
      rw [if_pos rfl, if_pos rfl]
      rfl
    · rw [if_neg h2, if_neg (fun q => h2 (by have q2 := congrArg Int64.toInt q; rw [dp_J_toInt hx, dp_J_toInt hy] at q2; exact q2))]
      rfl
theorem dp_ldc2 (C : dp_C E A p s m args meth co cc own nL Ts) {i : Nat} {v : Int64} (n : Int) (hc : Cond.constantLong own i v ∈ Ts) (hv : v = dp_J n) (hd : decode cc pc = .ok (.ldc2_w i, 3)) (k : dp_G E A p l e R s m args below meth co ce sl Q M (pc + 3) L (.long (dp_J n) :: st)) : dp_G E A p l e R s m args below meth co ce sl Q M pc L st := fun H locs ls hW hS hL => by
  subst hv
  exact lv_ldc2 C.1.1 C.1.2.1 C.1.2.2.2.1 (C.1.2.2.2.2 _ hc) hd (k H locs ls hW hS hL)
theorem dp_lconst (C : dp_C E A p s m args meth co cc own nL Ts) {n : Fin 2} (x : Int) (hv : Int64.ofNat (n : Nat) = dp_J x) (hd : decode cc pc = .ok (.lconst n, 1)) (k : dp_G E A p l e R s m args below meth co ce sl Q M (pc + 1) L (.long (dp_J x) :: st)) : dp_G E A p l e R s m args below meth co ce sl Q M pc L st := fun H locs ls hW hS hL => lv_lconst C.1.1 C.1.2.1 hd hv (k H locs ls hW hS hL)
theorem dp_i2l (C : dp_C E A p s m args meth co cc own nL Ts) {x : Int} (hx : dp_R x) (hd : decode cc pc = .ok (.i2l, 1)) (k : dp_G E A p l e R s m args below meth co ce sl Q M (pc + 1) L (.long (dp_J x) :: st)) : dp_G E A p l e R s m args below meth co ce sl Q M pc L (.int (dp_I x) :: st) := fun H locs ls hW hS hL => lv_i2l C.1.1 C.1.2.1 hd (v := dp_J x) (by
  have e : Int64.ofInt (dp_I x).toInt = (dp_I x).toInt64 := Int64.ofInt_int32ToInt _
  rw [← e, dp_I_toInt hx]
  rfl) (k H locs ls hW hS hL)
theorem dp_lmul (C : dp_C E A p s m args meth co cc own nL Ts) {x y : Int} (hd : decode cc pc = .ok (.lmul, 1)) (k : dp_G E A p l e R s m args below meth co ce sl Q M (pc + 1) L (.long (dp_J (x * y)) :: st)) : dp_G E A p l e R s m args below meth co ce sl Q M pc L (.long (dp_J y) :: .long (dp_J x) :: st) := fun H locs ls hW hS hL => lv_lmul C.1.1 C.1.2.1 hd (by
  rw [show dp_J x * dp_J y = dp_J (x * y) from (Int64.ofInt_mul x y).symm]
  exact k H locs ls hW hS hL)
theorem dp_ladd (C : dp_C E A p s m args meth co cc own nL Ts) {x y : Int} (hd : decode cc pc = .ok (.ladd, 1)) (k : dp_G E A p l e R s m args below meth co ce sl Q M (pc + 1) L (.long (dp_J (x + y)) :: st)) : dp_G E A p l e R s m args below meth co ce sl Q M pc L (.long (dp_J y) :: .long (dp_J x) :: st) := fun H locs ls hW hS hL => lv_ladd C.1.1 C.1.2.1 hd (by
  rw [show dp_J x + dp_J y = dp_J (x + y) from (Int64.ofInt_add x y).symm]
  exact k H locs ls hW hS hL)
theorem dp_lcmp (C : dp_C E A p s m args meth co cc own nL Ts) {x y : Int} (hx : dp_RJ x) (hy : dp_RJ y) (hd : decode cc pc = .ok (.lcmp, 1)) (k : dp_G E A p l e R s m args below meth co ce sl Q M (pc + 1) L (.int (dp_I (cmpL x y)) :: st)) : dp_G E A p l e R s m args below meth co ce sl Q M pc L (.long (dp_J y) :: .long (dp_J x) :: st) := fun H locs ls hW hS hL => W.lcmp C.1.1 C.1.2.1 hd (by
  rw [dp_J_cmp hx hy]
  exact k H locs ls hW hS hL)
theorem dp_lload_n (C : dp_C E A p s m args meth co cc own nL Ts) {i : Fin 4} {x : Int64} (hd : decode cc pc = .ok (.lload_n i, 1)) (hl : L[(i : Nat)]? = some (some (.long x))) (k : dp_G E A p l e R s m args below meth co ce sl Q M (pc + 1) L (.long x :: st)) : dp_G E A p l e R s m args below meth co ce sl Q M pc L st := fun H locs ls hW hS hL => lv_lload_n C.1.1 C.1.2.1 hd rfl (hL.ix hl) (k H locs ls hW hS hL)
theorem dp_lload (C : dp_C E A p s m args meth co cc own nL Ts) {i : Nat} {x : Int64} (hd : decode cc pc = .ok (.lload i, 2)) (hl : L[i]? = some (some (.long x))) (k : dp_G E A p l e R s m args below meth co ce sl Q M (pc + 2) L (.long x :: st)) : dp_G E A p l e R s m args below meth co ce sl Q M pc L st := fun H locs ls hW hS hL => lv_lload C.1.1 C.1.2.1 hd (hL.ix hl) (k H locs ls hW hS hL)
theorem dp_lstore_n (C : dp_C E A p s m args meth co cc own nL Ts) {i : Fin 4} {x : Int64} (hd : decode cc pc = .ok (.lstore_n i, 1)) (hi : (i : Nat) + 1 < L.length) (k : dp_G E A p l e R s m args below meth co ce sl Q M (pc + 1) ((L.set (i : Nat) (some (.long x))).set ((i : Nat) + 1) none) st) (hnl : dp_nl L (i : Nat) = true := by rfl) : dp_G E A p l e R s m args below meth co ce sl Q M pc L (.long x :: st) := fun H locs ls hW hS hL => lv_lstore_n C.1.1 C.1.2.1 hd rfl (hL.has (dp_en L) (fun q hq => dp_en_mem.mp hq)) hi rfl (fun ls1 h1 => k H locs ls1 hW hS (hL.putl hi hnl h1))
theorem dp_lstore (C : dp_C E A p s m args meth co cc own nL Ts) {i : Nat} {x : Int64} (hd : decode cc pc = .ok (.lstore i, 2)) (hi : i + 1 < L.length) (k : dp_G E A p l e R s m args below meth co ce sl Q M (pc + 2) ((L.set i (some (.long x))).set (i + 1) none) st) (hnl : dp_nl L i = true := by rfl) : dp_G E A p l e R s m args below meth co ce sl Q M pc L (.long x :: st) := fun H locs ls hW hS hL => lv_lstore C.1.1 C.1.2.1 hd (hL.has (dp_en L) (fun q hq => dp_en_mem.mp hq)) hi rfl (fun ls1 h1 => k H locs ls1 hW hS (hL.putl hi hnl h1))
end DL
