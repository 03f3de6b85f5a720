section DX
variable {E : dp_E} {A : Nat → Prop} {p : Program} {l : Launch} {e : Env} {R : Room} {s : State} {m : MethodId} {args : Array Value} {below : List Frame} {meth : Method} {co : Code} {ce sl : Nat} {Q : State → Prop} {cc : ByteArray} {own : String} {nL : Nat} {Ts : List Cond} {M : dp_M} {pc : Nat} {L : List (Option Value)} {st : List Value}
/-- the remainder as Java has it, with a positive divisor -/
theorem dp_iremT (C : dp_C E A p s m args meth co cc own nL Ts) {x y : Int} (hx : dp_R x) (hy : 0 < y ∧ y < 2147483648) (hd : decode cc pc = .ok (.irem, 1)) (k : dp_G E A p l e R s m args below meth co ce sl Q M (pc + 1) L (.int (dp_I (x.tmod y)) :: st)) : dp_G E A p l e R s m args below meth co ce sl Q M pc L (.int (dp_I y) :: .int (dp_I x) :: st) := fun H locs ls hW hS hL => by
  have hx' := hx
  unfold dp_R at hx'
  have e1 : dp_I x / dp_I y = dp_I (x.tdiv y) := (Int32.ofInt_tdiv (by show (-2147483648 : Int) ≤ x; omega) (by show x ≤ (2147483647 : Int); omega) (by show (-2147483648 : Int) ≤ y; omega) (by show y ≤ (2147483647 : Int); omega)).symm
  refine lv_irem C.1.1 C.1.2.1 hd (fun q => by rw [dp_I_z, dp_I_eq ⟨by omega, by omega⟩ dp_R0] at q; omega) ?_
  rw [e1, dp_I_mul, dp_I_sub, show x - x.tdiv y * y = x.tmod y by rw [Int.tmod_def, Int.mul_comm]]
  exact k H locs ls hW hS hL
/-- an exclusive or, by its sign -/
theorem dp_ixor (C : dp_C E A p s m args meth co cc own nL Ts) {x y : Int} (hx : dp_R x) (hy : dp_R y) (hd : decode cc pc = .ok (.ixor, 1)) (k : ∀ z : Int, dp_R z → (z < 0 ↔ ¬ (x < 0 ↔ y < 0)) → dp_G E A p l e R s m args below meth co ce sl Q M (pc + 1) L (.int (dp_I z) :: st)) : dp_G E A p l e R s m args below meth co ce sl Q M pc L (.int (dp_I y) :: .int (dp_I x) :: st) := fun H locs ls hW hS hL => by
  refine lv_ixor C.1.1 C.1.2.1 hd ?_
  have e1 : dp_I x ^^^ dp_I y = dp_I (dp_I x ^^^ dp_I y).toInt := dp_I_of _
  rw [e1]
  refine k _ (dp_R_to _) ?_ H locs ls hW hS hL
  have sg : ∀ w : Int32, w.toBitVec.msb = decide (w.toInt < 0) := fun w => BitVec.msb_eq_toInt
  have e2 : (dp_I x ^^^ dp_I y).toBitVec.msb = ((dp_I x).toBitVec.msb ^^ (dp_I y).toBitVec.msb) := by
    show ((dp_I x).toBitVec ^^^ (dp_I y).toBitVec).msb = _
    exact BitVec.msb_xor
  rw [sg, sg, sg, dp_I_toInt hx, dp_I_toInt hy] at e2
  by_cases a : x < 0 <;> by_cases b : y < 0 <;> simp [a, b] at e2 ⊢ <;> omega
theorem dp_ofF {y : MethodName} {ws ws' : List Cond} {ret : Option FieldType} {fr lo : Nat} {av : List Value} {Qc : Array Value → State → Outcome → State → Prop} (hy : plainFor y = true) (ho : y.cls = own) (hw : ws = Cond.code y cc nL ret :: ws') (hok : dp_OK E) (hcat : ∀ v ∈ av, v.category = 1) (hlen : av.length ≤ nL)
    (body : ∀ (p : Program) (e : Env) (s : State) (m : MethodId) (below : List Frame) (meth : Method) (co : Code), dp_C E (dp_A E) p s m av.toArray meth co cc own nL ws → meth.sig.returnType = ret → dp_G E (dp_A E) p l e (dp_rm fr lo) s m av.toArray below meth co 0 0 (MQ below Qc av.toArray s 0 0 (dp_A E)) M 0 (av.map some ++ List.replicate (nL - av.length) none) []) : dp_met E l y ws fr lo av M Qc := by
  refine va_MetF (cc := cc) (maxL := nL) (ret := ret) hy hw ?_
  intro p e s m args below meth c s₁ B hml hv
  obtain ⟨rfl, hWd, hK, hZ⟩ := hv
  have hts := atoms_spec (ws := ws) B.pre
  have hown : s.vm.findClass own = some m.cls := by rw [← ho]; exact findClass_of_methodNamed B.named
  rw [lg_entry_eq]
  exact body p e s m below meth c ⟨⟨B.exec, B.bytes, hml, hown, hts⟩, B.notSynchronized, hok, fun _ h => h, hK, hZ⟩ B.returns s.heap [] _ hWd va_S.rf (dp_entry hcat hlen)
end DX
