section DX
variable {E : dp_E} {A : Nat → Prop} {p : Program} {l : Launch} {e : Env} {R : Room} {s : State} {m : MethodId} {args : Array Value} {below : List Frame} {meth : Method} {co : Code} {ce sl : Nat} {Q : State → Prop} {cc : ByteArray} {own : String} {nL : Nat} {Ts : List Cond} {M : dp_M} {pc : Nat} {L : List (Option Value)} {st : List Value}
/-- the remainder as Java has it, with a positive divisor -/
theorem dp_iremT (C : dp_C E A p s m args meth co cc own nL Ts) {x y : Int} (hx : dp_R x) (hy : 0 < y ∧ y < 2147483648) (hd : decode cc pc = .ok (.irem, 1)) (k : dp_G E A p l e R s m args below meth co ce sl Q M (pc + 1) L (.int (dp_I (x.tmod y)) :: st)) : dp_G E A p l e R s m args below meth co ce sl Q M pc L (.int (dp_I y) :: .int (dp_I x) :: st) := fun H locs ls hW hS hL => by
  have hx' := hx
  unfold dp_R at hx'
  have e1 : dp_I x / dp_I y = dp_I (x.tdiv y) := (Int32.ofInt_tdiv (by show (-2147483648 : Int) ≤ x; omega) (by show x ≤ (2147483647 : Int); omega) (by show (-2147483648 : Int) ≤ y; omega) (by show y ≤ (2147483647 : Int); omega)).symm
  refine lv_irem C.1.1 C.1.2.1 hd (fun q => by rw [dp_I_z, dp_I_eq ⟨by omega, by omega⟩ dp_R0] at q; omega) ?_
  rw [e1, dp_I_mul, dp_I_sub, show x - x.tdiv y * y = x.tmod y by rw [Int.tmod_def, Int.mul_comm]]
  exact k H locs ls hW hS hL
theorem dp_xsta {E : dp_E} {M : dp_M} {X : dp_V} : dp_x E (dR M 7 X) 7 2 = dp_refs (eS E) 5 (fun i => eAd E (X 2 i).toNat 0) := by
  rw [dp_x_C]
  unfold dp_xC
  rw [dR_same]
  rfl
/-- a static row of a nest mate -/
theorem dp_getsN (C : dp_C E A p s m args meth co cc own nL Ts) {n d host : String} {ty : FieldType} {t N i : Nat} {f : Nat → Int} (hZ : dp_Z1 A n d ty t N f s s.heap) (hl : va_Nw (.fieldLinkNest own i "DishPointer" n d host) s) (hd : decode cc pc = .ok (.getstatic i, 3)) (k : dp_G E A p l e R s m args below meth co ce sl Q M (pc + 3) L (.ref t :: st)) : dp_G E A p l e R s m args below meth co ce sl Q M pc L st := fun H locs ls hW hS hL => va_getsN C.1.1 C.1.2.1 hZ.1 hS C.1.2.2.2.1 (va_Nw.use rfl hl) (fun _ h => h) hd (k H locs ls hW hS hL)
theorem dp_i2c (C : dp_C E A p s m args meth co cc own nL Ts) {x : Int} (h : 0 ≤ x ∧ x < 65536) (hd : decode cc pc = .ok (.i2c, 1)) (k : dp_G E A p l e R s m args below meth co ce sl Q M (pc + 1) L (.int (dp_I x) :: st)) : dp_G E A p l e R s m args below meth co ce sl Q M pc L (.int (dp_I x) :: st) := fun H locs ls hW hS hL => by
  refine lv_i2c C.1.1 C.1.2.1 hd (v := dp_I x) ?_ (k H locs ls hW hS hL)
  apply Int32.toBitVec_inj.mp
  apply BitVec.eq_of_toNat_eq
  have e : (dp_I x).toBitVec.toNat = x.toNat := by
    show (BitVec.ofInt 32 x).toNat = _
    rw [BitVec.toNat_ofInt]
    omega
  have e2 : ((dp_I x).toUInt32 % 65536).toInt32.toBitVec.toNat = (dp_I x).toBitVec.toNat % 65536 := by
    show ((dp_I x).toUInt32 % 65536).toNat = _
    rw [UInt32.toNat_mod]
    rfl
  rw [e2, e]
  omega
/-- a static method of a nest mate -/
theorem dp_cNi (C : dp_C E A p s m args meth co cc own nL Ts) {y : MethodName} {host : String} {ws ws' : List Cond} {fr lo maxL i n : Nat} {bytes : ByteArray} {ret : Option FieldType} {As rest : List Value} {P : Int → dp_M → Prop} (hM : dp_met E l y ws fr lo As M (dp_qi E P)) (hG : GoodIn Ts ws) (hw : ws = Cond.code y bytes maxL ret :: ws') (hl : va_Nw (.methodLinkNest own i y host) s) (hst2 : Cond.static y ∈ Ts) (hini : Cond.initialized y.cls ∈ Ts) (hdy : y.cls ≠ "java/lang/invoke/MethodHandle" ∧ y.cls ≠ "java/lang/invoke/VarHandle" ∧ (parseMethodDescriptor y.desc).map (fun d => d.parameters.length) = some n) (hn : As.length = n) (hR : fr + 1 ≤ R.frames ∧ 8 + (maxL + 11) + lo ≤ R.locals) (hst : st = As.reverse ++ rest) (hcat : (rest.map fun v => v.category).sum ≤ 8) (hL0 : L.length = nL) (hce : ce ≤ R.cells ∧ sl ≤ R.slots) (hd : decode cc pc = .ok (.invokestatic i, 3)) (k : ∀ x M1, P x M1 → dp_G E A p l e R s m args below meth co ce sl Q M1 (pc + 3) L (.int (dp_I x) :: rest)) : dp_G E A p l e R s m args below meth co ce sl Q M pc L st := fun H locs ls hW hS hL => by
  subst hst
  have hr := va_runSN (e := e) (below := below) (meth := meth) (locs := locs) (cells := ce) (slots := sl) (As := As) (rest := rest) (g := F0 m pc ls (As.reverse ++ rest)) C.1 hM ⟨va_cnB n C.1.2.2.2.2 hG hw rfl rfl hl (C.1.2.2.2.2 _ hini) hdy hR, C.1.2.2.2.2 _ hst2, trivial⟩ ⟨dp_blind, dp_pre C.2.2.2.1 C.2.2.2.2.1 C.2.2.2.2.2 hW hS⟩ rfl hn (by rw [hL.1, hL0]) rfl (lv_room hcat) hd ⟨hce.1, hce.2⟩
  refine va_calli hr hS (fun q _ h => C.2.2.2.1 q h) (fun q h => C.2.2.2.1 q h) (fun y9 u t H1 locs1 ht hvm hw9 hB hz1 hk1 hS1 => ?_)
  obtain ⟨x, rfl, hp⟩ := hw9
  exact k x u hp H1 locs1 ls (by rw [← ht]; exact hB.1) hS1 hL
/-- an exclusive or, by its sign -/
theorem dp_ixor (C : dp_C E A p s m args meth co cc own nL Ts) {x y : Int} (hx : dp_R x) (hy : dp_R y) (hd : decode cc pc = .ok (.ixor, 1)) (k : ∀ z : Int, dp_R z → (z < 0 ↔ ¬ (x < 0 ↔ y < 0)) → dp_G E A p l e R s m args below meth co ce sl Q M (pc + 1) L (.int (dp_I z) :: st)) : dp_G E A p l e R s m args below meth co ce sl Q M pc L (.int (dp_I y) :: .int (dp_I x) :: st) := fun H locs ls hW hS hL => by
  refine lv_ixor C.1.1 C.1.2.1 hd ?_
  have e1 : dp_I x ^^^ dp_I y = dp_I (dp_I x ^^^ dp_I y).toInt := dp_I_of _
  rw [e1]
  refine k _ (dp_R_to _) ?_ H locs ls hW hS hL
  have sg : ∀ w : Int32, w.toBitVec.msb = decide (w.toInt < 0) := fun w => BitVec.msb_eq_toInt
  have e2 : (dp_I x ^^^ dp_I y).toBitVec.msb = ((dp_I x).toBitVec.msb ^^ (dp_I y).toBitVec.msb) := by
    show ((dp_I x).toBitVec ^^^ (dp_I y).toBitVec).msb = _
    exact BitVec.msb_xor
  rw [sg, sg, sg, dp_I_toInt hx, dp_I_toInt hy] at e2
  by_cases a : x < 0 <;> by_cases b : y < 0 <;> simp [a, b] at e2 ⊢ <;> omega
theorem dp_ofF {y : MethodName} {ws ws' : List Cond} {ret : Option FieldType} {fr lo : Nat} {av : List Value} {Qc : Array Value → State → Outcome → State → Prop} (hy : plainFor y = true) (ho : y.cls = own) (hw : ws = Cond.code y cc nL ret :: ws') (hok : dp_OK E) (hcat : ∀ v ∈ av, v.category = 1) (hlen : av.length ≤ nL)
    (body : ∀ (p : Program) (e : Env) (s : State) (m : MethodId) (below : List Frame) (meth : Method) (co : Code), dp_C E (dp_A E) p s m av.toArray meth co cc own nL ws → meth.sig.returnType = ret → dp_G E (dp_A E) p l e (dp_rm fr lo) s m av.toArray below meth co 0 0 (MQ below Qc av.toArray s 0 0 (dp_A E)) M 0 (av.map some ++ List.replicate (nL - av.length) none) []) : dp_met E l y ws fr lo av M Qc := by
  refine va_MetF (cc := cc) (maxL := nL) (ret := ret) hy hw ?_
  intro p e s m args below meth c s₁ B hml hv
  obtain ⟨rfl, hWd, hK, hZ⟩ := hv
  have hts := atoms_spec (ws := ws) B.pre
  have hown : s.vm.findClass own = some m.cls := by rw [← ho]; exact findClass_of_methodNamed B.named
  rw [lg_entry_eq]
  exact body p e s m below meth c ⟨⟨B.exec, B.bytes, hml, hown, hts⟩, B.notSynchronized, hok, fun _ h => h, hK, hZ⟩ B.returns s.heap [] _ hWd va_S.rf (dp_entry hcat hlen)
theorem dp_W.of_set2 {E : dp_E} {M M' : dp_M} {H : Heap} {r c q0 : Nat} {x : va_E} (hq : (dp_ps E)[q0]? = some (r, c)) (hP : va_P E.1 vwCl ((dp_ws E M).set q0 (eAd E r c, x)) H) (hx : va_at E.1 vwCl (eAd E r c, x) H → va_at E.1 vwCl (eAd E r c, dp_x E M' r c) H) (hf : ∀ r' c', (r', c') ∈ dp_ps E → (r', c') ≠ (r, c) → dp_x E M' r' c' = dp_x E M r' c') : dp_W E M' H := by
  intro r' c' hm
  have hl : q0 < (dp_ws E M).length := (List.getElem?_eq_some_iff.mp (dp_ws_at (E := E) (M := M) hq)).1
  by_cases he : (r', c') = (r, c)
  · cases he
    exact hx (hP q0 _ (List.getElem?_set_self hl))
  · obtain ⟨q1, h1⟩ := List.getElem?_of_mem hm
    rw [hf r' c' hm he]
    refine hP q1 _ ?_
    rw [List.getElem?_set_ne (fun e => he (by rw [e, h1] at hq; exact Option.some.inj hq))]
    exact dp_ws_at h1
/-- a whole row of ints copied over another of the same length -/
theorem dp_copyi (C : dp_C E A p s m args meth co cc own nL Ts) {i r c r2 c2 n : Nat} {n9 : Int} {f g : Nat → Int} {M' : dp_M} (h1 : Cond.methodLink own i arraycopyName ∈ Ts) (h2 : Cond.native arraycopyName ∈ Ts) (h3 : Cond.static arraycopyName ∈ Ts) (h4 : Cond.initialized "java/lang/System" ∈ Ts) (hm2 : (r2, c2) ∈ dp_ps E) (hx2 : dp_x E M r2 c2 = dp_ints (eI E) n f) (hm : (r, c) ∈ dp_ps E) (hx : dp_x E M r c = dp_ints (eI E) n g) (hx' : dp_x E M' r c = dp_ints (eI E) n f) (hf : ∀ r' c', (r', c') ∈ dp_ps E → (r', c') ≠ (r, c) → dp_x E M' r' c' = dp_x E M r' c') (hn9 : (n : Int) = n9) (hn : n < 2147483648) (hfr : 1 ≤ R.frames) (hlo : (st.map fun v => v.category).sum + (nativeFrameWords "java/lang/System" "arraycopy" 5 + 11) ≤ R.locals) (hL0 : L.length = nL) (hd : decode cc pc = .ok (.invokestatic i, 3)) (k : dp_G E A p l e R s m args below meth co ce sl Q M' (pc + 3) L st) : dp_G E A p l e R s m args below meth co ce sl Q M pc L (.int (dp_I n9) :: .int (dp_I 0) :: .ref (eAd E r c) :: .int (dp_I 0) :: .ref (eAd E r2 c2) :: st) := fun H locs ls hW hS hL => by
  subst hn9
  obtain ⟨q0, hq0⟩ := List.getElem?_of_mem hm2
  obtain ⟨q1, hq1⟩ := List.getElem?_of_mem hm
  have z0 : (dp_I 0).toNatClampNeg = 0 := by decide
  have zn : (dp_I (n : Int)).toNatClampNeg = n := by rw [dp_I_nat (by omega) (by omega)]; omega
  have p0 : ¬ dp_I 0 < 0 := by decide
  have pn : ¬ dp_I (n : Int) < 0 := by rw [dp_I_z, dp_I_lt ⟨by omega, by omega⟩ dp_R0]; omega
  refine va_copyi C.1.1 C.1.2.1 (by rw [hL.1, hL0]; exact C.1.2.2.1) C.1.2.2.2.1 (C.1.2.2.2.2 _ h1) (C.1.2.2.2.2 _ h2) (C.1.2.2.2.2 _ h3) (C.1.2.2.2.2 _ h4) C.2.2.2.2.1 hW.P (dp_D C.2.2.1 C.2.2.2.1) hS q0 q1 0 0 (a0 := eAd E r2 c2) (c0 := eI E) (c1 := eI E) (n0 := n) (n1 := n) (f := fun j => dp_I (f j)) (g := fun j => dp_I (g j)) (ty := .int) (by rw [dp_ws_at hq0, hx2]; rfl) (by rw [dp_ws_at hq1, hx]; rfl) rfl rfl rfl p0 p0 pn (by rw [z0, zn]; omega) (by rw [z0, zn]; omega) (fun j _ => rfl) hfr hlo hd (fun H1 locs1 hP hD hS1 => k H1 locs1 ls ?_ hS1 hL)
  rw [z0, zn] at hP
  refine dp_W.of_set2 hq1 hP (fun h => ?_) hf
  rw [hx']
  refine Eq.trans h (congrArg some ?_)
  show vp_cell (eI E) (n, .inl _) = vp_cell (eI E) (n, .inl _)
  rw [vp_cell_i, vp_cell_i]
  refine dp_arr (fun j hj => ?_)
  unfold va_cpy
  rw [if_pos ⟨by omega, by omega⟩]
  congr 3
  omega
end DX
