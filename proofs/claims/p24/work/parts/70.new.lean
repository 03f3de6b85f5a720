/-! CELLS THAT ARE MADE: a world of cells by their addresses, the heap's size known: the next cell lies at it -/
abbrev nw_V : Type := Nat → Option va_E
def up (w : nw_V) (a : Nat) (x : va_E) : nw_V := fun b => if b = a then some x else w b
theorem up_same {w : nw_V} {a : Nat} {x : va_E} : up w a x a = some x := if_pos rfl
theorem up_ne {w : nw_V} {a b : Nat} {x : va_E} (h : b ≠ a) : up w a x b = w b := if_neg h
def nw_W (E : dp_E) (w : nw_V) (H : Heap) : Prop := ∀ a x, w a = some x → va_at E.1 vwCl (a, x) H
theorem nw_W.put {E : dp_E} {w : nw_V} {H H1 : Heap} {a : Nat} {x : va_E} (h : nw_W E w H) (hx : va_at E.1 vwCl (a, x) H1) (ho : ∀ q, q ≠ a → H1[q]? = H[q]?) : nw_W E (up w a x) H1 := by
  intro b y hb
  by_cases e : b = a
  · subst e
    rw [up_same] at hb
    cases hb
    exact hx
  · rw [up_ne e] at hb
    exact (h b y hb).kept (ho b e)
theorem nw_W.push {E : dp_E} {w : nw_V} {H H1 : Heap} {n : Nat} {x : va_E} (h : nw_W E w H) (hn : H.size = n) (hx : va_at E.1 vwCl (n, x) H1) (ho : ∀ q, q < n → H1[q]? = H[q]?) : nw_W E (up w n x) H1 := by
  intro b y hb
  by_cases e : b = n
  · subst e
    rw [up_same] at hb
    cases hb
    exact hx
  · rw [up_ne e] at hb
    have hl : b < H.size := (h b y hb).lt
    exact (h b y hb).kept (ho b (by omega))
theorem nw_W.one {E : dp_E} {w : nw_V} {H : Heap} {a : Nat} {x : va_E} (h : nw_W E w H) (hw : w a = some x) : va_P E.1 vwCl [(a, x)] H := fun k q hk => by
  have hz : k < 1 := (List.getElem?_eq_some_iff.mp hk).1
  rw [show k = 0 by omega] at hk
  cases hk
  exact h a x hw
def nw_X (U : State) : Prop := va_AO "DishPointer$Target" U ∧ va_AO "DishPointer$State" U ∧ dp_N U
def nw_B (E : dp_E) (w : nw_V) (n : Nat) (U : State) : Prop := nw_W E w U.heap ∧ U.heap.size = n ∧ dp_K E U ∧ nw_X U
theorem nw_X.warm {s U : State} (hW : s.WarmedH U.vm) (h : nw_X s) : nw_X U := ⟨h.1.moved hW.alike, h.2.1.moved hW.alike, h.2.2.warm hW⟩
theorem nw_X.same {u U : State} (e : u.vm = U.vm) (h : nw_X u) : nw_X U := ⟨h.1.moved (by rw [e]; exact Vm.Alike.refl _), h.2.1.moved (by rw [e]; exact Vm.Alike.refl _), h.2.2.same e⟩
theorem nw_B.calling {E : dp_E} {w : nw_V} {n : Nat} {U : State} (h : nw_B E w n U) (g : JFrame) (mk : MethodId) (a : Array Value) : nw_B E w n (U.calling g mk a) := ⟨h.1, h.2.1, va_K.moved (u := U) (U := U.calling g mk a) (Vm.Alike.refl U.vm) h.2.2.1, h.2.2.2.same (u := U) (U := U.calling g mk a) rfl⟩
def nw_A (w : nw_V) (n : Nat) : Nat → Prop := fun q => w q ≠ none ∨ n ≤ q
def nw_rm (fr lo mc ms : Nat) : Room := { frames := fr, cells := mc, slots := ms, locals := lo }
def dp_refs0 (k : ClassId) (n : Nat) : va_E := .inl (k, n, .inr (.inr (.inr (.inr (fun _ => none)))))
/-- a constructor's contract: from the world w, n cells, to w1, n1 -/
def nw_met (E : dp_E) (l : Launch) (y : MethodName) (ws : List Cond) (fr lo mc ms : Nat) (av : List Value) (w : nw_V) (n : Nat) (w1 : nw_V) (n1 : Nat) : Prop := Met l y ws (nw_rm fr lo mc ms) (va_Pc av (nw_B E w n)) (va_Qv (fun _ : Unit => True) (fun _ t => nw_B E w1 n1 t) (nw_A w n)) mc ms (nw_A w n)
def nw_C (E : dp_E) (A : Nat → Prop) (p : Program) (s : State) (m : MethodId) (args : Array Value) (meth : Method) (co : Code) (cc : ByteArray) (own : String) (nL : Nat) (Ts : List Cond) : Prop := CallFix p m co cc nL s args Ts own ∧ meth.locks = false ∧ (∀ q, s.heap.size ≤ q → A q) ∧ dp_K E s ∧ nw_X s
def nw_G (E : dp_E) (A : Nat → Prop) (p : Program) (l : Launch) (e : Env) (R : Room) (s : State) (m : MethodId) (args : Array Value) (below : List Frame) (meth : Method) (co : Code) (ce sl : Nat) (Q : State → Prop) (w : nw_V) (n : Nat) (pc : Nat) (L : List (Option Value)) (st : List Value) : Prop :=
  ∀ (H : Heap) (locs : List Loc) (ls : Array Slot), nw_W E w H → H.size = n → (∀ a, w a ≠ none → A a) → va_S A s.heap H locs → dp_L ls L → W p l e R s m args below meth co H locs ce sl Q (F0 m pc ls st)
section NG
variable {E : dp_E} {A : Nat → Prop} {p : Program} {l : Launch} {e : Env} {R : Room} {s : State} {m : MethodId} {args : Array Value} {below : List Frame} {meth : Method} {co : Code} {ce sl : Nat} {Q : State → Prop} {cc : ByteArray} {own : String} {nL : Nat} {Ts : List Cond} {w : nw_V} {n : Nat} {pc : Nat} {L : List (Option Value)} {st : List Value}
theorem nw_iconst (C : nw_C E A p s m args meth co cc own nL Ts) {x : Int} (hd : decode cc pc = .ok (.iconst x, 1)) (k : nw_G E A p l e R s m args below meth co ce sl Q w n (pc + 1) L (.int (dp_I x) :: st)) : nw_G E A p l e R s m args below meth co ce sl Q w n pc L (st) := fun H locs ls hW hn hA hS hL => lv_iconst C.1.1 C.1.2.1 hd rfl (k H locs ls hW hn hA hS hL)
theorem nw_bipush (C : nw_C E A p s m args meth co cc own nL Ts) {x : Int} (hd : decode cc pc = .ok (.bipush x, 2)) (hv : (Int8.ofInt x).toInt32 = dp_I x) (k : nw_G E A p l e R s m args below meth co ce sl Q w n (pc + 2) L (.int (dp_I x) :: st)) : nw_G E A p l e R s m args below meth co ce sl Q w n pc L (st) := fun H locs ls hW hn hA hS hL => lv_bipush C.1.1 C.1.2.1 hd hv (k H locs ls hW hn hA hS hL)
theorem nw_sipush (C : nw_C E A p s m args meth co cc own nL Ts) {x : Int} (hd : decode cc pc = .ok (.sipush x, 3)) (hv : (Int16.ofInt x).toInt32 = dp_I x) (k : nw_G E A p l e R s m args below meth co ce sl Q w n (pc + 3) L (.int (dp_I x) :: st)) : nw_G E A p l e R s m args below meth co ce sl Q w n pc L (st) := fun H locs ls hW hn hA hS hL => lv_sipush C.1.1 C.1.2.1 hd hv (k H locs ls hW hn hA hS hL)
theorem nw_iload_n (C : nw_C E A p s m args meth co cc own nL Ts) {i : Fin 4} {x : Int32} (hd : decode cc pc = .ok (.iload_n i, 1)) (hl : L[(i : Nat)]? = some (some (.int x))) (k : nw_G E A p l e R s m args below meth co ce sl Q w n (pc + 1) L (.int x :: st)) : nw_G E A p l e R s m args below meth co ce sl Q w n pc L (st) := fun H locs ls hW hn hA hS hL => lv_iload_n C.1.1 C.1.2.1 hd rfl (hL.ix hl) (k H locs ls hW hn hA hS hL)
theorem nw_iload (C : nw_C E A p s m args meth co cc own nL Ts) {i : Nat} {x : Int32} (hd : decode cc pc = .ok (.iload i, 2)) (hl : L[i]? = some (some (.int x))) (k : nw_G E A p l e R s m args below meth co ce sl Q w n (pc + 2) L (.int x :: st)) : nw_G E A p l e R s m args below meth co ce sl Q w n pc L (st) := fun H locs ls hW hn hA hS hL => lv_iload C.1.1 C.1.2.1 hd (hL.ix hl) (k H locs ls hW hn hA hS hL)
theorem nw_aload_n (C : nw_C E A p s m args meth co cc own nL Ts) {i : Fin 4} {x : Nat} (hd : decode cc pc = .ok (.aload_n i, 1)) (hl : L[(i : Nat)]? = some (some (.ref x))) (k : nw_G E A p l e R s m args below meth co ce sl Q w n (pc + 1) L (.ref x :: st)) : nw_G E A p l e R s m args below meth co ce sl Q w n pc L (st) := fun H locs ls hW hn hA hS hL => lv_aload_n C.1.1 C.1.2.1 hd rfl (hL.ix hl) (k H locs ls hW hn hA hS hL)
theorem nw_dup (C : nw_C E A p s m args meth co cc own nL Ts) {v : Value} (hd : decode cc pc = .ok (.dup, 1)) (hv : v.category = 1) (k : nw_G E A p l e R s m args below meth co ce sl Q w n (pc + 1) L (v :: v :: st)) : nw_G E A p l e R s m args below meth co ce sl Q w n pc L (v :: st) := fun H locs ls hW hn hA hS hL => lv_dup C.1.1 C.1.2.1 hd hv (k H locs ls hW hn hA hS hL)
theorem nw_goto (C : nw_C E A p s m args meth co cc own nL Ts) {off : Int} {tgt : Nat} (hd : decode cc pc = .ok (.goto off, 3)) (ht : (pc : Int) + off = (tgt : Int)) (k : nw_G E A p l e R s m args below meth co ce sl Q w n tgt L st) : nw_G E A p l e R s m args below meth co ce sl Q w n pc L st := fun H locs ls hW hn hA hS hL => lv_goto C.1.1 C.1.2.1 hd ht (k H locs ls hW hn hA hS hL)
theorem nw_istore_n (C : nw_C E A p s m args meth co cc own nL Ts) {i : Fin 4} {x : Int32} (hd : decode cc pc = .ok (.istore_n i, 1)) (hi : (i : Nat) < L.length) (k : nw_G E A p l e R s m args below meth co ce sl Q w n (pc + 1) (L.set (i : Nat) (some (.int x))) st) (hnl : dp_nl L (i : Nat) = true := by rfl) : nw_G E A p l e R s m args below meth co ce sl Q w n pc L (.int x :: st) := fun H locs ls hW hn hA hS hL => lv_istore_n C.1.1 C.1.2.1 hd rfl (hL.has (dp_en L) (fun q hq => dp_en_mem.mp hq)) hi rfl (fun ls1 h1 => k H locs ls1 hW hn hA hS (hL.put hi hnl h1))
theorem nw_astore_n (C : nw_C E A p s m args meth co cc own nL Ts) {i : Fin 4} {x : Nat} (hd : decode cc pc = .ok (.astore_n i, 1)) (hi : (i : Nat) < L.length) (k : nw_G E A p l e R s m args below meth co ce sl Q w n (pc + 1) (L.set (i : Nat) (some (.ref x))) st) (hnl : dp_nl L (i : Nat) = true := by rfl) : nw_G E A p l e R s m args below meth co ce sl Q w n pc L (.ref x :: st) := fun H locs ls hW hn hA hS hL => lv_astore_n C.1.1 C.1.2.1 hd rfl (hL.has (dp_en L) (fun q hq => dp_en_mem.mp hq)) hi rfl (fun ls1 h1 => k H locs ls1 hW hn hA hS (hL.put hi hnl h1))
theorem nw_iinc (C : nw_C E A p s m args meth co cc own nL Ts) {i : Nat} {d x : Int} (hd : decode cc pc = .ok (.iinc i d, 3)) (hl : L[i]? = some (some (.int (dp_I x)))) (k : nw_G E A p l e R s m args below meth co ce sl Q w n (pc + 3) (L.set i (some (.int (dp_I (x + d))))) st) (hnl : dp_nl L i = true := by rfl) : nw_G E A p l e R s m args below meth co ce sl Q w n pc L st := fun H locs ls hW hn hA hS hL => by
  have hi : i < L.length := (List.getElem?_eq_some_iff.mp hl).1
  obtain ⟨kk, hk⟩ := List.getElem?_of_mem (dp_en_mem.mpr hl)
  exact lv_iinc (v := dp_I (x + d)) C.1.1 C.1.2.1 hd (hL.has (dp_en L) (fun q hq => dp_en_mem.mp hq)) hk (dp_I_add x d) hi rfl (fun ls1 h1 => k H locs ls1 hW hn hA hS (hL.put hi hnl h1))
theorem nw_icmp_ge (C : nw_C E A p s m args meth co cc own nL Ts) {x y off : Int} {tgt : Nat} (hd : decode cc pc = .ok (.if_icmp .ge off, 3)) (ht : (pc : Int) + off = (tgt : Int)) (hx : dp_R x) (hy : dp_R y) (kt : ¬ x < y → nw_G E A p l e R s m args below meth co ce sl Q w n tgt L st) (kf : x < y → nw_G E A p l e R s m args below meth co ce sl Q w n (pc + 3) L st) : nw_G E A p l e R s m args below meth co ce sl Q w n pc L (.int (dp_I y) :: .int (dp_I x) :: st) := fun H locs ls hW hn hA hS hL => lv_icmp_ge C.1.1 C.1.2.1 hd ht (fun h => kt (Int.not_lt.mpr ((dp_I_le hy hx).mp h)) H locs ls hW hn hA hS hL) (fun h => kf (Int.not_le.mp (fun q => h ((dp_I_le hy hx).mpr q))) H locs ls hW hn hA hS hL)
theorem nw_obj (C : nw_C E A p s m args meth co cc own nL Ts) {i a : Nat} (hl : Cond.methodLink own i Lib.objectInit ∈ Ts) (hi : Cond.instanceMethod Lib.objectInit ∈ Ts) (hc : Cond.code Lib.objectInit ⟨#[0xb1]⟩ 1 none ∈ Ts) (hL0 : L.length = nL) (hd : decode cc pc = .ok (.invokespecial i, 3)) (hf : 1 ≤ R.frames) (hlo : (st.map fun v => v.category).sum + 12 ≤ R.locals) (k : nw_G E A p l e R s m args below meth co ce sl Q w n (pc + 3) L st) : nw_G E A p l e R s m args below meth co ce sl Q w n pc L (.ref a :: st) := fun H locs ls hW hn hA hS hL => by
  refine W.objInit C.1.1 C.1.2.1 C.1.2.2.2.1 (C.1.2.2.2.2 _ hl) (C.1.2.2.2.2 _ hi) (C.1.2.2.2.2 _ hc) rfl ?_ rfl hd hf (Nat.le_trans (Nat.le_of_eq (by show 2 * 0 + _ + 12 = _; omega)) hlo) ?_
  · show ls.size = co.maxLocals
    rw [hL.1, hL0, C.1.2.2.1]
  · exact k H locs ls hW hn hA hS hL
theorem nw_new (C : nw_C E A p s m args meth co cc own nL Ts) {ci N i : Nat} {Cn : String} {T : u_T} (hin : ∀ x ∈ u_ws Cn T N, x ∈ Ts) (ty : Nat → FieldType) (hty : ∀ k, k < N → parseFieldDescriptor (T k).2.2.1 = some (ty k)) (hc : vwCl[ci]? = some (Cn, T, N)) (hcl : Cond.classLink own i Cn ∈ Ts) (his : Cond.instantiable Cn N ∈ Ts) (hini : Cond.initialized Cn ∈ Ts) {fs : List Value} (hfs : ∀ j, j < N → defaultValue (ty j) = vp_V fs j) (hce : ce + 1 ≤ R.cells) (hsl : sl + N ≤ R.slots) (hd : decode cc pc = .ok (.new i, 3)) (k : nw_G E A p l e R s m args below meth co (ce + 1) (sl + N) Q (up w n (.inr (ci, fs))) (n + 1) (pc + 3) L (.ref n :: st)) : nw_G E A p l e R s m args below meth co ce sl Q w n pc L st := fun H locs ls hW hn hA hS hL => by
  have hts := C.1.2.2.2.2
  have hKn := C.2.2.2.1.1 ci _ hc
  refine W.newcK C.1.1 C.1.2.1 C.1.2.2.2.1 (hts _ hcl) (hts _ his) (hts _ hini) rfl hd hce hsl hKn.2.1 hn fun H1 kC hkC e1 z1 o1 => ?_
  refine k H1 locs ls (hW.push hn ⟨_, hc, (u_born ty hts hin hKn hkC e1 hty).to hfs⟩ o1) z1 (fun a ha => ?_) ⟨by have := hS.1; omega, fun x h1 h2 => (o1 x (by have := hS.1; omega)).trans (hS.2.1 x h1 h2), hS.2.2⟩ hL
  by_cases q : a = n
  · subst q; exact C.2.2.1 _ (by have := hS.1; omega)
  · rw [up_ne q] at ha
    exact hA a ha
theorem nw_newa (C : nw_C E A p s m args meth co cc own nL Ts) {N : Nat} {x : Int} {atype : ArrayType} {ty : FieldType} {a0 : vp_A} (cA0 : ClassId) (hty : newarray.typeOf atype = ty) (harr : Cond.arrayClass ty ∈ Ts) (hcA : ∀ cA, s.vm.findClass ("[" ++ ty.toString) = some cA → cA = cA0) (ha : ∀ cA : ClassId, vp_cell cA a0 = arrV cA N (fun _ => defaultValue ty)) (hx : x = N) (hN : N < 2147483648) (hby : N * componentBytes ty ≤ 536870912) (hce : ce + 1 ≤ R.cells) (hsl : sl + N ≤ R.slots) (hd : decode cc pc = .ok (.newarray atype, 2)) (k : nw_G E A p l e R s m args below meth co (ce + 1) (sl + N) Q (up w n (.inl (cA0, a0))) (n + 1) (pc + 2) L (.ref n :: st)) : nw_G E A p l e R s m args below meth co ce sl Q w n pc L (.int (dp_I x) :: st) := fun H locs ls hW hn hA hS hL => by
  subst hty
  subst hx
  have h0 : ¬ dp_I (N : Int) < 0 := fun q => by
    rw [dp_I_z, dp_I_lt ⟨by omega, by omega⟩ dp_R0] at q
    omega
  have h1 : (dp_I (N : Int)).toNatClampNeg = N := by
    rw [dp_I_nat (by omega) (by omega)]
    exact Int.toNat_natCast N
  refine va_newaK C.1.1 C.1.2.1 (C.1.2.2.2.2 _ harr) rfl hd rfl h0 h1 hby hce hsl hn fun H1 cA e1 z1 o1 hAr hNm => ?_
  have hc := hcA cA hNm
  subst hc
  refine k H1 locs ls (hW.push hn ?_ o1) z1 (fun a ha => ?_) ⟨by have := hS.1; omega, fun x h1 h2 => (o1 x (by have := hS.1; omega)).trans (hS.2.1 x h1 h2), hS.2.2⟩ hL
  · show H1[n]? = some (vp_cell cA a0)
    rw [ha]
    exact e1
  · by_cases q : a = n
    · subst q; exact C.2.2.1 _ (by have := hS.1; omega)
    · rw [up_ne q] at ha
      exact hA a ha
theorem nw_newq (C : nw_C E A p s m args meth co cc own nL Ts) {N i : Nat} {x : Int} {Cn : String} (cA0 : ClassId) (hcl : Cond.classLink own i Cn ∈ Ts) (hov : va_AO Cn s) (hcA : ∀ cA, s.vm.findClass ("[" ++ (FieldType.object Cn).toString) = some cA → cA = cA0) (hx : x = N) (hN : N * 4 ≤ 536870912) (hce : ce + 1 ≤ R.cells) (hsl : sl + N ≤ R.slots) (hd : decode cc pc = .ok (.anewarray i, 3)) (k : nw_G E A p l e R s m args below meth co (ce + 1) (sl + N) Q (up w n (dp_refs0 cA0 N)) (n + 1) (pc + 3) L (.ref n :: st)) : nw_G E A p l e R s m args below meth co ce sl Q w n pc L (.int (dp_I x) :: st) := fun H locs ls hW hn hA hS hL => by
  subst hx
  have h0 : ¬ dp_I (N : Int) < 0 := fun q => by
    rw [dp_I_z, dp_I_lt ⟨by omega, by omega⟩ dp_R0] at q
    omega
  have h1 : (dp_I (N : Int)).toNatClampNeg = N := by
    rw [dp_I_nat (by omega) (by omega)]
    exact Int.toNat_natCast N
  refine W.anew C.1.1 C.1.2.1 C.1.2.2.2.1 (C.1.2.2.2.2 _ hcl) (va_AO.use hov) rfl hd rfl h0 (by rw [h1]; exact hN) hce (by rw [h1]; exact hsl) fun cA kA comp f1 f2 f3 f4 => ?_
  have hc := hcA cA f1
  subst hc
  rw [h1, arrV_new, hn]
  have z1 : (H.push (arrV cA N (fun _ => .null))).size = n + 1 := by rw [Array.size_push, hn]
  have e1 : (H.push (arrV cA N (fun _ => .null)))[n]? = some (arrV cA N (fun _ => .null)) := by rw [← hn, Array.getElem?_push_size]
  have o1 : ∀ q : Nat, q < n → (H.push (arrV cA N (fun _ => .null)))[q]? = H[q]? := fun q hq => by rw [Array.getElem?_push, if_neg (by omega)]
  refine k _ locs ls (hW.push hn e1 o1) z1 (fun a ha => ?_) ⟨by have := hS.1; omega, fun x h1 h2 => (o1 x (by have := hS.1; omega)).trans (hS.2.1 x h1 h2), hS.2.2⟩ hL
  by_cases q : a = n
  · subst q; exact C.2.2.1 _ (by have := hS.1; omega)
  · rw [up_ne q] at ha
    exact hA a ha
theorem nw_dom {a : Nat} {x y : va_E} (hw : w a = some x) (hA : ∀ a, w a ≠ none → A a) : ∀ b, up w a y b ≠ none → A b := fun b hb => by
  by_cases q : b = a
  · subst q; exact hA b (by rw [hw]; exact fun z => by cases z)
  · rw [up_ne q] at hb
    exact hA b hb
theorem nw_put (C : nw_C E A p s m args meth co cc own nL Ts) {a ci N k i : Nat} {fs : List Value} {Cn : String} {T : u_T} {v : Value} {ty : FieldType} (hw : w a = some (.inr (ci, fs))) (hc : vwCl[ci]? = some (Cn, T, N)) (hin : ∀ x ∈ u_ws Cn T N, x ∈ Ts) (ty0 : Nat → FieldType) (hty : ∀ k, k < N → parseFieldDescriptor (T k).2.2.1 = some (ty0 k)) (hnm : ∀ a, a < N → ∀ b, b < N → a ≠ b → (T a).2.1 ≠ (T b).2.1) (hk : k < N) (hl : Cond.fieldLink own i (T k).1 (T k).2.1 (T k).2.2.1 ∈ Ts) (hfin : (T k).2.2.2 = true → meth.name = "<init>" ∧ (T k).1 = own) (hd0 : parseFieldDescriptor (T k).2.2.1 = some ty) (hn : narrow ty v = v) (hfit : fits ty v = true) (hlen : k < fs.length) (hd : decode cc pc = .ok (.putfield i, 3)) (kk : nw_G E A p l e R s m args below meth co ce sl Q (up w a (.inr (ci, fs.set k v))) n (pc + 3) L st) : nw_G E A p l e R s m args below meth co ce sl Q w n pc L (v :: .ref a :: st) := fun H locs ls hW hz hA hS hL => by
  have hts := C.1.2.2.2.2
  have hap := va_apart (own := own) hts hin ty0 hty hnm C.2.2.2.1 hc
  obtain ⟨r, h1, cell, q1, q2, q3, q4⟩ := hW a _ hw
  have hr : r = (Cn, T, N) := Option.some.inj (h1.symm.trans hc)
  subst hr
  obtain ⟨hSl, hfc, kC, hkC, hkind⟩ := C.2.2.2.1.1 ci _ hc
  obtain ⟨cf, kf, fi, f, hi, hsl⟩ := hSl k hk
  have hA0 : A a := hA a (by rw [hw]; exact fun z => by cases z)
  have fin : ∀ H1 : Heap, H1[a]? = some (cell.setSlot f.slot v) → H1.size = H.size → (∀ q, q ≠ a → H1[q]? = H[q]?) → W p l e R s m args below meth co H1 (locs ++ [⟨a, f.slot⟩]) ce sl Q (F0 m (pc + 3) ls st) := fun H1 e1 e2 e3 => by
    rw [hsl] at e1
    exact kk H1 _ ls (hW.put ⟨_, hc, t_OB.to (V := updV (vp_V fs) k v) ⟨_, e1, q2, q3, t_set q4 hap hk v⟩ (fun j _ => vp_updV_set hlen v j)⟩ e3) (e2.trans hz) (nw_dom hw hA) (hS.put e2 e3 hA0) hL
  have hst := (u_facts hfc hkC (u_lays hts hin hk) hi).1
  have hlay := hts _ (hin _ (u_in_lay hk))
  unfold u_lay at hlay
  by_cases hf : (T k).2.2.2 = true
  · rw [if_pos hf] at hlay
    obtain ⟨f1, f2⟩ := hfin hf
    have hcf : m.cls = cf := by
      obtain ⟨_, _, c', _, _, _, -, -, hf', -, -, -, hown2, -⟩ := Cond.laysFinal_spec hlay
      have e1 : c' = cf := by have := hi.symm.trans hf'; simp at this; exact this.1.symm
      rw [f2] at hown2
      rw [← e1]; exact Option.some.inj (C.1.2.2.2.1.symm.trans hown2)
    have h6 := u_fits hfc hkC hkind (Or.inr hlay) hi hd0 hn hfit
    exact W.putFinK C.1.1 C.1.2.1 C.1.2.2.2.1 (hts _ hl) hi hst hcf f1 (by rw [q2]; exact h6) q1 q3 (by rw [hsl]; exact k2_hasslot (q4 k hk)) rfl rfl hd fin
  · rw [if_neg hf] at hlay
    have h6 := u_store hfc hkC hkind hlay hi hd0 hn hfit
    exact W.putK C.1.1 C.1.2.1 (f := f) ⟨C.1.2.2.2.1, hts _ hl, ⟨_, _, _, hi⟩, hst⟩ (by rw [q2]; exact h6) q1 q3 (by rw [hsl]; exact k2_hasslot (q4 k hk)) rfl rfl hd fin
theorem nw_iast (C : nw_C E A p s m args meth co cc own nL Ts) {a N j : Nat} {f : Nat → Int} {x i : Int} (hw : w a = some (dp_ints (eI E) N f)) (hi : i = j) (hj : j < N) (hN : N < 2147483648) (hd : decode cc pc = .ok (.iastore, 1)) (kk : nw_G E A p l e R s m args below meth co ce sl Q (up w a (dp_ints (eI E) N (u1 f j x))) n (pc + 1) L st) : nw_G E A p l e R s m args below meth co ce sl Q w n pc L (.int (dp_I x) :: .int (dp_I i) :: .ref a :: st) := fun H locs ls hW hz hA hS hL => by
  subst hi
  have hA0 : A a := hA a (by rw [hw]; exact fun z => by cases z)
  have hnat : (dp_I (j : Int)).toNatClampNeg = j := by
    rw [dp_I_nat (by omega) (by omega)]
    exact Int.toNat_natCast j
  have hvin : vp_in (dp_I (j : Int)) N := dp_in (by omega) (by omega) hN
  have hc : H[a]? = some (arrV (eI E) N (fun i => .int (dp_I (f i)))) := hW a _ hw
  refine W.iast C.1.1 C.1.2.1 hc ((C.2.2.2.1.2 0 _ rfl).1 N _) (fun q => by cases q) (by rw [arrV_size]; exact hvin) rfl rfl hd fun H1 e z oq => ?_
  refine kk H1 _ ls (hW.put ?_ oq) (z.trans hz) (nw_dom hw hA) (hS.put z oq hA0) hL
  show H1[a]? = some (arrV (eI E) N (fun i => .int (dp_I (u1 f j x i))))
  rw [e, arrV_store, hnat]
  congr 2
  funext q
  unfold updV u1
  split <;> rfl
theorem nw_aast (C : nw_C E A p s m args meth co cc own nL Ts) {a N j ci v t0 : Nat} {f : Nat → Option Nat} {i : Int} {fs : List Value} {cA : ClassId} {r : vw_C} (hw : w a = some (.inl (cA, N, .inr (.inr (.inr (.inr f)))))) (ht : (dp_ty E)[t0]? = some (cA, .object r.1)) (hv : w v = some (.inr (ci, fs))) (hcl : vwCl[ci]? = some r) (hi : i = j) (hj : j < N) (hN : N < 2147483648) (hd : decode cc pc = .ok (.aastore, 1)) (kk : nw_G E A p l e R s m args below meth co ce sl Q (up w a (.inl (cA, N, .inr (.inr (.inr (.inr (va_up f j (some v)))))))) n (pc + 1) L st) : nw_G E A p l e R s m args below meth co ce sl Q w n pc L (.ref v :: .int (dp_I i) :: .ref a :: st) := fun H locs ls hW hz hA hS hL => by
  subst hi
  have hA0 : A a := hA a (by rw [hw]; exact fun z => by cases z)
  have hnat : (dp_I (j : Int)).toNatClampNeg = j := by
    rw [dp_I_nat (by omega) (by omega)]
    exact Int.toNat_natCast j
  have hvin : vp_in (dp_I (j : Int)) N := dp_in (by omega) (by omega) hN
  have hc : H[a]? = some (arrV cA N (fun i => va_rf (f i))) := hW a _ hw
  obtain ⟨r', hr', cellV, g1, g2, g3, -⟩ := hW v _ hv
  have hcls := (C.2.2.2.1.1 ci r hcl).2
  obtain ⟨kA, comp, k1, k2, k3, -⟩ := (C.2.2.2.1.2 t0 _ ht).2
  have hcomp : comp = E.1.1 ci := Option.some.inj (k3.symm.trans hcls.1)
  subst hcomp
  obtain ⟨kC, hkC, -⟩ := hcls.2
  refine W.aast C.1.1 C.1.2.1 hc (fun q h => by cases h) (fun h => by cases h) k1 k2 rfl hkC ⟨fun q => hvin (Or.inl q), by rw [arrV_size, hnat]; exact hj⟩ g1 (fun q h => by rw [g3] at h; cases h) (by rw [g2]; exact hkC) (by rw [g2]; exact va_assign hcls) rfl rfl hd fun H1 e z oq => ?_
  refine kk H1 _ ls (hW.put ?_ oq) (z.trans hz) (nw_dom hw hA) (hS.put z oq hA0) hL
  show H1[a]? = some (arrV cA N (fun i => va_rf (va_up f j (some v) i)))
  rw [e, arrV_store, hnat]
  congr 2
  funext q
  unfold updV va_up
  split <;> rfl
theorem nw_getf (C : nw_C E A p s m args meth co cc own nL Ts) {a ci N k i : Nat} {fs : List Value} {Cn : String} {T : u_T} {v : Value} (hw : w a = some (.inr (ci, fs))) (hc : vwCl[ci]? = some (Cn, T, N)) (hin : ∀ x ∈ u_ws Cn T N, x ∈ Ts) (hk : k < N) (hl : Cond.fieldLink own i (T k).1 (T k).2.1 (T k).2.2.1 ∈ Ts) (hv : fs[k]? = some v) (hd : decode cc pc = .ok (.getfield i, 3)) (kk : nw_G E A p l e R s m args below meth co ce sl Q w n (pc + 3) L (v :: st)) : nw_G E A p l e R s m args below meth co ce sl Q w n pc L (.ref a :: st) := fun H locs ls hW hz hA hS hL => va_get (D := E.1) (ci := ci) (v := v) (C := Cn) (T := T) (N := N) C.1.1 C.1.2.1 C.1.2.2.2.2 hin C.1.2.2.2.1 C.2.2.2.1 (hW.one hw) 0 (fs := fs) rfl hc k hk (C.1.2.2.2.2 _ hl) (fun _ h => h) hv hd (kk H locs ls hW hz hA hS hL)
theorem nw_alen (C : nw_C E A p s m args meth co cc own nL Ts) {a t0 : Nat} {cA : ClassId} {x : vp_A} {ty : FieldType} {v : Int} (hw : w a = some (.inl (cA, x))) (ht : (dp_ty E)[t0]? = some (cA, ty)) (hv : Int32.ofNat x.1 = dp_I v) (hd : decode cc pc = .ok (.arraylength, 1)) (kk : nw_G E A p l e R s m args below meth co ce sl Q w n (pc + 1) L (.int (dp_I v) :: st)) : nw_G E A p l e R s m args below meth co ce sl Q w n pc L (.ref a :: st) := fun H locs ls hW hz hA hS hL => va_alen C.1.1 C.1.2.1 C.2.2.2.1 (hW.one hw) 0 t0 (x := x) rfl ht hv hd (kk H locs ls hW hz hA hS hL)
theorem nw_blind {av : List Value} : FrameBlind (va_Pc av (nw_B E w n)) := fun a U g mk q => ⟨q.1, q.2.calling g mk a⟩
theorem nw_pre {H : Heap} {av : List Value} (hK : dp_K E s) (hX : nw_X s) (hW : nw_W E w H) (hz : H.size = n) : ∀ U : State, U.heap = H → s.WarmedH U.vm → va_Pc av (nw_B E w n) av.toArray U := fun U hU hWm => ⟨rfl, by rw [hU]; exact hW, by rw [hU]; exact hz, va_K.moved hWm.alike hK, hX.warm hWm⟩
theorem nw_call (C : nw_C E A p s m args meth co cc own nL Ts) {y : MethodName} {ws ws' : List Cond} {fr lo mc ms maxL i k0 a n1 : Nat} {bytes : ByteArray} {As rest : List Value} {w1 : nw_V} (hM : nw_met E l y ws fr lo mc ms (.ref a :: As) w n w1 n1) (hdom : ∀ b, w1 b ≠ none → w b ≠ none ∨ n ≤ b) (hG : GoodIn Ts ws) (hw : ws = Cond.code y bytes maxL none :: ws') (hini : Cond.initialized y.cls ∈ Ts) (hl : Cond.methodLink own i y ∈ Ts ∨ va_Nw (.methodLinkNest own i y "DishPointer") s) (him : Cond.instanceMethod y ∈ Ts) (hy1 : y.name = "<init>") (hdy : y.cls ≠ "java/lang/invoke/MethodHandle" ∧ y.cls ≠ "java/lang/invoke/VarHandle" ∧ (parseMethodDescriptor y.desc).map (fun d => d.parameters.length) = some k0) (hn : As.length = k0) (hR : fr + 1 ≤ R.frames ∧ 8 + (maxL + 11) + lo ≤ R.locals) (hst : st = As.reverse ++ .ref a :: rest) (hcat : (rest.map fun v => v.category).sum ≤ 8) (hL0 : L.length = nL) (hce : ce + mc ≤ R.cells ∧ sl + ms ≤ R.slots) (hd : decode cc pc = .ok (.invokespecial i, 3)) (k : nw_G E A p l e R s m args below meth co (ce + mc) (sl + ms) Q w1 n1 (pc + 3) L rest) : nw_G E A p l e R s m args below meth co ce sl Q w n pc L st := fun H locs ls hW hz hA hS hL => by
  subst hst
  have hts := C.1.2.2.2.2
  have fA : ∀ q, nw_A w n q → A q := fun q h => by
    rcases h with h | h
    · exact hA q h
    · exact C.2.2.1 q (by have := hS.1; omega)
  have hr : va_Run p l e R s m args below meth co H locs ce sl mc ms (F0 m pc ls (As.reverse ++ .ref a :: rest)) rest ((va_Qv (fun _ : Unit => True) (fun _ t => nw_B E w1 n1 t) (nw_A w n)) (Value.ref a :: As).toArray) (nw_A w n) := by
    rcases hl with hl | hl
    · exact va_runI (e := e) (below := below) (meth := meth) (locs := locs) (cells := ce) (slots := sl) (As := As) (rest := rest) (g := F0 m pc ls (As.reverse ++ .ref a :: rest)) C.1 hM (cwI k0 hts hG hw rfl rfl (hts _ hini) (hts _ hl) (hts _ him) hy1 hdy hR) ⟨nw_blind, nw_pre C.2.2.2.1 C.2.2.2.2 hW hz⟩ rfl hn (by show ls.size = nL; rw [hL.1, hL0]) rfl (lv_room hcat) hd hce
    · exact va_runIN (e := e) (below := below) (meth := meth) (locs := locs) (cells := ce) (slots := sl) (As := As) (rest := rest) (g := F0 m pc ls (As.reverse ++ .ref a :: rest)) C.1 hM ⟨va_cnB k0 hts hG hw rfl rfl hl (hts _ hini) hdy hR, hy1, hts _ him⟩ ⟨nw_blind, nw_pre C.2.2.2.1 C.2.2.2.2 hW hz⟩ rfl hn (by show ls.size = nL; rw [hL.1, hL0]) rfl (lv_room hcat) hd hce
  refine va_callv hr hS (fun q _ h => fA q h) fA (fun u t H1 locs1 ht hvm hw9 hB hz1 hk1 hS1 => ?_)
  exact k H1 locs1 ls (by rw [← ht]; exact hB.1) (by rw [← ht]; exact hB.2.1) (fun b hb => by
    rcases hdom b hb with h | h
    · exact hA b h
    · exact fA b (Or.inr h)) hS1 hL
theorem nw_cons {w' : nw_V} (hw : ∀ a x, w' a = some x → w a = some x) (k : nw_G E A p l e R s m args below meth co ce sl Q w' n pc L st) : nw_G E A p l e R s m args below meth co ce sl Q w n pc L st := fun H locs ls hW hz hA hS hL => k H locs ls (fun a x h => hW a x (hw a x h)) hz (fun a h => hA a (by
  cases e : w' a with
  | none => exact absurd e h
  | some x => rw [hw a x e]; exact fun z => by cases z)) hS hL
theorem nw_wid {k1 k2 : Nat} (h1 : ce ≤ k1) (h2 : sl ≤ k2) (k : nw_G E A p l e R s m args below meth co k1 k2 Q w n pc L st) : nw_G E A p l e R s m args below meth co ce sl Q w n pc L st := fun H locs ls hW hz hA hS hL => W.widen h1 h2 (k H locs ls hW hz hA hS hL)
theorem nw_vret {w0 : nw_V} {n0 mc ms : Nat} (C : nw_C E (nw_A w0 n0) p s m args meth co cc own nL Ts) (hr : meth.sig.returnType = none) (hd : decode cc pc = .ok (.return_, 1)) : nw_G E (nw_A w0 n0) p l e R s m args below meth co mc ms (MQ below (va_Qv (fun _ : Unit => True) (fun _ t => nw_B E w n t) (nw_A w0 n0)) args s mc ms (nw_A w0 n0)) w n pc L [] := fun H locs ls hW hz hA hS hL => W.vret C.1.1 C.1.2.1 hr (fun t ht hWm => ⟨⟨(), rfl, trivial, by rw [ht]; exact hW, by rw [ht]; exact hz, va_K.moved hWm.alike C.2.2.2.1, C.2.2.2.2.warm hWm⟩, hS.F ht⟩) hS.2.2 hd C.2.1
end NG
theorem nw_of {E : dp_E} {l : Launch} {cc : ByteArray} {own : String} {nL : Nat} {w w1 : nw_V} {n n1 : Nat} {y : MethodName} {ws ws' : List Cond} {fr lo mc ms : Nat} {av : List Value} (hy : plainName y.cls = true) (ho : y.cls = own) (hw : ws = Cond.code y cc nL none :: ws') (hcat : ∀ v ∈ av, v.category = 1) (hlen : av.length ≤ nL)
    (body : ∀ (p : Program) (e : Env) (s : State) (m : MethodId) (below : List Frame) (meth : Method) (co : Code), nw_C E (nw_A w n) p s m av.toArray meth co cc own nL ws → meth.sig.returnType = none → meth.name = y.name → nw_G E (nw_A w n) p l e (nw_rm fr lo mc ms) s m av.toArray below meth co 0 0 (MQ below (va_Qv (fun _ : Unit => True) (fun _ t => nw_B E w1 n1 t) (nw_A w n)) av.toArray s mc ms (nw_A w n)) w n 0 (av.map some ++ List.replicate (nL - av.length) none) []) : nw_met E l y ws fr lo mc ms av w n w1 n1 := by
  refine Met.ofW (cc := cc) (maxL := nL) (ret := none) hy hw ?_
  intro p e s m args below meth c s₁ B hml hv
  obtain ⟨rfl, hWd, hz, hK, hX⟩ := hv
  have hts := atoms_spec (ws := ws) B.pre
  have hown : s.vm.findClass own = some m.cls := by rw [← ho]; exact findClass_of_methodNamed B.named
  rw [lg_entry_eq]
  exact body p e s m below meth c ⟨⟨B.exec, B.bytes, hml, hown, hts⟩, B.notSynchronized, fun q h => Or.inr (by omega), hK, hX⟩ B.returns (name_of_methodNamed B.named B.method).1 s.heap [] _ hWd hz (fun a h => Or.inl h) va_S.rf (dp_entry hcat hlen)
