/-! THE CONSTRUCTORS -/
theorem zX0_ok : ∀ j, j < 10 → defaultValue (tyX0 j) = vp_V [.int (dp_I 0), .int (dp_I 0), .int (dp_I 0), .int (dp_I 0), .int (dp_I 0), .int (dp_I 0), .int (dp_I 0), .int (dp_I 0), .int (dp_I 0), .int (dp_I 0)] j := by
  intro j hj
  rcases (by omega : j = 0 ∨ j = 1 ∨ j = 2 ∨ j = 3 ∨ j = 4 ∨ j = 5 ∨ j = 6 ∨ j = 7 ∨ j = 8 ∨ j = 9) with rfl | rfl | rfl | rfl | rfl | rfl | rfl | rfl | rfl | rfl <;> rfl
theorem zX5_ok : ∀ j, j < 7 → defaultValue (tyX5 j) = vp_V [.int (dp_I 0), .int (dp_I 0), .int (dp_I 0), .int (dp_I 0), .int (dp_I 0), .int (dp_I 0), .int (dp_I 0)] j := by
  intro j hj
  rcases (by omega : j = 0 ∨ j = 1 ∨ j = 2 ∨ j = 3 ∨ j = 4 ∨ j = 5 ∨ j = 6) with rfl | rfl | rfl | rfl | rfl | rfl | rfl <;> rfl
theorem zX3_ok : ∀ j, j < 14 → defaultValue (tyX3 j) = vp_V [.int (dp_I 0), .int (dp_I 0), .int (dp_I 0), .int (dp_I 0), .int (dp_I 0), .int (dp_I 0), .int (dp_I 0), .int (dp_I 0), .int (dp_I 0), .int (dp_I 0), .int (dp_I 0), .int (dp_I 0), .int (dp_I 0), .int (dp_I 0)] j := by
  intro j hj
  rcases (by omega : j = 0 ∨ j = 1 ∨ j = 2 ∨ j = 3 ∨ j = 4 ∨ j = 5 ∨ j = 6 ∨ j = 7 ∨ j = 8 ∨ j = 9 ∨ j = 10 ∨ j = 11 ∨ j = 12 ∨ j = 13) with rfl | rfl | rfl | rfl | rfl | rfl | rfl | rfl | rfl | rfl | rfl | rfl | rfl | rfl <;> rfl
theorem zX2_ok : ∀ j, j < 11 → defaultValue (tyX2 j) = vp_V [.int (dp_I 0), .int (dp_I 0), .int (dp_I 0), .null, .null, .null, .null, .null, .null, .null, .null] j := by
  intro j hj
  rcases (by omega : j = 0 ∨ j = 1 ∨ j = 2 ∨ j = 3 ∨ j = 4 ∨ j = 5 ∨ j = 6 ∨ j = 7 ∨ j = 8 ∨ j = 9 ∨ j = 10) with rfl | rfl | rfl | rfl | rfl | rfl | rfl | rfl | rfl | rfl | rfl <;> rfl
theorem zX1_ok : ∀ j, j < 2 → defaultValue (tyX1 j) = vp_V [.null, .int (dp_I 0)] j := by
  intro j hj
  rcases (by omega : j = 0 ∨ j = 1) with rfl | rfl <;> rfl
theorem zX4_ok : ∀ j, j < 6 → defaultValue (tyX4 j) = vp_V [.null, .int (dp_I 0), .null, .int (dp_I 0), .int (dp_I 0), .int (dp_I 0)] j := by
  intro j hj
  rcases (by omega : j = 0 ∨ j = 1 ∨ j = 2 ∨ j = 3 ∨ j = 4 ∨ j = 5) with rfl | rfl | rfl | rfl | rfl | rfl <;> rfl
theorem zX6_ok : ∀ j, j < 4 → defaultValue (tyX6 j) = vp_V [.null, .null, .null, .null] j := by
  intro j hj
  rcases (by omega : j = 0 ∨ j = 1 ∨ j = 2 ∨ j = 3) with rfl | rfl | rfl | rfl <;> rfl
theorem yyX0_init : yX0_init.cls ≠ "java/lang/invoke/MethodHandle" ∧ yX0_init.cls ≠ "java/lang/invoke/VarHandle" ∧ (parseMethodDescriptor yX0_init.desc).map (fun d => d.parameters.length) = some 5 := by decide +kernel
theorem yyX1_init : yX1_init.cls ≠ "java/lang/invoke/MethodHandle" ∧ yX1_init.cls ≠ "java/lang/invoke/VarHandle" ∧ (parseMethodDescriptor yX1_init.desc).map (fun d => d.parameters.length) = some 0 := by decide +kernel
theorem yyX2_init : yX2_init.cls ≠ "java/lang/invoke/MethodHandle" ∧ yX2_init.cls ≠ "java/lang/invoke/VarHandle" ∧ (parseMethodDescriptor yX2_init.desc).map (fun d => d.parameters.length) = some 0 := by decide +kernel
theorem yyX3_init : yX3_init.cls ≠ "java/lang/invoke/MethodHandle" ∧ yX3_init.cls ≠ "java/lang/invoke/VarHandle" ∧ (parseMethodDescriptor yX3_init.desc).map (fun d => d.parameters.length) = some 0 := by decide +kernel
theorem yyX4_init : yX4_init.cls ≠ "java/lang/invoke/MethodHandle" ∧ yX4_init.cls ≠ "java/lang/invoke/VarHandle" ∧ (parseMethodDescriptor yX4_init.desc).map (fun d => d.parameters.length) = some 0 := by decide +kernel
theorem yyX5_init : yX5_init.cls ≠ "java/lang/invoke/MethodHandle" ∧ yX5_init.cls ≠ "java/lang/invoke/VarHandle" ∧ (parseMethodDescriptor yX5_init.desc).map (fun d => d.parameters.length) = some 0 := by decide +kernel
theorem yyX6_init : yX6_init.cls ≠ "java/lang/invoke/MethodHandle" ∧ yX6_init.cls ≠ "java/lang/invoke/VarHandle" ∧ (parseMethodDescriptor yX6_init.desc).map (fun d => d.parameters.length) = some 0 := by decide +kernel
theorem up_up {w : nw_V} {a : Nat} {x y : va_E} : up (up w a x) a y = up w a y := by
  funext b
  unfold up
  split <;> rfl
/-- a block of cells from b on -/
def blk (w : nw_V) (b len : Nat) (f : Nat → va_E) : nw_V := fun a => if b ≤ a ∧ a < b + len then some (f (a - b)) else w a
theorem blk_in {w : nw_V} {b len j a : Nat} {f : Nat → va_E} (h : j < len) (e : a = b + j) : blk w b len f a = some (f j) := by
  subst e
  unfold blk
  rw [if_pos (by omega), Nat.add_sub_cancel_left]
theorem blk_out {w : nw_V} {b len a : Nat} {f : Nat → va_E} (h : a < b ∨ b + len ≤ a) : blk w b len f a = w a := by
  unfold blk
  rw [if_neg (by omega)]
section NH
variable {E : dp_E} {A : Nat → Prop} {p : Program} {l : Launch} {e : Env} {R : Room} {s : State} {m : MethodId} {args : Array Value} {below : List Frame} {meth : Method} {co : Code} {ce sl : Nat} {Q : State → Prop} {cc : ByteArray} {own : String} {nL : Nat} {Ts : List Cond} {w : nw_V} {n : Nat} {pc : Nat} {L : List (Option Value)} {st : List Value}
theorem nw_eqn {n' : Nat} (h : n = n') (k : nw_G E A p l e R s m args below meth co ce sl Q w n' pc L st) : nw_G E A p l e R s m args below meth co ce sl Q w n pc L st := by
  subst h
  exact k
theorem nw_eqw {w' : nw_V} (h : w = w') (k : nw_G E A p l e R s m args below meth co ce sl Q w' n pc L st) : nw_G E A p l e R s m args below meth co ce sl Q w n pc L st := by
  subst h
  exact k
theorem nw_newi (C : nw_C E A p s m args meth co cc own nL Ts) {N : Nat} {x : Int} (harr : Cond.arrayClass .int ∈ Ts) (hx : x = N) (hN : N < 2147483648) (hby : N * componentBytes .int ≤ 536870912) (hce : ce + 1 ≤ R.cells) (hsl : sl + N ≤ R.slots) (hd : decode cc pc = .ok (.newarray .int, 2)) (k : nw_G E A p l e R s m args below meth co (ce + 1) (sl + N) Q (up w n (dp_ints (eI E) N (fun _ => 0))) (n + 1) (pc + 2) L (.ref n :: st)) : nw_G E A p l e R s m args below meth co ce sl Q w n pc L (.int (dp_I x) :: st) := nw_newa (ty := .int) (atype := .int) (a0 := (N, .inl (fun _ => dp_I 0))) C (eI E) rfl harr (fun cA h => Option.some.inj (h.symm.trans (C.2.2.2.1.2 0 _ rfl).2)) (fun _ => rfl) hx hN hby hce hsl hd k
theorem nw_newc (C : nw_C E A p s m args meth co cc own nL Ts) {N : Nat} {x : Int} (harr : Cond.arrayClass .char ∈ Ts) (hx : x = N) (hN : N < 2147483648) (hby : N * componentBytes .char ≤ 536870912) (hce : ce + 1 ≤ R.cells) (hsl : sl + N ≤ R.slots) (hd : decode cc pc = .ok (.newarray .char, 2)) (k : nw_G E A p l e R s m args below meth co (ce + 1) (sl + N) Q (up w n (dp_ints (eC E) N (fun _ => 0))) (n + 1) (pc + 2) L (.ref n :: st)) : nw_G E A p l e R s m args below meth co ce sl Q w n pc L (.int (dp_I x) :: st) := nw_newa (ty := .char) (atype := .char) (a0 := (N, .inl (fun _ => dp_I 0))) C (eC E) rfl harr (fun cA h => Option.some.inj (h.symm.trans (C.2.2.2.1.2 1 _ rfl).2)) (fun _ => rfl) hx hN hby hce hsl hd k
theorem nw_newT (C : nw_C E A p s m args meth co cc own nL Ts) {N i : Nat} {x : Int} (hcl : Cond.classLink own i RX3 ∈ Ts) (hx : x = N) (hN : N * 4 ≤ 536870912) (hce : ce + 1 ≤ R.cells) (hsl : sl + N ≤ R.slots) (hd : decode cc pc = .ok (.anewarray i, 3)) (k : nw_G E A p l e R s m args below meth co (ce + 1) (sl + N) Q (up w n (dp_refs0 (eT E) N)) (n + 1) (pc + 3) L (.ref n :: st)) : nw_G E A p l e R s m args below meth co ce sl Q w n pc L (.int (dp_I x) :: st) := nw_newq C (eT E) hcl C.2.2.2.2.1 (fun cA h => by
  obtain ⟨kA, comp, k1, k2, k3, k4⟩ := (C.2.2.2.1.2 2 _ rfl).2
  exact Option.some.inj (h.symm.trans k4)) hx hN hce hsl hd k
theorem nw_newS (C : nw_C E A p s m args meth co cc own nL Ts) {N i : Nat} {x : Int} (hcl : Cond.classLink own i RX2 ∈ Ts) (hx : x = N) (hN : N * 4 ≤ 536870912) (hce : ce + 1 ≤ R.cells) (hsl : sl + N ≤ R.slots) (hd : decode cc pc = .ok (.anewarray i, 3)) (k : nw_G E A p l e R s m args below meth co (ce + 1) (sl + N) Q (up w n (dp_refs0 (eS E) N)) (n + 1) (pc + 3) L (.ref n :: st)) : nw_G E A p l e R s m args below meth co ce sl Q w n pc L (.int (dp_I x) :: st) := nw_newq C (eS E) hcl C.2.2.2.2.2.1 (fun cA h => by
  obtain ⟨kA, comp, k1, k2, k3, k4⟩ := (C.2.2.2.1.2 3 _ rfl).2
  exact Option.some.inj (h.symm.trans k4)) hx hN hce hsl hd k
end NH
theorem nw_dm {w : nw_V} {a n : Nat} {x y : va_E} (h : w a = some y) : ∀ b, up w a x b ≠ none → w b ≠ none ∨ n ≤ b := fun b hb => by
  by_cases q : b = a
  · subst q; exact Or.inl (by rw [h]; exact fun z => by cases z)
  · rw [up_ne q] at hb
    exact Or.inl hb
theorem nw_db {w : nw_V} {a len : Nat} {f : Nat → va_E} {y : va_E} (h : w a = some y) : ∀ b, blk w a len f b ≠ none → w b ≠ none ∨ a + 1 ≤ b := fun b hb => by
  by_cases q : b = a
  · subst q; exact Or.inl (by rw [h]; exact fun z => by cases z)
  · by_cases r : a + 1 ≤ b
    · exact Or.inr r
    · rw [blk_out (by omega)] at hb
      exact Or.inl hb
set_option maxHeartbeats 4000000 in
set_option maxRecDepth 100000 in
theorem c_X0_init {E : dp_E} (l : Launch) {w : nw_V} {n h0 : Nat} {a b c d f : Int} (hw : w h0 = some (.inr (0, [.int (dp_I 0), .int (dp_I 0), .int (dp_I 0), .int (dp_I 0), .int (dp_I 0), .int (dp_I 0), .int (dp_I 0), .int (dp_I 0), .int (dp_I 0), .int (dp_I 0)]))) : nw_met E l yX0_init wsX0_init 1 12 0 0 [.ref h0, .int (dp_I a), .int (dp_I b), .int (dp_I c), .int (dp_I d), .int (dp_I f)] w n (up w h0 (.inr (0, [.int (dp_I a), .int (dp_I b), .int (dp_I c), .int (dp_I d), .int (dp_I 0), .int (dp_I f), .int (dp_I c), .int (dp_I 0), .int (dp_I 0), .int (dp_I 0)]))) n := by
  refine nw_of (cc := cX0_init) (nL := 6) (own := RX0) (by decide +kernel) rfl rfl (by simp [Value.category]) (Nat.le_of_ble_eq_true rfl) ?_
  intro p e s m below meth co C hret hnm
  show nw_G _ _ _ _ _ _ _ _ _ _ _ _ _ _ _ _ _ _ [some (.ref h0), some (.int (dp_I a)), some (.int (dp_I b)), some (.int (dp_I c)), some (.int (dp_I d)), some (.int (dp_I f))] _
  have hX0 : ∀ x ∈ u_ws RX0 TX0 10, x ∈ wsX0_init := fun w h => List.mem_cons_of_mem _ (List.mem_append_right _ (h))
  refine nw_aload_n C dX0_init_0 rfl ?_
  refine nw_obj C (List.mem_of_getElem? (i := 1) rfl) (List.mem_of_getElem? (i := 2) rfl) (List.mem_of_getElem? (i := 3) rfl) rfl dX0_init_1 (Nat.le_of_ble_eq_true rfl) (Nat.le_of_ble_eq_true rfl) ?_
  refine nw_aload_n C dX0_init_4 rfl ?_
  refine nw_iload_n C dX0_init_5 rfl ?_
  refine nw_put C (k := 0) (ci := 0) (fs := [.int (dp_I 0), .int (dp_I 0), .int (dp_I 0), .int (dp_I 0), .int (dp_I 0), .int (dp_I 0), .int (dp_I 0), .int (dp_I 0), .int (dp_I 0), .int (dp_I 0)]) (by simp (disch := omega) only [up_same, up_ne, blk_out, *]; try rfl) rfl hX0 tyX0 tyX0_ok nmX0 (by decide) (List.mem_of_getElem? (i := 4) rfl) (fun _ => ⟨hnm, rfl⟩) (tyX0_ok _ (by decide)) rfl rfl (Nat.le_of_ble_eq_true rfl) dX0_init_6 ?_
  dsimp only [List.set]
  refine nw_aload_n C dX0_init_9 rfl ?_
  refine nw_iload_n C dX0_init_10 rfl ?_
  refine nw_put C (k := 1) (ci := 0) (fs := [.int (dp_I a), .int (dp_I 0), .int (dp_I 0), .int (dp_I 0), .int (dp_I 0), .int (dp_I 0), .int (dp_I 0), .int (dp_I 0), .int (dp_I 0), .int (dp_I 0)]) (by simp (disch := omega) only [up_same, up_ne, blk_out, *]; try rfl) rfl hX0 tyX0 tyX0_ok nmX0 (by decide) (List.mem_of_getElem? (i := 5) rfl) (fun _ => ⟨hnm, rfl⟩) (tyX0_ok _ (by decide)) rfl rfl (Nat.le_of_ble_eq_true rfl) dX0_init_11 ?_
  dsimp only [List.set]
  rw [up_up]
  refine nw_aload_n C dX0_init_14 rfl ?_
  refine nw_iload_n C dX0_init_15 rfl ?_
  refine nw_put C (k := 2) (ci := 0) (fs := [.int (dp_I a), .int (dp_I b), .int (dp_I 0), .int (dp_I 0), .int (dp_I 0), .int (dp_I 0), .int (dp_I 0), .int (dp_I 0), .int (dp_I 0), .int (dp_I 0)]) (by simp (disch := omega) only [up_same, up_ne, blk_out, *]; try rfl) rfl hX0 tyX0 tyX0_ok nmX0 (by decide) (List.mem_of_getElem? (i := 6) rfl) (fun _ => ⟨hnm, rfl⟩) (tyX0_ok _ (by decide)) rfl rfl (Nat.le_of_ble_eq_true rfl) dX0_init_16 ?_
  dsimp only [List.set]
  rw [up_up]
  refine nw_aload_n C dX0_init_19 rfl ?_
  refine nw_iload_n C dX0_init_20 rfl ?_
  refine nw_put C (k := 6) (ci := 0) (fs := [.int (dp_I a), .int (dp_I b), .int (dp_I c), .int (dp_I 0), .int (dp_I 0), .int (dp_I 0), .int (dp_I 0), .int (dp_I 0), .int (dp_I 0), .int (dp_I 0)]) (by simp (disch := omega) only [up_same, up_ne, blk_out, *]; try rfl) rfl hX0 tyX0 tyX0_ok nmX0 (by decide) (List.mem_of_getElem? (i := 7) rfl) (fun q => by cases q) (tyX0_ok _ (by decide)) rfl rfl (Nat.le_of_ble_eq_true rfl) dX0_init_21 ?_
  dsimp only [List.set]
  rw [up_up]
  refine nw_aload_n C dX0_init_24 rfl ?_
  refine nw_iload C dX0_init_25 rfl ?_
  refine nw_put C (k := 3) (ci := 0) (fs := [.int (dp_I a), .int (dp_I b), .int (dp_I c), .int (dp_I 0), .int (dp_I 0), .int (dp_I 0), .int (dp_I c), .int (dp_I 0), .int (dp_I 0), .int (dp_I 0)]) (by simp (disch := omega) only [up_same, up_ne, blk_out, *]; try rfl) rfl hX0 tyX0 tyX0_ok nmX0 (by decide) (List.mem_of_getElem? (i := 8) rfl) (fun q => by cases q) (tyX0_ok _ (by decide)) rfl rfl (Nat.le_of_ble_eq_true rfl) dX0_init_27 ?_
  dsimp only [List.set]
  rw [up_up]
  refine nw_aload_n C dX0_init_30 rfl ?_
  refine nw_iload C dX0_init_31 rfl ?_
  refine nw_put C (k := 5) (ci := 0) (fs := [.int (dp_I a), .int (dp_I b), .int (dp_I c), .int (dp_I d), .int (dp_I 0), .int (dp_I 0), .int (dp_I c), .int (dp_I 0), .int (dp_I 0), .int (dp_I 0)]) (by simp (disch := omega) only [up_same, up_ne, blk_out, *]; try rfl) rfl hX0 tyX0 tyX0_ok nmX0 (by decide) (List.mem_of_getElem? (i := 9) rfl) (fun q => by cases q) (tyX0_ok _ (by decide)) rfl rfl (Nat.le_of_ble_eq_true rfl) dX0_init_33 ?_
  dsimp only [List.set]
  rw [up_up]
  exact nw_vret C hret dX0_init_36
set_option maxHeartbeats 4000000 in
set_option maxRecDepth 100000 in
theorem c_X5_init {E : dp_E} (l : Launch) {w : nw_V} {n h0 : Nat}  : nw_met E l yX5_init wsX5_init 1 12 0 0 [.ref h0] w n w n := by
  refine nw_of (cc := cX5_init) (nL := 1) (own := RX5) (by decide +kernel) rfl rfl (by simp [Value.category]) (Nat.le_of_ble_eq_true rfl) ?_
  intro p e s m below meth co C hret hnm
  show nw_G _ _ _ _ _ _ _ _ _ _ _ _ _ _ _ _ _ _ [some (.ref h0)] _
  refine nw_aload_n C dX5_init_0 rfl ?_
  refine nw_obj C (List.mem_of_getElem? (i := 1) rfl) (List.mem_of_getElem? (i := 2) rfl) (List.mem_of_getElem? (i := 3) rfl) rfl dX5_init_1 (Nat.le_of_ble_eq_true rfl) (Nat.le_of_ble_eq_true rfl) ?_
  exact nw_vret C hret dX5_init_4
set_option maxHeartbeats 4000000 in
set_option maxRecDepth 100000 in
theorem c_X3_init {E : dp_E} (l : Launch) {w : nw_V} {n h0 : Nat} (hw : w h0 = some (.inr (3, [.int (dp_I 0), .int (dp_I 0), .int (dp_I 0), .int (dp_I 0), .int (dp_I 0), .int (dp_I 0), .int (dp_I 0), .int (dp_I 0), .int (dp_I 0), .int (dp_I 0), .int (dp_I 0), .int (dp_I 0), .int (dp_I 0), .int (dp_I 0)]))) : nw_met E l yX3_init wsX3_init 1 12 0 0 [.ref h0] w n (up w h0 (.inr (3, [.int (dp_I 0), .int (dp_I 0), .int (dp_I 0), .int (dp_I 0), .int (dp_I 0), .int (dp_I 0), .int (dp_I 4), .int (dp_I 0), .int (dp_I 0), .int (dp_I 0), .int (dp_I 0), .int (dp_I 0), .int (dp_I 0), .int (dp_I 0)]))) n := by
  refine nw_of (cc := cX3_init) (nL := 1) (own := RX3) (by decide +kernel) rfl rfl (by simp [Value.category]) (Nat.le_of_ble_eq_true rfl) ?_
  intro p e s m below meth co C hret hnm
  show nw_G _ _ _ _ _ _ _ _ _ _ _ _ _ _ _ _ _ _ [some (.ref h0)] _
  have hX3 : ∀ x ∈ u_ws RX3 TX3 14, x ∈ wsX3_init := fun w h => List.mem_cons_of_mem _ (List.mem_append_right _ (h))
  refine nw_aload_n C dX3_init_0 rfl ?_
  refine nw_obj C (List.mem_of_getElem? (i := 1) rfl) (List.mem_of_getElem? (i := 2) rfl) (List.mem_of_getElem? (i := 3) rfl) rfl dX3_init_1 (Nat.le_of_ble_eq_true rfl) (Nat.le_of_ble_eq_true rfl) ?_
  refine nw_aload_n C dX3_init_4 rfl ?_
  refine nw_iconst C dX3_init_5 ?_
  refine nw_put C (k := 6) (ci := 3) (fs := [.int (dp_I 0), .int (dp_I 0), .int (dp_I 0), .int (dp_I 0), .int (dp_I 0), .int (dp_I 0), .int (dp_I 0), .int (dp_I 0), .int (dp_I 0), .int (dp_I 0), .int (dp_I 0), .int (dp_I 0), .int (dp_I 0), .int (dp_I 0)]) (by simp (disch := omega) only [up_same, up_ne, blk_out, *]; try rfl) rfl hX3 tyX3 tyX3_ok nmX3 (by decide) (List.mem_of_getElem? (i := 4) rfl) (fun q => by cases q) (tyX3_ok _ (by decide)) rfl rfl (Nat.le_of_ble_eq_true rfl) dX3_init_6 ?_
  dsimp only [List.set]
  exact nw_vret C hret dX3_init_9
def txC (E : dp_E) (b : Nat) : Nat → va_E := fun j => match j with
  | 0 => .inr (4, [.ref (b + 1), .int (dp_I 0), .ref (b + 2), .int (dp_I 0), .int (dp_I 0), .int (dp_I 0)])
  | 1 => dp_ints (eC E) 100 (fun _ => 0)
  | _ => dp_ints (eI E) 6 (fun _ => 0)
set_option maxHeartbeats 4000000 in
set_option maxRecDepth 100000 in
theorem c_X4_init {E : dp_E} (l : Launch) {w : nw_V} {h0 : Nat} (hw : w h0 = some (.inr (4, [.null, .int (dp_I 0), .null, .int (dp_I 0), .int (dp_I 0), .int (dp_I 0)]))) : nw_met E l yX4_init wsX4_init 1 12 2 106 [.ref h0] w (h0 + 1) (blk w h0 3 (txC E h0)) (h0 + 3) := by
  refine nw_of (cc := cX4_init) (nL := 1) (own := RX4) (by decide +kernel) rfl rfl (by simp [Value.category]) (Nat.le_of_ble_eq_true rfl) ?_
  intro p e s m below meth co C hret hnm
  show nw_G _ _ _ _ _ _ _ _ _ _ _ _ _ _ _ _ _ _ [some (.ref h0)] _
  have hX4 : ∀ x ∈ u_ws RX4 TX4 6, x ∈ wsX4_init := fun w h => List.mem_cons_of_mem _ (List.mem_append_right _ (h))
  refine nw_aload_n C dX4_init_0 rfl ?_
  refine nw_obj C (List.mem_of_getElem? (i := 1) rfl) (List.mem_of_getElem? (i := 2) rfl) (List.mem_of_getElem? (i := 3) rfl) rfl dX4_init_1 (Nat.le_of_ble_eq_true rfl) (Nat.le_of_ble_eq_true rfl) ?_
  refine nw_aload_n C dX4_init_4 rfl ?_
  refine nw_bipush C dX4_init_5 (by decide) ?_
  refine nw_newc (N := 100) C (List.mem_of_getElem? (i := 4) rfl) rfl (Nat.le_of_ble_eq_true rfl) (Nat.le_of_ble_eq_true rfl) (Nat.le_of_ble_eq_true rfl) (Nat.le_of_ble_eq_true rfl) dX4_init_7 ?_
  refine nw_eqn (n' := h0 + 2) rfl ?_
  refine nw_put C (k := 0) (ci := 4) (fs := [.null, .int (dp_I 0), .null, .int (dp_I 0), .int (dp_I 0), .int (dp_I 0)]) (by simp (disch := omega) only [up_same, up_ne, blk_out, *]; try rfl) rfl hX4 tyX4 tyX4_ok nmX4 (by decide) (List.mem_of_getElem? (i := 5) rfl) (fun _ => ⟨hnm, rfl⟩) (tyX4_ok _ (by decide)) rfl rfl (Nat.le_of_ble_eq_true rfl) dX4_init_9 ?_
  dsimp only [List.set]
  refine nw_aload_n C dX4_init_12 rfl ?_
  refine nw_bipush C dX4_init_13 (by decide) ?_
  refine nw_newi (N := 6) C (List.mem_of_getElem? (i := 6) rfl) rfl (Nat.le_of_ble_eq_true rfl) (Nat.le_of_ble_eq_true rfl) (Nat.le_of_ble_eq_true rfl) (Nat.le_of_ble_eq_true rfl) dX4_init_15 ?_
  refine nw_eqn (n' := h0 + 3) rfl ?_
  refine nw_put C (k := 2) (ci := 4) (fs := [.ref (h0 + 1), .int (dp_I 0), .null, .int (dp_I 0), .int (dp_I 0), .int (dp_I 0)]) (by simp (disch := omega) only [up_same, up_ne, blk_out, *]; try rfl) rfl hX4 tyX4 tyX4_ok nmX4 (by decide) (List.mem_of_getElem? (i := 7) rfl) (fun _ => ⟨hnm, rfl⟩) (tyX4_ok _ (by decide)) rfl rfl (Nat.le_of_ble_eq_true rfl) dX4_init_17 ?_
  dsimp only [List.set]
  refine nw_cons (w' := blk w h0 3 (txC E h0)) (fun q x hq => ?_) ?_
  · by_cases hin : h0 ≤ q ∧ q < h0 + 3
    · obtain ⟨j, hj, rfl⟩ : ∃ j, j < 3 ∧ q = h0 + j := ⟨q - h0, by omega, by omega⟩
      rw [blk_in hj rfl] at hq
      rw [← hq]
      rcases (by omega : j = 0 ∨ j = 1 ∨ j = 2) with rfl | rfl | rfl
      · simp (disch := omega) only [Nat.add_zero, up_same, up_ne]
        try rfl
      · simp (disch := omega) only [Nat.add_zero, up_same, up_ne]
        try rfl
      · simp (disch := omega) only [Nat.add_zero, up_same, up_ne]
        try rfl
    · rw [blk_out (by omega)] at hq
      simp (disch := omega) only [up_ne]
      exact hq
  · skip
    exact nw_vret C hret dX4_init_20
def stX (E : dp_E) (i b : Nat) : Nat → va_E := fun j => match j with
  | 0 => .inr (2, [.int (dp_I 0), .int (dp_I 0), .int (dp_I 0), .ref (b + 1), .ref (b + 2), .ref (b + 3), .ref (b + 4), .ref (b + 5), .ref (b + 6), .ref (b + 7), .ref (b + 8)])
  | 1 => dp_ints (eI E) 4 (u1 (u1 (u1 (u1 (fun _ => 0) 0 100) 1 18000) 2 30) 3 60)
  | 2 => dp_ints (eI E) 31 (fun _ => 0)
  | 3 => .inr (0, [.int (dp_I (-27000)), .int (dp_I 27000), .int (dp_I 0), .int (dp_I 40), .int (dp_I 0), .int (dp_I 600), .int (dp_I 0), .int (dp_I 0), .int (dp_I 0), .int (dp_I 0)])
  | 4 => .inr (0, [.int (dp_I 500), .int (dp_I 9000), .int (dp_I 9000), .int (dp_I 20), .int (dp_I 0), .int (dp_I 300), .int (dp_I 9000), .int (dp_I 0), .int (dp_I 0), .int (dp_I 0)])
  | 5 => .inl (eT E, 10, .inr (.inr (.inr (.inr (fun j => if j < i then some (b + 9 + j) else none)))))
  | 6 => .inr (5, [.int (dp_I 0), .int (dp_I 0), .int (dp_I 0), .int (dp_I 0), .int (dp_I 0), .int (dp_I 0), .int (dp_I 0)])
  | 7 => .inr (5, [.int (dp_I 0), .int (dp_I 0), .int (dp_I 0), .int (dp_I 0), .int (dp_I 0), .int (dp_I 0), .int (dp_I 0)])
  | 8 => .inr (5, [.int (dp_I 0), .int (dp_I 0), .int (dp_I 0), .int (dp_I 0), .int (dp_I 0), .int (dp_I 0), .int (dp_I 0)])
  | _ => .inr (3, [.int (dp_I 0), .int (dp_I 0), .int (dp_I 0), .int (dp_I 0), .int (dp_I 0), .int (dp_I 0), .int (dp_I 4), .int (dp_I 0), .int (dp_I 0), .int (dp_I 0), .int (dp_I 0), .int (dp_I 0), .int (dp_I 0), .int (dp_I 0)])
theorem stX_9 {E : dp_E} {i b j : Nat} (h : 9 ≤ j) : stX E i b j = .inr (3, [.int (dp_I 0), .int (dp_I 0), .int (dp_I 0), .int (dp_I 0), .int (dp_I 0), .int (dp_I 0), .int (dp_I 4), .int (dp_I 0), .int (dp_I 0), .int (dp_I 0), .int (dp_I 0), .int (dp_I 0), .int (dp_I 0), .int (dp_I 0)]) := by
  obtain ⟨k, rfl⟩ : ∃ k, j = k + 9 := ⟨j - 9, by omega⟩
  rfl
theorem stX_i {E : dp_E} {i i' b j : Nat} (h : j ≠ 5) : stX E i b j = stX E i' b j := by
  rcases (by omega : j = 0 ∨ j = 1 ∨ j = 2 ∨ j = 3 ∨ j = 4 ∨ j = 6 ∨ j = 7 ∨ j = 8 ∨ 9 ≤ j) with rfl | rfl | rfl | rfl | rfl | rfl | rfl | rfl | q
  all_goals first | rfl | (rw [stX_9 q, stX_9 q])
set_option maxHeartbeats 4000000 in
set_option maxRecDepth 100000 in
theorem c_X2_init {E : dp_E} (l : Launch) {w : nw_V} {h0 : Nat} (hw : w h0 = some (.inr (2, [.int (dp_I 0), .int (dp_I 0), .int (dp_I 0), .null, .null, .null, .null, .null, .null, .null, .null]))) : nw_met E l yX2_init wsX2_init 2 37 18 226 [.ref h0] w (h0 + 1) (blk w h0 19 (stX E 10 h0)) (h0 + 19) := by
  refine nw_of (cc := cX2_init) (nL := 2) (own := RX2) (by decide +kernel) rfl rfl (by simp [Value.category]) (Nat.le_of_ble_eq_true rfl) ?_
  intro p e s m below meth co C hret hnm
  show nw_G _ _ _ _ _ _ _ _ _ _ _ _ _ _ _ _ _ _ [some (.ref h0), none] _
  have hX0 : ∀ x ∈ u_ws RX0 TX0 10, x ∈ wsX2_init := fun w h => List.mem_cons_of_mem _ (List.mem_append_left _ (List.mem_append_left _ (List.mem_append_right _ (h))))
  have hX2 : ∀ x ∈ u_ws RX2 TX2 11, x ∈ wsX2_init := fun w h => List.mem_cons_of_mem _ (List.mem_append_left _ (List.mem_append_left _ (List.mem_append_left _ (List.mem_append_right _ (h)))))
  have hX3 : ∀ x ∈ u_ws RX3 TX3 14, x ∈ wsX2_init := fun w h => List.mem_cons_of_mem _ (List.mem_append_right _ (h))
  have hX5 : ∀ x ∈ u_ws RX5 TX5 7, x ∈ wsX2_init := fun w h => List.mem_cons_of_mem _ (List.mem_append_left _ (List.mem_append_right _ (h)))
  refine nw_aload_n C dX2_init_0 rfl ?_
  refine nw_obj C (List.mem_of_getElem? (i := 1) rfl) (List.mem_of_getElem? (i := 2) rfl) (List.mem_of_getElem? (i := 3) rfl) rfl dX2_init_1 (Nat.le_of_ble_eq_true rfl) (Nat.le_of_ble_eq_true rfl) ?_
  refine nw_aload_n C dX2_init_4 rfl ?_
  refine nw_iconst C dX2_init_5 ?_
  refine nw_newi (N := 4) C (List.mem_of_getElem? (i := 4) rfl) rfl (Nat.le_of_ble_eq_true rfl) (Nat.le_of_ble_eq_true rfl) (Nat.le_of_ble_eq_true rfl) (Nat.le_of_ble_eq_true rfl) dX2_init_6 ?_
  refine nw_eqn (n' := h0 + 2) rfl ?_
  refine nw_dup C dX2_init_8 rfl ?_
  refine nw_iconst C dX2_init_9 ?_
  refine nw_bipush C dX2_init_10 (by decide) ?_
  refine nw_iast C (j := 0) (N := 4) (f := (fun _ => 0)) (by simp (disch := omega) only [up_same, up_ne, blk_out, *]; try rfl) rfl (by decide) (by decide) dX2_init_12 ?_
  rw [up_up]
  refine nw_dup C dX2_init_13 rfl ?_
  refine nw_iconst C dX2_init_14 ?_
  refine nw_sipush C dX2_init_15 (by decide) ?_
  refine nw_iast C (j := 1) (N := 4) (f := (u1 (fun _ => 0) 0 100)) (by simp (disch := omega) only [up_same, up_ne, blk_out, *]; try rfl) rfl (by decide) (by decide) dX2_init_18 ?_
  rw [up_up]
  refine nw_dup C dX2_init_19 rfl ?_
  refine nw_iconst C dX2_init_20 ?_
  refine nw_bipush C dX2_init_21 (by decide) ?_
  refine nw_iast C (j := 2) (N := 4) (f := (u1 (u1 (fun _ => 0) 0 100) 1 18000)) (by simp (disch := omega) only [up_same, up_ne, blk_out, *]; try rfl) rfl (by decide) (by decide) dX2_init_23 ?_
  rw [up_up]
  refine nw_dup C dX2_init_24 rfl ?_
  refine nw_iconst C dX2_init_25 ?_
  refine nw_bipush C dX2_init_26 (by decide) ?_
  refine nw_iast C (j := 3) (N := 4) (f := (u1 (u1 (u1 (fun _ => 0) 0 100) 1 18000) 2 30)) (by simp (disch := omega) only [up_same, up_ne, blk_out, *]; try rfl) rfl (by decide) (by decide) dX2_init_28 ?_
  rw [up_up]
  refine nw_put C (k := 3) (ci := 2) (fs := [.int (dp_I 0), .int (dp_I 0), .int (dp_I 0), .null, .null, .null, .null, .null, .null, .null, .null]) (by simp (disch := omega) only [up_same, up_ne, blk_out, *]; try rfl) rfl hX2 tyX2 tyX2_ok nmX2 (by decide) (List.mem_of_getElem? (i := 5) rfl) (fun _ => ⟨hnm, rfl⟩) (tyX2_ok _ (by decide)) rfl rfl (Nat.le_of_ble_eq_true rfl) dX2_init_29 ?_
  dsimp only [List.set]
  refine nw_aload_n C dX2_init_32 rfl ?_
  refine nw_bipush C dX2_init_33 (by decide) ?_
  refine nw_newi (N := 31) C (List.mem_of_getElem? (i := 4) rfl) rfl (Nat.le_of_ble_eq_true rfl) (Nat.le_of_ble_eq_true rfl) (Nat.le_of_ble_eq_true rfl) (Nat.le_of_ble_eq_true rfl) dX2_init_35 ?_
  refine nw_eqn (n' := h0 + 3) rfl ?_
  refine nw_put C (k := 4) (ci := 2) (fs := [.int (dp_I 0), .int (dp_I 0), .int (dp_I 0), .ref (h0 + 1), .null, .null, .null, .null, .null, .null, .null]) (by simp (disch := omega) only [up_same, up_ne, blk_out, *]; try rfl) rfl hX2 tyX2 tyX2_ok nmX2 (by decide) (List.mem_of_getElem? (i := 6) rfl) (fun _ => ⟨hnm, rfl⟩) (tyX2_ok _ (by decide)) rfl rfl (Nat.le_of_ble_eq_true rfl) dX2_init_37 ?_
  dsimp only [List.set]
  refine nw_aload_n C dX2_init_40 rfl ?_
  refine nw_new (fs := [.int (dp_I 0), .int (dp_I 0), .int (dp_I 0), .int (dp_I 0), .int (dp_I 0), .int (dp_I 0), .int (dp_I 0), .int (dp_I 0), .int (dp_I 0), .int (dp_I 0)]) C hX0 tyX0 tyX0_ok (ci := 0) rfl (List.mem_of_getElem? (i := 7) rfl) (List.mem_of_getElem? (i := 8) rfl) (List.mem_of_getElem? (i := 9) rfl) zX0_ok (Nat.le_of_ble_eq_true rfl) (Nat.le_of_ble_eq_true rfl) dX2_init_41 ?_
  refine nw_eqn (n' := h0 + 4) rfl ?_
  refine nw_dup C dX2_init_44 rfl ?_
  refine nw_sipush C dX2_init_45 (by decide) ?_
  refine nw_sipush C dX2_init_48 (by decide) ?_
  refine nw_iconst C dX2_init_51 ?_
  refine nw_bipush C dX2_init_52 (by decide) ?_
  refine nw_sipush C dX2_init_54 (by decide) ?_
  refine nw_call C (c_X0_init l (by simp (disch := omega) only [up_same, up_ne, blk_out, *]; try rfl)) (nw_dm (by simp (disch := omega) only [up_same, up_ne, blk_out, *]; try rfl)) gX2_init_X0_init rfl (List.mem_of_getElem? (i := 9) rfl) (Or.inl (List.mem_of_getElem? (i := 22) rfl)) (List.mem_of_getElem? (i := 23) rfl) rfl yyX0_init rfl ⟨Nat.le_of_ble_eq_true rfl, Nat.le_of_ble_eq_true rfl⟩ rfl (Nat.le_of_ble_eq_true rfl) rfl ⟨Nat.le_of_ble_eq_true rfl, Nat.le_of_ble_eq_true rfl⟩ dX2_init_57 ?_
  rw [up_up]
  refine nw_put C (k := 5) (ci := 2) (fs := [.int (dp_I 0), .int (dp_I 0), .int (dp_I 0), .ref (h0 + 1), .ref (h0 + 2), .null, .null, .null, .null, .null, .null]) (by simp (disch := omega) only [up_same, up_ne, blk_out, *]; try rfl) rfl hX2 tyX2 tyX2_ok nmX2 (by decide) (List.mem_of_getElem? (i := 10) rfl) (fun _ => ⟨hnm, rfl⟩) (tyX2_ok _ (by decide)) rfl rfl (Nat.le_of_ble_eq_true rfl) dX2_init_60 ?_
  dsimp only [List.set]
  refine nw_aload_n C dX2_init_63 rfl ?_
  refine nw_new (fs := [.int (dp_I 0), .int (dp_I 0), .int (dp_I 0), .int (dp_I 0), .int (dp_I 0), .int (dp_I 0), .int (dp_I 0), .int (dp_I 0), .int (dp_I 0), .int (dp_I 0)]) C hX0 tyX0 tyX0_ok (ci := 0) rfl (List.mem_of_getElem? (i := 7) rfl) (List.mem_of_getElem? (i := 8) rfl) (List.mem_of_getElem? (i := 9) rfl) zX0_ok (Nat.le_of_ble_eq_true rfl) (Nat.le_of_ble_eq_true rfl) dX2_init_64 ?_
  refine nw_eqn (n' := h0 + 5) rfl ?_
  refine nw_dup C dX2_init_67 rfl ?_
  refine nw_sipush C dX2_init_68 (by decide) ?_
  refine nw_sipush C dX2_init_71 (by decide) ?_
  refine nw_sipush C dX2_init_74 (by decide) ?_
  refine nw_bipush C dX2_init_77 (by decide) ?_
  refine nw_sipush C dX2_init_79 (by decide) ?_
  refine nw_call C (c_X0_init l (by simp (disch := omega) only [up_same, up_ne, blk_out, *]; try rfl)) (nw_dm (by simp (disch := omega) only [up_same, up_ne, blk_out, *]; try rfl)) gX2_init_X0_init rfl (List.mem_of_getElem? (i := 9) rfl) (Or.inl (List.mem_of_getElem? (i := 22) rfl)) (List.mem_of_getElem? (i := 23) rfl) rfl yyX0_init rfl ⟨Nat.le_of_ble_eq_true rfl, Nat.le_of_ble_eq_true rfl⟩ rfl (Nat.le_of_ble_eq_true rfl) rfl ⟨Nat.le_of_ble_eq_true rfl, Nat.le_of_ble_eq_true rfl⟩ dX2_init_82 ?_
  rw [up_up]
  refine nw_put C (k := 6) (ci := 2) (fs := [.int (dp_I 0), .int (dp_I 0), .int (dp_I 0), .ref (h0 + 1), .ref (h0 + 2), .ref (h0 + 3), .null, .null, .null, .null, .null]) (by simp (disch := omega) only [up_same, up_ne, blk_out, *]; try rfl) rfl hX2 tyX2 tyX2_ok nmX2 (by decide) (List.mem_of_getElem? (i := 11) rfl) (fun _ => ⟨hnm, rfl⟩) (tyX2_ok _ (by decide)) rfl rfl (Nat.le_of_ble_eq_true rfl) dX2_init_85 ?_
  dsimp only [List.set]
  refine nw_aload_n C dX2_init_88 rfl ?_
  refine nw_bipush C dX2_init_89 (by decide) ?_
  refine nw_newT (N := 10) C (List.mem_of_getElem? (i := 12) rfl) rfl (Nat.le_of_ble_eq_true rfl) (Nat.le_of_ble_eq_true rfl) (Nat.le_of_ble_eq_true rfl) dX2_init_91 ?_
  refine nw_eqn (n' := h0 + 6) rfl ?_
  refine nw_put C (k := 7) (ci := 2) (fs := [.int (dp_I 0), .int (dp_I 0), .int (dp_I 0), .ref (h0 + 1), .ref (h0 + 2), .ref (h0 + 3), .ref (h0 + 4), .null, .null, .null, .null]) (by simp (disch := omega) only [up_same, up_ne, blk_out, *]; try rfl) rfl hX2 tyX2 tyX2_ok nmX2 (by decide) (List.mem_of_getElem? (i := 13) rfl) (fun _ => ⟨hnm, rfl⟩) (tyX2_ok _ (by decide)) rfl rfl (Nat.le_of_ble_eq_true rfl) dX2_init_94 ?_
  dsimp only [List.set]
  refine nw_aload_n C dX2_init_97 rfl ?_
  refine nw_new (fs := [.int (dp_I 0), .int (dp_I 0), .int (dp_I 0), .int (dp_I 0), .int (dp_I 0), .int (dp_I 0), .int (dp_I 0)]) C hX5 tyX5 tyX5_ok (ci := 5) rfl (List.mem_of_getElem? (i := 14) rfl) (List.mem_of_getElem? (i := 15) rfl) (List.mem_of_getElem? (i := 16) rfl) zX5_ok (Nat.le_of_ble_eq_true rfl) (Nat.le_of_ble_eq_true rfl) dX2_init_98 ?_
  refine nw_eqn (n' := h0 + 7) rfl ?_
  refine nw_dup C dX2_init_101 rfl ?_
  refine nw_call C (c_X5_init l ) (fun _ h => Or.inl h) gX2_init_X5_init_n38 rfl (List.mem_of_getElem? (i := 16) rfl) (Or.inr C.2.2.2.2.2.2.2.1) (List.mem_of_getElem? (i := 32) rfl) rfl yyX5_init rfl ⟨Nat.le_of_ble_eq_true rfl, Nat.le_of_ble_eq_true rfl⟩ rfl (Nat.le_of_ble_eq_true rfl) rfl ⟨Nat.le_of_ble_eq_true rfl, Nat.le_of_ble_eq_true rfl⟩ dX2_init_102 ?_
  refine nw_put C (k := 8) (ci := 2) (fs := [.int (dp_I 0), .int (dp_I 0), .int (dp_I 0), .ref (h0 + 1), .ref (h0 + 2), .ref (h0 + 3), .ref (h0 + 4), .ref (h0 + 5), .null, .null, .null]) (by simp (disch := omega) only [up_same, up_ne, blk_out, *]; try rfl) rfl hX2 tyX2 tyX2_ok nmX2 (by decide) (List.mem_of_getElem? (i := 17) rfl) (fun _ => ⟨hnm, rfl⟩) (tyX2_ok _ (by decide)) rfl rfl (Nat.le_of_ble_eq_true rfl) dX2_init_105 ?_
  dsimp only [List.set]
  refine nw_aload_n C dX2_init_108 rfl ?_
  refine nw_new (fs := [.int (dp_I 0), .int (dp_I 0), .int (dp_I 0), .int (dp_I 0), .int (dp_I 0), .int (dp_I 0), .int (dp_I 0)]) C hX5 tyX5 tyX5_ok (ci := 5) rfl (List.mem_of_getElem? (i := 14) rfl) (List.mem_of_getElem? (i := 15) rfl) (List.mem_of_getElem? (i := 16) rfl) zX5_ok (Nat.le_of_ble_eq_true rfl) (Nat.le_of_ble_eq_true rfl) dX2_init_109 ?_
  refine nw_eqn (n' := h0 + 8) rfl ?_
  refine nw_dup C dX2_init_112 rfl ?_
  refine nw_call C (c_X5_init l ) (fun _ h => Or.inl h) gX2_init_X5_init_n38 rfl (List.mem_of_getElem? (i := 16) rfl) (Or.inr C.2.2.2.2.2.2.2.1) (List.mem_of_getElem? (i := 32) rfl) rfl yyX5_init rfl ⟨Nat.le_of_ble_eq_true rfl, Nat.le_of_ble_eq_true rfl⟩ rfl (Nat.le_of_ble_eq_true rfl) rfl ⟨Nat.le_of_ble_eq_true rfl, Nat.le_of_ble_eq_true rfl⟩ dX2_init_113 ?_
  refine nw_put C (k := 9) (ci := 2) (fs := [.int (dp_I 0), .int (dp_I 0), .int (dp_I 0), .ref (h0 + 1), .ref (h0 + 2), .ref (h0 + 3), .ref (h0 + 4), .ref (h0 + 5), .ref (h0 + 6), .null, .null]) (by simp (disch := omega) only [up_same, up_ne, blk_out, *]; try rfl) rfl hX2 tyX2 tyX2_ok nmX2 (by decide) (List.mem_of_getElem? (i := 18) rfl) (fun _ => ⟨hnm, rfl⟩) (tyX2_ok _ (by decide)) rfl rfl (Nat.le_of_ble_eq_true rfl) dX2_init_116 ?_
  dsimp only [List.set]
  refine nw_aload_n C dX2_init_119 rfl ?_
  refine nw_new (fs := [.int (dp_I 0), .int (dp_I 0), .int (dp_I 0), .int (dp_I 0), .int (dp_I 0), .int (dp_I 0), .int (dp_I 0)]) C hX5 tyX5 tyX5_ok (ci := 5) rfl (List.mem_of_getElem? (i := 14) rfl) (List.mem_of_getElem? (i := 15) rfl) (List.mem_of_getElem? (i := 16) rfl) zX5_ok (Nat.le_of_ble_eq_true rfl) (Nat.le_of_ble_eq_true rfl) dX2_init_120 ?_
  refine nw_eqn (n' := h0 + 9) rfl ?_
  refine nw_dup C dX2_init_123 rfl ?_
  refine nw_call C (c_X5_init l ) (fun _ h => Or.inl h) gX2_init_X5_init_n38 rfl (List.mem_of_getElem? (i := 16) rfl) (Or.inr C.2.2.2.2.2.2.2.1) (List.mem_of_getElem? (i := 32) rfl) rfl yyX5_init rfl ⟨Nat.le_of_ble_eq_true rfl, Nat.le_of_ble_eq_true rfl⟩ rfl (Nat.le_of_ble_eq_true rfl) rfl ⟨Nat.le_of_ble_eq_true rfl, Nat.le_of_ble_eq_true rfl⟩ dX2_init_124 ?_
  refine nw_put C (k := 10) (ci := 2) (fs := [.int (dp_I 0), .int (dp_I 0), .int (dp_I 0), .ref (h0 + 1), .ref (h0 + 2), .ref (h0 + 3), .ref (h0 + 4), .ref (h0 + 5), .ref (h0 + 6), .ref (h0 + 7), .null]) (by simp (disch := omega) only [up_same, up_ne, blk_out, *]; try rfl) rfl hX2 tyX2 tyX2_ok nmX2 (by decide) (List.mem_of_getElem? (i := 19) rfl) (fun _ => ⟨hnm, rfl⟩) (tyX2_ok _ (by decide)) rfl rfl (Nat.le_of_ble_eq_true rfl) dX2_init_127 ?_
  dsimp only [List.set]
  refine nw_iconst C dX2_init_130 ?_
  refine nw_istore_n C dX2_init_131 (Nat.le_of_ble_eq_true rfl) ?_
  dsimp only [List.set]
  refine nw_cons (w' := blk w h0 9 (stX E 0 h0)) (fun q x hq => ?_) ?_
  · by_cases hin : h0 ≤ q ∧ q < h0 + 9
    · obtain ⟨j, hj, rfl⟩ : ∃ j, j < 9 ∧ q = h0 + j := ⟨q - h0, by omega, by omega⟩
      rw [blk_in hj rfl] at hq
      rw [← hq]
      rcases (by omega : j = 0 ∨ j = 1 ∨ j = 2 ∨ j = 3 ∨ j = 4 ∨ j = 5 ∨ j = 6 ∨ j = 7 ∨ j = 8) with rfl | rfl | rfl | rfl | rfl | rfl | rfl | rfl | rfl
      · simp (disch := omega) only [Nat.add_zero, up_same, up_ne]
        try rfl
      · simp (disch := omega) only [Nat.add_zero, up_same, up_ne]
        try rfl
      · simp (disch := omega) only [Nat.add_zero, up_same, up_ne]
        try rfl
      · simp (disch := omega) only [Nat.add_zero, up_same, up_ne]
        try rfl
      · simp (disch := omega) only [Nat.add_zero, up_same, up_ne]
        try rfl
      · simp (disch := omega) only [Nat.add_zero, up_same, up_ne]
        try rfl
      · simp (disch := omega) only [Nat.add_zero, up_same, up_ne]
        try rfl
      · simp (disch := omega) only [Nat.add_zero, up_same, up_ne]
        try rfl
      · simp (disch := omega) only [Nat.add_zero, up_same, up_ne]
        try rfl
    · rw [blk_out (by omega)] at hq
      simp (disch := omega) only [up_ne]
      exact hq
  · skip
    have loop : ∀ k i : Nat, i + k = 10 → nw_G E (nw_A w (h0 + 1)) p l e (nw_rm 2 37 18 226) s m [Value.ref h0].toArray below meth co (8 + i) (86 + 14 * i) (MQ below (va_Qv (fun _ : Unit => True) (fun _ t => nw_B E (blk w h0 19 (stX E 10 h0)) (h0 + 19) t) (nw_A w (h0 + 1))) [Value.ref h0].toArray s 18 226 (nw_A w (h0 + 1))) (blk w h0 (9 + i) (stX E i h0)) (h0 + 9 + i) 132 [some (.ref h0), some (.int (dp_I (i : Int)))] [] := by
      intro k
      induction k with
      | zero =>
        intro i hi
        obtain rfl : i = 10 := by omega
        refine nw_iload_n C dX2_init_132 rfl ?_
        refine nw_aload_n C dX2_init_133 rfl ?_
        refine nw_getf C (k := 7) (ci := 2) (fs := [.int (dp_I 0), .int (dp_I 0), .int (dp_I 0), .ref (h0 + 1), .ref (h0 + 2), .ref (h0 + 3), .ref (h0 + 4), .ref (h0 + 5), .ref (h0 + 6), .ref (h0 + 7), .ref (h0 + 8)]) ((blk_in (j := 0) (by omega) (by omega)).trans rfl) rfl hX2 (by decide) (List.mem_of_getElem? (i := 13) rfl) rfl dX2_init_134 ?_
        refine nw_alen C (t0 := 2) (v := 10) ((blk_in (j := 5) (by omega) (by omega)).trans rfl) rfl rfl dX2_init_137 ?_
        refine nw_icmp_ge (tgt := 160) C dX2_init_138 (by decide) ⟨by omega, by omega⟩ ⟨by omega, by omega⟩ (fun c138 => ?_) (fun c138 => ?_)
        · exact nw_vret C hret dX2_init_160
        · omega
      | succ k ih =>
        intro i hi
        refine nw_iload_n C dX2_init_132 rfl ?_
        refine nw_aload_n C dX2_init_133 rfl ?_
        refine nw_getf C (k := 7) (ci := 2) (fs := [.int (dp_I 0), .int (dp_I 0), .int (dp_I 0), .ref (h0 + 1), .ref (h0 + 2), .ref (h0 + 3), .ref (h0 + 4), .ref (h0 + 5), .ref (h0 + 6), .ref (h0 + 7), .ref (h0 + 8)]) ((blk_in (j := 0) (by omega) (by omega)).trans rfl) rfl hX2 (by decide) (List.mem_of_getElem? (i := 13) rfl) rfl dX2_init_134 ?_
        refine nw_alen C (t0 := 2) (v := 10) ((blk_in (j := 5) (by omega) (by omega)).trans rfl) rfl rfl dX2_init_137 ?_
        refine nw_icmp_ge (tgt := 160) C dX2_init_138 (by decide) ⟨by omega, by omega⟩ ⟨by omega, by omega⟩ (fun c138 => ?_) (fun c138 => ?_)
        · omega
        · skip
          refine nw_aload_n C dX2_init_141 rfl ?_
          refine nw_getf C (k := 7) (ci := 2) (fs := [.int (dp_I 0), .int (dp_I 0), .int (dp_I 0), .ref (h0 + 1), .ref (h0 + 2), .ref (h0 + 3), .ref (h0 + 4), .ref (h0 + 5), .ref (h0 + 6), .ref (h0 + 7), .ref (h0 + 8)]) ((blk_in (j := 0) (by omega) (by omega)).trans rfl) rfl hX2 (by decide) (List.mem_of_getElem? (i := 13) rfl) rfl dX2_init_142 ?_
          refine nw_iload_n C dX2_init_145 rfl ?_
          refine nw_new (fs := [.int (dp_I 0), .int (dp_I 0), .int (dp_I 0), .int (dp_I 0), .int (dp_I 0), .int (dp_I 0), .int (dp_I 0), .int (dp_I 0), .int (dp_I 0), .int (dp_I 0), .int (dp_I 0), .int (dp_I 0), .int (dp_I 0), .int (dp_I 0)]) C hX3 tyX3 tyX3_ok (ci := 3) rfl (List.mem_of_getElem? (i := 12) rfl) (List.mem_of_getElem? (i := 20) rfl) (List.mem_of_getElem? (i := 21) rfl) zX3_ok (by show 8 + i + 1 ≤ 18; omega) (by show 86 + 14 * i + 14 ≤ 226; omega) dX2_init_146 ?_
          refine nw_dup C dX2_init_149 rfl ?_
          refine nw_call C (c_X3_init l up_same) (nw_dm up_same) gX2_init_X3_init_n49 rfl (List.mem_of_getElem? (i := 21) rfl) (Or.inr C.2.2.2.2.2.2.2.2) (List.mem_of_getElem? (i := 35) rfl) rfl yyX3_init rfl ⟨Nat.le_of_ble_eq_true rfl, Nat.le_of_ble_eq_true rfl⟩ rfl (Nat.le_of_ble_eq_true rfl) rfl ⟨by show 8 + i + 1 + 0 ≤ 18; omega, by show 86 + 14 * i + 14 + 0 ≤ 226; omega⟩ dX2_init_150 ?_
          rw [up_up]
          refine nw_aast C (j := i) (ci := 3) (t0 := 2) (r := (RX3, TX3, 14)) ((up_ne (by omega)).trans ((blk_in (j := 5) (by omega) (by omega)).trans rfl)) rfl up_same rfl rfl (by omega) (by decide) dX2_init_153 ?_
          refine nw_iinc C dX2_init_154 rfl ?_
          dsimp only [List.set]
          refine nw_goto (tgt := 132) C dX2_init_157 (by decide) ?_
          refine nw_eqn (n' := h0 + 9 + (i + 1)) rfl ?_
          refine nw_cons (w' := blk w h0 (9 + (i + 1)) (stX E (i + 1) h0)) (fun q x hq => ?_) ?_
          · by_cases h5 : q = h0 + 5
            · subst h5
              rw [blk_in (j := 5) (by omega) rfl] at hq
              rw [up_same, ← hq]
              have e9 : va_up (fun j => if j < i then some (h0 + 9 + j) else none) i (some (h0 + 9 + i)) = (fun j => if j < i + 1 then some (h0 + 9 + j) else none) := by
                funext j
                unfold va_up
                by_cases e1 : j = i
                · subst e1
                  rw [if_pos rfl, if_pos (by omega)]
                · rw [if_neg e1]
                  dsimp only
                  by_cases e2 : j < i
                  · rw [if_pos e2, if_pos (by omega)]
                  · rw [if_neg e2, if_neg (by omega)]
              rw [e9]
              rfl
            · rw [up_ne h5]
              by_cases h6 : q = h0 + 9 + i
              · subst h6
                rw [blk_in (j := 9 + i) (by omega) (by omega), stX_9 (by omega)] at hq
                rw [up_same, ← hq]
              · rw [up_ne h6]
                by_cases hin : h0 ≤ q ∧ q < h0 + (9 + i)
                · obtain ⟨j, rfl⟩ : ∃ j, q = h0 + j := ⟨q - h0, by omega⟩
                  rw [blk_in (j := j) (by omega) rfl, stX_i (i' := i) (by omega)] at hq
                  rw [blk_in (j := j) (by omega) rfl]
                  exact hq
                · rw [blk_out (by omega)] at hq ⊢
                  exact hq
          · have z := ih (i + 1) (by omega)
            rw [show (8 + (i + 1)) = 8 + i + 1 + 0 by omega, show 86 + 14 * (i + 1) = 86 + 14 * i + 14 + 0 by omega, show (((i + 1 : Nat) : Int)) = (i : Int) + 1 by omega] at z
            exact z
    exact loop 10 0 rfl
def hiX (E : dp_E) (i b : Nat) : Nat → va_E := fun j => if j = 0 then .inr (1, [.ref (b + 1), .int (dp_I 0)]) else if j = 1 then .inl (eS E, 5, .inr (.inr (.inr (.inr (fun j => if j < i then some (b + 2 + 19 * j) else none))))) else stX E 10 (b + 2 + 19 * ((j - 2) / 19)) ((j - 2) % 19)
set_option maxHeartbeats 4000000 in
set_option maxRecDepth 100000 in
theorem c_X1_init {E : dp_E} (l : Launch) {w : nw_V} {h0 : Nat} (hw : w h0 = some (.inr (1, [.null, .int (dp_I 0)]))) : nw_met E l yX1_init wsX1_init 3 58 96 1190 [.ref h0] w (h0 + 1) (blk w h0 97 (hiX E 5 h0)) (h0 + 97) := by
  refine nw_of (cc := cX1_init) (nL := 2) (own := RX1) (by decide +kernel) rfl rfl (by simp [Value.category]) (Nat.le_of_ble_eq_true rfl) ?_
  intro p e s m below meth co C hret hnm
  show nw_G _ _ _ _ _ _ _ _ _ _ _ _ _ _ _ _ _ _ [some (.ref h0), none] _
  have hX1 : ∀ x ∈ u_ws RX1 TX1 2, x ∈ wsX1_init := fun w h => List.mem_cons_of_mem _ (List.mem_append_left _ (List.mem_append_left _ (List.mem_append_left _ (List.mem_append_left _ (List.mem_append_right _ (h))))))
  have hX2 : ∀ x ∈ u_ws RX2 TX2 11, x ∈ wsX1_init := fun w h => List.mem_cons_of_mem _ (List.mem_append_left _ (List.mem_append_left _ (List.mem_append_left _ (List.mem_append_right _ (h)))))
  refine nw_aload_n C dX1_init_0 rfl ?_
  refine nw_obj C (List.mem_of_getElem? (i := 1) rfl) (List.mem_of_getElem? (i := 2) rfl) (List.mem_of_getElem? (i := 3) rfl) rfl dX1_init_1 (Nat.le_of_ble_eq_true rfl) (Nat.le_of_ble_eq_true rfl) ?_
  refine nw_aload_n C dX1_init_4 rfl ?_
  refine nw_iconst C dX1_init_5 ?_
  refine nw_newS (N := 5) C (List.mem_of_getElem? (i := 4) rfl) rfl (Nat.le_of_ble_eq_true rfl) (Nat.le_of_ble_eq_true rfl) (Nat.le_of_ble_eq_true rfl) dX1_init_6 ?_
  refine nw_eqn (n' := h0 + 2) rfl ?_
  refine nw_put C (k := 0) (ci := 1) (fs := [.null, .int (dp_I 0)]) (by simp (disch := omega) only [up_same, up_ne, blk_out, *]; try rfl) rfl hX1 tyX1 tyX1_ok nmX1 (by decide) (List.mem_of_getElem? (i := 5) rfl) (fun _ => ⟨hnm, rfl⟩) (tyX1_ok _ (by decide)) rfl rfl (Nat.le_of_ble_eq_true rfl) dX1_init_9 ?_
  dsimp only [List.set]
  refine nw_iconst C dX1_init_12 ?_
  refine nw_istore_n C dX1_init_13 (Nat.le_of_ble_eq_true rfl) ?_
  dsimp only [List.set]
  refine nw_cons (w' := blk w h0 2 (hiX E 0 h0)) (fun q x hq => ?_) ?_
  · by_cases hin : h0 ≤ q ∧ q < h0 + 2
    · obtain ⟨j, hj, rfl⟩ : ∃ j, j < 2 ∧ q = h0 + j := ⟨q - h0, by omega, by omega⟩
      rw [blk_in hj rfl] at hq
      rw [← hq]
      rcases (by omega : j = 0 ∨ j = 1) with rfl | rfl
      · simp (disch := omega) only [Nat.add_zero, up_same, up_ne]
        try rfl
      · simp (disch := omega) only [Nat.add_zero, up_same, up_ne]
        try rfl
    · rw [blk_out (by omega)] at hq
      simp (disch := omega) only [up_ne]
      exact hq
  · skip
    have loop : ∀ k i : Nat, i + k = 5 → nw_G E (nw_A w (h0 + 1)) p l e (nw_rm 3 58 96 1190) s m [Value.ref h0].toArray below meth co (1 + 19 * i) (5 + 237 * i) (MQ below (va_Qv (fun _ : Unit => True) (fun _ t => nw_B E (blk w h0 97 (hiX E 5 h0)) (h0 + 97) t) (nw_A w (h0 + 1))) [Value.ref h0].toArray s 96 1190 (nw_A w (h0 + 1))) (blk w h0 (2 + 19 * i) (hiX E i h0)) (h0 + 2 + 19 * i) 14 [some (.ref h0), some (.int (dp_I (i : Int)))] [] := by
      intro k
      induction k with
      | zero =>
        intro i hi
        obtain rfl : i = 5 := by omega
        refine nw_iload_n C dX1_init_14 rfl ?_
        refine nw_aload_n C dX1_init_15 rfl ?_
        refine nw_getf C (k := 0) (ci := 1) (fs := [.ref (h0 + 1), .int (dp_I 0)]) ((blk_in (j := 0) (by omega) (by omega)).trans rfl) rfl hX1 (by decide) (List.mem_of_getElem? (i := 5) rfl) rfl dX1_init_16 ?_
        refine nw_alen C (t0 := 3) (v := 5) ((blk_in (j := 1) (by omega) (by omega)).trans rfl) rfl rfl dX1_init_19 ?_
        refine nw_icmp_ge (tgt := 42) C dX1_init_20 (by decide) ⟨by omega, by omega⟩ ⟨by omega, by omega⟩ (fun c138 => ?_) (fun c138 => ?_)
        · exact nw_vret C hret dX1_init_42
        · omega
      | succ k ih =>
        intro i hi
        refine nw_iload_n C dX1_init_14 rfl ?_
        refine nw_aload_n C dX1_init_15 rfl ?_
        refine nw_getf C (k := 0) (ci := 1) (fs := [.ref (h0 + 1), .int (dp_I 0)]) ((blk_in (j := 0) (by omega) (by omega)).trans rfl) rfl hX1 (by decide) (List.mem_of_getElem? (i := 5) rfl) rfl dX1_init_16 ?_
        refine nw_alen C (t0 := 3) (v := 5) ((blk_in (j := 1) (by omega) (by omega)).trans rfl) rfl rfl dX1_init_19 ?_
        refine nw_icmp_ge (tgt := 42) C dX1_init_20 (by decide) ⟨by omega, by omega⟩ ⟨by omega, by omega⟩ (fun c138 => ?_) (fun c138 => ?_)
        · omega
        · skip
          refine nw_aload_n C dX1_init_23 rfl ?_
          refine nw_getf C (k := 0) (ci := 1) (fs := [.ref (h0 + 1), .int (dp_I 0)]) ((blk_in (j := 0) (by omega) (by omega)).trans rfl) rfl hX1 (by decide) (List.mem_of_getElem? (i := 5) rfl) rfl dX1_init_24 ?_
          refine nw_iload_n C dX1_init_27 rfl ?_
          refine nw_new (fs := [.int (dp_I 0), .int (dp_I 0), .int (dp_I 0), .null, .null, .null, .null, .null, .null, .null, .null]) C hX2 tyX2 tyX2_ok (ci := 2) rfl (List.mem_of_getElem? (i := 4) rfl) (List.mem_of_getElem? (i := 6) rfl) (List.mem_of_getElem? (i := 7) rfl) zX2_ok (by show 1 + 19 * i + 1 ≤ 96; omega) (by show 5 + 237 * i + 11 ≤ 1190; omega) dX1_init_28 ?_
          refine nw_dup C dX1_init_31 rfl ?_
          refine nw_call C (c_X2_init l up_same) (nw_db up_same) gX1_init_X2_init rfl (List.mem_of_getElem? (i := 7) rfl) (Or.inl (List.mem_of_getElem? (i := 8) rfl)) (List.mem_of_getElem? (i := 9) rfl) rfl yyX2_init rfl ⟨Nat.le_of_ble_eq_true rfl, Nat.le_of_ble_eq_true rfl⟩ rfl (Nat.le_of_ble_eq_true rfl) rfl ⟨by show 1 + 19 * i + 1 + 18 ≤ 96; omega, by show 5 + 237 * i + 11 + 226 ≤ 1190; omega⟩ dX1_init_32 ?_
          refine nw_aast C (j := i) (ci := 2) (t0 := 3) (r := (RX2, TX2, 11)) ((blk_out (by omega)).trans ((up_ne (by omega)).trans ((blk_in (j := 1) (by omega) (by omega)).trans rfl))) rfl ((blk_in (j := 0) (by omega) (by omega)).trans rfl) rfl rfl (by omega) (by decide) dX1_init_35 ?_
          refine nw_iinc C dX1_init_36 rfl ?_
          dsimp only [List.set]
          refine nw_goto (tgt := 14) C dX1_init_39 (by decide) ?_
          refine nw_eqn (n' := h0 + 2 + 19 * (i + 1)) (by omega) ?_
          refine nw_cons (w' := blk w h0 (2 + 19 * (i + 1)) (hiX E (i + 1) h0)) (fun q x hq => ?_) ?_
          · by_cases h5 : q = h0 + 1
            · subst h5
              rw [blk_in (j := 1) (by omega) rfl] at hq
              rw [up_same, ← hq]
              have e9 : va_up (fun j => if j < i then some (h0 + 2 + 19 * j) else none) i (some (h0 + 2 + 19 * i)) = (fun j => if j < i + 1 then some (h0 + 2 + 19 * j) else none) := by
                funext j
                unfold va_up
                by_cases e1 : j = i
                · subst e1
                  rw [if_pos rfl, if_pos (by omega)]
                · rw [if_neg e1]
                  dsimp only
                  by_cases e2 : j < i
                  · rw [if_pos e2, if_pos (by omega)]
                  · rw [if_neg e2, if_neg (by omega)]
              rw [e9]
              rfl
            · rw [up_ne h5]
              by_cases h6 : h0 + 2 + 19 * i ≤ q ∧ q < h0 + 2 + 19 * i + 19
              · obtain ⟨j, rfl⟩ : ∃ j, q = h0 + 2 + 19 * i + j := ⟨q - (h0 + 2 + 19 * i), by omega⟩
                rw [blk_in (j := 2 + 19 * i + j) (by omega) (by omega)] at hq
                rw [blk_in (j := j) (by omega) rfl, ← hq]
                unfold hiX
                rw [if_neg (by omega), if_neg (by omega), show (2 + 19 * i + j - 2) / 19 = i by omega, show (2 + 19 * i + j - 2) % 19 = j by omega]
              · rw [blk_out (by omega), up_ne (by omega)]
                by_cases hin : h0 ≤ q ∧ q < h0 + (2 + 19 * i)
                · obtain ⟨j, rfl⟩ : ∃ j, q = h0 + j := ⟨q - h0, by omega⟩
                  rw [blk_in (j := j) (by omega) rfl] at hq
                  rw [blk_in (j := j) (by omega) rfl, ← hq]
                  unfold hiX
                  by_cases j0 : j = 0
                  · rw [if_pos j0, if_pos j0]
                  · rw [if_neg j0, if_neg j0, if_neg (by omega), if_neg (by omega)]
                · rw [blk_out (by omega)] at hq ⊢
                  exact hq
          · have z := ih (i + 1) (by omega)
            rw [show (1 + 19 * (i + 1)) = 1 + 19 * i + 1 + 18 by omega, show 5 + 237 * (i + 1) = 5 + 237 * i + 11 + 226 by omega, show (((i + 1 : Nat) : Int)) = (i : Int) + 1 by omega] at z
            exact z
    exact loop 5 0 rfl
def dpC (E : dp_E) (b : Nat) : Nat → va_E := fun j => if j = 0 then .inr (6, [.ref (b + 1), .ref (b + 20), .ref (b + 39), .ref (b + 136)]) else if j < 20 then stX E 10 (b + 1) (j - 1) else if j < 39 then stX E 10 (b + 20) (j - 20) else if j < 136 then hiX E 5 (b + 39) (j - 39) else txC E (b + 136) (j - 136)
set_option maxHeartbeats 4000000 in
set_option maxRecDepth 100000 in
theorem c_X6_init {E : dp_E} (l : Launch) {w : nw_V} {h0 : Nat} (hw : w h0 = some (.inr (6, [.null, .null, .null, .null]))) : nw_met E l yX6_init wsX6_init 4 79 138 1778 [.ref h0] w (h0 + 1) (blk w h0 139 (dpC E h0)) (h0 + 139) := by
  refine nw_of (cc := cX6_init) (nL := 1) (own := RX6) (by decide +kernel) rfl rfl (by simp [Value.category]) (Nat.le_of_ble_eq_true rfl) ?_
  intro p e s m below meth co C hret hnm
  show nw_G _ _ _ _ _ _ _ _ _ _ _ _ _ _ _ _ _ _ [some (.ref h0)] _
  have hX1 : ∀ x ∈ u_ws RX1 TX1 2, x ∈ wsX6_init := fun w h => List.mem_cons_of_mem _ (List.mem_append_left _ (List.mem_append_left _ (List.mem_append_left _ (List.mem_append_left _ (List.mem_append_right _ (h))))))
  have hX2 : ∀ x ∈ u_ws RX2 TX2 11, x ∈ wsX6_init := fun w h => List.mem_cons_of_mem _ (List.mem_append_left _ (List.mem_append_left _ (List.mem_append_left _ (List.mem_append_left _ (List.mem_append_left _ (List.mem_append_left _ (List.mem_append_right _ (h))))))))
  have hX4 : ∀ x ∈ u_ws RX4 TX4 6, x ∈ wsX6_init := fun w h => List.mem_cons_of_mem _ (List.mem_append_left _ (List.mem_append_left _ (List.mem_append_left _ (List.mem_append_right _ (h)))))
  have hX6 : ∀ x ∈ u_ws RX6 TX6 4, x ∈ wsX6_init := fun w h => List.mem_cons_of_mem _ (List.mem_append_left _ (List.mem_append_left _ (List.mem_append_left _ (List.mem_append_left _ (List.mem_append_left _ (List.mem_append_right _ (h)))))))
  refine nw_aload_n C dX6_init_0 rfl ?_
  refine nw_obj C (List.mem_of_getElem? (i := 1) rfl) (List.mem_of_getElem? (i := 2) rfl) (List.mem_of_getElem? (i := 3) rfl) rfl dX6_init_1 (Nat.le_of_ble_eq_true rfl) (Nat.le_of_ble_eq_true rfl) ?_
  refine nw_aload_n C dX6_init_4 rfl ?_
  refine nw_new (fs := [.int (dp_I 0), .int (dp_I 0), .int (dp_I 0), .null, .null, .null, .null, .null, .null, .null, .null]) C hX2 tyX2 tyX2_ok (ci := 2) rfl (List.mem_of_getElem? (i := 4) rfl) (List.mem_of_getElem? (i := 5) rfl) (List.mem_of_getElem? (i := 6) rfl) zX2_ok (Nat.le_of_ble_eq_true rfl) (Nat.le_of_ble_eq_true rfl) dX6_init_5 ?_
  refine nw_eqn (n' := h0 + 2) rfl ?_
  refine nw_dup C dX6_init_8 rfl ?_
  refine nw_call C (c_X2_init l (h0 := h0 + 1) up_same) (nw_db up_same) gX6_init_X2_init rfl (List.mem_of_getElem? (i := 6) rfl) (Or.inl (List.mem_of_getElem? (i := 17) rfl)) (List.mem_of_getElem? (i := 18) rfl) rfl yyX2_init rfl ⟨Nat.le_of_ble_eq_true rfl, Nat.le_of_ble_eq_true rfl⟩ rfl (Nat.le_of_ble_eq_true rfl) rfl ⟨Nat.le_of_ble_eq_true rfl, Nat.le_of_ble_eq_true rfl⟩ dX6_init_9 ?_
  refine nw_eqn (n' := h0 + 20) rfl ?_
  refine nw_put C (k := 0) (ci := 6) (fs := [.null, .null, .null, .null]) (by simp (disch := omega) only [up_same, up_ne, blk_out, *]; try rfl) rfl hX6 tyX6 tyX6_ok nmX6 (by decide) (List.mem_of_getElem? (i := 7) rfl) (fun _ => ⟨hnm, rfl⟩) (tyX6_ok _ (by decide)) rfl rfl (Nat.le_of_ble_eq_true rfl) dX6_init_12 ?_
  dsimp only [List.set]
  refine nw_aload_n C dX6_init_15 rfl ?_
  refine nw_new (fs := [.int (dp_I 0), .int (dp_I 0), .int (dp_I 0), .null, .null, .null, .null, .null, .null, .null, .null]) C hX2 tyX2 tyX2_ok (ci := 2) rfl (List.mem_of_getElem? (i := 4) rfl) (List.mem_of_getElem? (i := 5) rfl) (List.mem_of_getElem? (i := 6) rfl) zX2_ok (Nat.le_of_ble_eq_true rfl) (Nat.le_of_ble_eq_true rfl) dX6_init_16 ?_
  refine nw_eqn (n' := h0 + 21) rfl ?_
  refine nw_dup C dX6_init_19 rfl ?_
  refine nw_call C (c_X2_init l (h0 := h0 + 20) up_same) (nw_db up_same) gX6_init_X2_init rfl (List.mem_of_getElem? (i := 6) rfl) (Or.inl (List.mem_of_getElem? (i := 17) rfl)) (List.mem_of_getElem? (i := 18) rfl) rfl yyX2_init rfl ⟨Nat.le_of_ble_eq_true rfl, Nat.le_of_ble_eq_true rfl⟩ rfl (Nat.le_of_ble_eq_true rfl) rfl ⟨Nat.le_of_ble_eq_true rfl, Nat.le_of_ble_eq_true rfl⟩ dX6_init_20 ?_
  refine nw_eqn (n' := h0 + 39) rfl ?_
  refine nw_put C (k := 1) (ci := 6) (fs := [.ref (h0 + 1), .null, .null, .null]) (by simp (disch := omega) only [up_same, up_ne, blk_out, *]; try rfl) rfl hX6 tyX6 tyX6_ok nmX6 (by decide) (List.mem_of_getElem? (i := 8) rfl) (fun _ => ⟨hnm, rfl⟩) (tyX6_ok _ (by decide)) rfl rfl (Nat.le_of_ble_eq_true rfl) dX6_init_23 ?_
  dsimp only [List.set]
  refine nw_aload_n C dX6_init_26 rfl ?_
  refine nw_new (fs := [.null, .int (dp_I 0)]) C hX1 tyX1 tyX1_ok (ci := 1) rfl (List.mem_of_getElem? (i := 9) rfl) (List.mem_of_getElem? (i := 10) rfl) (List.mem_of_getElem? (i := 11) rfl) zX1_ok (Nat.le_of_ble_eq_true rfl) (Nat.le_of_ble_eq_true rfl) dX6_init_27 ?_
  refine nw_eqn (n' := h0 + 40) rfl ?_
  refine nw_dup C dX6_init_30 rfl ?_
  refine nw_call C (c_X1_init l (h0 := h0 + 39) up_same) (nw_db up_same) gX6_init_X1_init rfl (List.mem_of_getElem? (i := 11) rfl) (Or.inl (List.mem_of_getElem? (i := 56) rfl)) (List.mem_of_getElem? (i := 57) rfl) rfl yyX1_init rfl ⟨Nat.le_of_ble_eq_true rfl, Nat.le_of_ble_eq_true rfl⟩ rfl (Nat.le_of_ble_eq_true rfl) rfl ⟨Nat.le_of_ble_eq_true rfl, Nat.le_of_ble_eq_true rfl⟩ dX6_init_31 ?_
  refine nw_eqn (n' := h0 + 136) rfl ?_
  refine nw_put C (k := 2) (ci := 6) (fs := [.ref (h0 + 1), .ref (h0 + 20), .null, .null]) (by simp (disch := omega) only [up_same, up_ne, blk_out, *]; try rfl) rfl hX6 tyX6 tyX6_ok nmX6 (by decide) (List.mem_of_getElem? (i := 12) rfl) (fun _ => ⟨hnm, rfl⟩) (tyX6_ok _ (by decide)) rfl rfl (Nat.le_of_ble_eq_true rfl) dX6_init_34 ?_
  dsimp only [List.set]
  refine nw_aload_n C dX6_init_37 rfl ?_
  refine nw_new (fs := [.null, .int (dp_I 0), .null, .int (dp_I 0), .int (dp_I 0), .int (dp_I 0)]) C hX4 tyX4 tyX4_ok (ci := 4) rfl (List.mem_of_getElem? (i := 13) rfl) (List.mem_of_getElem? (i := 14) rfl) (List.mem_of_getElem? (i := 15) rfl) zX4_ok (Nat.le_of_ble_eq_true rfl) (Nat.le_of_ble_eq_true rfl) dX6_init_38 ?_
  refine nw_eqn (n' := h0 + 137) rfl ?_
  refine nw_dup C dX6_init_41 rfl ?_
  refine nw_call C (c_X4_init l (h0 := h0 + 136) up_same) (nw_db up_same) gX6_init_X4_init_n28 rfl (List.mem_of_getElem? (i := 15) rfl) (Or.inr C.2.2.2.2.2.2.1) (List.mem_of_getElem? (i := 63) rfl) rfl yyX4_init rfl ⟨Nat.le_of_ble_eq_true rfl, Nat.le_of_ble_eq_true rfl⟩ rfl (Nat.le_of_ble_eq_true rfl) rfl ⟨Nat.le_of_ble_eq_true rfl, Nat.le_of_ble_eq_true rfl⟩ dX6_init_42 ?_
  refine nw_eqn (n' := h0 + 139) rfl ?_
  refine nw_put C (k := 3) (ci := 6) (fs := [.ref (h0 + 1), .ref (h0 + 20), .ref (h0 + 39), .null]) (by simp (disch := omega) only [up_same, up_ne, blk_out, *]; try rfl) rfl hX6 tyX6 tyX6_ok nmX6 (by decide) (List.mem_of_getElem? (i := 16) rfl) (fun _ => ⟨hnm, rfl⟩) (tyX6_ok _ (by decide)) rfl rfl (Nat.le_of_ble_eq_true rfl) dX6_init_45 ?_
  dsimp only [List.set]
  refine nw_cons (w' := blk w h0 139 (dpC E h0)) (fun q x hq => ?_) ?_
  · by_cases hin : h0 ≤ q ∧ q < h0 + 139
    · obtain ⟨j, rfl⟩ : ∃ j, q = h0 + j := ⟨q - h0, by omega⟩
      rw [blk_in (j := j) (by omega) rfl] at hq
      rw [← hq]
      unfold dpC
      by_cases j0 : j = 0
      · subst j0
        rw [if_pos rfl]
        exact up_same
      · rw [if_neg j0, up_ne (by omega)]
        by_cases j1 : j < 20
        · rw [if_pos j1, blk_out (by omega), up_ne (by omega), up_ne (by omega), blk_out (by omega), up_ne (by omega), up_ne (by omega), blk_out (by omega), up_ne (by omega), up_ne (by omega), blk_in (j := j - 1) (by omega) (by omega)]
        · rw [if_neg j1]
          by_cases j2 : j < 39
          · rw [if_pos j2, blk_out (by omega), up_ne (by omega), up_ne (by omega), blk_out (by omega), up_ne (by omega), up_ne (by omega), blk_in (j := j - 20) (by omega) (by omega)]
          · rw [if_neg j2]
            by_cases j3 : j < 136
            · rw [if_pos j3, blk_out (by omega), up_ne (by omega), up_ne (by omega), blk_in (j := j - 39) (by omega) (by omega)]
            · rw [if_neg j3, blk_in (j := j - 136) (by omega) (by omega)]
    · rw [blk_out (by omega)] at hq
      simp (disch := omega) only [up_ne, blk_out]
      exact hq
  · skip
    exact nw_vret C hret dX6_init_48
def moC (E : dp_E) (b : Nat) : Nat → va_E := fun j => match j with
  | 0 => .inr (7, [.ref (b + 1), .ref (b + 2), .ref (b + 3), .int (dp_I 0), .ref (b + 4), .int (dp_I 0), .int (dp_I 0), .int (dp_I 0), .int (dp_I 0), .int (dp_I 0), .ref (b + 5), .int (dp_I 0)])
  | 1 => dp_ints (eI E) 193 (u1 (u1 (u1 (u1 (u1 (u1 (u1 (u1 (u1 (fun _ => 0) 0 100) 1 18000) 2 30) 3 60) 39 40) 41 600) 46 20) 48 300) 49 9000)
  | 2 => dp_ints (eI E) 965 (fun _ => 0)
  | 3 => dp_ints (eI E) 193 (fun _ => 0)
  | 4 => dp_ints (eI E) 100 (fun _ => 0)
  | _ => dp_ints (eI E) 6 (fun _ => 0)
