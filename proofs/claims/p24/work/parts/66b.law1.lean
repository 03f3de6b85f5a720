/-! THE LAW'S METHODS: V its numbers (region 9), X the legs (cell 0) and the counts (cell 2) -/
/-- what a search for a way may leave behind -/
def lgs (X X' : dp_V) : Prop := ∀ c, c ≠ 0 → X' c = X c
theorem lgs.rf {X : dp_V} : lgs X X := fun _ _ => rfl
theorem lgs.tr {X Y Z : dp_V} (h : lgs X Y) (h2 : lgs Y Z) : lgs X Z := fun c hc => (h2 c hc).trans (h c hc)
theorem lgs.u {X Y : dp_V} {k : Nat} {x : Int} (h : lgs X Y) : lgs X (u2 Y 0 k x) := fun c hc => (u2_ne hc).trans (h c hc)
/-- how many legs a way has, none where it is not possible -/
def lgN (f : Nat → Int) (to : Int) : Int := if wyT f to = 1 then 2 else if f 3 - f 4 = to then 0 else 1
def plN (c : Nat) (f : Nat → Int) (to ov : Int) : Int := if wyP c f to ov = 0 then -1 else lgN f to
def lnN (c : Nat) (f : Nat → Int) (to ov : Int) : Int := if wyP c f to ov = 0 then -1 else wyL f to ov
/-- the legs, as they are laid down -/
def lgX (f : Nat → Int) (to ov : Int) (X X' : dp_V) : Prop := lgs X X' ∧ (lgN f to = 1 → X' 0 0 = wyE f to) ∧ (lgN f to = 2 → X' 0 0 = wyU f to ov ∧ X' 0 1 = wyE f to)
/-- what the legs are -/
theorem lgN_e {c : Nat} {f : Nat → Int} {to ov : Int} (hi : ivA c f) : (lgN f to = 0 ∧ wyU f to ov = f 3 ∧ wyE f to = f 3) ∨ (lgN f to = 1 ∧ wyU f to ov = f 3) ∨ lgN f to = 2 := by
  unfold ivA at hi
  unfold lgN wyU wyE wyT
  repeat' split
  all_goals omega
theorem dv_up {a s : Int} (ha : 0 ≤ a) (hs : 0 < s) : a / s + (if 0 < a % s then 1 else 0) = (a + s - 1) / s := by
  have e := Int.mul_ediv_add_emod a s
  have r0 := Int.emod_nonneg a (show s ≠ 0 by omega)
  have r1 := Int.emod_lt_of_pos a hs
  generalize a / s = q at *
  generalize a % s = r at *
  subst e
  by_cases h : 0 < r
  · rw [if_pos h, show s * q + r + s - 1 = (r - 1) + s * (q + 1) by rw [Int.mul_add]; omega, Int.add_mul_ediv_left _ _ (by omega), Int.ediv_eq_zero_of_lt (by omega) (by omega)]
    omega
  · rw [if_neg h, show s * q + r + s - 1 = (s - 1) + s * q by omega, Int.add_mul_ediv_left _ _ (by omega), Int.ediv_eq_zero_of_lt (by omega) (by omega)]
    omega
theorem yyL_size : yL_size.cls ≠ "java/lang/invoke/MethodHandle" ∧ yL_size.cls ≠ "java/lang/invoke/VarHandle" ∧ (parseMethodDescriptor yL_size.desc).map (fun d => d.parameters.length) = some 1 := by decide +kernel
set_option maxHeartbeats 4000000 in
set_option maxRecDepth 100000 in
theorem c_L_size {E : dp_E} (hE : dp_OK E) (l : Launch) {M : dp_M} {x : Int} (hx : dp_R x) : dp_met E l yL_size wsL_size 0 0 [.int (dp_I x)] (M) (dp_qi E (fun y M1 => y = ab x ∧ M1 = M)) := by
  refine dp_of (cc := cL_size) (nL := 1) (own := RL) (ret := some (.int)) (by decide +kernel) rfl rfl hE (by simp [Value.category]) (Nat.le_of_ble_eq_true rfl) ?_
  intro p e s m below meth co C hret
  show dp_G _ _ _ _ _ _ _ _ _ _ _ _ _ _ _ _ _ [some (.int (dp_I x))] _
  unfold dp_R at hx
  refine dp_iload_n C dL_size_0 rfl ?_
  refine dp_if_ge (tgt := 9) C dL_size_1 (by decide) ⟨by omega, by omega⟩ (fun c1 => ?_) (fun c1 => ?_)
  · skip
    refine dp_iload_n C dL_size_9 rfl ?_
    refine dp_iret C hret dL_size_10 ?_
    exact ⟨by unfold ab; split <;> omega, rfl⟩
  · skip
    refine dp_iload_n C dL_size_4 rfl ?_
    refine dp_ineg C dL_size_5 ?_
    refine dp_goto (tgt := 10) C dL_size_6 (by decide) ?_
    refine dp_iret C hret dL_size_10 ?_
    exact ⟨by unfold ab; split <;> omega, rfl⟩
theorem yyL_low : yL_low.cls ≠ "java/lang/invoke/MethodHandle" ∧ yL_low.cls ≠ "java/lang/invoke/VarHandle" ∧ (parseMethodDescriptor yL_low.desc).map (fun d => d.parameters.length) = some 2 := by decide +kernel
set_option maxHeartbeats 4000000 in
set_option maxRecDepth 100000 in
theorem c_L_low {E : dp_E} (hE : dp_OK E) (l : Launch) {M : dp_M} {x n : Int} (hn : 0 < n ∧ n < 2147483648) : dp_met E l yL_low wsL_low 0 0 [.int (dp_I x), .int (dp_I n)] (M) (dp_qi E (fun y M1 => (0 ≤ y ∧ y < n) ∧ M1 = M)) := by
  refine dp_of (cc := cL_low) (nL := 2) (own := RL) (ret := some (.int)) (by decide +kernel) rfl rfl hE (by simp [Value.category]) (Nat.le_of_ble_eq_true rfl) ?_
  intro p e s m below meth co C hret
  show dp_G _ _ _ _ _ _ _ _ _ _ _ _ _ _ _ _ _ [some (.int (dp_I x)), some (.int (dp_I n))] _
  refine dp_iload_n C dL_low_0 rfl ?_
  refine dp_ldc C (2147483647) (List.mem_of_getElem? (i := 1) rfl) rfl dL_low_1 ?_
  refine dp_iandm C dL_low_3 (fun v3 w30 w31 => ?_)
  refine dp_iload_n C dL_low_4 rfl ?_
  refine dp_irem C ⟨by omega, by omega, by omega, by omega⟩ dL_low_5 ?_
  refine dp_iret C hret dL_low_6 ?_
  exact ⟨⟨Int.emod_nonneg _ (by omega), Int.emod_lt_of_pos _ (by omega)⟩, rfl⟩
theorem yyL_dish : yL_dish.cls ≠ "java/lang/invoke/MethodHandle" ∧ yL_dish.cls ≠ "java/lang/invoke/VarHandle" ∧ (parseMethodDescriptor yL_dish.desc).map (fun d => d.parameters.length) = some 2 := by decide +kernel
set_option maxHeartbeats 4000000 in
set_option maxRecDepth 100000 in
theorem c_L_dish {E : dp_E} (hE : dp_OK E) (l : Launch) {M : dp_M} {V X : dp_V} {a : Nat} (ha : a < 2) : dp_met E l yL_dish wsL_dish 0 0 [.ref (eAd E 8 0), .int (dp_I ((a : Int)))] (dN M V X) (dp_qi E (fun y M1 => y = V (a + 3) 3 - V (a + 3) 4 ∧ M1 = dN M V X)) := by
  refine dp_of (cc := cL_dish) (nL := 2) (own := RL) (ret := some (.int)) (by decide +kernel) rfl rfl hE (by simp [Value.category]) (Nat.le_of_ble_eq_true rfl) ?_
  intro p e s m below meth co C hret
  show dp_G _ _ _ _ _ _ _ _ _ _ _ _ _ _ _ _ _ [some (.ref (eAd E 8 0)), some (.int (dp_I ((a : Int))))] _
  refine dp_aload_n C dL_dish_0 rfl ?_
  refine dp_bipush C dL_dish_1 (by decide) ?_
  refine dp_bipush C dL_dish_3 (by decide) ?_
  refine dp_iload_n C dL_dish_5 rfl ?_
  refine dp_imul C dL_dish_6 ?_
  refine dp_iadd C dL_dish_7 ?_
  refine dp_ald_g C (8 + 7 * a + 3) (c9 := a + 3) (k9 := 3) (by omega) (by omega) (dp_ceA (by omega) (by decide)).1 (dp_ceA (by omega) (by decide)).2 dL_dish_8 ?_
  refine dp_aload_n C dL_dish_9 rfl ?_
  refine dp_bipush C dL_dish_10 (by decide) ?_
  refine dp_bipush C dL_dish_12 (by decide) ?_
  refine dp_iload_n C dL_dish_14 rfl ?_
  refine dp_imul C dL_dish_15 ?_
  refine dp_iadd C dL_dish_16 ?_
  refine dp_ald_g C (8 + 7 * a + 4) (c9 := a + 3) (k9 := 4) (by omega) (by omega) (dp_ceA (by omega) (by decide)).1 (dp_ceA (by omega) (by decide)).2 dL_dish_17 ?_
  refine dp_isub C dL_dish_18 ?_
  refine dp_iret C hret dL_dish_19 ?_
  exact ⟨rfl, rfl⟩
theorem yyL_within : yL_within.cls ≠ "java/lang/invoke/MethodHandle" ∧ yL_within.cls ≠ "java/lang/invoke/VarHandle" ∧ (parseMethodDescriptor yL_within.desc).map (fun d => d.parameters.length) = some 2 := by decide +kernel
set_option maxHeartbeats 4000000 in
set_option maxRecDepth 100000 in
theorem c_L_within {E : dp_E} (hE : dp_OK E) (l : Launch) {M : dp_M} {a : Nat} {x : Int} (ha : a < 2) (hx : dp_R x) : dp_met E l yL_within wsL_within 0 0 [.int (dp_I ((a : Int))), .int (dp_I x)] (M) (dp_qi E (fun y M1 => y = dp_b (axL (a + 3) ≤ x ∧ x ≤ axH (a + 3)) ∧ M1 = M)) := by
  refine dp_of (cc := cL_within) (nL := 2) (own := RL) (ret := some (.boolean)) (by decide +kernel) rfl rfl hE (by simp [Value.category]) (Nat.le_of_ble_eq_true rfl) ?_
  intro p e s m below meth co C hret
  show dp_G _ _ _ _ _ _ _ _ _ _ _ _ _ _ _ _ _ [some (.int (dp_I ((a : Int)))), some (.int (dp_I x))] _
  unfold dp_R at hx
  refine dp_iload_n C dL_within_0 rfl ?_
  refine dp_if_ne (tgt := 26) C dL_within_1 (by decide) ⟨by omega, by omega⟩ (fun c1 => ?_) (fun c1 => ?_)
  · skip
    obtain rfl : a = 1 := by omega
    refine dp_iload_n C dL_within_26 rfl ?_
    refine dp_sipush C dL_within_27 (by decide) ?_
    refine dp_icmp_lt (tgt := 44) C dL_within_30 (by decide) ⟨by omega, by omega⟩ ⟨by omega, by omega⟩ (fun c30 => ?_) (fun c30 => ?_)
    · skip
      refine dp_iconst C dL_within_44 ?_
      refine dp_zret C hret (by first | decide | exact dp_nb) dL_within_45 ?_
      have e3 : axL (0 + 3) = -27000 ∧ axH (0 + 3) = 27000 := ⟨rfl, rfl⟩
      have e4 : axL (1 + 3) = 500 ∧ axH (1 + 3) = 9000 := ⟨rfl, rfl⟩
      first | exact ⟨(dp_b_t (by omega)).symm, rfl⟩ | exact ⟨(dp_b_f (by omega)).symm, rfl⟩
    · skip
      refine dp_iload_n C dL_within_33 rfl ?_
      refine dp_sipush C dL_within_34 (by decide) ?_
      refine dp_icmp_gt (tgt := 44) C dL_within_37 (by decide) ⟨by omega, by omega⟩ ⟨by omega, by omega⟩ (fun c37 => ?_) (fun c37 => ?_)
      · skip
        refine dp_iconst C dL_within_44 ?_
        refine dp_zret C hret (by first | decide | exact dp_nb) dL_within_45 ?_
        have e3 : axL (0 + 3) = -27000 ∧ axH (0 + 3) = 27000 := ⟨rfl, rfl⟩
        have e4 : axL (1 + 3) = 500 ∧ axH (1 + 3) = 9000 := ⟨rfl, rfl⟩
        first | exact ⟨(dp_b_t (by omega)).symm, rfl⟩ | exact ⟨(dp_b_f (by omega)).symm, rfl⟩
      · skip
        refine dp_iconst C dL_within_40 ?_
        refine dp_goto (tgt := 45) C dL_within_41 (by decide) ?_
        refine dp_zret C hret (by first | decide | exact dp_nb) dL_within_45 ?_
        have e3 : axL (0 + 3) = -27000 ∧ axH (0 + 3) = 27000 := ⟨rfl, rfl⟩
        have e4 : axL (1 + 3) = 500 ∧ axH (1 + 3) = 9000 := ⟨rfl, rfl⟩
        first | exact ⟨(dp_b_t (by omega)).symm, rfl⟩ | exact ⟨(dp_b_f (by omega)).symm, rfl⟩
  · skip
    obtain rfl : a = 0 := by omega
    refine dp_iload_n C dL_within_4 rfl ?_
    refine dp_sipush C dL_within_5 (by decide) ?_
    refine dp_icmp_lt (tgt := 22) C dL_within_8 (by decide) ⟨by omega, by omega⟩ ⟨by omega, by omega⟩ (fun c8 => ?_) (fun c8 => ?_)
    · skip
      refine dp_iconst C dL_within_22 ?_
      refine dp_goto (tgt := 45) C dL_within_23 (by decide) ?_
      refine dp_zret C hret (by first | decide | exact dp_nb) dL_within_45 ?_
      have e3 : axL (0 + 3) = -27000 ∧ axH (0 + 3) = 27000 := ⟨rfl, rfl⟩
      have e4 : axL (1 + 3) = 500 ∧ axH (1 + 3) = 9000 := ⟨rfl, rfl⟩
      first | exact ⟨(dp_b_t (by omega)).symm, rfl⟩ | exact ⟨(dp_b_f (by omega)).symm, rfl⟩
    · skip
      refine dp_iload_n C dL_within_11 rfl ?_
      refine dp_sipush C dL_within_12 (by decide) ?_
      refine dp_icmp_gt (tgt := 22) C dL_within_15 (by decide) ⟨by omega, by omega⟩ ⟨by omega, by omega⟩ (fun c15 => ?_) (fun c15 => ?_)
      · skip
        refine dp_iconst C dL_within_22 ?_
        refine dp_goto (tgt := 45) C dL_within_23 (by decide) ?_
        refine dp_zret C hret (by first | decide | exact dp_nb) dL_within_45 ?_
        have e3 : axL (0 + 3) = -27000 ∧ axH (0 + 3) = 27000 := ⟨rfl, rfl⟩
        have e4 : axL (1 + 3) = 500 ∧ axH (1 + 3) = 9000 := ⟨rfl, rfl⟩
        first | exact ⟨(dp_b_t (by omega)).symm, rfl⟩ | exact ⟨(dp_b_f (by omega)).symm, rfl⟩
      · skip
        refine dp_iconst C dL_within_18 ?_
        refine dp_goto (tgt := 45) C dL_within_19 (by decide) ?_
        refine dp_zret C hret (by first | decide | exact dp_nb) dL_within_45 ?_
        have e3 : axL (0 + 3) = -27000 ∧ axH (0 + 3) = 27000 := ⟨rfl, rfl⟩
        have e4 : axL (1 + 3) = 500 ∧ axH (1 + 3) = 9000 := ⟨rfl, rfl⟩
        first | exact ⟨(dp_b_t (by omega)).symm, rfl⟩ | exact ⟨(dp_b_f (by omega)).symm, rfl⟩
theorem yyL_plan : yL_plan.cls ≠ "java/lang/invoke/MethodHandle" ∧ yL_plan.cls ≠ "java/lang/invoke/VarHandle" ∧ (parseMethodDescriptor yL_plan.desc).map (fun d => d.parameters.length) = some 3 := by decide +kernel
set_option maxHeartbeats 4000000 in
set_option maxRecDepth 100000 in
theorem c_L_plan {E : dp_E} (hE : dp_OK E) (l : Launch) {M : dp_M} {V X : dp_V} {a : Nat} (ha : a < 2) (hi : ivA (a + 3) (V (a + 3))) (ho : 0 ≤ V 1 0 ∧ V 1 0 ≤ 500) {to : Int} (hto : -40000 ≤ to ∧ to ≤ 40000) : dp_met E l yL_plan wsL_plan 1 21 [.ref (eAd E 8 0), .int (dp_I ((a : Int))), .int (dp_I to)] (dN M V X) (dp_qi E (fun y M1 => y = plN (a + 3) (V (a + 3)) to (V 1 0) ∧ ∃ X', M1 = dN M V X' ∧ lgX (V (a + 3)) to (V 1 0) X X')) := by
  refine dp_of (cc := cL_plan) (nL := 10) (own := RL) (ret := some (.int)) (by decide +kernel) rfl rfl hE (by simp [Value.category]) (Nat.le_of_ble_eq_true rfl) ?_
  intro p e s m below meth co C hret
  show dp_G _ _ _ _ _ _ _ _ _ _ _ _ _ _ _ _ _ [some (.ref (eAd E 8 0)), some (.int (dp_I ((a : Int)))), some (.int (dp_I to)), none, none, none, none, none, none, none] _
  have hb := @ax_bd (a + 3)
  have bU := wyU_bd hi hto ho
  have bE := wyE_bd hi hto
  have bT := @wyT_b (V (a + 3)) to
  have bL := wyL_bd hi hto ho
  have hi2 := hi
  unfold ivA at hi2
  have hN9 : lgN (V (a + 3)) to = (if wyT (V (a + 3)) to = 1 then 2 else if (V (a + 3) 3 - V (a + 3) 4) = to then 0 else 1) := rfl
  have hT9 : wyT (V (a + 3)) to = (if V (a + 3) 1 = 1 then (if (V (a + 3) 3 - V (a + 3) 4) < to then 0 else if (V (a + 3) 3 - V (a + 3) 4) = to then (if V (a + 3) 4 = V (a + 3) 0 then 0 else 1) else 1) else if V (a + 3) 1 = 2 then (if to < (V (a + 3) 3 - V (a + 3) 4) then 0 else if (V (a + 3) 3 - V (a + 3) 4) = to then (if V (a + 3) 4 = 0 then 0 else 1) else 1) else 0) := rfl
  refine dp_aload_n C dL_plan_0 rfl ?_
  refine dp_bipush C dL_plan_1 (by decide) ?_
  refine dp_bipush C dL_plan_3 (by decide) ?_
  refine dp_iload_n C dL_plan_5 rfl ?_
  refine dp_imul C dL_plan_6 ?_
  refine dp_iadd C dL_plan_7 ?_
  refine dp_ald_g C (8 + 7 * a + 0) (c9 := a + 3) (k9 := 0) (by omega) (by omega) (dp_ceA (by omega) (by decide)).1 (dp_ceA (by omega) (by decide)).2 dL_plan_8 ?_
  refine dp_istore_n C dL_plan_9 (Nat.le_of_ble_eq_true rfl) ?_
  dsimp only [List.set]
  refine dp_aload_n C dL_plan_10 rfl ?_
  refine dp_bipush C dL_plan_11 (by decide) ?_
  refine dp_bipush C dL_plan_13 (by decide) ?_
  refine dp_iload_n C dL_plan_15 rfl ?_
  refine dp_imul C dL_plan_16 ?_
  refine dp_iadd C dL_plan_17 ?_
  refine dp_ald_g C (8 + 7 * a + 1) (c9 := a + 3) (k9 := 1) (by omega) (by omega) (dp_ceA (by omega) (by decide)).1 (dp_ceA (by omega) (by decide)).2 dL_plan_18 ?_
  refine dp_istore C dL_plan_19 (Nat.le_of_ble_eq_true rfl) ?_
  dsimp only [List.set]
  refine dp_aload_n C dL_plan_21 rfl ?_
  refine dp_iload_n C dL_plan_22 rfl ?_
  refine dp_cSi C (c_L_dish C.2.2.1 l ha) gL_plan_L_dish rfl yyL_dish rfl ⟨Nat.le_of_ble_eq_true rfl, Nat.le_of_ble_eq_true rfl⟩ rfl (Nat.le_of_ble_eq_true rfl) rfl ⟨Nat.zero_le _, Nat.zero_le _⟩ dL_plan_23 (fun x23 M23 h23 => ?_)
  obtain ⟨rfl, rfl⟩ := h23
  refine dp_istore C dL_plan_26 (Nat.le_of_ble_eq_true rfl) ?_
  dsimp only [List.set]
  refine dp_iload C dL_plan_28 rfl ?_
  refine dp_iconst C dL_plan_30 ?_
  refine dp_icmp_eq (tgt := 44) C dL_plan_31 (by decide) ⟨by omega, by omega⟩ ⟨by omega, by omega⟩ (fun c31 => ?_) (fun c31 => ?_)
  · skip
    refine dp_iconst C dL_plan_44 ?_
    refine dp_istore C dL_plan_45 (Nat.le_of_ble_eq_true rfl) ?_
    dsimp only [List.set]
    refine dp_iload C dL_plan_47 rfl ?_
    refine dp_iconst C dL_plan_49 ?_
    refine dp_icmp_eq (tgt := 63) C dL_plan_50 (by decide) ⟨by omega, by omega⟩ ⟨by omega, by omega⟩ (fun c50 => ?_) (fun c50 => ?_)
    · omega
    · skip
      refine dp_iload C dL_plan_53 rfl ?_
      refine dp_iload_n C dL_plan_55 rfl ?_
      refine dp_icmp_le (tgt := 63) C dL_plan_56 (by decide) ⟨by omega, by omega⟩ ⟨by omega, by omega⟩ (fun c56 => ?_) (fun c56 => ?_)
      · skip
        refine dp_iconst C dL_plan_63 ?_
        refine dp_istore C dL_plan_64 (Nat.le_of_ble_eq_true rfl) ?_
        dsimp only [List.set]
        refine dp_iconst C dL_plan_66 ?_
        refine dp_istore C dL_plan_67 (Nat.le_of_ble_eq_true rfl) ?_
        dsimp only [List.set]
        refine dp_iload C dL_plan_69 rfl ?_
        refine dp_if_eq (tgt := 90) C dL_plan_71 (by decide) ⟨by omega, by omega⟩ (fun c71 => ?_) (fun c71 => ?_)
        · skip
          refine dp_iload C dL_plan_90 rfl ?_
          refine dp_if_eq (tgt := 109) C dL_plan_92 (by decide) ⟨by omega, by omega⟩ (fun c92 => ?_) (fun c92 => ?_)
          · skip
            refine dp_iload C dL_plan_109 rfl ?_
            refine dp_iconst C dL_plan_111 ?_
            refine dp_icmp_ne (tgt := 165) C dL_plan_112 (by decide) ⟨by omega, by omega⟩ ⟨by omega, by omega⟩ (fun c112 => ?_) (fun c112 => ?_)
            · skip
              refine dp_iload C dL_plan_165 rfl ?_
              refine dp_iconst C dL_plan_167 ?_
              refine dp_icmp_ne (tgt := 217) C dL_plan_168 (by decide) ⟨by omega, by omega⟩ ⟨by omega, by omega⟩ (fun c168 => ?_) (fun c168 => ?_)
              · omega
              · skip
                refine dp_iload C dL_plan_171 rfl ?_
                refine dp_iload_n C dL_plan_173 rfl ?_
                refine dp_icmp_ne (tgt := 189) C dL_plan_174 (by decide) ⟨by omega, by omega⟩ ⟨by omega, by omega⟩ (fun c174 => ?_) (fun c174 => ?_)
                · skip
                  refine dp_aload_n C dL_plan_189 rfl ?_
                  refine dp_bipush C dL_plan_190 (by decide) ?_
                  refine dp_iload C dL_plan_192 rfl ?_
                  refine dp_iinc C dL_plan_194 rfl ?_
                  dsimp only [List.set]
                  refine dp_iadd C dL_plan_197 ?_
                  refine dp_iload_n C dL_plan_198 rfl ?_
                  refine dp_iload_n C dL_plan_199 rfl ?_
                  refine dp_iadd C dL_plan_200 ?_
                  refine dp_aload_n C dL_plan_201 rfl ?_
                  refine dp_iconst C dL_plan_202 ?_
                  refine dp_ald_g C 0 (c9 := 1) (k9 := 0) (by omega) (by decide) rfl rfl dL_plan_203 ?_
                  refine dp_iadd C dL_plan_204 ?_
                  refine dp_ast_l C 0 (by omega) (by decide) dL_plan_205 ?_
                  refine dp_aload_n C dL_plan_206 rfl ?_
                  refine dp_bipush C dL_plan_207 (by decide) ?_
                  refine dp_iload C dL_plan_209 rfl ?_
                  refine dp_iinc C dL_plan_211 rfl ?_
                  dsimp only [List.set]
                  refine dp_iadd C dL_plan_214 ?_
                  refine dp_iload_n C dL_plan_215 rfl ?_
                  refine dp_ast_l C 1 (by omega) (by decide) dL_plan_216 ?_
                  refine dp_iconst C dL_plan_217 ?_
                  refine dp_istore C dL_plan_218 (Nat.le_of_ble_eq_true rfl) ?_
                  dsimp only [List.set]
                  refine dp_iload C dL_plan_220 rfl ?_
                  refine dp_iload C dL_plan_222 rfl ?_
                  refine dp_icmp_ge (tgt := 249) C dL_plan_224 (by decide) ⟨by omega, by omega⟩ ⟨by omega, by omega⟩ (fun c224 => ?_) (fun c224 => ?_)
                  · omega
                  · skip
                    refine dp_iload_n C dL_plan_227 rfl ?_
                    refine dp_aload_n C dL_plan_228 rfl ?_
                    refine dp_bipush C dL_plan_229 (by decide) ?_
                    refine dp_iload C dL_plan_231 rfl ?_
                    refine dp_iadd C dL_plan_233 ?_
                    refine dp_ald_l C 0 (by omega) (by decide) dL_plan_234 ?_
                    simp (decide := true) only [u2_ap, reduceIte]
                    refine dp_cSi C (c_L_within C.2.2.1 l ha ⟨by omega, by omega⟩) gL_plan_L_within rfl yyL_within rfl ⟨Nat.le_of_ble_eq_true rfl, Nat.le_of_ble_eq_true rfl⟩ rfl (Nat.le_of_ble_eq_true rfl) rfl ⟨Nat.zero_le _, Nat.zero_le _⟩ dL_plan_235 (fun x235 M235 h235 => ?_)
                    obtain ⟨rfl, rfl⟩ := h235
                    refine dp_ifz_ne (tgt := 243) C dL_plan_238 (by decide) (fun c238 => ?_) (fun c238 => ?_)
                    · skip
                      refine dp_iinc C dL_plan_243 rfl ?_
                      dsimp only [List.set]
                      refine dp_goto (tgt := 220) C dL_plan_246 (by decide) ?_
                      refine dp_iload C dL_plan_220 rfl ?_
                      refine dp_iload C dL_plan_222 rfl ?_
                      refine dp_icmp_ge (tgt := 249) C dL_plan_224 (by decide) ⟨by omega, by omega⟩ ⟨by omega, by omega⟩ (fun c224 => ?_) (fun c224 => ?_)
                      · omega
                      · skip
                        refine dp_iload_n C dL_plan_227 rfl ?_
                        refine dp_aload_n C dL_plan_228 rfl ?_
                        refine dp_bipush C dL_plan_229 (by decide) ?_
                        refine dp_iload C dL_plan_231 rfl ?_
                        refine dp_iadd C dL_plan_233 ?_
                        refine dp_ald_l C 1 (by omega) (by decide) dL_plan_234 ?_
                        simp (decide := true) only [u2_ap, reduceIte]
                        refine dp_cSi C (c_L_within C.2.2.1 l ha ⟨by omega, by omega⟩) gL_plan_L_within rfl yyL_within rfl ⟨Nat.le_of_ble_eq_true rfl, Nat.le_of_ble_eq_true rfl⟩ rfl (Nat.le_of_ble_eq_true rfl) rfl ⟨Nat.zero_le _, Nat.zero_le _⟩ dL_plan_235 (fun x235 M235 h235 => ?_)
                        obtain ⟨rfl, rfl⟩ := h235
                        refine dp_ifz_ne (tgt := 243) C dL_plan_238 (by decide) (fun c238 => ?_) (fun c238 => ?_)
                        · skip
                          refine dp_iinc C dL_plan_243 rfl ?_
                          dsimp only [List.set]
                          refine dp_goto (tgt := 220) C dL_plan_246 (by decide) ?_
                          refine dp_iload C dL_plan_220 rfl ?_
                          refine dp_iload C dL_plan_222 rfl ?_
                          refine dp_icmp_ge (tgt := 249) C dL_plan_224 (by decide) ⟨by omega, by omega⟩ ⟨by omega, by omega⟩ (fun c224 => ?_) (fun c224 => ?_)
                          · skip
                            refine dp_iload C dL_plan_249 rfl ?_
                            refine dp_iret C hret dL_plan_251 ?_
                            have eT : wyT (V (a + 3)) to = 1 := by
                              rw [hT9]
                              (repeat' split) <;> omega
                            have eE : wyE (V (a + 3)) to = to := by
                              unfold wyE
                              (repeat' split) <;> omega
                            have eU : wyU (V (a + 3)) to (V 1 0) = to + V (a + 3) 0 + V 1 0 := by
                              unfold wyU
                              rw [eT]
                              (repeat' split) <;> omega
                            have eN : lgN (V (a + 3)) to = 2 := by
                              rw [hN9, eT]
                              (repeat' split) <;> omega
                            have eP : ¬ wyP (a + 3) (V (a + 3)) to (V 1 0) = 0 := by
                              unfold wyP
                              rw [eU, eE, dp_b_t ⟨⟨by omega, by omega⟩, by omega, by omega⟩]
                              decide
                            refine ⟨by unfold plN; rw [if_neg eP, eN]; (try omega), _, rfl, ?_, fun q => ?_, fun q => ?_⟩
                            · exact lgs.rf.u.u
                            · omega
                            · simp (decide := true) only [u2_ap, reduceIte]
                              exact ⟨eU.symm, eE.symm⟩
                          · omega
                        · skip
                          refine dp_iconst C dL_plan_241 ?_
                          refine dp_iret C hret dL_plan_242 ?_
                          have eT : wyT (V (a + 3)) to = 1 := by
                            rw [hT9]
                            (repeat' split) <;> omega
                          have eE : wyE (V (a + 3)) to = to := by
                            unfold wyE
                            (repeat' split) <;> omega
                          have eU : wyU (V (a + 3)) to (V 1 0) = to + V (a + 3) 0 + V 1 0 := by
                            unfold wyU
                            rw [eT]
                            (repeat' split) <;> omega
                          have eN : lgN (V (a + 3)) to = 2 := by
                            rw [hN9, eT]
                            (repeat' split) <;> omega
                          have eP : wyP (a + 3) (V (a + 3)) to (V 1 0) = 0 := by
                            unfold wyP
                            rw [eU, eE]
                            exact dp_b_f (fun q => by omega)
                          refine ⟨by unfold plN; rw [if_pos eP], _, rfl, ?_, fun q => ?_, fun q => ?_⟩
                          · exact lgs.rf.u.u
                          · omega
                          · simp (decide := true) only [u2_ap, reduceIte]
                            exact ⟨eU.symm, eE.symm⟩
                    · skip
                      refine dp_iconst C dL_plan_241 ?_
                      refine dp_iret C hret dL_plan_242 ?_
                      have eT : wyT (V (a + 3)) to = 1 := by
                        rw [hT9]
                        (repeat' split) <;> omega
                      have eE : wyE (V (a + 3)) to = to := by
                        unfold wyE
                        (repeat' split) <;> omega
                      have eU : wyU (V (a + 3)) to (V 1 0) = to + V (a + 3) 0 + V 1 0 := by
                        unfold wyU
                        rw [eT]
                        (repeat' split) <;> omega
                      have eN : lgN (V (a + 3)) to = 2 := by
                        rw [hN9, eT]
                        (repeat' split) <;> omega
                      have eP : wyP (a + 3) (V (a + 3)) to (V 1 0) = 0 := by
                        unfold wyP
                        rw [eU, eE]
                        exact dp_b_f (fun q => by omega)
                      refine ⟨by unfold plN; rw [if_pos eP], _, rfl, ?_, fun q => ?_, fun q => ?_⟩
                      · exact lgs.rf.u.u
                      · omega
                      · simp (decide := true) only [u2_ap, reduceIte]
                        exact ⟨eU.symm, eE.symm⟩
                · skip
                  refine dp_aload_n C dL_plan_177 rfl ?_
                  refine dp_bipush C dL_plan_178 (by decide) ?_
                  refine dp_bipush C dL_plan_180 (by decide) ?_
                  refine dp_iload_n C dL_plan_182 rfl ?_
                  refine dp_imul C dL_plan_183 ?_
                  refine dp_iadd C dL_plan_184 ?_
                  refine dp_ald_g C (8 + 7 * a + 4) (c9 := a + 3) (k9 := 4) (by omega) (by omega) (dp_ceA (by omega) (by decide)).1 (dp_ceA (by omega) (by decide)).2 dL_plan_185 ?_
                  refine dp_if_eq (tgt := 217) C dL_plan_186 (by decide) ⟨by omega, by omega⟩ (fun c186 => ?_) (fun c186 => ?_)
                  · skip
                    refine dp_iconst C dL_plan_217 ?_
                    refine dp_istore C dL_plan_218 (Nat.le_of_ble_eq_true rfl) ?_
                    dsimp only [List.set]
                    refine dp_iload C dL_plan_220 rfl ?_
                    refine dp_iload C dL_plan_222 rfl ?_
                    refine dp_icmp_ge (tgt := 249) C dL_plan_224 (by decide) ⟨by omega, by omega⟩ ⟨by omega, by omega⟩ (fun c224 => ?_) (fun c224 => ?_)
                    · skip
                      refine dp_iload C dL_plan_249 rfl ?_
                      refine dp_iret C hret dL_plan_251 ?_
                      have eT : wyT (V (a + 3)) to = 0 := by
                        rw [hT9]
                        (repeat' split) <;> omega
                      have eE : wyE (V (a + 3)) to = V (a + 3) 3 := by
                        unfold wyE
                        (repeat' split) <;> omega
                      have eU : wyU (V (a + 3)) to (V 1 0) = V (a + 3) 3 := by
                        unfold wyU
                        rw [eT]
                        (repeat' split) <;> omega
                      have eN : lgN (V (a + 3)) to = 0 := by
                        rw [hN9, eT]
                        (repeat' split) <;> omega
                      have eP : ¬ wyP (a + 3) (V (a + 3)) to (V 1 0) = 0 := by
                        unfold wyP
                        rw [eU, eE, dp_b_t ⟨⟨by omega, by omega⟩, by omega, by omega⟩]
                        decide
                      refine ⟨by unfold plN; rw [if_neg eP, eN]; (try omega), _, rfl, ?_, fun q => ?_, fun q => ?_⟩
                      · exact lgs.rf
                      · omega
                      · omega
                    · omega
                  · skip
                    refine dp_aload_n C dL_plan_189 rfl ?_
                    refine dp_bipush C dL_plan_190 (by decide) ?_
                    refine dp_iload C dL_plan_192 rfl ?_
                    refine dp_iinc C dL_plan_194 rfl ?_
                    dsimp only [List.set]
                    refine dp_iadd C dL_plan_197 ?_
                    refine dp_iload_n C dL_plan_198 rfl ?_
                    refine dp_iload_n C dL_plan_199 rfl ?_
                    refine dp_iadd C dL_plan_200 ?_
                    refine dp_aload_n C dL_plan_201 rfl ?_
                    refine dp_iconst C dL_plan_202 ?_
                    refine dp_ald_g C 0 (c9 := 1) (k9 := 0) (by omega) (by decide) rfl rfl dL_plan_203 ?_
                    refine dp_iadd C dL_plan_204 ?_
                    refine dp_ast_l C 0 (by omega) (by decide) dL_plan_205 ?_
                    refine dp_aload_n C dL_plan_206 rfl ?_
                    refine dp_bipush C dL_plan_207 (by decide) ?_
                    refine dp_iload C dL_plan_209 rfl ?_
                    refine dp_iinc C dL_plan_211 rfl ?_
                    dsimp only [List.set]
                    refine dp_iadd C dL_plan_214 ?_
                    refine dp_iload_n C dL_plan_215 rfl ?_
                    refine dp_ast_l C 1 (by omega) (by decide) dL_plan_216 ?_
                    refine dp_iconst C dL_plan_217 ?_
                    refine dp_istore C dL_plan_218 (Nat.le_of_ble_eq_true rfl) ?_
                    dsimp only [List.set]
                    refine dp_iload C dL_plan_220 rfl ?_
                    refine dp_iload C dL_plan_222 rfl ?_
                    refine dp_icmp_ge (tgt := 249) C dL_plan_224 (by decide) ⟨by omega, by omega⟩ ⟨by omega, by omega⟩ (fun c224 => ?_) (fun c224 => ?_)
                    · omega
                    · skip
                      refine dp_iload_n C dL_plan_227 rfl ?_
                      refine dp_aload_n C dL_plan_228 rfl ?_
                      refine dp_bipush C dL_plan_229 (by decide) ?_
                      refine dp_iload C dL_plan_231 rfl ?_
                      refine dp_iadd C dL_plan_233 ?_
                      refine dp_ald_l C 0 (by omega) (by decide) dL_plan_234 ?_
                      simp (decide := true) only [u2_ap, reduceIte]
                      refine dp_cSi C (c_L_within C.2.2.1 l ha ⟨by omega, by omega⟩) gL_plan_L_within rfl yyL_within rfl ⟨Nat.le_of_ble_eq_true rfl, Nat.le_of_ble_eq_true rfl⟩ rfl (Nat.le_of_ble_eq_true rfl) rfl ⟨Nat.zero_le _, Nat.zero_le _⟩ dL_plan_235 (fun x235 M235 h235 => ?_)
                      obtain ⟨rfl, rfl⟩ := h235
                      refine dp_ifz_ne (tgt := 243) C dL_plan_238 (by decide) (fun c238 => ?_) (fun c238 => ?_)
                      · skip
                        refine dp_iinc C dL_plan_243 rfl ?_
                        dsimp only [List.set]
                        refine dp_goto (tgt := 220) C dL_plan_246 (by decide) ?_
                        refine dp_iload C dL_plan_220 rfl ?_
                        refine dp_iload C dL_plan_222 rfl ?_
                        refine dp_icmp_ge (tgt := 249) C dL_plan_224 (by decide) ⟨by omega, by omega⟩ ⟨by omega, by omega⟩ (fun c224 => ?_) (fun c224 => ?_)
                        · omega
                        · skip
                          refine dp_iload_n C dL_plan_227 rfl ?_
                          refine dp_aload_n C dL_plan_228 rfl ?_
                          refine dp_bipush C dL_plan_229 (by decide) ?_
                          refine dp_iload C dL_plan_231 rfl ?_
                          refine dp_iadd C dL_plan_233 ?_
                          refine dp_ald_l C 1 (by omega) (by decide) dL_plan_234 ?_
                          simp (decide := true) only [u2_ap, reduceIte]
                          refine dp_cSi C (c_L_within C.2.2.1 l ha ⟨by omega, by omega⟩) gL_plan_L_within rfl yyL_within rfl ⟨Nat.le_of_ble_eq_true rfl, Nat.le_of_ble_eq_true rfl⟩ rfl (Nat.le_of_ble_eq_true rfl) rfl ⟨Nat.zero_le _, Nat.zero_le _⟩ dL_plan_235 (fun x235 M235 h235 => ?_)
                          obtain ⟨rfl, rfl⟩ := h235
                          refine dp_ifz_ne (tgt := 243) C dL_plan_238 (by decide) (fun c238 => ?_) (fun c238 => ?_)
                          · skip
                            refine dp_iinc C dL_plan_243 rfl ?_
                            dsimp only [List.set]
                            refine dp_goto (tgt := 220) C dL_plan_246 (by decide) ?_
                            refine dp_iload C dL_plan_220 rfl ?_
                            refine dp_iload C dL_plan_222 rfl ?_
                            refine dp_icmp_ge (tgt := 249) C dL_plan_224 (by decide) ⟨by omega, by omega⟩ ⟨by omega, by omega⟩ (fun c224 => ?_) (fun c224 => ?_)
                            · skip
                              refine dp_iload C dL_plan_249 rfl ?_
                              refine dp_iret C hret dL_plan_251 ?_
                              have eT : wyT (V (a + 3)) to = 1 := by
                                rw [hT9]
                                (repeat' split) <;> omega
                              have eE : wyE (V (a + 3)) to = to := by
                                unfold wyE
                                (repeat' split) <;> omega
                              have eU : wyU (V (a + 3)) to (V 1 0) = to + V (a + 3) 0 + V 1 0 := by
                                unfold wyU
                                rw [eT]
                                (repeat' split) <;> omega
                              have eN : lgN (V (a + 3)) to = 2 := by
                                rw [hN9, eT]
                                (repeat' split) <;> omega
                              have eP : ¬ wyP (a + 3) (V (a + 3)) to (V 1 0) = 0 := by
                                unfold wyP
                                rw [eU, eE, dp_b_t ⟨⟨by omega, by omega⟩, by omega, by omega⟩]
                                decide
                              refine ⟨by unfold plN; rw [if_neg eP, eN]; (try omega), _, rfl, ?_, fun q => ?_, fun q => ?_⟩
                              · exact lgs.rf.u.u
                              · omega
                              · simp (decide := true) only [u2_ap, reduceIte]
                                exact ⟨eU.symm, eE.symm⟩
                            · omega
                          · skip
                            refine dp_iconst C dL_plan_241 ?_
                            refine dp_iret C hret dL_plan_242 ?_
                            have eT : wyT (V (a + 3)) to = 1 := by
                              rw [hT9]
                              (repeat' split) <;> omega
                            have eE : wyE (V (a + 3)) to = to := by
                              unfold wyE
                              (repeat' split) <;> omega
                            have eU : wyU (V (a + 3)) to (V 1 0) = to + V (a + 3) 0 + V 1 0 := by
                              unfold wyU
                              rw [eT]
                              (repeat' split) <;> omega
                            have eN : lgN (V (a + 3)) to = 2 := by
                              rw [hN9, eT]
                              (repeat' split) <;> omega
                            have eP : wyP (a + 3) (V (a + 3)) to (V 1 0) = 0 := by
                              unfold wyP
                              rw [eU, eE]
                              exact dp_b_f (fun q => by omega)
                            refine ⟨by unfold plN; rw [if_pos eP], _, rfl, ?_, fun q => ?_, fun q => ?_⟩
                            · exact lgs.rf.u.u
                            · omega
                            · simp (decide := true) only [u2_ap, reduceIte]
                              exact ⟨eU.symm, eE.symm⟩
                      · skip
                        refine dp_iconst C dL_plan_241 ?_
                        refine dp_iret C hret dL_plan_242 ?_
                        have eT : wyT (V (a + 3)) to = 1 := by
                          rw [hT9]
                          (repeat' split) <;> omega
                        have eE : wyE (V (a + 3)) to = to := by
                          unfold wyE
                          (repeat' split) <;> omega
                        have eU : wyU (V (a + 3)) to (V 1 0) = to + V (a + 3) 0 + V 1 0 := by
                          unfold wyU
                          rw [eT]
                          (repeat' split) <;> omega
                        have eN : lgN (V (a + 3)) to = 2 := by
                          rw [hN9, eT]
                          (repeat' split) <;> omega
                        have eP : wyP (a + 3) (V (a + 3)) to (V 1 0) = 0 := by
                          unfold wyP
                          rw [eU, eE]
                          exact dp_b_f (fun q => by omega)
                        refine ⟨by unfold plN; rw [if_pos eP], _, rfl, ?_, fun q => ?_, fun q => ?_⟩
                        · exact lgs.rf.u.u
                        · omega
                        · simp (decide := true) only [u2_ap, reduceIte]
                          exact ⟨eU.symm, eE.symm⟩
            · omega
          · omega
        · omega
      · skip
        refine dp_iconst C dL_plan_59 ?_
        refine dp_goto (tgt := 64) C dL_plan_60 (by decide) ?_
        refine dp_istore C dL_plan_64 (Nat.le_of_ble_eq_true rfl) ?_
        dsimp only [List.set]
        refine dp_iconst C dL_plan_66 ?_
        refine dp_istore C dL_plan_67 (Nat.le_of_ble_eq_true rfl) ?_
        dsimp only [List.set]
        refine dp_iload C dL_plan_69 rfl ?_
        refine dp_if_eq (tgt := 90) C dL_plan_71 (by decide) ⟨by omega, by omega⟩ (fun c71 => ?_) (fun c71 => ?_)
        · skip
          refine dp_iload C dL_plan_90 rfl ?_
          refine dp_if_eq (tgt := 109) C dL_plan_92 (by decide) ⟨by omega, by omega⟩ (fun c92 => ?_) (fun c92 => ?_)
          · omega
          · skip
            refine dp_aload_n C dL_plan_95 rfl ?_
            refine dp_bipush C dL_plan_96 (by decide) ?_
            refine dp_iload C dL_plan_98 rfl ?_
            refine dp_iinc C dL_plan_100 rfl ?_
            dsimp only [List.set]
            refine dp_iadd C dL_plan_103 ?_
            refine dp_iload_n C dL_plan_104 rfl ?_
            refine dp_ast_l C 0 (by omega) (by decide) dL_plan_105 ?_
            refine dp_goto (tgt := 217) C dL_plan_106 (by decide) ?_
            refine dp_iconst C dL_plan_217 ?_
            refine dp_istore C dL_plan_218 (Nat.le_of_ble_eq_true rfl) ?_
            dsimp only [List.set]
            refine dp_iload C dL_plan_220 rfl ?_
            refine dp_iload C dL_plan_222 rfl ?_
            refine dp_icmp_ge (tgt := 249) C dL_plan_224 (by decide) ⟨by omega, by omega⟩ ⟨by omega, by omega⟩ (fun c224 => ?_) (fun c224 => ?_)
            · omega
            · skip
              refine dp_iload_n C dL_plan_227 rfl ?_
              refine dp_aload_n C dL_plan_228 rfl ?_
              refine dp_bipush C dL_plan_229 (by decide) ?_
              refine dp_iload C dL_plan_231 rfl ?_
              refine dp_iadd C dL_plan_233 ?_
              refine dp_ald_l C 0 (by omega) (by decide) dL_plan_234 ?_
              simp (decide := true) only [u2_ap, reduceIte]
              refine dp_cSi C (c_L_within C.2.2.1 l ha ⟨by omega, by omega⟩) gL_plan_L_within rfl yyL_within rfl ⟨Nat.le_of_ble_eq_true rfl, Nat.le_of_ble_eq_true rfl⟩ rfl (Nat.le_of_ble_eq_true rfl) rfl ⟨Nat.zero_le _, Nat.zero_le _⟩ dL_plan_235 (fun x235 M235 h235 => ?_)
              obtain ⟨rfl, rfl⟩ := h235
              refine dp_ifz_ne (tgt := 243) C dL_plan_238 (by decide) (fun c238 => ?_) (fun c238 => ?_)
              · skip
                refine dp_iinc C dL_plan_243 rfl ?_
                dsimp only [List.set]
                refine dp_goto (tgt := 220) C dL_plan_246 (by decide) ?_
                refine dp_iload C dL_plan_220 rfl ?_
                refine dp_iload C dL_plan_222 rfl ?_
                refine dp_icmp_ge (tgt := 249) C dL_plan_224 (by decide) ⟨by omega, by omega⟩ ⟨by omega, by omega⟩ (fun c224 => ?_) (fun c224 => ?_)
                · skip
                  refine dp_iload C dL_plan_249 rfl ?_
                  refine dp_iret C hret dL_plan_251 ?_
                  have eT : wyT (V (a + 3)) to = 0 := by
                    rw [hT9]
                    (repeat' split) <;> omega
                  have eE : wyE (V (a + 3)) to = to := by
                    unfold wyE
                    (repeat' split) <;> omega
                  have eU : wyU (V (a + 3)) to (V 1 0) = V (a + 3) 3 := by
                    unfold wyU
                    rw [eT]
                    (repeat' split) <;> omega
                  have eN : lgN (V (a + 3)) to = 1 := by
                    rw [hN9, eT]
                    (repeat' split) <;> omega
                  have eP : ¬ wyP (a + 3) (V (a + 3)) to (V 1 0) = 0 := by
                    unfold wyP
                    rw [eU, eE, dp_b_t ⟨⟨by omega, by omega⟩, by omega, by omega⟩]
                    decide
                  refine ⟨by unfold plN; rw [if_neg eP, eN]; (try omega), _, rfl, ?_, fun q => ?_, fun q => ?_⟩
                  · exact lgs.rf.u
                  · simp (decide := true) only [u2_ap, reduceIte]
                    exact eE.symm
                  · omega
                · omega
              · skip
                refine dp_iconst C dL_plan_241 ?_
                refine dp_iret C hret dL_plan_242 ?_
                have eT : wyT (V (a + 3)) to = 0 := by
                  rw [hT9]
                  (repeat' split) <;> omega
                have eE : wyE (V (a + 3)) to = to := by
                  unfold wyE
                  (repeat' split) <;> omega
                have eU : wyU (V (a + 3)) to (V 1 0) = V (a + 3) 3 := by
                  unfold wyU
                  rw [eT]
                  (repeat' split) <;> omega
                have eN : lgN (V (a + 3)) to = 1 := by
                  rw [hN9, eT]
                  (repeat' split) <;> omega
                have eP : wyP (a + 3) (V (a + 3)) to (V 1 0) = 0 := by
                  unfold wyP
                  rw [eU, eE]
                  exact dp_b_f (fun q => by omega)
                refine ⟨by unfold plN; rw [if_pos eP], _, rfl, ?_, fun q => ?_, fun q => ?_⟩
                · exact lgs.rf.u
                · simp (decide := true) only [u2_ap, reduceIte]
                  exact eE.symm
                · omega
        · omega
  · skip
    refine dp_iload C dL_plan_34 rfl ?_
    refine dp_iload_n C dL_plan_36 rfl ?_
    refine dp_icmp_ge (tgt := 44) C dL_plan_37 (by decide) ⟨by omega, by omega⟩ ⟨by omega, by omega⟩ (fun c37 => ?_) (fun c37 => ?_)
    · skip
      refine dp_iconst C dL_plan_44 ?_
      refine dp_istore C dL_plan_45 (Nat.le_of_ble_eq_true rfl) ?_
      dsimp only [List.set]
      refine dp_iload C dL_plan_47 rfl ?_
      refine dp_iconst C dL_plan_49 ?_
      refine dp_icmp_eq (tgt := 63) C dL_plan_50 (by decide) ⟨by omega, by omega⟩ ⟨by omega, by omega⟩ (fun c50 => ?_) (fun c50 => ?_)
      · skip
        refine dp_iconst C dL_plan_63 ?_
        refine dp_istore C dL_plan_64 (Nat.le_of_ble_eq_true rfl) ?_
        dsimp only [List.set]
        refine dp_iconst C dL_plan_66 ?_
        refine dp_istore C dL_plan_67 (Nat.le_of_ble_eq_true rfl) ?_
        dsimp only [List.set]
        refine dp_iload C dL_plan_69 rfl ?_
        refine dp_if_eq (tgt := 90) C dL_plan_71 (by decide) ⟨by omega, by omega⟩ (fun c71 => ?_) (fun c71 => ?_)
        · skip
          refine dp_iload C dL_plan_90 rfl ?_
          refine dp_if_eq (tgt := 109) C dL_plan_92 (by decide) ⟨by omega, by omega⟩ (fun c92 => ?_) (fun c92 => ?_)
          · skip
            refine dp_iload C dL_plan_109 rfl ?_
            refine dp_iconst C dL_plan_111 ?_
            refine dp_icmp_ne (tgt := 165) C dL_plan_112 (by decide) ⟨by omega, by omega⟩ ⟨by omega, by omega⟩ (fun c112 => ?_) (fun c112 => ?_)
            · omega
            · skip
              refine dp_iload C dL_plan_115 rfl ?_
              refine dp_iload_n C dL_plan_117 rfl ?_
              refine dp_icmp_ne (tgt := 134) C dL_plan_118 (by decide) ⟨by omega, by omega⟩ ⟨by omega, by omega⟩ (fun c118 => ?_) (fun c118 => ?_)
              · skip
                refine dp_aload_n C dL_plan_134 rfl ?_
                refine dp_bipush C dL_plan_135 (by decide) ?_
                refine dp_iload C dL_plan_137 rfl ?_
                refine dp_iinc C dL_plan_139 rfl ?_
                dsimp only [List.set]
                refine dp_iadd C dL_plan_142 ?_
                refine dp_iload_n C dL_plan_143 rfl ?_
                refine dp_aload_n C dL_plan_144 rfl ?_
                refine dp_iconst C dL_plan_145 ?_
                refine dp_ald_g C 0 (c9 := 1) (k9 := 0) (by omega) (by decide) rfl rfl dL_plan_146 ?_
                refine dp_isub C dL_plan_147 ?_
                refine dp_ast_l C 0 (by omega) (by decide) dL_plan_148 ?_
                refine dp_aload_n C dL_plan_149 rfl ?_
                refine dp_bipush C dL_plan_150 (by decide) ?_
                refine dp_iload C dL_plan_152 rfl ?_
                refine dp_iinc C dL_plan_154 rfl ?_
                dsimp only [List.set]
                refine dp_iadd C dL_plan_157 ?_
                refine dp_iload_n C dL_plan_158 rfl ?_
                refine dp_iload_n C dL_plan_159 rfl ?_
                refine dp_iadd C dL_plan_160 ?_
                refine dp_ast_l C 1 (by omega) (by decide) dL_plan_161 ?_
                refine dp_goto (tgt := 217) C dL_plan_162 (by decide) ?_
                refine dp_iconst C dL_plan_217 ?_
                refine dp_istore C dL_plan_218 (Nat.le_of_ble_eq_true rfl) ?_
                dsimp only [List.set]
                refine dp_iload C dL_plan_220 rfl ?_
                refine dp_iload C dL_plan_222 rfl ?_
                refine dp_icmp_ge (tgt := 249) C dL_plan_224 (by decide) ⟨by omega, by omega⟩ ⟨by omega, by omega⟩ (fun c224 => ?_) (fun c224 => ?_)
                · omega
                · skip
                  refine dp_iload_n C dL_plan_227 rfl ?_
                  refine dp_aload_n C dL_plan_228 rfl ?_
                  refine dp_bipush C dL_plan_229 (by decide) ?_
                  refine dp_iload C dL_plan_231 rfl ?_
                  refine dp_iadd C dL_plan_233 ?_
                  refine dp_ald_l C 0 (by omega) (by decide) dL_plan_234 ?_
                  simp (decide := true) only [u2_ap, reduceIte]
                  refine dp_cSi C (c_L_within C.2.2.1 l ha ⟨by omega, by omega⟩) gL_plan_L_within rfl yyL_within rfl ⟨Nat.le_of_ble_eq_true rfl, Nat.le_of_ble_eq_true rfl⟩ rfl (Nat.le_of_ble_eq_true rfl) rfl ⟨Nat.zero_le _, Nat.zero_le _⟩ dL_plan_235 (fun x235 M235 h235 => ?_)
                  obtain ⟨rfl, rfl⟩ := h235
                  refine dp_ifz_ne (tgt := 243) C dL_plan_238 (by decide) (fun c238 => ?_) (fun c238 => ?_)
                  · skip
                    refine dp_iinc C dL_plan_243 rfl ?_
                    dsimp only [List.set]
                    refine dp_goto (tgt := 220) C dL_plan_246 (by decide) ?_
                    refine dp_iload C dL_plan_220 rfl ?_
                    refine dp_iload C dL_plan_222 rfl ?_
                    refine dp_icmp_ge (tgt := 249) C dL_plan_224 (by decide) ⟨by omega, by omega⟩ ⟨by omega, by omega⟩ (fun c224 => ?_) (fun c224 => ?_)
                    · omega
                    · skip
                      refine dp_iload_n C dL_plan_227 rfl ?_
                      refine dp_aload_n C dL_plan_228 rfl ?_
                      refine dp_bipush C dL_plan_229 (by decide) ?_
                      refine dp_iload C dL_plan_231 rfl ?_
                      refine dp_iadd C dL_plan_233 ?_
                      refine dp_ald_l C 1 (by omega) (by decide) dL_plan_234 ?_
                      simp (decide := true) only [u2_ap, reduceIte]
                      refine dp_cSi C (c_L_within C.2.2.1 l ha ⟨by omega, by omega⟩) gL_plan_L_within rfl yyL_within rfl ⟨Nat.le_of_ble_eq_true rfl, Nat.le_of_ble_eq_true rfl⟩ rfl (Nat.le_of_ble_eq_true rfl) rfl ⟨Nat.zero_le _, Nat.zero_le _⟩ dL_plan_235 (fun x235 M235 h235 => ?_)
                      obtain ⟨rfl, rfl⟩ := h235
                      refine dp_ifz_ne (tgt := 243) C dL_plan_238 (by decide) (fun c238 => ?_) (fun c238 => ?_)
                      · skip
                        refine dp_iinc C dL_plan_243 rfl ?_
                        dsimp only [List.set]
                        refine dp_goto (tgt := 220) C dL_plan_246 (by decide) ?_
                        refine dp_iload C dL_plan_220 rfl ?_
                        refine dp_iload C dL_plan_222 rfl ?_
                        refine dp_icmp_ge (tgt := 249) C dL_plan_224 (by decide) ⟨by omega, by omega⟩ ⟨by omega, by omega⟩ (fun c224 => ?_) (fun c224 => ?_)
                        · skip
                          refine dp_iload C dL_plan_249 rfl ?_
                          refine dp_iret C hret dL_plan_251 ?_
                          have eT : wyT (V (a + 3)) to = 1 := by
                            rw [hT9]
                            (repeat' split) <;> omega
                          have eE : wyE (V (a + 3)) to = to + V (a + 3) 0 := by
                            unfold wyE
                            (repeat' split) <;> omega
                          have eU : wyU (V (a + 3)) to (V 1 0) = to - V 1 0 := by
                            unfold wyU
                            rw [eT]
                            (repeat' split) <;> omega
                          have eN : lgN (V (a + 3)) to = 2 := by
                            rw [hN9, eT]
                            (repeat' split) <;> omega
                          have eP : ¬ wyP (a + 3) (V (a + 3)) to (V 1 0) = 0 := by
                            unfold wyP
                            rw [eU, eE, dp_b_t ⟨⟨by omega, by omega⟩, by omega, by omega⟩]
                            decide
                          refine ⟨by unfold plN; rw [if_neg eP, eN]; (try omega), _, rfl, ?_, fun q => ?_, fun q => ?_⟩
                          · exact lgs.rf.u.u
                          · omega
                          · simp (decide := true) only [u2_ap, reduceIte]
                            exact ⟨eU.symm, eE.symm⟩
                        · omega
                      · skip
                        refine dp_iconst C dL_plan_241 ?_
                        refine dp_iret C hret dL_plan_242 ?_
                        have eT : wyT (V (a + 3)) to = 1 := by
                          rw [hT9]
                          (repeat' split) <;> omega
                        have eE : wyE (V (a + 3)) to = to + V (a + 3) 0 := by
                          unfold wyE
                          (repeat' split) <;> omega
                        have eU : wyU (V (a + 3)) to (V 1 0) = to - V 1 0 := by
                          unfold wyU
                          rw [eT]
                          (repeat' split) <;> omega
                        have eN : lgN (V (a + 3)) to = 2 := by
                          rw [hN9, eT]
                          (repeat' split) <;> omega
                        have eP : wyP (a + 3) (V (a + 3)) to (V 1 0) = 0 := by
                          unfold wyP
                          rw [eU, eE]
                          exact dp_b_f (fun q => by omega)
                        refine ⟨by unfold plN; rw [if_pos eP], _, rfl, ?_, fun q => ?_, fun q => ?_⟩
                        · exact lgs.rf.u.u
                        · omega
                        · simp (decide := true) only [u2_ap, reduceIte]
                          exact ⟨eU.symm, eE.symm⟩
                  · skip
                    refine dp_iconst C dL_plan_241 ?_
                    refine dp_iret C hret dL_plan_242 ?_
                    have eT : wyT (V (a + 3)) to = 1 := by
                      rw [hT9]
                      (repeat' split) <;> omega
                    have eE : wyE (V (a + 3)) to = to + V (a + 3) 0 := by
                      unfold wyE
                      (repeat' split) <;> omega
                    have eU : wyU (V (a + 3)) to (V 1 0) = to - V 1 0 := by
                      unfold wyU
                      rw [eT]
                      (repeat' split) <;> omega
                    have eN : lgN (V (a + 3)) to = 2 := by
                      rw [hN9, eT]
                      (repeat' split) <;> omega
                    have eP : wyP (a + 3) (V (a + 3)) to (V 1 0) = 0 := by
                      unfold wyP
                      rw [eU, eE]
                      exact dp_b_f (fun q => by omega)
                    refine ⟨by unfold plN; rw [if_pos eP], _, rfl, ?_, fun q => ?_, fun q => ?_⟩
                    · exact lgs.rf.u.u
                    · omega
                    · simp (decide := true) only [u2_ap, reduceIte]
                      exact ⟨eU.symm, eE.symm⟩
              · skip
                refine dp_aload_n C dL_plan_121 rfl ?_
                refine dp_bipush C dL_plan_122 (by decide) ?_
                refine dp_bipush C dL_plan_124 (by decide) ?_
                refine dp_iload_n C dL_plan_126 rfl ?_
                refine dp_imul C dL_plan_127 ?_
                refine dp_iadd C dL_plan_128 ?_
                refine dp_ald_g C (8 + 7 * a + 4) (c9 := a + 3) (k9 := 4) (by omega) (by omega) (dp_ceA (by omega) (by decide)).1 (dp_ceA (by omega) (by decide)).2 dL_plan_129 ?_
                refine dp_iload_n C dL_plan_130 rfl ?_
                refine dp_icmp_eq (tgt := 165) C dL_plan_131 (by decide) ⟨by omega, by omega⟩ ⟨by omega, by omega⟩ (fun c131 => ?_) (fun c131 => ?_)
                · skip
                  refine dp_iload C dL_plan_165 rfl ?_
                  refine dp_iconst C dL_plan_167 ?_
                  refine dp_icmp_ne (tgt := 217) C dL_plan_168 (by decide) ⟨by omega, by omega⟩ ⟨by omega, by omega⟩ (fun c168 => ?_) (fun c168 => ?_)
                  · skip
                    refine dp_iconst C dL_plan_217 ?_
                    refine dp_istore C dL_plan_218 (Nat.le_of_ble_eq_true rfl) ?_
                    dsimp only [List.set]
                    refine dp_iload C dL_plan_220 rfl ?_
                    refine dp_iload C dL_plan_222 rfl ?_
                    refine dp_icmp_ge (tgt := 249) C dL_plan_224 (by decide) ⟨by omega, by omega⟩ ⟨by omega, by omega⟩ (fun c224 => ?_) (fun c224 => ?_)
                    · skip
                      refine dp_iload C dL_plan_249 rfl ?_
                      refine dp_iret C hret dL_plan_251 ?_
                      have eT : wyT (V (a + 3)) to = 0 := by
                        rw [hT9]
                        (repeat' split) <;> omega
                      have eE : wyE (V (a + 3)) to = V (a + 3) 3 := by
                        unfold wyE
                        (repeat' split) <;> omega
                      have eU : wyU (V (a + 3)) to (V 1 0) = V (a + 3) 3 := by
                        unfold wyU
                        rw [eT]
                        (repeat' split) <;> omega
                      have eN : lgN (V (a + 3)) to = 0 := by
                        rw [hN9, eT]
                        (repeat' split) <;> omega
                      have eP : ¬ wyP (a + 3) (V (a + 3)) to (V 1 0) = 0 := by
                        unfold wyP
                        rw [eU, eE, dp_b_t ⟨⟨by omega, by omega⟩, by omega, by omega⟩]
                        decide
                      refine ⟨by unfold plN; rw [if_neg eP, eN]; (try omega), _, rfl, ?_, fun q => ?_, fun q => ?_⟩
                      · exact lgs.rf
                      · omega
                      · omega
                    · omega
                  · omega
                · skip
                  refine dp_aload_n C dL_plan_134 rfl ?_
                  refine dp_bipush C dL_plan_135 (by decide) ?_
                  refine dp_iload C dL_plan_137 rfl ?_
                  refine dp_iinc C dL_plan_139 rfl ?_
                  dsimp only [List.set]
                  refine dp_iadd C dL_plan_142 ?_
                  refine dp_iload_n C dL_plan_143 rfl ?_
                  refine dp_aload_n C dL_plan_144 rfl ?_
                  refine dp_iconst C dL_plan_145 ?_
                  refine dp_ald_g C 0 (c9 := 1) (k9 := 0) (by omega) (by decide) rfl rfl dL_plan_146 ?_
                  refine dp_isub C dL_plan_147 ?_
                  refine dp_ast_l C 0 (by omega) (by decide) dL_plan_148 ?_
                  refine dp_aload_n C dL_plan_149 rfl ?_
                  refine dp_bipush C dL_plan_150 (by decide) ?_
                  refine dp_iload C dL_plan_152 rfl ?_
                  refine dp_iinc C dL_plan_154 rfl ?_
                  dsimp only [List.set]
                  refine dp_iadd C dL_plan_157 ?_
                  refine dp_iload_n C dL_plan_158 rfl ?_
                  refine dp_iload_n C dL_plan_159 rfl ?_
                  refine dp_iadd C dL_plan_160 ?_
                  refine dp_ast_l C 1 (by omega) (by decide) dL_plan_161 ?_
                  refine dp_goto (tgt := 217) C dL_plan_162 (by decide) ?_
                  refine dp_iconst C dL_plan_217 ?_
                  refine dp_istore C dL_plan_218 (Nat.le_of_ble_eq_true rfl) ?_
                  dsimp only [List.set]
                  refine dp_iload C dL_plan_220 rfl ?_
                  refine dp_iload C dL_plan_222 rfl ?_
                  refine dp_icmp_ge (tgt := 249) C dL_plan_224 (by decide) ⟨by omega, by omega⟩ ⟨by omega, by omega⟩ (fun c224 => ?_) (fun c224 => ?_)
                  · omega
                  · skip
                    refine dp_iload_n C dL_plan_227 rfl ?_
                    refine dp_aload_n C dL_plan_228 rfl ?_
                    refine dp_bipush C dL_plan_229 (by decide) ?_
                    refine dp_iload C dL_plan_231 rfl ?_
                    refine dp_iadd C dL_plan_233 ?_
                    refine dp_ald_l C 0 (by omega) (by decide) dL_plan_234 ?_
                    simp (decide := true) only [u2_ap, reduceIte]
                    refine dp_cSi C (c_L_within C.2.2.1 l ha ⟨by omega, by omega⟩) gL_plan_L_within rfl yyL_within rfl ⟨Nat.le_of_ble_eq_true rfl, Nat.le_of_ble_eq_true rfl⟩ rfl (Nat.le_of_ble_eq_true rfl) rfl ⟨Nat.zero_le _, Nat.zero_le _⟩ dL_plan_235 (fun x235 M235 h235 => ?_)
                    obtain ⟨rfl, rfl⟩ := h235
                    refine dp_ifz_ne (tgt := 243) C dL_plan_238 (by decide) (fun c238 => ?_) (fun c238 => ?_)
                    · skip
                      refine dp_iinc C dL_plan_243 rfl ?_
                      dsimp only [List.set]
                      refine dp_goto (tgt := 220) C dL_plan_246 (by decide) ?_
                      refine dp_iload C dL_plan_220 rfl ?_
                      refine dp_iload C dL_plan_222 rfl ?_
                      refine dp_icmp_ge (tgt := 249) C dL_plan_224 (by decide) ⟨by omega, by omega⟩ ⟨by omega, by omega⟩ (fun c224 => ?_) (fun c224 => ?_)
                      · omega
                      · skip
                        refine dp_iload_n C dL_plan_227 rfl ?_
                        refine dp_aload_n C dL_plan_228 rfl ?_
                        refine dp_bipush C dL_plan_229 (by decide) ?_
                        refine dp_iload C dL_plan_231 rfl ?_
                        refine dp_iadd C dL_plan_233 ?_
                        refine dp_ald_l C 1 (by omega) (by decide) dL_plan_234 ?_
                        simp (decide := true) only [u2_ap, reduceIte]
                        refine dp_cSi C (c_L_within C.2.2.1 l ha ⟨by omega, by omega⟩) gL_plan_L_within rfl yyL_within rfl ⟨Nat.le_of_ble_eq_true rfl, Nat.le_of_ble_eq_true rfl⟩ rfl (Nat.le_of_ble_eq_true rfl) rfl ⟨Nat.zero_le _, Nat.zero_le _⟩ dL_plan_235 (fun x235 M235 h235 => ?_)
                        obtain ⟨rfl, rfl⟩ := h235
                        refine dp_ifz_ne (tgt := 243) C dL_plan_238 (by decide) (fun c238 => ?_) (fun c238 => ?_)
                        · skip
                          refine dp_iinc C dL_plan_243 rfl ?_
                          dsimp only [List.set]
                          refine dp_goto (tgt := 220) C dL_plan_246 (by decide) ?_
                          refine dp_iload C dL_plan_220 rfl ?_
                          refine dp_iload C dL_plan_222 rfl ?_
                          refine dp_icmp_ge (tgt := 249) C dL_plan_224 (by decide) ⟨by omega, by omega⟩ ⟨by omega, by omega⟩ (fun c224 => ?_) (fun c224 => ?_)
                          · skip
                            refine dp_iload C dL_plan_249 rfl ?_
                            refine dp_iret C hret dL_plan_251 ?_
                            have eT : wyT (V (a + 3)) to = 1 := by
                              rw [hT9]
                              (repeat' split) <;> omega
                            have eE : wyE (V (a + 3)) to = to + V (a + 3) 0 := by
                              unfold wyE
                              (repeat' split) <;> omega
                            have eU : wyU (V (a + 3)) to (V 1 0) = to - V 1 0 := by
                              unfold wyU
                              rw [eT]
                              (repeat' split) <;> omega
                            have eN : lgN (V (a + 3)) to = 2 := by
                              rw [hN9, eT]
                              (repeat' split) <;> omega
                            have eP : ¬ wyP (a + 3) (V (a + 3)) to (V 1 0) = 0 := by
                              unfold wyP
                              rw [eU, eE, dp_b_t ⟨⟨by omega, by omega⟩, by omega, by omega⟩]
                              decide
                            refine ⟨by unfold plN; rw [if_neg eP, eN]; (try omega), _, rfl, ?_, fun q => ?_, fun q => ?_⟩
                            · exact lgs.rf.u.u
                            · omega
                            · simp (decide := true) only [u2_ap, reduceIte]
                              exact ⟨eU.symm, eE.symm⟩
                          · omega
                        · skip
                          refine dp_iconst C dL_plan_241 ?_
                          refine dp_iret C hret dL_plan_242 ?_
                          have eT : wyT (V (a + 3)) to = 1 := by
                            rw [hT9]
                            (repeat' split) <;> omega
                          have eE : wyE (V (a + 3)) to = to + V (a + 3) 0 := by
                            unfold wyE
                            (repeat' split) <;> omega
                          have eU : wyU (V (a + 3)) to (V 1 0) = to - V 1 0 := by
                            unfold wyU
                            rw [eT]
                            (repeat' split) <;> omega
                          have eN : lgN (V (a + 3)) to = 2 := by
                            rw [hN9, eT]
                            (repeat' split) <;> omega
                          have eP : wyP (a + 3) (V (a + 3)) to (V 1 0) = 0 := by
                            unfold wyP
                            rw [eU, eE]
                            exact dp_b_f (fun q => by omega)
                          refine ⟨by unfold plN; rw [if_pos eP], _, rfl, ?_, fun q => ?_, fun q => ?_⟩
                          · exact lgs.rf.u.u
                          · omega
                          · simp (decide := true) only [u2_ap, reduceIte]
                            exact ⟨eU.symm, eE.symm⟩
                    · skip
                      refine dp_iconst C dL_plan_241 ?_
                      refine dp_iret C hret dL_plan_242 ?_
                      have eT : wyT (V (a + 3)) to = 1 := by
                        rw [hT9]
                        (repeat' split) <;> omega
                      have eE : wyE (V (a + 3)) to = to + V (a + 3) 0 := by
                        unfold wyE
                        (repeat' split) <;> omega
                      have eU : wyU (V (a + 3)) to (V 1 0) = to - V 1 0 := by
                        unfold wyU
                        rw [eT]
                        (repeat' split) <;> omega
                      have eN : lgN (V (a + 3)) to = 2 := by
                        rw [hN9, eT]
                        (repeat' split) <;> omega
                      have eP : wyP (a + 3) (V (a + 3)) to (V 1 0) = 0 := by
                        unfold wyP
                        rw [eU, eE]
                        exact dp_b_f (fun q => by omega)
                      refine ⟨by unfold plN; rw [if_pos eP], _, rfl, ?_, fun q => ?_, fun q => ?_⟩
                      · exact lgs.rf.u.u
                      · omega
                      · simp (decide := true) only [u2_ap, reduceIte]
                        exact ⟨eU.symm, eE.symm⟩
          · omega
        · omega
      · skip
        refine dp_iload C dL_plan_53 rfl ?_
        refine dp_iload_n C dL_plan_55 rfl ?_
        refine dp_icmp_le (tgt := 63) C dL_plan_56 (by decide) ⟨by omega, by omega⟩ ⟨by omega, by omega⟩ (fun c56 => ?_) (fun c56 => ?_)
        · skip
          refine dp_iconst C dL_plan_63 ?_
          refine dp_istore C dL_plan_64 (Nat.le_of_ble_eq_true rfl) ?_
          dsimp only [List.set]
          refine dp_iconst C dL_plan_66 ?_
          refine dp_istore C dL_plan_67 (Nat.le_of_ble_eq_true rfl) ?_
          dsimp only [List.set]
          refine dp_iload C dL_plan_69 rfl ?_
          refine dp_if_eq (tgt := 90) C dL_plan_71 (by decide) ⟨by omega, by omega⟩ (fun c71 => ?_) (fun c71 => ?_)
          · skip
            refine dp_iload C dL_plan_90 rfl ?_
            refine dp_if_eq (tgt := 109) C dL_plan_92 (by decide) ⟨by omega, by omega⟩ (fun c92 => ?_) (fun c92 => ?_)
            · skip
              refine dp_iload C dL_plan_109 rfl ?_
              refine dp_iconst C dL_plan_111 ?_
              refine dp_icmp_ne (tgt := 165) C dL_plan_112 (by decide) ⟨by omega, by omega⟩ ⟨by omega, by omega⟩ (fun c112 => ?_) (fun c112 => ?_)
              · skip
                refine dp_iload C dL_plan_165 rfl ?_
                refine dp_iconst C dL_plan_167 ?_
                refine dp_icmp_ne (tgt := 217) C dL_plan_168 (by decide) ⟨by omega, by omega⟩ ⟨by omega, by omega⟩ (fun c168 => ?_) (fun c168 => ?_)
                · skip
                  refine dp_iconst C dL_plan_217 ?_
                  refine dp_istore C dL_plan_218 (Nat.le_of_ble_eq_true rfl) ?_
                  dsimp only [List.set]
                  refine dp_iload C dL_plan_220 rfl ?_
                  refine dp_iload C dL_plan_222 rfl ?_
                  refine dp_icmp_ge (tgt := 249) C dL_plan_224 (by decide) ⟨by omega, by omega⟩ ⟨by omega, by omega⟩ (fun c224 => ?_) (fun c224 => ?_)
                  · skip
                    refine dp_iload C dL_plan_249 rfl ?_
                    refine dp_iret C hret dL_plan_251 ?_
                    have eT : wyT (V (a + 3)) to = 0 := by
                      rw [hT9]
                      (repeat' split) <;> omega
                    have eE : wyE (V (a + 3)) to = V (a + 3) 3 := by
                      unfold wyE
                      (repeat' split) <;> omega
                    have eU : wyU (V (a + 3)) to (V 1 0) = V (a + 3) 3 := by
                      unfold wyU
                      rw [eT]
                      (repeat' split) <;> omega
                    have eN : lgN (V (a + 3)) to = 0 := by
                      rw [hN9, eT]
                      (repeat' split) <;> omega
                    have eP : ¬ wyP (a + 3) (V (a + 3)) to (V 1 0) = 0 := by
                      unfold wyP
                      rw [eU, eE, dp_b_t ⟨⟨by omega, by omega⟩, by omega, by omega⟩]
                      decide
                    refine ⟨by unfold plN; rw [if_neg eP, eN]; (try omega), _, rfl, ?_, fun q => ?_, fun q => ?_⟩
                    · exact lgs.rf
                    · omega
                    · omega
                  · omega
                · omega
              · omega
            · omega
          · omega
        · skip
          refine dp_iconst C dL_plan_59 ?_
          refine dp_goto (tgt := 64) C dL_plan_60 (by decide) ?_
          refine dp_istore C dL_plan_64 (Nat.le_of_ble_eq_true rfl) ?_
          dsimp only [List.set]
          refine dp_iconst C dL_plan_66 ?_
          refine dp_istore C dL_plan_67 (Nat.le_of_ble_eq_true rfl) ?_
          dsimp only [List.set]
          refine dp_iload C dL_plan_69 rfl ?_
          refine dp_if_eq (tgt := 90) C dL_plan_71 (by decide) ⟨by omega, by omega⟩ (fun c71 => ?_) (fun c71 => ?_)
          · skip
            refine dp_iload C dL_plan_90 rfl ?_
            refine dp_if_eq (tgt := 109) C dL_plan_92 (by decide) ⟨by omega, by omega⟩ (fun c92 => ?_) (fun c92 => ?_)
            · omega
            · skip
              refine dp_aload_n C dL_plan_95 rfl ?_
              refine dp_bipush C dL_plan_96 (by decide) ?_
              refine dp_iload C dL_plan_98 rfl ?_
              refine dp_iinc C dL_plan_100 rfl ?_
              dsimp only [List.set]
              refine dp_iadd C dL_plan_103 ?_
              refine dp_iload_n C dL_plan_104 rfl ?_
              refine dp_ast_l C 0 (by omega) (by decide) dL_plan_105 ?_
              refine dp_goto (tgt := 217) C dL_plan_106 (by decide) ?_
              refine dp_iconst C dL_plan_217 ?_
              refine dp_istore C dL_plan_218 (Nat.le_of_ble_eq_true rfl) ?_
              dsimp only [List.set]
              refine dp_iload C dL_plan_220 rfl ?_
              refine dp_iload C dL_plan_222 rfl ?_
              refine dp_icmp_ge (tgt := 249) C dL_plan_224 (by decide) ⟨by omega, by omega⟩ ⟨by omega, by omega⟩ (fun c224 => ?_) (fun c224 => ?_)
              · omega
              · skip
                refine dp_iload_n C dL_plan_227 rfl ?_
                refine dp_aload_n C dL_plan_228 rfl ?_
                refine dp_bipush C dL_plan_229 (by decide) ?_
                refine dp_iload C dL_plan_231 rfl ?_
                refine dp_iadd C dL_plan_233 ?_
                refine dp_ald_l C 0 (by omega) (by decide) dL_plan_234 ?_
                simp (decide := true) only [u2_ap, reduceIte]
                refine dp_cSi C (c_L_within C.2.2.1 l ha ⟨by omega, by omega⟩) gL_plan_L_within rfl yyL_within rfl ⟨Nat.le_of_ble_eq_true rfl, Nat.le_of_ble_eq_true rfl⟩ rfl (Nat.le_of_ble_eq_true rfl) rfl ⟨Nat.zero_le _, Nat.zero_le _⟩ dL_plan_235 (fun x235 M235 h235 => ?_)
                obtain ⟨rfl, rfl⟩ := h235
                refine dp_ifz_ne (tgt := 243) C dL_plan_238 (by decide) (fun c238 => ?_) (fun c238 => ?_)
                · skip
                  refine dp_iinc C dL_plan_243 rfl ?_
                  dsimp only [List.set]
                  refine dp_goto (tgt := 220) C dL_plan_246 (by decide) ?_
                  refine dp_iload C dL_plan_220 rfl ?_
                  refine dp_iload C dL_plan_222 rfl ?_
                  refine dp_icmp_ge (tgt := 249) C dL_plan_224 (by decide) ⟨by omega, by omega⟩ ⟨by omega, by omega⟩ (fun c224 => ?_) (fun c224 => ?_)
                  · skip
                    refine dp_iload C dL_plan_249 rfl ?_
                    refine dp_iret C hret dL_plan_251 ?_
                    have eT : wyT (V (a + 3)) to = 0 := by
                      rw [hT9]
                      (repeat' split) <;> omega
                    have eE : wyE (V (a + 3)) to = to := by
                      unfold wyE
                      (repeat' split) <;> omega
                    have eU : wyU (V (a + 3)) to (V 1 0) = V (a + 3) 3 := by
                      unfold wyU
                      rw [eT]
                      (repeat' split) <;> omega
                    have eN : lgN (V (a + 3)) to = 1 := by
                      rw [hN9, eT]
                      (repeat' split) <;> omega
                    have eP : ¬ wyP (a + 3) (V (a + 3)) to (V 1 0) = 0 := by
                      unfold wyP
                      rw [eU, eE, dp_b_t ⟨⟨by omega, by omega⟩, by omega, by omega⟩]
                      decide
                    refine ⟨by unfold plN; rw [if_neg eP, eN]; (try omega), _, rfl, ?_, fun q => ?_, fun q => ?_⟩
                    · exact lgs.rf.u
                    · simp (decide := true) only [u2_ap, reduceIte]
                      exact eE.symm
                    · omega
                  · omega
                · skip
                  refine dp_iconst C dL_plan_241 ?_
                  refine dp_iret C hret dL_plan_242 ?_
                  have eT : wyT (V (a + 3)) to = 0 := by
                    rw [hT9]
                    (repeat' split) <;> omega
                  have eE : wyE (V (a + 3)) to = to := by
                    unfold wyE
                    (repeat' split) <;> omega
                  have eU : wyU (V (a + 3)) to (V 1 0) = V (a + 3) 3 := by
                    unfold wyU
                    rw [eT]
                    (repeat' split) <;> omega
                  have eN : lgN (V (a + 3)) to = 1 := by
                    rw [hN9, eT]
                    (repeat' split) <;> omega
                  have eP : wyP (a + 3) (V (a + 3)) to (V 1 0) = 0 := by
                    unfold wyP
                    rw [eU, eE]
                    exact dp_b_f (fun q => by omega)
                  refine ⟨by unfold plN; rw [if_pos eP], _, rfl, ?_, fun q => ?_, fun q => ?_⟩
                  · exact lgs.rf.u
                  · simp (decide := true) only [u2_ap, reduceIte]
                    exact eE.symm
                  · omega
          · omega
    · skip
      refine dp_iconst C dL_plan_40 ?_
      refine dp_goto (tgt := 45) C dL_plan_41 (by decide) ?_
      refine dp_istore C dL_plan_45 (Nat.le_of_ble_eq_true rfl) ?_
      dsimp only [List.set]
      refine dp_iload C dL_plan_47 rfl ?_
      refine dp_iconst C dL_plan_49 ?_
      refine dp_icmp_eq (tgt := 63) C dL_plan_50 (by decide) ⟨by omega, by omega⟩ ⟨by omega, by omega⟩ (fun c50 => ?_) (fun c50 => ?_)
      · skip
        refine dp_iconst C dL_plan_63 ?_
        refine dp_istore C dL_plan_64 (Nat.le_of_ble_eq_true rfl) ?_
        dsimp only [List.set]
        refine dp_iconst C dL_plan_66 ?_
        refine dp_istore C dL_plan_67 (Nat.le_of_ble_eq_true rfl) ?_
        dsimp only [List.set]
        refine dp_iload C dL_plan_69 rfl ?_
        refine dp_if_eq (tgt := 90) C dL_plan_71 (by decide) ⟨by omega, by omega⟩ (fun c71 => ?_) (fun c71 => ?_)
        · omega
        · skip
          refine dp_aload_n C dL_plan_74 rfl ?_
          refine dp_bipush C dL_plan_75 (by decide) ?_
          refine dp_iload C dL_plan_77 rfl ?_
          refine dp_iinc C dL_plan_79 rfl ?_
          dsimp only [List.set]
          refine dp_iadd C dL_plan_82 ?_
          refine dp_iload_n C dL_plan_83 rfl ?_
          refine dp_iload_n C dL_plan_84 rfl ?_
          refine dp_iadd C dL_plan_85 ?_
          refine dp_ast_l C 0 (by omega) (by decide) dL_plan_86 ?_
          refine dp_goto (tgt := 217) C dL_plan_87 (by decide) ?_
          refine dp_iconst C dL_plan_217 ?_
          refine dp_istore C dL_plan_218 (Nat.le_of_ble_eq_true rfl) ?_
          dsimp only [List.set]
          refine dp_iload C dL_plan_220 rfl ?_
          refine dp_iload C dL_plan_222 rfl ?_
          refine dp_icmp_ge (tgt := 249) C dL_plan_224 (by decide) ⟨by omega, by omega⟩ ⟨by omega, by omega⟩ (fun c224 => ?_) (fun c224 => ?_)
          · omega
          · skip
            refine dp_iload_n C dL_plan_227 rfl ?_
            refine dp_aload_n C dL_plan_228 rfl ?_
            refine dp_bipush C dL_plan_229 (by decide) ?_
            refine dp_iload C dL_plan_231 rfl ?_
            refine dp_iadd C dL_plan_233 ?_
            refine dp_ald_l C 0 (by omega) (by decide) dL_plan_234 ?_
            simp (decide := true) only [u2_ap, reduceIte]
            refine dp_cSi C (c_L_within C.2.2.1 l ha ⟨by omega, by omega⟩) gL_plan_L_within rfl yyL_within rfl ⟨Nat.le_of_ble_eq_true rfl, Nat.le_of_ble_eq_true rfl⟩ rfl (Nat.le_of_ble_eq_true rfl) rfl ⟨Nat.zero_le _, Nat.zero_le _⟩ dL_plan_235 (fun x235 M235 h235 => ?_)
            obtain ⟨rfl, rfl⟩ := h235
            refine dp_ifz_ne (tgt := 243) C dL_plan_238 (by decide) (fun c238 => ?_) (fun c238 => ?_)
            · skip
              refine dp_iinc C dL_plan_243 rfl ?_
              dsimp only [List.set]
              refine dp_goto (tgt := 220) C dL_plan_246 (by decide) ?_
              refine dp_iload C dL_plan_220 rfl ?_
              refine dp_iload C dL_plan_222 rfl ?_
              refine dp_icmp_ge (tgt := 249) C dL_plan_224 (by decide) ⟨by omega, by omega⟩ ⟨by omega, by omega⟩ (fun c224 => ?_) (fun c224 => ?_)
              · skip
                refine dp_iload C dL_plan_249 rfl ?_
                refine dp_iret C hret dL_plan_251 ?_
                have eT : wyT (V (a + 3)) to = 0 := by
                  rw [hT9]
                  (repeat' split) <;> omega
                have eE : wyE (V (a + 3)) to = to + V (a + 3) 0 := by
                  unfold wyE
                  (repeat' split) <;> omega
                have eU : wyU (V (a + 3)) to (V 1 0) = V (a + 3) 3 := by
                  unfold wyU
                  rw [eT]
                  (repeat' split) <;> omega
                have eN : lgN (V (a + 3)) to = 1 := by
                  rw [hN9, eT]
                  (repeat' split) <;> omega
                have eP : ¬ wyP (a + 3) (V (a + 3)) to (V 1 0) = 0 := by
                  unfold wyP
                  rw [eU, eE, dp_b_t ⟨⟨by omega, by omega⟩, by omega, by omega⟩]
                  decide
                refine ⟨by unfold plN; rw [if_neg eP, eN]; (try omega), _, rfl, ?_, fun q => ?_, fun q => ?_⟩
                · exact lgs.rf.u
                · simp (decide := true) only [u2_ap, reduceIte]
                  exact eE.symm
                · omega
              · omega
            · skip
              refine dp_iconst C dL_plan_241 ?_
              refine dp_iret C hret dL_plan_242 ?_
              have eT : wyT (V (a + 3)) to = 0 := by
                rw [hT9]
                (repeat' split) <;> omega
              have eE : wyE (V (a + 3)) to = to + V (a + 3) 0 := by
                unfold wyE
                (repeat' split) <;> omega
              have eU : wyU (V (a + 3)) to (V 1 0) = V (a + 3) 3 := by
                unfold wyU
                rw [eT]
                (repeat' split) <;> omega
              have eN : lgN (V (a + 3)) to = 1 := by
                rw [hN9, eT]
                (repeat' split) <;> omega
              have eP : wyP (a + 3) (V (a + 3)) to (V 1 0) = 0 := by
                unfold wyP
                rw [eU, eE]
                exact dp_b_f (fun q => by omega)
              refine ⟨by unfold plN; rw [if_pos eP], _, rfl, ?_, fun q => ?_, fun q => ?_⟩
              · exact lgs.rf.u
              · simp (decide := true) only [u2_ap, reduceIte]
                exact eE.symm
              · omega
      · skip
        refine dp_iload C dL_plan_53 rfl ?_
        refine dp_iload_n C dL_plan_55 rfl ?_
        refine dp_icmp_le (tgt := 63) C dL_plan_56 (by decide) ⟨by omega, by omega⟩ ⟨by omega, by omega⟩ (fun c56 => ?_) (fun c56 => ?_)
        · skip
          refine dp_iconst C dL_plan_63 ?_
          refine dp_istore C dL_plan_64 (Nat.le_of_ble_eq_true rfl) ?_
          dsimp only [List.set]
          refine dp_iconst C dL_plan_66 ?_
          refine dp_istore C dL_plan_67 (Nat.le_of_ble_eq_true rfl) ?_
          dsimp only [List.set]
          refine dp_iload C dL_plan_69 rfl ?_
          refine dp_if_eq (tgt := 90) C dL_plan_71 (by decide) ⟨by omega, by omega⟩ (fun c71 => ?_) (fun c71 => ?_)
          · omega
          · skip
            refine dp_aload_n C dL_plan_74 rfl ?_
            refine dp_bipush C dL_plan_75 (by decide) ?_
            refine dp_iload C dL_plan_77 rfl ?_
            refine dp_iinc C dL_plan_79 rfl ?_
            dsimp only [List.set]
            refine dp_iadd C dL_plan_82 ?_
            refine dp_iload_n C dL_plan_83 rfl ?_
            refine dp_iload_n C dL_plan_84 rfl ?_
            refine dp_iadd C dL_plan_85 ?_
            refine dp_ast_l C 0 (by omega) (by decide) dL_plan_86 ?_
            refine dp_goto (tgt := 217) C dL_plan_87 (by decide) ?_
            refine dp_iconst C dL_plan_217 ?_
            refine dp_istore C dL_plan_218 (Nat.le_of_ble_eq_true rfl) ?_
            dsimp only [List.set]
            refine dp_iload C dL_plan_220 rfl ?_
            refine dp_iload C dL_plan_222 rfl ?_
            refine dp_icmp_ge (tgt := 249) C dL_plan_224 (by decide) ⟨by omega, by omega⟩ ⟨by omega, by omega⟩ (fun c224 => ?_) (fun c224 => ?_)
            · omega
            · skip
              refine dp_iload_n C dL_plan_227 rfl ?_
              refine dp_aload_n C dL_plan_228 rfl ?_
              refine dp_bipush C dL_plan_229 (by decide) ?_
              refine dp_iload C dL_plan_231 rfl ?_
              refine dp_iadd C dL_plan_233 ?_
              refine dp_ald_l C 0 (by omega) (by decide) dL_plan_234 ?_
              simp (decide := true) only [u2_ap, reduceIte]
              refine dp_cSi C (c_L_within C.2.2.1 l ha ⟨by omega, by omega⟩) gL_plan_L_within rfl yyL_within rfl ⟨Nat.le_of_ble_eq_true rfl, Nat.le_of_ble_eq_true rfl⟩ rfl (Nat.le_of_ble_eq_true rfl) rfl ⟨Nat.zero_le _, Nat.zero_le _⟩ dL_plan_235 (fun x235 M235 h235 => ?_)
              obtain ⟨rfl, rfl⟩ := h235
              refine dp_ifz_ne (tgt := 243) C dL_plan_238 (by decide) (fun c238 => ?_) (fun c238 => ?_)
              · skip
                refine dp_iinc C dL_plan_243 rfl ?_
                dsimp only [List.set]
                refine dp_goto (tgt := 220) C dL_plan_246 (by decide) ?_
                refine dp_iload C dL_plan_220 rfl ?_
                refine dp_iload C dL_plan_222 rfl ?_
                refine dp_icmp_ge (tgt := 249) C dL_plan_224 (by decide) ⟨by omega, by omega⟩ ⟨by omega, by omega⟩ (fun c224 => ?_) (fun c224 => ?_)
                · skip
                  refine dp_iload C dL_plan_249 rfl ?_
                  refine dp_iret C hret dL_plan_251 ?_
                  have eT : wyT (V (a + 3)) to = 0 := by
                    rw [hT9]
                    (repeat' split) <;> omega
                  have eE : wyE (V (a + 3)) to = to + V (a + 3) 0 := by
                    unfold wyE
                    (repeat' split) <;> omega
                  have eU : wyU (V (a + 3)) to (V 1 0) = V (a + 3) 3 := by
                    unfold wyU
                    rw [eT]
                    (repeat' split) <;> omega
                  have eN : lgN (V (a + 3)) to = 1 := by
                    rw [hN9, eT]
                    (repeat' split) <;> omega
                  have eP : ¬ wyP (a + 3) (V (a + 3)) to (V 1 0) = 0 := by
                    unfold wyP
                    rw [eU, eE, dp_b_t ⟨⟨by omega, by omega⟩, by omega, by omega⟩]
                    decide
                  refine ⟨by unfold plN; rw [if_neg eP, eN]; (try omega), _, rfl, ?_, fun q => ?_, fun q => ?_⟩
                  · exact lgs.rf.u
                  · simp (decide := true) only [u2_ap, reduceIte]
                    exact eE.symm
                  · omega
                · omega
              · skip
                refine dp_iconst C dL_plan_241 ?_
                refine dp_iret C hret dL_plan_242 ?_
                have eT : wyT (V (a + 3)) to = 0 := by
                  rw [hT9]
                  (repeat' split) <;> omega
                have eE : wyE (V (a + 3)) to = to + V (a + 3) 0 := by
                  unfold wyE
                  (repeat' split) <;> omega
                have eU : wyU (V (a + 3)) to (V 1 0) = V (a + 3) 3 := by
                  unfold wyU
                  rw [eT]
                  (repeat' split) <;> omega
                have eN : lgN (V (a + 3)) to = 1 := by
                  rw [hN9, eT]
                  (repeat' split) <;> omega
                have eP : wyP (a + 3) (V (a + 3)) to (V 1 0) = 0 := by
                  unfold wyP
                  rw [eU, eE]
                  exact dp_b_f (fun q => by omega)
                refine ⟨by unfold plN; rw [if_pos eP], _, rfl, ?_, fun q => ?_, fun q => ?_⟩
                · exact lgs.rf.u
                · simp (decide := true) only [u2_ap, reduceIte]
                  exact eE.symm
                · omega
        · omega
theorem yyL_length : yL_length.cls ≠ "java/lang/invoke/MethodHandle" ∧ yL_length.cls ≠ "java/lang/invoke/VarHandle" ∧ (parseMethodDescriptor yL_length.desc).map (fun d => d.parameters.length) = some 3 := by decide +kernel
set_option maxHeartbeats 4000000 in
set_option maxRecDepth 100000 in
theorem c_L_length {E : dp_E} (hE : dp_OK E) (l : Launch) {M : dp_M} {V X : dp_V} {a : Nat} (ha : a < 2) (hi : ivA (a + 3) (V (a + 3))) (ho : 0 ≤ V 1 0 ∧ V 1 0 ≤ 500) {to : Int} (hto : -40000 ≤ to ∧ to ≤ 40000) : dp_met E l yL_length wsL_length 2 50 [.ref (eAd E 8 0), .int (dp_I ((a : Int))), .int (dp_I to)] (dN M V X) (dp_qi E (fun y M1 => y = lnN (a + 3) (V (a + 3)) to (V 1 0) ∧ ∃ X', M1 = dN M V X' ∧ lgs X X')) := by
  refine dp_of (cc := cL_length) (nL := 7) (own := RL) (ret := some (.int)) (by decide +kernel) rfl rfl hE (by simp [Value.category]) (Nat.le_of_ble_eq_true rfl) ?_
  intro p e s m below meth co C hret
  show dp_G _ _ _ _ _ _ _ _ _ _ _ _ _ _ _ _ _ [some (.ref (eAd E 8 0)), some (.int (dp_I ((a : Int)))), some (.int (dp_I to)), none, none, none, none] _
  have hb := @ax_bd (a + 3)
  have bU := wyU_bd hi hto ho
  have bE := wyE_bd hi hto
  have bT := @wyT_b (V (a + 3)) to
  have bL := wyL_bd hi hto ho
  have hi2 := hi
  unfold ivA at hi2
  refine dp_aload_n C dL_length_0 rfl ?_
  refine dp_iload_n C dL_length_1 rfl ?_
  refine dp_iload_n C dL_length_2 rfl ?_
  refine dp_cSi C (c_L_plan C.2.2.1 l ha hi ho hto) gL_length_L_plan rfl yyL_plan rfl ⟨Nat.le_of_ble_eq_true rfl, Nat.le_of_ble_eq_true rfl⟩ rfl (Nat.le_of_ble_eq_true rfl) rfl ⟨Nat.zero_le _, Nat.zero_le _⟩ dL_length_3 (fun x3 M3 h3 => ?_)
  obtain ⟨e3, X1, rfl, hX0, hX1, hX2⟩ := h3
  have hle := @lgN_e (a + 3) (V (a + 3)) to (V 1 0) hi
  have hpl : plN (a + 3) (V (a + 3)) to (V 1 0) = (if wyP (a + 3) (V (a + 3)) to (V 1 0) = 0 then -1 else lgN (V (a + 3)) to) := rfl
  have hpb : -1 ≤ x3 ∧ x3 ≤ 2 := by rw [e3, hpl]; split <;> omega
  rcases (by omega : x3 = -1 ∨ x3 = 0 ∨ x3 = 1 ∨ x3 = 2) with hx | hx | hx | hx
  · skip
    subst hx
    have eP : wyP (a + 3) (V (a + 3)) to (V 1 0) = 0 := by
      rw [hpl] at e3
      split at e3
      · assumption
      · omega
    refine dp_istore_n C dL_length_6 (Nat.le_of_ble_eq_true rfl) ?_
    dsimp only [List.set]
    refine dp_aload_n C dL_length_7 rfl ?_
    refine dp_bipush C dL_length_8 (by decide) ?_
    refine dp_bipush C dL_length_10 (by decide) ?_
    refine dp_iload_n C dL_length_12 rfl ?_
    refine dp_imul C dL_length_13 ?_
    refine dp_iadd C dL_length_14 ?_
    refine dp_ald_g C (8 + 7 * a + 3) (c9 := a + 3) (k9 := 3) (by omega) (by omega) (dp_ceA (by omega) (by decide)).1 (dp_ceA (by omega) (by decide)).2 dL_length_15 ?_
    refine dp_istore C dL_length_16 (Nat.le_of_ble_eq_true rfl) ?_
    dsimp only [List.set]
    refine dp_iconst C dL_length_18 ?_
    refine dp_istore C dL_length_19 (Nat.le_of_ble_eq_true rfl) ?_
    dsimp only [List.set]
    refine dp_iconst C dL_length_21 ?_
    refine dp_istore C dL_length_22 (Nat.le_of_ble_eq_true rfl) ?_
    dsimp only [List.set]
    refine dp_iload C dL_length_24 rfl ?_
    refine dp_iload_n C dL_length_26 rfl ?_
    refine dp_icmp_ge (tgt := 63) C dL_length_27 (by decide) ⟨by omega, by omega⟩ ⟨by omega, by omega⟩ (fun c27 => ?_) (fun c27 => ?_)
    · skip
      refine dp_iload_n C dL_length_63 rfl ?_
      refine dp_if_ge (tgt := 71) C dL_length_64 (by decide) ⟨by omega, by omega⟩ (fun c64 => ?_) (fun c64 => ?_)
      · omega
      · skip
        refine dp_iconst C dL_length_67 ?_
        refine dp_goto (tgt := 73) C dL_length_68 (by decide) ?_
        refine dp_iret C hret dL_length_73 ?_
        exact ⟨by unfold lnN; rw [if_pos eP], _, rfl, hX0⟩
    · omega
  · skip
    subst hx
    have eP : ¬ wyP (a + 3) (V (a + 3)) to (V 1 0) = 0 := fun q => by rw [hpl, if_pos q] at e3; omega
    have eN : lgN (V (a + 3)) to = 0 := by rw [hpl, if_neg eP] at e3; omega
    refine dp_istore_n C dL_length_6 (Nat.le_of_ble_eq_true rfl) ?_
    dsimp only [List.set]
    refine dp_aload_n C dL_length_7 rfl ?_
    refine dp_bipush C dL_length_8 (by decide) ?_
    refine dp_bipush C dL_length_10 (by decide) ?_
    refine dp_iload_n C dL_length_12 rfl ?_
    refine dp_imul C dL_length_13 ?_
    refine dp_iadd C dL_length_14 ?_
    refine dp_ald_g C (8 + 7 * a + 3) (c9 := a + 3) (k9 := 3) (by omega) (by omega) (dp_ceA (by omega) (by decide)).1 (dp_ceA (by omega) (by decide)).2 dL_length_15 ?_
    refine dp_istore C dL_length_16 (Nat.le_of_ble_eq_true rfl) ?_
    dsimp only [List.set]
    refine dp_iconst C dL_length_18 ?_
    refine dp_istore C dL_length_19 (Nat.le_of_ble_eq_true rfl) ?_
    dsimp only [List.set]
    refine dp_iconst C dL_length_21 ?_
    refine dp_istore C dL_length_22 (Nat.le_of_ble_eq_true rfl) ?_
    dsimp only [List.set]
    refine dp_iload C dL_length_24 rfl ?_
    refine dp_iload_n C dL_length_26 rfl ?_
    refine dp_icmp_ge (tgt := 63) C dL_length_27 (by decide) ⟨by omega, by omega⟩ ⟨by omega, by omega⟩ (fun c27 => ?_) (fun c27 => ?_)
    · skip
      refine dp_iload_n C dL_length_63 rfl ?_
      refine dp_if_ge (tgt := 71) C dL_length_64 (by decide) ⟨by omega, by omega⟩ (fun c64 => ?_) (fun c64 => ?_)
      · skip
        refine dp_iload C dL_length_71 rfl ?_
        refine dp_iret C hret dL_length_73 ?_
        refine ⟨?_, _, rfl, hX0⟩
        unfold lnN wyL
        rw [if_neg eP]
        unfold ab
        (repeat' split) <;> omega
      · omega
    · omega
  · skip
    subst hx
    have eP : ¬ wyP (a + 3) (V (a + 3)) to (V 1 0) = 0 := fun q => by rw [hpl, if_pos q] at e3; omega
    have eN : lgN (V (a + 3)) to = 1 := by rw [hpl, if_neg eP] at e3; omega
    have q1 := hX1 eN
    refine dp_istore_n C dL_length_6 (Nat.le_of_ble_eq_true rfl) ?_
    dsimp only [List.set]
    refine dp_aload_n C dL_length_7 rfl ?_
    refine dp_bipush C dL_length_8 (by decide) ?_
    refine dp_bipush C dL_length_10 (by decide) ?_
    refine dp_iload_n C dL_length_12 rfl ?_
    refine dp_imul C dL_length_13 ?_
    refine dp_iadd C dL_length_14 ?_
    refine dp_ald_g C (8 + 7 * a + 3) (c9 := a + 3) (k9 := 3) (by omega) (by omega) (dp_ceA (by omega) (by decide)).1 (dp_ceA (by omega) (by decide)).2 dL_length_15 ?_
    refine dp_istore C dL_length_16 (Nat.le_of_ble_eq_true rfl) ?_
    dsimp only [List.set]
    refine dp_iconst C dL_length_18 ?_
    refine dp_istore C dL_length_19 (Nat.le_of_ble_eq_true rfl) ?_
    dsimp only [List.set]
    refine dp_iconst C dL_length_21 ?_
    refine dp_istore C dL_length_22 (Nat.le_of_ble_eq_true rfl) ?_
    dsimp only [List.set]
    refine dp_iload C dL_length_24 rfl ?_
    refine dp_iload_n C dL_length_26 rfl ?_
    refine dp_icmp_ge (tgt := 63) C dL_length_27 (by decide) ⟨by omega, by omega⟩ ⟨by omega, by omega⟩ (fun c27 => ?_) (fun c27 => ?_)
    · omega
    · skip
      refine dp_iload C dL_length_30 rfl ?_
      refine dp_aload_n C dL_length_32 rfl ?_
      refine dp_bipush C dL_length_33 (by decide) ?_
      refine dp_iload C dL_length_35 rfl ?_
      refine dp_iadd C dL_length_37 ?_
      refine dp_ald_l C 0 (by omega) (by decide) dL_length_38 ?_
      refine dp_iload C dL_length_39 rfl ?_
      refine dp_isub C dL_length_41 ?_
      refine dp_cSi C (c_L_size C.2.2.1 l ⟨by omega, by omega⟩) gL_length_L_size rfl yyL_size rfl ⟨Nat.le_of_ble_eq_true rfl, Nat.le_of_ble_eq_true rfl⟩ rfl (Nat.le_of_ble_eq_true rfl) rfl ⟨Nat.zero_le _, Nat.zero_le _⟩ dL_length_42 (fun x42 M42 h42 => ?_)
      obtain ⟨rfl, rfl⟩ := h42
      refine dp_iadd C dL_length_45 ?_
      refine dp_istore C dL_length_46 (Nat.le_of_ble_eq_true rfl) ?_
      dsimp only [List.set]
      refine dp_aload_n C dL_length_48 rfl ?_
      refine dp_bipush C dL_length_49 (by decide) ?_
      refine dp_iload C dL_length_51 rfl ?_
      refine dp_iadd C dL_length_53 ?_
      refine dp_ald_l C 0 (by omega) (by decide) dL_length_54 ?_
      refine dp_istore C dL_length_55 (Nat.le_of_ble_eq_true rfl) ?_
      dsimp only [List.set]
      refine dp_iinc C dL_length_57 rfl ?_
      dsimp only [List.set]
      refine dp_goto (tgt := 24) C dL_length_60 (by decide) ?_
      refine dp_iload C dL_length_24 rfl ?_
      refine dp_iload_n C dL_length_26 rfl ?_
      refine dp_icmp_ge (tgt := 63) C dL_length_27 (by decide) ⟨by omega, by omega⟩ ⟨by omega, by omega⟩ (fun c27 => ?_) (fun c27 => ?_)
      · skip
        refine dp_iload_n C dL_length_63 rfl ?_
        refine dp_if_ge (tgt := 71) C dL_length_64 (by decide) ⟨by omega, by omega⟩ (fun c64 => ?_) (fun c64 => ?_)
        · skip
          refine dp_iload C dL_length_71 rfl ?_
          refine dp_iret C hret dL_length_73 ?_
          refine ⟨?_, _, rfl, hX0⟩
          unfold lnN wyL
          rw [if_neg eP]
          unfold ab
          (repeat' split) <;> omega
        · omega
      · omega
  · skip
    subst hx
    have eP : ¬ wyP (a + 3) (V (a + 3)) to (V 1 0) = 0 := fun q => by rw [hpl, if_pos q] at e3; omega
    have eN : lgN (V (a + 3)) to = 2 := by rw [hpl, if_neg eP] at e3; omega
    have q2 := hX2 eN
    refine dp_istore_n C dL_length_6 (Nat.le_of_ble_eq_true rfl) ?_
    dsimp only [List.set]
    refine dp_aload_n C dL_length_7 rfl ?_
    refine dp_bipush C dL_length_8 (by decide) ?_
    refine dp_bipush C dL_length_10 (by decide) ?_
    refine dp_iload_n C dL_length_12 rfl ?_
    refine dp_imul C dL_length_13 ?_
    refine dp_iadd C dL_length_14 ?_
    refine dp_ald_g C (8 + 7 * a + 3) (c9 := a + 3) (k9 := 3) (by omega) (by omega) (dp_ceA (by omega) (by decide)).1 (dp_ceA (by omega) (by decide)).2 dL_length_15 ?_
    refine dp_istore C dL_length_16 (Nat.le_of_ble_eq_true rfl) ?_
    dsimp only [List.set]
    refine dp_iconst C dL_length_18 ?_
    refine dp_istore C dL_length_19 (Nat.le_of_ble_eq_true rfl) ?_
    dsimp only [List.set]
    refine dp_iconst C dL_length_21 ?_
    refine dp_istore C dL_length_22 (Nat.le_of_ble_eq_true rfl) ?_
    dsimp only [List.set]
    refine dp_iload C dL_length_24 rfl ?_
    refine dp_iload_n C dL_length_26 rfl ?_
    refine dp_icmp_ge (tgt := 63) C dL_length_27 (by decide) ⟨by omega, by omega⟩ ⟨by omega, by omega⟩ (fun c27 => ?_) (fun c27 => ?_)
    · omega
    · skip
      refine dp_iload C dL_length_30 rfl ?_
      refine dp_aload_n C dL_length_32 rfl ?_
      refine dp_bipush C dL_length_33 (by decide) ?_
      refine dp_iload C dL_length_35 rfl ?_
      refine dp_iadd C dL_length_37 ?_
      refine dp_ald_l C 0 (by omega) (by decide) dL_length_38 ?_
      refine dp_iload C dL_length_39 rfl ?_
      refine dp_isub C dL_length_41 ?_
      refine dp_cSi C (c_L_size C.2.2.1 l ⟨by omega, by omega⟩) gL_length_L_size rfl yyL_size rfl ⟨Nat.le_of_ble_eq_true rfl, Nat.le_of_ble_eq_true rfl⟩ rfl (Nat.le_of_ble_eq_true rfl) rfl ⟨Nat.zero_le _, Nat.zero_le _⟩ dL_length_42 (fun x42 M42 h42 => ?_)
      obtain ⟨rfl, rfl⟩ := h42
      refine dp_iadd C dL_length_45 ?_
      refine dp_istore C dL_length_46 (Nat.le_of_ble_eq_true rfl) ?_
      dsimp only [List.set]
      refine dp_aload_n C dL_length_48 rfl ?_
      refine dp_bipush C dL_length_49 (by decide) ?_
      refine dp_iload C dL_length_51 rfl ?_
      refine dp_iadd C dL_length_53 ?_
      refine dp_ald_l C 0 (by omega) (by decide) dL_length_54 ?_
      refine dp_istore C dL_length_55 (Nat.le_of_ble_eq_true rfl) ?_
      dsimp only [List.set]
      refine dp_iinc C dL_length_57 rfl ?_
      dsimp only [List.set]
      refine dp_goto (tgt := 24) C dL_length_60 (by decide) ?_
      refine dp_iload C dL_length_24 rfl ?_
      refine dp_iload_n C dL_length_26 rfl ?_
      refine dp_icmp_ge (tgt := 63) C dL_length_27 (by decide) ⟨by omega, by omega⟩ ⟨by omega, by omega⟩ (fun c27 => ?_) (fun c27 => ?_)
      · omega
      · skip
        refine dp_iload C dL_length_30 rfl ?_
        refine dp_aload_n C dL_length_32 rfl ?_
        refine dp_bipush C dL_length_33 (by decide) ?_
        refine dp_iload C dL_length_35 rfl ?_
        refine dp_iadd C dL_length_37 ?_
        refine dp_ald_l C 1 (by omega) (by decide) dL_length_38 ?_
        refine dp_iload C dL_length_39 rfl ?_
        refine dp_isub C dL_length_41 ?_
        refine dp_cSi C (c_L_size C.2.2.1 l ⟨by omega, by omega⟩) gL_length_L_size rfl yyL_size rfl ⟨Nat.le_of_ble_eq_true rfl, Nat.le_of_ble_eq_true rfl⟩ rfl (Nat.le_of_ble_eq_true rfl) rfl ⟨Nat.zero_le _, Nat.zero_le _⟩ dL_length_42 (fun x42 M42 h42 => ?_)
        obtain ⟨rfl, rfl⟩ := h42
        refine dp_iadd C dL_length_45 ?_
        refine dp_istore C dL_length_46 (Nat.le_of_ble_eq_true rfl) ?_
        dsimp only [List.set]
        refine dp_aload_n C dL_length_48 rfl ?_
        refine dp_bipush C dL_length_49 (by decide) ?_
        refine dp_iload C dL_length_51 rfl ?_
        refine dp_iadd C dL_length_53 ?_
        refine dp_ald_l C 1 (by omega) (by decide) dL_length_54 ?_
        refine dp_istore C dL_length_55 (Nat.le_of_ble_eq_true rfl) ?_
        dsimp only [List.set]
        refine dp_iinc C dL_length_57 rfl ?_
        dsimp only [List.set]
        refine dp_goto (tgt := 24) C dL_length_60 (by decide) ?_
        refine dp_iload C dL_length_24 rfl ?_
        refine dp_iload_n C dL_length_26 rfl ?_
        refine dp_icmp_ge (tgt := 63) C dL_length_27 (by decide) ⟨by omega, by omega⟩ ⟨by omega, by omega⟩ (fun c27 => ?_) (fun c27 => ?_)
        · skip
          refine dp_iload_n C dL_length_63 rfl ?_
          refine dp_if_ge (tgt := 71) C dL_length_64 (by decide) ⟨by omega, by omega⟩ (fun c64 => ?_) (fun c64 => ?_)
          · skip
            refine dp_iload C dL_length_71 rfl ?_
            refine dp_iret C hret dL_length_73 ?_
            refine ⟨?_, _, rfl, hX0⟩
            unfold lnN wyL
            rw [if_neg eP]
            unfold ab
            (repeat' split) <;> omega
          · omega
        · omega
theorem yyL_time : yL_time.cls ≠ "java/lang/invoke/MethodHandle" ∧ yL_time.cls ≠ "java/lang/invoke/VarHandle" ∧ (parseMethodDescriptor yL_time.desc).map (fun d => d.parameters.length) = some 3 := by decide +kernel
set_option maxHeartbeats 4000000 in
set_option maxRecDepth 100000 in
theorem c_L_time {E : dp_E} (hE : dp_OK E) (l : Launch) {M : dp_M} {V X : dp_V} {a : Nat} (ha : a < 2) (hi : ivA (a + 3) (V (a + 3))) (ho : 0 ≤ V 1 0 ∧ V 1 0 ≤ 500) {to : Int} (hto : -40000 ≤ to ∧ to ≤ 40000) (hp : ¬ wyP (a + 3) (V (a + 3)) to (V 1 0) = 0) : dp_met E l yL_time wsL_time 3 76 [.ref (eAd E 8 0), .int (dp_I ((a : Int))), .int (dp_I to)] (dN M V X) (dp_qi E (fun y M1 => y = wyM (V (a + 3)) to (V 1 0) ∧ ∃ X', M1 = dN M V X' ∧ lgs X X')) := by
  refine dp_of (cc := cL_time) (nL := 5) (own := RL) (ret := some (.int)) (by decide +kernel) rfl rfl hE (by simp [Value.category]) (Nat.le_of_ble_eq_true rfl) ?_
  intro p e s m below meth co C hret
  show dp_G _ _ _ _ _ _ _ _ _ _ _ _ _ _ _ _ _ [some (.ref (eAd E 8 0)), some (.int (dp_I ((a : Int)))), some (.int (dp_I to)), none, none] _
  have hb := @ax_bd (a + 3)
  have bU := wyU_bd hi hto ho
  have bE := wyE_bd hi hto
  have bT := @wyT_b (V (a + 3)) to
  have bL := wyL_bd hi hto ho
  have hi2 := hi
  unfold ivA at hi2
  have r0 := Int.emod_nonneg (wyL (V (a + 3)) to (V 1 0)) (show V (a + 3) 2 ≠ 0 by omega)
  have r1 := Int.emod_lt_of_pos (wyL (V (a + 3)) to (V 1 0)) (show 0 < V (a + 3) 2 by omega)
  have eu := dv_up bL.1 (show 0 < V (a + 3) 2 by omega)
  have el : lnN (a + 3) (V (a + 3)) to (V 1 0) = wyL (V (a + 3)) to (V 1 0) := by unfold lnN; rw [if_neg hp]
  refine dp_aload_n C dL_time_0 rfl ?_
  refine dp_iload_n C dL_time_1 rfl ?_
  refine dp_iload_n C dL_time_2 rfl ?_
  refine dp_cSi C (c_L_length C.2.2.1 l ha hi ho hto) gL_time_L_length rfl yyL_length rfl ⟨Nat.le_of_ble_eq_true rfl, Nat.le_of_ble_eq_true rfl⟩ rfl (Nat.le_of_ble_eq_true rfl) rfl ⟨Nat.zero_le _, Nat.zero_le _⟩ dL_time_3 (fun x3 M3 h3 => ?_)
  obtain ⟨rfl, X1, rfl, hs1⟩ := h3
  rw [el]
  refine dp_istore_n C dL_time_6 (Nat.le_of_ble_eq_true rfl) ?_
  dsimp only [List.set]
  refine dp_aload_n C dL_time_7 rfl ?_
  refine dp_bipush C dL_time_8 (by decide) ?_
  refine dp_bipush C dL_time_10 (by decide) ?_
  refine dp_iload_n C dL_time_12 rfl ?_
  refine dp_imul C dL_time_13 ?_
  refine dp_iadd C dL_time_14 ?_
  refine dp_ald_g C (8 + 7 * a + 2) (c9 := a + 3) (k9 := 2) (by omega) (by omega) (dp_ceA (by omega) (by decide)).1 (dp_ceA (by omega) (by decide)).2 dL_time_15 ?_
  refine dp_istore C dL_time_16 (Nat.le_of_ble_eq_true rfl) ?_
  dsimp only [List.set]
  refine dp_iload_n C dL_time_18 rfl ?_
  refine dp_iload C dL_time_19 rfl ?_
  refine dp_idiv C ⟨by omega, by omega, by omega, by omega⟩ dL_time_21 ?_
  refine dp_iload_n C dL_time_22 rfl ?_
  refine dp_iload C dL_time_23 rfl ?_
  refine dp_irem C ⟨by omega, by omega, by omega, by omega⟩ dL_time_25 ?_
  refine dp_if_le (tgt := 33) C dL_time_26 (by decide) ⟨by omega, by omega⟩ (fun c26 => ?_) (fun c26 => ?_)
  · skip
    refine dp_iconst C dL_time_33 ?_
    refine dp_iadd C dL_time_34 ?_
    refine dp_iret C hret dL_time_35 ?_
    refine ⟨?_, _, rfl, hs1⟩
    unfold wyM
    rw [← eu]
    first | rw [if_pos (by omega)] | rw [if_neg (by omega)]
  · skip
    refine dp_iconst C dL_time_29 ?_
    refine dp_goto (tgt := 34) C dL_time_30 (by decide) ?_
    refine dp_iadd C dL_time_34 ?_
    refine dp_iret C hret dL_time_35 ?_
    refine ⟨?_, _, rfl, hs1⟩
    unfold wyM
    rw [← eu]
    first | rw [if_pos (by omega)] | rw [if_neg (by omega)]
theorem yyL_day : yL_day.cls ≠ "java/lang/invoke/MethodHandle" ∧ yL_day.cls ≠ "java/lang/invoke/VarHandle" ∧ (parseMethodDescriptor yL_day.desc).map (fun d => d.parameters.length) = some 1 := by decide +kernel
set_option maxHeartbeats 4000000 in
set_option maxRecDepth 100000 in
theorem c_L_day {E : dp_E} (hE : dp_OK E) (l : Launch) {M : dp_M} {V X : dp_V} (hv : ivS V) : dp_met E l yL_day wsL_day 0 0 [.ref (eAd E 8 0)] (dN M V X) (dp_qi E (fun y M1 => y = kdF V ∧ M1 = dN M V X)) := by
  refine dp_of (cc := cL_day) (nL := 2) (own := RL) (ret := some (.int)) (by decide +kernel) rfl rfl hE (by simp [Value.category]) (Nat.le_of_ble_eq_true rfl) ?_
  intro p e s m below meth co C hret
  show dp_G _ _ _ _ _ _ _ _ _ _ _ _ _ _ _ _ _ [some (.ref (eAd E 8 0)), none] _
  have hg := guF_bd hv
  have h0 := hv.1
  have h1 := hv.2.1
  refine dp_aload_n C dL_day_0 rfl ?_
  refine dp_bipush C dL_day_1 (by decide) ?_
  refine dp_aload_n C dL_day_3 rfl ?_
  refine dp_iconst C dL_day_4 ?_
  refine dp_ald_g C 4 (c9 := 0) (k9 := 0) (by omega) (by decide) rfl rfl dL_day_5 ?_
  refine dp_sipush C dL_day_6 (by decide) ?_
  refine dp_idiv C ⟨by omega, by omega, by omega, by omega⟩ dL_day_9 ?_
  refine dp_iadd C dL_day_10 ?_
  refine dp_ald_g C (22 + (V 0 0 / 1440).toNat) (c9 := 2) (k9 := (V 0 0 / 1440).toNat) (by omega) (by omega) (dp_ceU (by omega)).1 (dp_ceU (by omega)).2 dL_day_11 ?_
  rw [show V 2 (V 0 0 / 1440).toNat = guF V from rfl]
  refine dp_istore_n C dL_day_12 (Nat.le_of_ble_eq_true rfl) ?_
  dsimp only [List.set]
  refine dp_iload_n C dL_day_13 rfl ?_
  refine dp_aload_n C dL_day_14 rfl ?_
  refine dp_iconst C dL_day_15 ?_
  refine dp_ald_g C 3 (c9 := 1) (k9 := 3) (by omega) (by decide) rfl rfl dL_day_16 ?_
  refine dp_icmp_lt (tgt := 24) C dL_day_17 (by decide) ⟨by omega, by omega⟩ ⟨by omega, by omega⟩ (fun c17 => ?_) (fun c17 => ?_)
  · skip
    refine dp_iload_n C dL_day_24 rfl ?_
    refine dp_aload_n C dL_day_25 rfl ?_
    refine dp_iconst C dL_day_26 ?_
    refine dp_ald_g C 2 (c9 := 1) (k9 := 2) (by omega) (by decide) rfl rfl dL_day_27 ?_
    refine dp_icmp_lt (tgt := 35) C dL_day_28 (by decide) ⟨by omega, by omega⟩ ⟨by omega, by omega⟩ (fun c28 => ?_) (fun c28 => ?_)
    · skip
      refine dp_iconst C dL_day_35 ?_
      refine dp_iret C hret dL_day_36 ?_
      refine ⟨?_, rfl⟩
      unfold kdF
      (repeat' split) <;> first | rfl | omega
    · skip
      refine dp_iconst C dL_day_31 ?_
      refine dp_goto (tgt := 36) C dL_day_32 (by decide) ?_
      refine dp_iret C hret dL_day_36 ?_
      refine ⟨?_, rfl⟩
      unfold kdF
      (repeat' split) <;> first | rfl | omega
  · skip
    refine dp_iconst C dL_day_20 ?_
    refine dp_goto (tgt := 36) C dL_day_21 (by decide) ?_
    refine dp_iret C hret dL_day_36 ?_
    refine ⟨?_, rfl⟩
    unfold kdF
    (repeat' split) <;> first | rfl | omega
theorem mv_up {V : dp_V} {c : Nat} {x y z : Int} : u2 (u2 (u2 V c 5 x) c 4 y) c 3 z = u2 (u2 (u2 V c 3 z) c 5 x) c 4 y := by
  funext c' k
  simp only [u2_ap]
  (repeat' split) <;> first | rfl | omega
theorem mv_dn {V : dp_V} {c : Nat} {x y z : Int} : u2 (u2 (u2 V c 6 x) c 4 y) c 3 z = u2 (u2 (u2 V c 3 z) c 6 x) c 4 y := by
  funext c' k
  simp only [u2_ap]
  (repeat' split) <;> first | rfl | omega
theorem mvV_hi {V : dp_V} {c : Nat} {p x y : Int} (h : V c 3 ≤ p) (hx : x = V c 5 + (p - V c 3)) (hy : y = mn (V c 4 + (p - V c 3)) (V c 0)) : u2 (u2 (u2 V c 5 x) c 4 y) c 3 p = mvV V c p := by
  subst hx
  subst hy
  unfold mvV
  rw [if_neg (by omega), mv_up]
theorem mvV_lo {V : dp_V} {c : Nat} {p x y : Int} (hi : ivA c (V c)) (h : p ≤ V c 3) (hx : x = V c 6 + (V c 3 - p)) (hy : y = mx (V c 4 + (p - V c 3)) 0) : u2 (u2 (u2 V c 6 x) c 4 y) c 3 p = mvV V c p := by
  by_cases q : p < V c 3
  · subst hx
    subst hy
    unfold mvV
    rw [if_pos (by omega), mv_dn, show V c 6 + (V c 3 - p) = V c 6 - (p - V c 3) by omega]
  · have e : p = V c 3 := by omega
    subst e
    unfold ivA at hi
    have hi2 : ivA c (V c) := hi
    rw [mvV_same hi2, show x = V c 6 by omega, show y = V c 4 by rw [hy]; unfold mx; split <;> omega, u2_id, u2_id, u2_id]
theorem yyL_goes : yL_goes.cls ≠ "java/lang/invoke/MethodHandle" ∧ yL_goes.cls ≠ "java/lang/invoke/VarHandle" ∧ (parseMethodDescriptor yL_goes.desc).map (fun d => d.parameters.length) = some 3 := by decide +kernel
set_option maxHeartbeats 4000000 in
set_option maxRecDepth 100000 in
theorem c_L_goes {E : dp_E} (hE : dp_OK E) (l : Launch) {M : dp_M} {V X : dp_V} {a : Nat} (ha : a < 2) (hi : ivA (a + 3) (V (a + 3))) {to : Int} (hto : axL (a + 3) ≤ to ∧ to ≤ axH (a + 3)) : dp_met E l yL_goes wsL_goes 0 0 [.ref (eAd E 8 0), .int (dp_I ((a : Int))), .int (dp_I to)] (dN M V X) (dp_qv E (fun M1 => M1 = dN M (mvV V (a + 3) to) X)) := by
  refine dp_of (cc := cL_goes) (nL := 4) (own := RL) (ret := none) (by decide +kernel) rfl rfl hE (by simp [Value.category]) (Nat.le_of_ble_eq_true rfl) ?_
  intro p e s m below meth co C hret
  show dp_G _ _ _ _ _ _ _ _ _ _ _ _ _ _ _ _ _ [some (.ref (eAd E 8 0)), some (.int (dp_I ((a : Int)))), some (.int (dp_I to)), none] _
  have hb := @ax_bd (a + 3)
  have hi2 := hi
  unfold ivA at hi2
  refine dp_bipush C dL_goes_0 (by decide) ?_
  refine dp_bipush C dL_goes_2 (by decide) ?_
  refine dp_iload_n C dL_goes_4 rfl ?_
  refine dp_imul C dL_goes_5 ?_
  refine dp_iadd C dL_goes_6 ?_
  refine dp_istore_n C dL_goes_7 (Nat.le_of_ble_eq_true rfl) ?_
  dsimp only [List.set]
  refine dp_iload_n C dL_goes_8 rfl ?_
  refine dp_aload_n C dL_goes_9 rfl ?_
  refine dp_iload_n C dL_goes_10 rfl ?_
  refine dp_iconst C dL_goes_11 ?_
  refine dp_iadd C dL_goes_12 ?_
  refine dp_ald_g C (8 + 7 * a + 3) (c9 := a + 3) (k9 := 3) (by omega) (by omega) (dp_ceA (by omega) (by decide)).1 (dp_ceA (by omega) (by decide)).2 dL_goes_13 ?_
  refine dp_icmp_le (tgt := 78) C dL_goes_14 (by decide) ⟨by omega, by omega⟩ ⟨by omega, by omega⟩ (fun c14 => ?_) (fun c14 => ?_)
  · skip
    refine dp_aload_n C dL_goes_78 rfl ?_
    refine dp_iload_n C dL_goes_79 rfl ?_
    refine dp_bipush C dL_goes_80 (by decide) ?_
    refine dp_iadd C dL_goes_82 ?_
    refine dp_dup2 C dL_goes_83 rfl rfl ?_
    refine dp_ald_g C (8 + 7 * a + 6) (c9 := a + 3) (k9 := 6) (by omega) (by omega) (dp_ceA (by omega) (by decide)).1 (dp_ceA (by omega) (by decide)).2 dL_goes_84 ?_
    refine dp_aload_n C dL_goes_85 rfl ?_
    refine dp_iload_n C dL_goes_86 rfl ?_
    refine dp_iconst C dL_goes_87 ?_
    refine dp_iadd C dL_goes_88 ?_
    refine dp_ald_g C (8 + 7 * a + 3) (c9 := a + 3) (k9 := 3) (by omega) (by omega) (dp_ceA (by omega) (by decide)).1 (dp_ceA (by omega) (by decide)).2 dL_goes_89 ?_
    refine dp_iload_n C dL_goes_90 rfl ?_
    refine dp_isub C dL_goes_91 ?_
    refine dp_iadd C dL_goes_92 ?_
    refine dp_ast_g C (8 + 7 * a + 6) (c9 := a + 3) (k9 := 6) (by omega) (by omega) (dp_ceA (by omega) (by decide)).1 (dp_ceA (by omega) (by decide)).2 dL_goes_93 ?_
    refine dp_aload_n C dL_goes_94 rfl ?_
    refine dp_iload_n C dL_goes_95 rfl ?_
    refine dp_iconst C dL_goes_96 ?_
    refine dp_iadd C dL_goes_97 ?_
    refine dp_aload_n C dL_goes_98 rfl ?_
    refine dp_iload_n C dL_goes_99 rfl ?_
    refine dp_iconst C dL_goes_100 ?_
    refine dp_iadd C dL_goes_101 ?_
    refine dp_ald_g C (8 + 7 * a + 4) (c9 := a + 3) (k9 := 4) (by omega) (by omega) (dp_ceA (by omega) (by decide)).1 (dp_ceA (by omega) (by decide)).2 dL_goes_102 ?_
    simp (decide := true) only [u2_same, u1, reduceIte]
    refine dp_aload_n C dL_goes_103 rfl ?_
    refine dp_iload_n C dL_goes_104 rfl ?_
    refine dp_iconst C dL_goes_105 ?_
    refine dp_iadd C dL_goes_106 ?_
    refine dp_ald_g C (8 + 7 * a + 3) (c9 := a + 3) (k9 := 3) (by omega) (by omega) (dp_ceA (by omega) (by decide)).1 (dp_ceA (by omega) (by decide)).2 dL_goes_107 ?_
    simp (decide := true) only [u2_same, u1, reduceIte]
    refine dp_iload_n C dL_goes_108 rfl ?_
    refine dp_isub C dL_goes_109 ?_
    refine dp_isub C dL_goes_110 ?_
    refine dp_if_ge (tgt := 118) C dL_goes_111 (by decide) ⟨by omega, by omega⟩ (fun c111 => ?_) (fun c111 => ?_)
    · skip
      refine dp_aload_n C dL_goes_118 rfl ?_
      refine dp_iload_n C dL_goes_119 rfl ?_
      refine dp_iconst C dL_goes_120 ?_
      refine dp_iadd C dL_goes_121 ?_
      refine dp_ald_g C (8 + 7 * a + 4) (c9 := a + 3) (k9 := 4) (by omega) (by omega) (dp_ceA (by omega) (by decide)).1 (dp_ceA (by omega) (by decide)).2 dL_goes_122 ?_
      simp (decide := true) only [u2_same, u1, reduceIte]
      refine dp_aload_n C dL_goes_123 rfl ?_
      refine dp_iload_n C dL_goes_124 rfl ?_
      refine dp_iconst C dL_goes_125 ?_
      refine dp_iadd C dL_goes_126 ?_
      refine dp_ald_g C (8 + 7 * a + 3) (c9 := a + 3) (k9 := 3) (by omega) (by omega) (dp_ceA (by omega) (by decide)).1 (dp_ceA (by omega) (by decide)).2 dL_goes_127 ?_
      simp (decide := true) only [u2_same, u1, reduceIte]
      refine dp_iload_n C dL_goes_128 rfl ?_
      refine dp_isub C dL_goes_129 ?_
      refine dp_isub C dL_goes_130 ?_
      refine dp_ast_g C (8 + 7 * a + 4) (c9 := a + 3) (k9 := 4) (by omega) (by omega) (dp_ceA (by omega) (by decide)).1 (dp_ceA (by omega) (by decide)).2 dL_goes_131 ?_
      refine dp_aload_n C dL_goes_132 rfl ?_
      refine dp_iload_n C dL_goes_133 rfl ?_
      refine dp_iconst C dL_goes_134 ?_
      refine dp_iadd C dL_goes_135 ?_
      refine dp_iload_n C dL_goes_136 rfl ?_
      refine dp_ast_g C (8 + 7 * a + 3) (c9 := a + 3) (k9 := 3) (by omega) (by omega) (dp_ceA (by omega) (by decide)).1 (dp_ceA (by omega) (by decide)).2 dL_goes_137 ?_
      refine dp_vret C hret dL_goes_138 ?_
      rw [mvV_lo hi (by omega) (by omega) (by unfold mx; split <;> omega)]
    · skip
      refine dp_iconst C dL_goes_114 ?_
      refine dp_goto (tgt := 131) C dL_goes_115 (by decide) ?_
      refine dp_ast_g C (8 + 7 * a + 4) (c9 := a + 3) (k9 := 4) (by omega) (by omega) (dp_ceA (by omega) (by decide)).1 (dp_ceA (by omega) (by decide)).2 dL_goes_131 ?_
      refine dp_aload_n C dL_goes_132 rfl ?_
      refine dp_iload_n C dL_goes_133 rfl ?_
      refine dp_iconst C dL_goes_134 ?_
      refine dp_iadd C dL_goes_135 ?_
      refine dp_iload_n C dL_goes_136 rfl ?_
      refine dp_ast_g C (8 + 7 * a + 3) (c9 := a + 3) (k9 := 3) (by omega) (by omega) (dp_ceA (by omega) (by decide)).1 (dp_ceA (by omega) (by decide)).2 dL_goes_137 ?_
      refine dp_vret C hret dL_goes_138 ?_
      rw [mvV_lo hi (by omega) (by omega) (by unfold mx; split <;> omega)]
  · skip
    refine dp_aload_n C dL_goes_17 rfl ?_
    refine dp_iload_n C dL_goes_18 rfl ?_
    refine dp_iconst C dL_goes_19 ?_
    refine dp_iadd C dL_goes_20 ?_
    refine dp_dup2 C dL_goes_21 rfl rfl ?_
    refine dp_ald_g C (8 + 7 * a + 5) (c9 := a + 3) (k9 := 5) (by omega) (by omega) (dp_ceA (by omega) (by decide)).1 (dp_ceA (by omega) (by decide)).2 dL_goes_22 ?_
    refine dp_iload_n C dL_goes_23 rfl ?_
    refine dp_aload_n C dL_goes_24 rfl ?_
    refine dp_iload_n C dL_goes_25 rfl ?_
    refine dp_iconst C dL_goes_26 ?_
    refine dp_iadd C dL_goes_27 ?_
    refine dp_ald_g C (8 + 7 * a + 3) (c9 := a + 3) (k9 := 3) (by omega) (by omega) (dp_ceA (by omega) (by decide)).1 (dp_ceA (by omega) (by decide)).2 dL_goes_28 ?_
    refine dp_isub C dL_goes_29 ?_
    refine dp_iadd C dL_goes_30 ?_
    refine dp_ast_g C (8 + 7 * a + 5) (c9 := a + 3) (k9 := 5) (by omega) (by omega) (dp_ceA (by omega) (by decide)).1 (dp_ceA (by omega) (by decide)).2 dL_goes_31 ?_
    refine dp_aload_n C dL_goes_32 rfl ?_
    refine dp_iload_n C dL_goes_33 rfl ?_
    refine dp_iconst C dL_goes_34 ?_
    refine dp_iadd C dL_goes_35 ?_
    refine dp_aload_n C dL_goes_36 rfl ?_
    refine dp_iload_n C dL_goes_37 rfl ?_
    refine dp_iconst C dL_goes_38 ?_
    refine dp_iadd C dL_goes_39 ?_
    refine dp_ald_g C (8 + 7 * a + 4) (c9 := a + 3) (k9 := 4) (by omega) (by omega) (dp_ceA (by omega) (by decide)).1 (dp_ceA (by omega) (by decide)).2 dL_goes_40 ?_
    simp (decide := true) only [u2_same, u1, reduceIte]
    refine dp_iload_n C dL_goes_41 rfl ?_
    refine dp_iadd C dL_goes_42 ?_
    refine dp_aload_n C dL_goes_43 rfl ?_
    refine dp_iload_n C dL_goes_44 rfl ?_
    refine dp_iconst C dL_goes_45 ?_
    refine dp_iadd C dL_goes_46 ?_
    refine dp_ald_g C (8 + 7 * a + 3) (c9 := a + 3) (k9 := 3) (by omega) (by omega) (dp_ceA (by omega) (by decide)).1 (dp_ceA (by omega) (by decide)).2 dL_goes_47 ?_
    simp (decide := true) only [u2_same, u1, reduceIte]
    refine dp_isub C dL_goes_48 ?_
    refine dp_aload_n C dL_goes_49 rfl ?_
    refine dp_iload_n C dL_goes_50 rfl ?_
    refine dp_ald_g C (8 + 7 * a + 0) (c9 := a + 3) (k9 := 0) (by omega) (by omega) (dp_ceA (by omega) (by decide)).1 (dp_ceA (by omega) (by decide)).2 dL_goes_51 ?_
    simp (decide := true) only [u2_same, u1, reduceIte]
    refine dp_icmp_le (tgt := 61) C dL_goes_52 (by decide) ⟨by omega, by omega⟩ ⟨by omega, by omega⟩ (fun c52 => ?_) (fun c52 => ?_)
    · skip
      refine dp_aload_n C dL_goes_61 rfl ?_
      refine dp_iload_n C dL_goes_62 rfl ?_
      refine dp_iconst C dL_goes_63 ?_
      refine dp_iadd C dL_goes_64 ?_
      refine dp_ald_g C (8 + 7 * a + 4) (c9 := a + 3) (k9 := 4) (by omega) (by omega) (dp_ceA (by omega) (by decide)).1 (dp_ceA (by omega) (by decide)).2 dL_goes_65 ?_
      simp (decide := true) only [u2_same, u1, reduceIte]
      refine dp_iload_n C dL_goes_66 rfl ?_
      refine dp_iadd C dL_goes_67 ?_
      refine dp_aload_n C dL_goes_68 rfl ?_
      refine dp_iload_n C dL_goes_69 rfl ?_
      refine dp_iconst C dL_goes_70 ?_
      refine dp_iadd C dL_goes_71 ?_
      refine dp_ald_g C (8 + 7 * a + 3) (c9 := a + 3) (k9 := 3) (by omega) (by omega) (dp_ceA (by omega) (by decide)).1 (dp_ceA (by omega) (by decide)).2 dL_goes_72 ?_
      simp (decide := true) only [u2_same, u1, reduceIte]
      refine dp_isub C dL_goes_73 ?_
      refine dp_ast_g C (8 + 7 * a + 4) (c9 := a + 3) (k9 := 4) (by omega) (by omega) (dp_ceA (by omega) (by decide)).1 (dp_ceA (by omega) (by decide)).2 dL_goes_74 ?_
      refine dp_goto (tgt := 132) C dL_goes_75 (by decide) ?_
      refine dp_aload_n C dL_goes_132 rfl ?_
      refine dp_iload_n C dL_goes_133 rfl ?_
      refine dp_iconst C dL_goes_134 ?_
      refine dp_iadd C dL_goes_135 ?_
      refine dp_iload_n C dL_goes_136 rfl ?_
      refine dp_ast_g C (8 + 7 * a + 3) (c9 := a + 3) (k9 := 3) (by omega) (by omega) (dp_ceA (by omega) (by decide)).1 (dp_ceA (by omega) (by decide)).2 dL_goes_137 ?_
      refine dp_vret C hret dL_goes_138 ?_
      rw [mvV_hi (by omega) (by omega) (by unfold mn; split <;> omega)]
    · skip
      refine dp_aload_n C dL_goes_55 rfl ?_
      refine dp_iload_n C dL_goes_56 rfl ?_
      refine dp_ald_g C (8 + 7 * a + 0) (c9 := a + 3) (k9 := 0) (by omega) (by omega) (dp_ceA (by omega) (by decide)).1 (dp_ceA (by omega) (by decide)).2 dL_goes_57 ?_
      simp (decide := true) only [u2_same, u1, reduceIte]
      refine dp_goto (tgt := 74) C dL_goes_58 (by decide) ?_
      refine dp_ast_g C (8 + 7 * a + 4) (c9 := a + 3) (k9 := 4) (by omega) (by omega) (dp_ceA (by omega) (by decide)).1 (dp_ceA (by omega) (by decide)).2 dL_goes_74 ?_
      refine dp_goto (tgt := 132) C dL_goes_75 (by decide) ?_
      refine dp_aload_n C dL_goes_132 rfl ?_
      refine dp_iload_n C dL_goes_133 rfl ?_
      refine dp_iconst C dL_goes_134 ?_
      refine dp_iadd C dL_goes_135 ?_
      refine dp_iload_n C dL_goes_136 rfl ?_
      refine dp_ast_g C (8 + 7 * a + 3) (c9 := a + 3) (k9 := 3) (by omega) (by omega) (dp_ceA (by omega) (by decide)).1 (dp_ceA (by omega) (by decide)).2 dL_goes_137 ?_
      refine dp_vret C hret dL_goes_138 ?_
      rw [mvV_hi (by omega) (by omega) (by unfold mn; split <;> omega)]
