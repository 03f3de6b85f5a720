/-! THE REFERENCE: V its numbers (region 9), X what else it holds (region 8: cell 0 states, typed, turn, turns, end, at, kept; 4 text; 5 parts) -/
/-- what a search for a way may leave behind -/
def scr (X X' : dp_V) : Prop := (∀ c, c ≠ 0 → X' c = X c) ∧ ∀ k, k ≠ 2 → k ≠ 3 → k ≠ 4 → X' 0 k = X 0 k
theorem scr.rf {X : dp_V} : scr X X := ⟨fun _ _ => rfl, fun _ _ _ _ => rfl⟩
theorem scr.tr {X Y Z : dp_V} (h : scr X Y) (h2 : scr Y Z) : scr X Z := ⟨fun c hc => (h2.1 c hc).trans (h.1 c hc), fun k a b c => (h2.2 k a b c).trans (h.2 k a b c)⟩
theorem scr.u {X Y : dp_V} {k : Nat} {x : Int} (h : scr X Y) (hk : k = 2 ∨ k = 3 ∨ k = 4) : scr X (u2 Y 0 k x) := ⟨fun c hc => (u2_ne hc).trans (h.1 c hc), fun j a b c => by
  rw [u2_same, u1_ne (by omega)]
  exact h.2 j a b c⟩
def fnX (V X : dp_V) (c : Nat) (to : Int) (X' : dp_V) : Prop := scr X X' ∧ X' 0 2 = wyU (V c) to (V 1 0) ∧ X' 0 3 = wyT (V c) to ∧ X' 0 4 = wyE (V c) to
theorem dp_ceG {d : Nat} (h : d < 31) : dp_ce (8 + d) = 2 := by
  unfold dp_ce
  rw [if_neg (by omega), if_neg (by omega), if_pos (by omega)]
theorem dp_slG {d : Nat} (h : d < 31) : dp_sl (8 + d) = d := by
  unfold dp_sl
  rw [if_neg (by omega), if_neg (by omega), if_pos (by omega)]
  omega
theorem axC2 {a : Nat} (h : a < 2) : a + 3 = 3 ∨ a + 3 = 4 := by omega
theorem mvV_same {V : dp_V} {c : Nat} (hi : ivA c (V c)) : mvV V c (V c 3) = V := by
  unfold ivA at hi
  unfold mvV
  rw [if_neg (by omega)]
  funext c' k
  rw [u2_ap, u2_ap, u2_ap]
  unfold mn
  by_cases h : c' = c
  · subst h
    rw [if_pos rfl, if_pos rfl, if_pos rfl]
    by_cases h4 : k = 4
    · subst h4
      rw [if_pos rfl, if_neg (by omega)]
      omega
    · rw [if_neg h4]
      by_cases h5 : k = 5
      · subst h5
        rw [if_pos rfl]
        omega
      · rw [if_neg h5]
        by_cases h3 : k = 3
        · subst h3
          rw [if_pos rfl]
        · rw [if_neg h3]
  · rw [if_neg h, if_neg h, if_neg h]
theorem yyX7_in : yX7_in.cls ≠ "java/lang/invoke/MethodHandle" ∧ yX7_in.cls ≠ "java/lang/invoke/VarHandle" ∧ (parseMethodDescriptor yX7_in.desc).map (fun d => d.parameters.length) = some 3 := by decide +kernel
set_option maxHeartbeats 4000000 in
set_option maxRecDepth 100000 in
theorem c_X7_in {E : dp_E} (hE : dp_OK E) (l : Launch) {M : dp_M} {x lo hi : Int} (hx : dp_R x) (hl : dp_R lo) (hh : dp_R hi) : dp_met E l yX7_in wsX7_in 0 0 [.int (dp_I x), .int (dp_I lo), .int (dp_I hi)] (M) (dp_qi E (fun y M1 => y = dp_b (lo ≤ x ∧ x ≤ hi) ∧ M1 = M)) := by
  refine dp_of (cc := cX7_in) (nL := 3) (own := RX7) (ret := some (.boolean)) (by decide +kernel) rfl rfl hE (by simp [Value.category]) (Nat.le_of_ble_eq_true rfl) ?_
  intro p e s m below meth co C hret
  show dp_G _ _ _ _ _ _ _ _ _ _ _ _ _ _ _ _ _ [some (.int (dp_I x)), some (.int (dp_I lo)), some (.int (dp_I hi))] _
  unfold dp_R at hx hl hh
  refine dp_iload_n C dX7_in_0 rfl ?_
  refine dp_iload_n C dX7_in_1 rfl ?_
  refine dp_icmp_lt (tgt := 14) C dX7_in_2 (by decide) ⟨by omega, by omega⟩ ⟨by omega, by omega⟩ (fun c2 => ?_) (fun c2 => ?_)
  · skip
    refine dp_iconst C dX7_in_14 ?_
    refine dp_zret C hret (by first | decide | exact dp_nb) dX7_in_15 ?_
    exact ⟨by first | exact (dp_b_t (by omega)).symm | exact (dp_b_f (by omega)).symm, rfl⟩
  · skip
    refine dp_iload_n C dX7_in_5 rfl ?_
    refine dp_iload_n C dX7_in_6 rfl ?_
    refine dp_icmp_gt (tgt := 14) C dX7_in_7 (by decide) ⟨by omega, by omega⟩ ⟨by omega, by omega⟩ (fun c7 => ?_) (fun c7 => ?_)
    · skip
      refine dp_iconst C dX7_in_14 ?_
      refine dp_zret C hret (by first | decide | exact dp_nb) dX7_in_15 ?_
      exact ⟨by first | exact (dp_b_t (by omega)).symm | exact (dp_b_f (by omega)).symm, rfl⟩
    · skip
      refine dp_iconst C dX7_in_10 ?_
      refine dp_goto (tgt := 15) C dX7_in_11 (by decide) ?_
      refine dp_zret C hret (by first | decide | exact dp_nb) dX7_in_15 ?_
      exact ⟨by first | exact (dp_b_t (by omega)).symm | exact (dp_b_f (by omega)).symm, rfl⟩
theorem yyX7_ofAxis : yX7_ofAxis.cls = RX7 ∧ yX7_ofAxis.cls ≠ "java/lang/invoke/MethodHandle" ∧ yX7_ofAxis.cls ≠ "java/lang/invoke/VarHandle" ∧ (parseMethodDescriptor yX7_ofAxis.desc).map (fun d => d.parameters.length) = some 2 := by decide +kernel
set_option maxHeartbeats 4000000 in
set_option maxRecDepth 100000 in
theorem c_X7_ofAxis {E : dp_E} (hE : dp_OK E) (l : Launch) {M : dp_M} {V X : dp_V} {a : Nat} (ha : a < 2) {k : Nat} (hk : k < 7) : dp_met E l yX7_ofAxis wsX7_ofAxis 0 0 [.ref (eAd E 8 0), .int (dp_I (a : Int)), .int (dp_I (k : Int))] (dN M V X) (dp_qi E (fun y M1 => y = V (a + 3) k ∧ M1 = dN M V X)) := by
  refine dp_of (cc := cX7_ofAxis) (nL := 3) (own := RX7) (ret := some (.int)) (by decide +kernel) rfl rfl hE (by simp [Value.category]) (Nat.le_of_ble_eq_true rfl) ?_
  intro p e s m below meth co C hret
  show dp_G _ _ _ _ _ _ _ _ _ _ _ _ _ _ _ _ _ [some (.ref (eAd E 8 0)), some (.int (dp_I (a : Int))), some (.int (dp_I (k : Int)))] _
  have hX7 : ∀ w ∈ u_ws RX7 TX7 12, w ∈ wsX7_ofAxis := fun w h => List.mem_cons_of_mem _ (List.mem_append_right _ (h))
  refine dp_aload_n C dX7_ofAxis_0 rfl ?_
  refine dp_getf C (k := 0) (dp_mM (by decide)) dp_xmo rfl hX7 (by decide) (List.mem_of_getElem? (i := 1) rfl) rfl dX7_ofAxis_1 ?_
  refine dp_bipush C dX7_ofAxis_4 (by decide) ?_
  refine dp_bipush C dX7_ofAxis_6 (by decide) ?_
  refine dp_iload_n C dX7_ofAxis_8 rfl ?_
  refine dp_imul C dX7_ofAxis_9 ?_
  refine dp_iadd C dX7_ofAxis_10 ?_
  refine dp_iload_n C dX7_ofAxis_11 rfl ?_
  refine dp_iadd C dX7_ofAxis_12 ?_
  refine dp_ald_ms C (j := 39 + 7 * a + k) ⟨by omega, by omega⟩ (by omega) (c9 := (a + 3)) (k9 := k) (dp_ceA ha hk) (dp_slA ha hk) dX7_ofAxis_13 ?_
  refine dp_iret C hret dX7_ofAxis_14 ?_
  exact ⟨rfl, rfl⟩
theorem yyX7_of : yX7_of.cls = RX7 ∧ yX7_of.cls ≠ "java/lang/invoke/MethodHandle" ∧ yX7_of.cls ≠ "java/lang/invoke/VarHandle" ∧ (parseMethodDescriptor yX7_of.desc).map (fun d => d.parameters.length) = some 2 := by decide +kernel
set_option maxHeartbeats 4000000 in
set_option maxRecDepth 100000 in
theorem c_X7_of {E : dp_E} (hE : dp_OK E) (l : Launch) {M : dp_M} {V X : dp_V} {t k : Nat} (ht : t < 10) (hk : k < 14) : dp_met E l yX7_of wsX7_of 0 0 [.ref (eAd E 8 0), .int (dp_I (t : Int)), .int (dp_I (k : Int))] (dN M V X) (dp_qi E (fun y M1 => y = V (t + 6) k ∧ M1 = dN M V X)) := by
  refine dp_of (cc := cX7_of) (nL := 3) (own := RX7) (ret := some (.int)) (by decide +kernel) rfl rfl hE (by simp [Value.category]) (Nat.le_of_ble_eq_true rfl) ?_
  intro p e s m below meth co C hret
  show dp_G _ _ _ _ _ _ _ _ _ _ _ _ _ _ _ _ _ [some (.ref (eAd E 8 0)), some (.int (dp_I (t : Int))), some (.int (dp_I (k : Int)))] _
  have hX7 : ∀ w ∈ u_ws RX7 TX7 12, w ∈ wsX7_of := fun w h => List.mem_cons_of_mem _ (List.mem_append_right _ (h))
  refine dp_aload_n C dX7_of_0 rfl ?_
  refine dp_getf C (k := 0) (dp_mM (by decide)) dp_xmo rfl hX7 (by decide) (List.mem_of_getElem? (i := 1) rfl) rfl dX7_of_1 ?_
  refine dp_bipush C dX7_of_4 (by decide) ?_
  refine dp_bipush C dX7_of_6 (by decide) ?_
  refine dp_iload_n C dX7_of_8 rfl ?_
  refine dp_imul C dX7_of_9 ?_
  refine dp_iadd C dX7_of_10 ?_
  refine dp_iload_n C dX7_of_11 rfl ?_
  refine dp_iadd C dX7_of_12 ?_
  refine dp_ald_ms C (j := 53 + 14 * t + k) ⟨by omega, by omega⟩ (by omega) (c9 := (t + 6)) (k9 := k) (dp_ceT hk) (dp_slT hk) dX7_of_13 ?_
  refine dp_iret C hret dX7_of_14 ?_
  exact ⟨rfl, rfl⟩
theorem yyX7_puts : yX7_puts.cls = RX7 ∧ yX7_puts.cls ≠ "java/lang/invoke/MethodHandle" ∧ yX7_puts.cls ≠ "java/lang/invoke/VarHandle" ∧ (parseMethodDescriptor yX7_puts.desc).map (fun d => d.parameters.length) = some 3 := by decide +kernel
set_option maxHeartbeats 4000000 in
set_option maxRecDepth 100000 in
theorem c_X7_puts {E : dp_E} (hE : dp_OK E) (l : Launch) {M : dp_M} {V X : dp_V} {t k : Nat} {x : Int} (ht : t < 10) (hk : k < 14) : dp_met E l yX7_puts wsX7_puts 0 0 [.ref (eAd E 8 0), .int (dp_I (t : Int)), .int (dp_I (k : Int)), .int (dp_I x)] (dN M V X) (dp_qv E (fun M1 => M1 = dN M (u2 V (t + 6) k x) X)) := by
  refine dp_of (cc := cX7_puts) (nL := 4) (own := RX7) (ret := none) (by decide +kernel) rfl rfl hE (by simp [Value.category]) (Nat.le_of_ble_eq_true rfl) ?_
  intro p e s m below meth co C hret
  show dp_G _ _ _ _ _ _ _ _ _ _ _ _ _ _ _ _ _ [some (.ref (eAd E 8 0)), some (.int (dp_I (t : Int))), some (.int (dp_I (k : Int))), some (.int (dp_I x))] _
  have hX7 : ∀ w ∈ u_ws RX7 TX7 12, w ∈ wsX7_puts := fun w h => List.mem_cons_of_mem _ (List.mem_append_right _ (h))
  refine dp_aload_n C dX7_puts_0 rfl ?_
  refine dp_getf C (k := 0) (dp_mM (by decide)) dp_xmo rfl hX7 (by decide) (List.mem_of_getElem? (i := 1) rfl) rfl dX7_puts_1 ?_
  refine dp_bipush C dX7_puts_4 (by decide) ?_
  refine dp_bipush C dX7_puts_6 (by decide) ?_
  refine dp_iload_n C dX7_puts_8 rfl ?_
  refine dp_imul C dX7_puts_9 ?_
  refine dp_iadd C dX7_puts_10 ?_
  refine dp_iload_n C dX7_puts_11 rfl ?_
  refine dp_iadd C dX7_puts_12 ?_
  refine dp_iload_n C dX7_puts_13 rfl ?_
  refine dp_ast_ms C (j := 53 + 14 * t + k) ⟨by omega, by omega⟩ (by omega) (c9 := (t + 6)) (k9 := k) (dp_ceT hk) (dp_slT hk) dX7_puts_14 ?_
  refine dp_vret C hret dX7_puts_15 ?_
  rfl
theorem yyX7_isTarget : yX7_isTarget.cls = RX7 ∧ yX7_isTarget.cls ≠ "java/lang/invoke/MethodHandle" ∧ yX7_isTarget.cls ≠ "java/lang/invoke/VarHandle" ∧ (parseMethodDescriptor yX7_isTarget.desc).map (fun d => d.parameters.length) = some 1 := by decide +kernel
set_option maxHeartbeats 4000000 in
set_option maxRecDepth 100000 in
theorem c_X7_isTarget {E : dp_E} (hE : dp_OK E) (l : Launch) {M : dp_M} {V X : dp_V} {x : Int} (hn : 0 ≤ V 0 3 ∧ V 0 3 ≤ 10) (hx : dp_R x) : dp_met E l yX7_isTarget wsX7_isTarget 0 0 [.ref (eAd E 8 0), .int (dp_I x)] (dN M V X) (dp_qi E (fun y M1 => y = dp_b (0 ≤ x ∧ x < V 0 3) ∧ M1 = dN M V X)) := by
  refine dp_of (cc := cX7_isTarget) (nL := 2) (own := RX7) (ret := some (.boolean)) (by decide +kernel) rfl rfl hE (by simp [Value.category]) (Nat.le_of_ble_eq_true rfl) ?_
  intro p e s m below meth co C hret
  show dp_G _ _ _ _ _ _ _ _ _ _ _ _ _ _ _ _ _ [some (.ref (eAd E 8 0)), some (.int (dp_I x))] _
  have hX7 : ∀ w ∈ u_ws RX7 TX7 12, w ∈ wsX7_isTarget := fun w h => List.mem_cons_of_mem _ (List.mem_append_right _ (h))
  unfold dp_R at hx
  refine dp_iload_n C dX7_isTarget_0 rfl ?_
  refine dp_if_lt (tgt := 19) C dX7_isTarget_1 (by decide) ⟨by omega, by omega⟩ (fun c1 => ?_) (fun c1 => ?_)
  · skip
    refine dp_iconst C dX7_isTarget_19 ?_
    refine dp_zret C hret (by first | decide | exact dp_nb) dX7_isTarget_20 ?_
    exact ⟨by first | exact (dp_b_t (by omega)).symm | exact (dp_b_f (by omega)).symm, rfl⟩
  · skip
    refine dp_iload_n C dX7_isTarget_4 rfl ?_
    refine dp_aload_n C dX7_isTarget_5 rfl ?_
    refine dp_getf C (k := 0) (dp_mM (by decide)) dp_xmo rfl hX7 (by decide) (List.mem_of_getElem? (i := 1) rfl) rfl dX7_isTarget_6 ?_
    refine dp_bipush C dX7_isTarget_9 (by decide) ?_
    refine dp_ald_ms C (j := 7) ⟨by omega, by omega⟩ rfl (c9 := 0) (k9 := 3) rfl rfl dX7_isTarget_11 ?_
    refine dp_icmp_ge (tgt := 19) C dX7_isTarget_12 (by decide) ⟨by omega, by omega⟩ ⟨by omega, by omega⟩ (fun c12 => ?_) (fun c12 => ?_)
    · skip
      refine dp_iconst C dX7_isTarget_19 ?_
      refine dp_zret C hret (by first | decide | exact dp_nb) dX7_isTarget_20 ?_
      exact ⟨by first | exact (dp_b_t (by omega)).symm | exact (dp_b_f (by omega)).symm, rfl⟩
    · skip
      refine dp_iconst C dX7_isTarget_15 ?_
      refine dp_goto (tgt := 20) C dX7_isTarget_16 (by decide) ?_
      refine dp_zret C hret (by first | decide | exact dp_nb) dX7_isTarget_20 ?_
      exact ⟨by first | exact (dp_b_t (by omega)).symm | exact (dp_b_f (by omega)).symm, rfl⟩
theorem yyX7_day : yX7_day.cls = RX7 ∧ yX7_day.cls ≠ "java/lang/invoke/MethodHandle" ∧ yX7_day.cls ≠ "java/lang/invoke/VarHandle" ∧ (parseMethodDescriptor yX7_day.desc).map (fun d => d.parameters.length) = some 0 := by decide +kernel
set_option maxHeartbeats 4000000 in
set_option maxRecDepth 100000 in
theorem c_X7_day {E : dp_E} (hE : dp_OK E) (l : Launch) {M : dp_M} {V X : dp_V} (hv : 0 ≤ V 0 0 ∧ V 0 0 ≤ 43200) : dp_met E l yX7_day wsX7_day 0 0 [.ref (eAd E 8 0)] (dN M V X) (dp_qi E (fun y M1 => y = V 0 0 / 1440 ∧ M1 = dN M V X)) := by
  refine dp_of (cc := cX7_day) (nL := 1) (own := RX7) (ret := some (.int)) (by decide +kernel) rfl rfl hE (by simp [Value.category]) (Nat.le_of_ble_eq_true rfl) ?_
  intro p e s m below meth co C hret
  show dp_G _ _ _ _ _ _ _ _ _ _ _ _ _ _ _ _ _ [some (.ref (eAd E 8 0))] _
  have hX7 : ∀ w ∈ u_ws RX7 TX7 12, w ∈ wsX7_day := fun w h => List.mem_cons_of_mem _ (List.mem_append_right _ (h))
  refine dp_aload_n C dX7_day_0 rfl ?_
  refine dp_getf C (k := 0) (dp_mM (by decide)) dp_xmo rfl hX7 (by decide) (List.mem_of_getElem? (i := 1) rfl) rfl dX7_day_1 ?_
  refine dp_iconst C dX7_day_4 ?_
  refine dp_ald_ms C (j := 4) ⟨by omega, by omega⟩ rfl (c9 := 0) (k9 := 0) rfl rfl dX7_day_5 ?_
  refine dp_sipush C dX7_day_6 (by decide) ?_
  refine dp_idiv C ⟨by omega, by omega, by omega, by omega⟩ dX7_day_9 ?_
  refine dp_iret C hret dX7_day_10 ?_
  exact ⟨rfl, rfl⟩
theorem yyX7_gustNow : yX7_gustNow.cls = RX7 ∧ yX7_gustNow.cls ≠ "java/lang/invoke/MethodHandle" ∧ yX7_gustNow.cls ≠ "java/lang/invoke/VarHandle" ∧ (parseMethodDescriptor yX7_gustNow.desc).map (fun d => d.parameters.length) = some 0 := by decide +kernel
set_option maxHeartbeats 4000000 in
set_option maxRecDepth 100000 in
theorem c_X7_gustNow {E : dp_E} (hE : dp_OK E) (l : Launch) {M : dp_M} {V X : dp_V} (hv : 0 ≤ V 0 0 ∧ V 0 0 ≤ 43200) : dp_met E l yX7_gustNow wsX7_gustNow 1 20 [.ref (eAd E 8 0)] (dN M V X) (dp_qi E (fun y M1 => y = guF V ∧ M1 = dN M V X)) := by
  refine dp_of (cc := cX7_gustNow) (nL := 1) (own := RX7) (ret := some (.int)) (by decide +kernel) rfl rfl hE (by simp [Value.category]) (Nat.le_of_ble_eq_true rfl) ?_
  intro p e s m below meth co C hret
  show dp_G _ _ _ _ _ _ _ _ _ _ _ _ _ _ _ _ _ [some (.ref (eAd E 8 0))] _
  have hX7 : ∀ w ∈ u_ws RX7 TX7 12, w ∈ wsX7_gustNow := fun w h => List.mem_cons_of_mem _ (List.mem_append_right _ (h))
  refine dp_aload_n C dX7_gustNow_0 rfl ?_
  refine dp_getf C (k := 0) (dp_mM (by decide)) dp_xmo rfl hX7 (by decide) (List.mem_of_getElem? (i := 1) rfl) rfl dX7_gustNow_1 ?_
  refine dp_bipush C dX7_gustNow_4 (by decide) ?_
  refine dp_aload_n C dX7_gustNow_6 rfl ?_
  refine dp_cVi C (c_X7_day C.2.2.1 l hv) gX7_gustNow_X7_day rfl (dp_mM (by decide)) dp_xmo rfl yyX7_day rfl ⟨Nat.le_of_ble_eq_true rfl, Nat.le_of_ble_eq_true rfl⟩ rfl (Nat.le_of_ble_eq_true rfl) rfl ⟨Nat.zero_le _, Nat.zero_le _⟩ dX7_gustNow_7 (fun x7 M7 h7 => ?_)
  obtain ⟨rfl, rfl⟩ := h7
  refine dp_iadd C dX7_gustNow_10 ?_
  refine dp_ald_ms C (j := 8 + (V 0 0 / 1440).toNat) ⟨by omega, by omega⟩ (by omega) (c9 := 2) (k9 := (V 0 0 / 1440).toNat) (dp_ceG (by omega)) (dp_slG (by omega)) dX7_gustNow_11 ?_
  refine dp_iret C hret dX7_gustNow_12 ?_
  exact ⟨rfl, rfl⟩
theorem yyX7_kindOfDay : yX7_kindOfDay.cls = RX7 ∧ yX7_kindOfDay.cls ≠ "java/lang/invoke/MethodHandle" ∧ yX7_kindOfDay.cls ≠ "java/lang/invoke/VarHandle" ∧ (parseMethodDescriptor yX7_kindOfDay.desc).map (fun d => d.parameters.length) = some 0 := by decide +kernel
set_option maxHeartbeats 4000000 in
set_option maxRecDepth 100000 in
theorem c_X7_kindOfDay {E : dp_E} (hE : dp_OK E) (l : Launch) {M : dp_M} {V X : dp_V} (hv : ivS V) : dp_met E l yX7_kindOfDay wsX7_kindOfDay 2 40 [.ref (eAd E 8 0)] (dN M V X) (dp_qi E (fun y M1 => y = kdF V ∧ M1 = dN M V X)) := by
  refine dp_of (cc := cX7_kindOfDay) (nL := 1) (own := RX7) (ret := some (.int)) (by decide +kernel) rfl rfl hE (by simp [Value.category]) (Nat.le_of_ble_eq_true rfl) ?_
  intro p e s m below meth co C hret
  show dp_G _ _ _ _ _ _ _ _ _ _ _ _ _ _ _ _ _ [some (.ref (eAd E 8 0))] _
  have hX7 : ∀ w ∈ u_ws RX7 TX7 12, w ∈ wsX7_kindOfDay := fun w h => List.mem_cons_of_mem _ (List.mem_append_right _ (h))
  have hg := guF_bd hv
  have h0 := hv.1
  have h1 := hv.2.1
  refine dp_aload_n C dX7_kindOfDay_0 rfl ?_
  refine dp_cVi C (c_X7_gustNow C.2.2.1 l h0) gX7_kindOfDay_X7_gustNow rfl (dp_mM (by decide)) dp_xmo rfl yyX7_gustNow rfl ⟨Nat.le_of_ble_eq_true rfl, Nat.le_of_ble_eq_true rfl⟩ rfl (Nat.le_of_ble_eq_true rfl) rfl ⟨Nat.zero_le _, Nat.zero_le _⟩ dX7_kindOfDay_1 (fun x1 M1 h1 => ?_)
  obtain ⟨rfl, rfl⟩ := h1
  refine dp_aload_n C dX7_kindOfDay_4 rfl ?_
  refine dp_getf C (k := 0) (dp_mM (by decide)) dp_xmo rfl hX7 (by decide) (List.mem_of_getElem? (i := 1) rfl) rfl dX7_kindOfDay_5 ?_
  refine dp_iconst C dX7_kindOfDay_8 ?_
  refine dp_ald_ms C (j := 3) ⟨by omega, by omega⟩ rfl (c9 := 1) (k9 := 3) rfl rfl dX7_kindOfDay_9 ?_
  refine dp_icmp_lt (tgt := 17) C dX7_kindOfDay_10 (by decide) ⟨by omega, by omega⟩ ⟨by omega, by omega⟩ (fun c10 => ?_) (fun c10 => ?_)
  · skip
    refine dp_aload_n C dX7_kindOfDay_17 rfl ?_
    refine dp_cVi C (c_X7_gustNow C.2.2.1 l h0) gX7_kindOfDay_X7_gustNow rfl (dp_mM (by decide)) dp_xmo rfl yyX7_gustNow rfl ⟨Nat.le_of_ble_eq_true rfl, Nat.le_of_ble_eq_true rfl⟩ rfl (Nat.le_of_ble_eq_true rfl) rfl ⟨Nat.zero_le _, Nat.zero_le _⟩ dX7_kindOfDay_18 (fun x18 M18 h18 => ?_)
    obtain ⟨rfl, rfl⟩ := h18
    refine dp_aload_n C dX7_kindOfDay_21 rfl ?_
    refine dp_getf C (k := 0) (dp_mM (by decide)) dp_xmo rfl hX7 (by decide) (List.mem_of_getElem? (i := 1) rfl) rfl dX7_kindOfDay_22 ?_
    refine dp_iconst C dX7_kindOfDay_25 ?_
    refine dp_ald_ms C (j := 2) ⟨by omega, by omega⟩ rfl (c9 := 1) (k9 := 2) rfl rfl dX7_kindOfDay_26 ?_
    refine dp_icmp_lt (tgt := 34) C dX7_kindOfDay_27 (by decide) ⟨by omega, by omega⟩ ⟨by omega, by omega⟩ (fun c27 => ?_) (fun c27 => ?_)
    · skip
      refine dp_iconst C dX7_kindOfDay_34 ?_
      refine dp_iret C hret dX7_kindOfDay_35 ?_
      refine ⟨?_, rfl⟩
      unfold kdF
      repeat (first | rw [if_neg (by omega)] | rw [if_pos (by omega)])
    · skip
      refine dp_iconst C dX7_kindOfDay_30 ?_
      refine dp_goto (tgt := 35) C dX7_kindOfDay_31 (by decide) ?_
      refine dp_iret C hret dX7_kindOfDay_35 ?_
      refine ⟨?_, rfl⟩
      unfold kdF
      repeat (first | rw [if_neg (by omega)] | rw [if_pos (by omega)])
  · skip
    refine dp_iconst C dX7_kindOfDay_13 ?_
    refine dp_goto (tgt := 35) C dX7_kindOfDay_14 (by decide) ?_
    refine dp_iret C hret dX7_kindOfDay_35 ?_
    refine ⟨?_, rfl⟩
    unfold kdF
    repeat (first | rw [if_neg (by omega)] | rw [if_pos (by omega)])
theorem yyX7_stands : yX7_stands.cls = RX7 ∧ yX7_stands.cls ≠ "java/lang/invoke/MethodHandle" ∧ yX7_stands.cls ≠ "java/lang/invoke/VarHandle" ∧ (parseMethodDescriptor yX7_stands.desc).map (fun d => d.parameters.length) = some 1 := by decide +kernel
set_option maxHeartbeats 4000000 in
set_option maxRecDepth 100000 in
theorem c_X7_stands {E : dp_E} (hE : dp_OK E) (l : Launch) {M : dp_M} {V X : dp_V} {a : Nat} (ha : a < 2) : dp_met E l yX7_stands wsX7_stands 1 22 [.ref (eAd E 8 0), .int (dp_I (a : Int))] (dN M V X) (dp_qi E (fun y M1 => y = V (a + 3) 3 - V (a + 3) 4 ∧ M1 = dN M V X)) := by
  refine dp_of (cc := cX7_stands) (nL := 2) (own := RX7) (ret := some (.int)) (by decide +kernel) rfl rfl hE (by simp [Value.category]) (Nat.le_of_ble_eq_true rfl) ?_
  intro p e s m below meth co C hret
  show dp_G _ _ _ _ _ _ _ _ _ _ _ _ _ _ _ _ _ [some (.ref (eAd E 8 0)), some (.int (dp_I (a : Int)))] _
  refine dp_aload_n C dX7_stands_0 rfl ?_
  refine dp_iload_n C dX7_stands_1 rfl ?_
  refine dp_iconst C dX7_stands_2 ?_
  refine dp_cVi C (c_X7_ofAxis C.2.2.1 l (k := 3) ha (by decide)) gX7_stands_X7_ofAxis rfl (dp_mM (by decide)) dp_xmo rfl yyX7_ofAxis rfl ⟨Nat.le_of_ble_eq_true rfl, Nat.le_of_ble_eq_true rfl⟩ rfl (Nat.le_of_ble_eq_true rfl) rfl ⟨Nat.zero_le _, Nat.zero_le _⟩ dX7_stands_3 (fun x3 M3 h3 => ?_)
  obtain ⟨rfl, rfl⟩ := h3
  refine dp_aload_n C dX7_stands_6 rfl ?_
  refine dp_iload_n C dX7_stands_7 rfl ?_
  refine dp_iconst C dX7_stands_8 ?_
  refine dp_cVi C (c_X7_ofAxis C.2.2.1 l (k := 4) ha (by decide)) gX7_stands_X7_ofAxis rfl (dp_mM (by decide)) dp_xmo rfl yyX7_ofAxis rfl ⟨Nat.le_of_ble_eq_true rfl, Nat.le_of_ble_eq_true rfl⟩ rfl (Nat.le_of_ble_eq_true rfl) rfl ⟨Nat.zero_le _, Nat.zero_le _⟩ dX7_stands_9 (fun x9 M9 h9 => ?_)
  obtain ⟨rfl, rfl⟩ := h9
  refine dp_isub C dX7_stands_12 ?_
  refine dp_iret C hret dX7_stands_13 ?_
  exact ⟨rfl, rfl⟩
theorem yyX7_finds : yX7_finds.cls = RX7 ∧ yX7_finds.cls ≠ "java/lang/invoke/MethodHandle" ∧ yX7_finds.cls ≠ "java/lang/invoke/VarHandle" ∧ (parseMethodDescriptor yX7_finds.desc).map (fun d => d.parameters.length) = some 2 := by decide +kernel
set_option maxHeartbeats 4000000 in
set_option maxRecDepth 100000 in
theorem c_X7_finds {E : dp_E} (hE : dp_OK E) (l : Launch) {M : dp_M} {V X : dp_V} {a : Nat} (ha : a < 2) (hi : ivA (a + 3) (V (a + 3))) (ho : 0 ≤ V 1 0 ∧ V 1 0 ≤ 500) {to : Int} (hto : -40000 ≤ to ∧ to ≤ 40000) : dp_met E l yX7_finds wsX7_finds 2 43 [.ref (eAd E 8 0), .int (dp_I (a : Int)), .int (dp_I to)] (dN M V X) (dp_qv E (fun M1 => ∃ X', M1 = dN M V X' ∧ fnX V X (a + 3) to X')) := by
  refine dp_of (cc := cX7_finds) (nL := 7) (own := RX7) (ret := none) (by decide +kernel) rfl rfl hE (by simp [Value.category]) (Nat.le_of_ble_eq_true rfl) ?_
  intro p e s m below meth co C hret
  show dp_G _ _ _ _ _ _ _ _ _ _ _ _ _ _ _ _ _ [some (.ref (eAd E 8 0)), some (.int (dp_I (a : Int))), some (.int (dp_I to)), none, none, none, none] _
  have hX7 : ∀ w ∈ u_ws RX7 TX7 12, w ∈ wsX7_finds := fun w h => List.mem_cons_of_mem _ (List.mem_append_right _ (h))
  unfold ivA at hi
  have hb := @ax_bd (a + 3)
  refine dp_aload_n C dX7_finds_0 rfl ?_
  refine dp_iload_n C dX7_finds_1 rfl ?_
  refine dp_cVi C (c_X7_stands C.2.2.1 l ha) gX7_finds_X7_stands rfl (dp_mM (by decide)) dp_xmo rfl yyX7_stands rfl ⟨Nat.le_of_ble_eq_true rfl, Nat.le_of_ble_eq_true rfl⟩ rfl (Nat.le_of_ble_eq_true rfl) rfl ⟨Nat.zero_le _, Nat.zero_le _⟩ dX7_finds_2 (fun x2 M2 h2 => ?_)
  obtain ⟨rfl, rfl⟩ := h2
  refine dp_istore_n C dX7_finds_5 (Nat.le_of_ble_eq_true rfl) ?_
  dsimp only [List.set]
  refine dp_aload_n C dX7_finds_6 rfl ?_
  refine dp_iload_n C dX7_finds_7 rfl ?_
  refine dp_iconst C dX7_finds_8 ?_
  refine dp_cVi C (c_X7_ofAxis C.2.2.1 l (k := 0) ha (by decide)) gX7_finds_X7_ofAxis rfl (dp_mM (by decide)) dp_xmo rfl yyX7_ofAxis rfl ⟨Nat.le_of_ble_eq_true rfl, Nat.le_of_ble_eq_true rfl⟩ rfl (Nat.le_of_ble_eq_true rfl) rfl ⟨Nat.zero_le _, Nat.zero_le _⟩ dX7_finds_9 (fun x9 M9 h9 => ?_)
  obtain ⟨rfl, rfl⟩ := h9
  refine dp_istore C dX7_finds_12 (Nat.le_of_ble_eq_true rfl) ?_
  dsimp only [List.set]
  refine dp_aload_n C dX7_finds_14 rfl ?_
  refine dp_iload_n C dX7_finds_15 rfl ?_
  refine dp_iconst C dX7_finds_16 ?_
  refine dp_cVi C (c_X7_ofAxis C.2.2.1 l (k := 4) ha (by decide)) gX7_finds_X7_ofAxis rfl (dp_mM (by decide)) dp_xmo rfl yyX7_ofAxis rfl ⟨Nat.le_of_ble_eq_true rfl, Nat.le_of_ble_eq_true rfl⟩ rfl (Nat.le_of_ble_eq_true rfl) rfl ⟨Nat.zero_le _, Nat.zero_le _⟩ dX7_finds_17 (fun x17 M17 h17 => ?_)
  obtain ⟨rfl, rfl⟩ := h17
  refine dp_istore C dX7_finds_20 (Nat.le_of_ble_eq_true rfl) ?_
  dsimp only [List.set]
  refine dp_aload_n C dX7_finds_22 rfl ?_
  refine dp_iload_n C dX7_finds_23 rfl ?_
  refine dp_iconst C dX7_finds_24 ?_
  refine dp_cVi C (c_X7_ofAxis C.2.2.1 l (k := 1) ha (by decide)) gX7_finds_X7_ofAxis rfl (dp_mM (by decide)) dp_xmo rfl yyX7_ofAxis rfl ⟨Nat.le_of_ble_eq_true rfl, Nat.le_of_ble_eq_true rfl⟩ rfl (Nat.le_of_ble_eq_true rfl) rfl ⟨Nat.zero_le _, Nat.zero_le _⟩ dX7_finds_25 (fun x25 M25 h25 => ?_)
  obtain ⟨rfl, rfl⟩ := h25
  refine dp_istore C dX7_finds_28 (Nat.le_of_ble_eq_true rfl) ?_
  dsimp only [List.set]
  refine dp_aload_n C dX7_finds_30 rfl ?_
  refine dp_iconst C dX7_finds_31 ?_
  refine dp_putM C  (k := 3) hX7 (by decide) (List.mem_of_getElem? (i := 1) rfl) rfl (tyX7_ok _ (by decide)) rfl rfl dX7_finds_32 ?_
  refine dp_aload_n C dX7_finds_35 rfl ?_
  refine dp_aload_n C dX7_finds_36 rfl ?_
  refine dp_iload_n C dX7_finds_37 rfl ?_
  refine dp_iconst C dX7_finds_38 ?_
  refine dp_cVi C (c_X7_ofAxis C.2.2.1 l (k := 3) ha (by decide)) gX7_finds_X7_ofAxis rfl (dp_mM (by decide)) dp_xmo rfl yyX7_ofAxis rfl ⟨Nat.le_of_ble_eq_true rfl, Nat.le_of_ble_eq_true rfl⟩ rfl (Nat.le_of_ble_eq_true rfl) rfl ⟨Nat.zero_le _, Nat.zero_le _⟩ dX7_finds_39 (fun x39 M39 h39 => ?_)
  obtain ⟨rfl, rfl⟩ := h39
  refine dp_putM C  (k := 4) hX7 (by decide) (List.mem_of_getElem? (i := 2) rfl) rfl (tyX7_ok _ (by decide)) rfl rfl dX7_finds_42 ?_
  refine dp_aload_n C dX7_finds_45 rfl ?_
  refine dp_aload_n C dX7_finds_46 rfl ?_
  refine dp_getf C (k := 8) (dp_mM (by decide)) dp_xmo rfl hX7 (by decide) (List.mem_of_getElem? (i := 2) rfl) rfl dX7_finds_47 ?_
  simp (decide := true) only [u2_ap, reduceIte]
  refine dp_putM C  (k := 2) hX7 (by decide) (List.mem_of_getElem? (i := 3) rfl) rfl (tyX7_ok _ (by decide)) rfl rfl dX7_finds_50 ?_
  refine dp_iload C dX7_finds_53 rfl ?_
  refine dp_iconst C dX7_finds_55 ?_
  refine dp_icmp_ne (tgt := 110) C dX7_finds_56 (by decide) ⟨by omega, by omega⟩ ⟨by omega, by omega⟩ (fun c56 => ?_) (fun c56 => ?_)
  · skip
    refine dp_iload_n C dX7_finds_110 rfl ?_
    refine dp_iload_n C dX7_finds_111 rfl ?_
    refine dp_icmp_ge (tgt := 126) C dX7_finds_112 (by decide) ⟨by omega, by omega⟩ ⟨by omega, by omega⟩ (fun c112 => ?_) (fun c112 => ?_)
    · skip
      refine dp_iload C dX7_finds_126 rfl ?_
      refine dp_if_ne (tgt := 151) C dX7_finds_128 (by decide) ⟨by omega, by omega⟩ (fun c128 => ?_) (fun c128 => ?_)
      · skip
        refine dp_iload_n C dX7_finds_151 rfl ?_
        refine dp_iload_n C dX7_finds_152 rfl ?_
        refine dp_icmp_gt (tgt := 163) C dX7_finds_153 (by decide) ⟨by omega, by omega⟩ ⟨by omega, by omega⟩ (fun c153 => ?_) (fun c153 => ?_)
        · skip
          refine dp_aload_n C dX7_finds_163 rfl ?_
          refine dp_iconst C dX7_finds_164 ?_
          refine dp_putM C  (k := 3) hX7 (by decide) (List.mem_of_getElem? (i := 1) rfl) rfl (tyX7_ok _ (by decide)) rfl rfl dX7_finds_165 ?_
          refine dp_aload_n C dX7_finds_168 rfl ?_
          refine dp_iload_n C dX7_finds_169 rfl ?_
          refine dp_aload_n C dX7_finds_170 rfl ?_
          refine dp_getf C (k := 0) (dp_mM (by decide)) dp_xmo rfl hX7 (by decide) (List.mem_of_getElem? (i := 4) rfl) rfl dX7_finds_171 ?_
          refine dp_iconst C dX7_finds_174 ?_
          refine dp_ald_ms C (j := 0) ⟨by omega, by omega⟩ rfl (c9 := 1) (k9 := 0) rfl rfl dX7_finds_175 ?_
          refine dp_isub C dX7_finds_176 ?_
          refine dp_putM C  (k := 2) hX7 (by decide) (List.mem_of_getElem? (i := 3) rfl) rfl (tyX7_ok _ (by decide)) rfl rfl dX7_finds_177 ?_
          refine dp_aload_n C dX7_finds_180 rfl ?_
          refine dp_iload_n C dX7_finds_181 rfl ?_
          refine dp_iload C dX7_finds_182 rfl ?_
          refine dp_iadd C dX7_finds_184 ?_
          refine dp_putM C  (k := 4) hX7 (by decide) (List.mem_of_getElem? (i := 2) rfl) rfl (tyX7_ok _ (by decide)) rfl rfl dX7_finds_185 ?_
          refine dp_vret C hret dX7_finds_188 ?_
          refine ⟨_, rfl, ?_, ?_, ?_, ?_⟩
          · (first | exact ((((((scr.rf.u (by decide)).u (by decide)).u (by decide)).u (by decide)).u (by decide)).u (by decide)) | exact (((((scr.rf.u (by decide)).u (by decide)).u (by decide)).u (by decide)).u (by decide)) | exact ((((scr.rf.u (by decide)).u (by decide)).u (by decide)).u (by decide)) | exact (((scr.rf.u (by decide)).u (by decide)).u (by decide)))
          · simp (decide := true) only [u2_ap, reduceIte]
            unfold wyU wyT
            (repeat' split) <;> first | rfl | omega
          · simp (decide := true) only [u2_ap, reduceIte]
            unfold wyT
            (repeat' split) <;> first | rfl | omega
          · simp (decide := true) only [u2_ap, reduceIte]
            unfold wyE
            (repeat' split) <;> first | rfl | omega
        · skip
          refine dp_iload C dX7_finds_156 rfl ?_
          refine dp_iload C dX7_finds_158 rfl ?_
          refine dp_icmp_ge (tgt := 188) C dX7_finds_160 (by decide) ⟨by omega, by omega⟩ ⟨by omega, by omega⟩ (fun c160 => ?_) (fun c160 => ?_)
          · skip
            refine dp_vret C hret dX7_finds_188 ?_
            refine ⟨_, rfl, ?_, ?_, ?_, ?_⟩
            · (first | exact ((((((scr.rf.u (by decide)).u (by decide)).u (by decide)).u (by decide)).u (by decide)).u (by decide)) | exact (((((scr.rf.u (by decide)).u (by decide)).u (by decide)).u (by decide)).u (by decide)) | exact ((((scr.rf.u (by decide)).u (by decide)).u (by decide)).u (by decide)) | exact (((scr.rf.u (by decide)).u (by decide)).u (by decide)))
            · simp (decide := true) only [u2_ap, reduceIte]
              unfold wyU wyT
              (repeat' split) <;> first | rfl | omega
            · simp (decide := true) only [u2_ap, reduceIte]
              unfold wyT
              (repeat' split) <;> first | rfl | omega
            · simp (decide := true) only [u2_ap, reduceIte]
              unfold wyE
              (repeat' split) <;> first | rfl | omega
          · skip
            refine dp_aload_n C dX7_finds_163 rfl ?_
            refine dp_iconst C dX7_finds_164 ?_
            refine dp_putM C  (k := 3) hX7 (by decide) (List.mem_of_getElem? (i := 1) rfl) rfl (tyX7_ok _ (by decide)) rfl rfl dX7_finds_165 ?_
            refine dp_aload_n C dX7_finds_168 rfl ?_
            refine dp_iload_n C dX7_finds_169 rfl ?_
            refine dp_aload_n C dX7_finds_170 rfl ?_
            refine dp_getf C (k := 0) (dp_mM (by decide)) dp_xmo rfl hX7 (by decide) (List.mem_of_getElem? (i := 4) rfl) rfl dX7_finds_171 ?_
            refine dp_iconst C dX7_finds_174 ?_
            refine dp_ald_ms C (j := 0) ⟨by omega, by omega⟩ rfl (c9 := 1) (k9 := 0) rfl rfl dX7_finds_175 ?_
            refine dp_isub C dX7_finds_176 ?_
            refine dp_putM C  (k := 2) hX7 (by decide) (List.mem_of_getElem? (i := 3) rfl) rfl (tyX7_ok _ (by decide)) rfl rfl dX7_finds_177 ?_
            refine dp_aload_n C dX7_finds_180 rfl ?_
            refine dp_iload_n C dX7_finds_181 rfl ?_
            refine dp_iload C dX7_finds_182 rfl ?_
            refine dp_iadd C dX7_finds_184 ?_
            refine dp_putM C  (k := 4) hX7 (by decide) (List.mem_of_getElem? (i := 2) rfl) rfl (tyX7_ok _ (by decide)) rfl rfl dX7_finds_185 ?_
            refine dp_vret C hret dX7_finds_188 ?_
            refine ⟨_, rfl, ?_, ?_, ?_, ?_⟩
            · (first | exact ((((((scr.rf.u (by decide)).u (by decide)).u (by decide)).u (by decide)).u (by decide)).u (by decide)) | exact (((((scr.rf.u (by decide)).u (by decide)).u (by decide)).u (by decide)).u (by decide)) | exact ((((scr.rf.u (by decide)).u (by decide)).u (by decide)).u (by decide)) | exact (((scr.rf.u (by decide)).u (by decide)).u (by decide)))
            · simp (decide := true) only [u2_ap, reduceIte]
              unfold wyU wyT
              (repeat' split) <;> first | rfl | omega
            · simp (decide := true) only [u2_ap, reduceIte]
              unfold wyT
              (repeat' split) <;> first | rfl | omega
            · simp (decide := true) only [u2_ap, reduceIte]
              unfold wyE
              (repeat' split) <;> first | rfl | omega
      · skip
        refine dp_aload_n C dX7_finds_131 rfl ?_
        refine dp_iload_n C dX7_finds_132 rfl ?_
        refine dp_iload_n C dX7_finds_133 rfl ?_
        refine dp_icmp_le (tgt := 141) C dX7_finds_134 (by decide) ⟨by omega, by omega⟩ ⟨by omega, by omega⟩ (fun c134 => ?_) (fun c134 => ?_)
        · skip
          refine dp_aload_n C dX7_finds_141 rfl ?_
          refine dp_getf C (k := 8) (dp_mM (by decide)) dp_xmo rfl hX7 (by decide) (List.mem_of_getElem? (i := 2) rfl) rfl dX7_finds_142 ?_
          simp (decide := true) only [u2_ap, reduceIte]
          refine dp_putM C  (k := 4) hX7 (by decide) (List.mem_of_getElem? (i := 2) rfl) rfl (tyX7_ok _ (by decide)) rfl rfl dX7_finds_145 ?_
          refine dp_goto (tgt := 188) C dX7_finds_148 (by decide) ?_
          refine dp_vret C hret dX7_finds_188 ?_
          refine ⟨_, rfl, ?_, ?_, ?_, ?_⟩
          · (first | exact ((((((scr.rf.u (by decide)).u (by decide)).u (by decide)).u (by decide)).u (by decide)).u (by decide)) | exact (((((scr.rf.u (by decide)).u (by decide)).u (by decide)).u (by decide)).u (by decide)) | exact ((((scr.rf.u (by decide)).u (by decide)).u (by decide)).u (by decide)) | exact (((scr.rf.u (by decide)).u (by decide)).u (by decide)))
          · simp (decide := true) only [u2_ap, reduceIte]
            unfold wyU wyT
            (repeat' split) <;> first | rfl | omega
          · simp (decide := true) only [u2_ap, reduceIte]
            unfold wyT
            (repeat' split) <;> first | rfl | omega
          · simp (decide := true) only [u2_ap, reduceIte]
            unfold wyE
            (repeat' split) <;> first | rfl | omega
        · skip
          refine dp_iload_n C dX7_finds_137 rfl ?_
          refine dp_goto (tgt := 145) C dX7_finds_138 (by decide) ?_
          refine dp_putM C  (k := 4) hX7 (by decide) (List.mem_of_getElem? (i := 2) rfl) rfl (tyX7_ok _ (by decide)) rfl rfl dX7_finds_145 ?_
          refine dp_goto (tgt := 188) C dX7_finds_148 (by decide) ?_
          refine dp_vret C hret dX7_finds_188 ?_
          refine ⟨_, rfl, ?_, ?_, ?_, ?_⟩
          · (first | exact ((((((scr.rf.u (by decide)).u (by decide)).u (by decide)).u (by decide)).u (by decide)).u (by decide)) | exact (((((scr.rf.u (by decide)).u (by decide)).u (by decide)).u (by decide)).u (by decide)) | exact ((((scr.rf.u (by decide)).u (by decide)).u (by decide)).u (by decide)) | exact (((scr.rf.u (by decide)).u (by decide)).u (by decide)))
          · simp (decide := true) only [u2_ap, reduceIte]
            unfold wyU wyT
            (repeat' split) <;> first | rfl | omega
          · simp (decide := true) only [u2_ap, reduceIte]
            unfold wyT
            (repeat' split) <;> first | rfl | omega
          · simp (decide := true) only [u2_ap, reduceIte]
            unfold wyE
            (repeat' split) <;> first | rfl | omega
    · skip
      refine dp_aload_n C dX7_finds_115 rfl ?_
      refine dp_iload_n C dX7_finds_116 rfl ?_
      refine dp_iload C dX7_finds_117 rfl ?_
      refine dp_iadd C dX7_finds_119 ?_
      refine dp_putM C  (k := 4) hX7 (by decide) (List.mem_of_getElem? (i := 2) rfl) rfl (tyX7_ok _ (by decide)) rfl rfl dX7_finds_120 ?_
      refine dp_goto (tgt := 188) C dX7_finds_123 (by decide) ?_
      refine dp_vret C hret dX7_finds_188 ?_
      refine ⟨_, rfl, ?_, ?_, ?_, ?_⟩
      · (first | exact ((((((scr.rf.u (by decide)).u (by decide)).u (by decide)).u (by decide)).u (by decide)).u (by decide)) | exact (((((scr.rf.u (by decide)).u (by decide)).u (by decide)).u (by decide)).u (by decide)) | exact ((((scr.rf.u (by decide)).u (by decide)).u (by decide)).u (by decide)) | exact (((scr.rf.u (by decide)).u (by decide)).u (by decide)))
      · simp (decide := true) only [u2_ap, reduceIte]
        unfold wyU wyT
        (repeat' split) <;> first | rfl | omega
      · simp (decide := true) only [u2_ap, reduceIte]
        unfold wyT
        (repeat' split) <;> first | rfl | omega
      · simp (decide := true) only [u2_ap, reduceIte]
        unfold wyE
        (repeat' split) <;> first | rfl | omega
  · skip
    refine dp_iload_n C dX7_finds_59 rfl ?_
    refine dp_iload_n C dX7_finds_60 rfl ?_
    refine dp_icmp_le (tgt := 72) C dX7_finds_61 (by decide) ⟨by omega, by omega⟩ ⟨by omega, by omega⟩ (fun c61 => ?_) (fun c61 => ?_)
    · skip
      refine dp_iload_n C dX7_finds_72 rfl ?_
      refine dp_iload_n C dX7_finds_73 rfl ?_
      refine dp_icmp_lt (tgt := 82) C dX7_finds_74 (by decide) ⟨by omega, by omega⟩ ⟨by omega, by omega⟩ (fun c74 => ?_) (fun c74 => ?_)
      · skip
        refine dp_aload_n C dX7_finds_82 rfl ?_
        refine dp_iconst C dX7_finds_83 ?_
        refine dp_putM C  (k := 3) hX7 (by decide) (List.mem_of_getElem? (i := 1) rfl) rfl (tyX7_ok _ (by decide)) rfl rfl dX7_finds_84 ?_
        refine dp_aload_n C dX7_finds_87 rfl ?_
        refine dp_iload_n C dX7_finds_88 rfl ?_
        refine dp_iload C dX7_finds_89 rfl ?_
        refine dp_iadd C dX7_finds_91 ?_
        refine dp_aload_n C dX7_finds_92 rfl ?_
        refine dp_getf C (k := 0) (dp_mM (by decide)) dp_xmo rfl hX7 (by decide) (List.mem_of_getElem? (i := 4) rfl) rfl dX7_finds_93 ?_
        refine dp_iconst C dX7_finds_96 ?_
        refine dp_ald_ms C (j := 0) ⟨by omega, by omega⟩ rfl (c9 := 1) (k9 := 0) rfl rfl dX7_finds_97 ?_
        refine dp_iadd C dX7_finds_98 ?_
        refine dp_putM C  (k := 2) hX7 (by decide) (List.mem_of_getElem? (i := 3) rfl) rfl (tyX7_ok _ (by decide)) rfl rfl dX7_finds_99 ?_
        refine dp_aload_n C dX7_finds_102 rfl ?_
        refine dp_iload_n C dX7_finds_103 rfl ?_
        refine dp_putM C  (k := 4) hX7 (by decide) (List.mem_of_getElem? (i := 2) rfl) rfl (tyX7_ok _ (by decide)) rfl rfl dX7_finds_104 ?_
        refine dp_goto (tgt := 188) C dX7_finds_107 (by decide) ?_
        refine dp_vret C hret dX7_finds_188 ?_
        refine ⟨_, rfl, ?_, ?_, ?_, ?_⟩
        · (first | exact ((((((scr.rf.u (by decide)).u (by decide)).u (by decide)).u (by decide)).u (by decide)).u (by decide)) | exact (((((scr.rf.u (by decide)).u (by decide)).u (by decide)).u (by decide)).u (by decide)) | exact ((((scr.rf.u (by decide)).u (by decide)).u (by decide)).u (by decide)) | exact (((scr.rf.u (by decide)).u (by decide)).u (by decide)))
        · simp (decide := true) only [u2_ap, reduceIte]
          unfold wyU wyT
          (repeat' split) <;> first | rfl | omega
        · simp (decide := true) only [u2_ap, reduceIte]
          unfold wyT
          (repeat' split) <;> first | rfl | omega
        · simp (decide := true) only [u2_ap, reduceIte]
          unfold wyE
          (repeat' split) <;> first | rfl | omega
      · skip
        refine dp_iload C dX7_finds_77 rfl ?_
        refine dp_if_le (tgt := 188) C dX7_finds_79 (by decide) ⟨by omega, by omega⟩ (fun c79 => ?_) (fun c79 => ?_)
        · skip
          refine dp_vret C hret dX7_finds_188 ?_
          refine ⟨_, rfl, ?_, ?_, ?_, ?_⟩
          · (first | exact ((((((scr.rf.u (by decide)).u (by decide)).u (by decide)).u (by decide)).u (by decide)).u (by decide)) | exact (((((scr.rf.u (by decide)).u (by decide)).u (by decide)).u (by decide)).u (by decide)) | exact ((((scr.rf.u (by decide)).u (by decide)).u (by decide)).u (by decide)) | exact (((scr.rf.u (by decide)).u (by decide)).u (by decide)))
          · simp (decide := true) only [u2_ap, reduceIte]
            unfold wyU wyT
            (repeat' split) <;> first | rfl | omega
          · simp (decide := true) only [u2_ap, reduceIte]
            unfold wyT
            (repeat' split) <;> first | rfl | omega
          · simp (decide := true) only [u2_ap, reduceIte]
            unfold wyE
            (repeat' split) <;> first | rfl | omega
        · skip
          refine dp_aload_n C dX7_finds_82 rfl ?_
          refine dp_iconst C dX7_finds_83 ?_
          refine dp_putM C  (k := 3) hX7 (by decide) (List.mem_of_getElem? (i := 1) rfl) rfl (tyX7_ok _ (by decide)) rfl rfl dX7_finds_84 ?_
          refine dp_aload_n C dX7_finds_87 rfl ?_
          refine dp_iload_n C dX7_finds_88 rfl ?_
          refine dp_iload C dX7_finds_89 rfl ?_
          refine dp_iadd C dX7_finds_91 ?_
          refine dp_aload_n C dX7_finds_92 rfl ?_
          refine dp_getf C (k := 0) (dp_mM (by decide)) dp_xmo rfl hX7 (by decide) (List.mem_of_getElem? (i := 4) rfl) rfl dX7_finds_93 ?_
          refine dp_iconst C dX7_finds_96 ?_
          refine dp_ald_ms C (j := 0) ⟨by omega, by omega⟩ rfl (c9 := 1) (k9 := 0) rfl rfl dX7_finds_97 ?_
          refine dp_iadd C dX7_finds_98 ?_
          refine dp_putM C  (k := 2) hX7 (by decide) (List.mem_of_getElem? (i := 3) rfl) rfl (tyX7_ok _ (by decide)) rfl rfl dX7_finds_99 ?_
          refine dp_aload_n C dX7_finds_102 rfl ?_
          refine dp_iload_n C dX7_finds_103 rfl ?_
          refine dp_putM C  (k := 4) hX7 (by decide) (List.mem_of_getElem? (i := 2) rfl) rfl (tyX7_ok _ (by decide)) rfl rfl dX7_finds_104 ?_
          refine dp_goto (tgt := 188) C dX7_finds_107 (by decide) ?_
          refine dp_vret C hret dX7_finds_188 ?_
          refine ⟨_, rfl, ?_, ?_, ?_, ?_⟩
          · (first | exact ((((((scr.rf.u (by decide)).u (by decide)).u (by decide)).u (by decide)).u (by decide)).u (by decide)) | exact (((((scr.rf.u (by decide)).u (by decide)).u (by decide)).u (by decide)).u (by decide)) | exact ((((scr.rf.u (by decide)).u (by decide)).u (by decide)).u (by decide)) | exact (((scr.rf.u (by decide)).u (by decide)).u (by decide)))
          · simp (decide := true) only [u2_ap, reduceIte]
            unfold wyU wyT
            (repeat' split) <;> first | rfl | omega
          · simp (decide := true) only [u2_ap, reduceIte]
            unfold wyT
            (repeat' split) <;> first | rfl | omega
          · simp (decide := true) only [u2_ap, reduceIte]
            unfold wyE
            (repeat' split) <;> first | rfl | omega
    · skip
      refine dp_aload_n C dX7_finds_64 rfl ?_
      refine dp_iload_n C dX7_finds_65 rfl ?_
      refine dp_putM C  (k := 4) hX7 (by decide) (List.mem_of_getElem? (i := 2) rfl) rfl (tyX7_ok _ (by decide)) rfl rfl dX7_finds_66 ?_
      refine dp_goto (tgt := 188) C dX7_finds_69 (by decide) ?_
      refine dp_vret C hret dX7_finds_188 ?_
      refine ⟨_, rfl, ?_, ?_, ?_, ?_⟩
      · (first | exact ((((((scr.rf.u (by decide)).u (by decide)).u (by decide)).u (by decide)).u (by decide)).u (by decide)) | exact (((((scr.rf.u (by decide)).u (by decide)).u (by decide)).u (by decide)).u (by decide)) | exact ((((scr.rf.u (by decide)).u (by decide)).u (by decide)).u (by decide)) | exact (((scr.rf.u (by decide)).u (by decide)).u (by decide)))
      · simp (decide := true) only [u2_ap, reduceIte]
        unfold wyU wyT
        (repeat' split) <;> first | rfl | omega
      · simp (decide := true) only [u2_ap, reduceIte]
        unfold wyT
        (repeat' split) <;> first | rfl | omega
      · simp (decide := true) only [u2_ap, reduceIte]
        unfold wyE
        (repeat' split) <;> first | rfl | omega
theorem yyX7_isInRange : yX7_isInRange.cls = RX7 ∧ yX7_isInRange.cls ≠ "java/lang/invoke/MethodHandle" ∧ yX7_isInRange.cls ≠ "java/lang/invoke/VarHandle" ∧ (parseMethodDescriptor yX7_isInRange.desc).map (fun d => d.parameters.length) = some 2 := by decide +kernel
set_option maxHeartbeats 4000000 in
set_option maxRecDepth 100000 in
theorem c_X7_isInRange {E : dp_E} (hE : dp_OK E) (l : Launch) {M : dp_M} {a : Nat} {x : Int} (ha : a < 2) (hx : dp_R x) : dp_met E l yX7_isInRange wsX7_isInRange 1 22 [.ref (eAd E 8 0), .int (dp_I (a : Int)), .int (dp_I x)] (M) (dp_qi E (fun y M1 => y = dp_b (axL (a + 3) ≤ x ∧ x ≤ axH (a + 3)) ∧ M1 = M)) := by
  refine dp_of (cc := cX7_isInRange) (nL := 3) (own := RX7) (ret := some (.boolean)) (by decide +kernel) rfl rfl hE (by simp [Value.category]) (Nat.le_of_ble_eq_true rfl) ?_
  intro p e s m below meth co C hret
  show dp_G _ _ _ _ _ _ _ _ _ _ _ _ _ _ _ _ _ [some (.ref (eAd E 8 0)), some (.int (dp_I (a : Int))), some (.int (dp_I x))] _
  unfold dp_R at hx
  refine dp_iload_n C dX7_isInRange_0 rfl ?_
  refine dp_if_ne (tgt := 17) C dX7_isInRange_1 (by decide) ⟨by omega, by omega⟩ (fun c1 => ?_) (fun c1 => ?_)
  · skip
    obtain rfl : a = 1 := by omega
    refine dp_iload_n C dX7_isInRange_17 rfl ?_
    refine dp_sipush C dX7_isInRange_18 (by decide) ?_
    refine dp_sipush C dX7_isInRange_21 (by decide) ?_
    refine dp_cSi C (c_X7_in C.2.2.1 l ⟨by omega, by omega⟩ ⟨by omega, by omega⟩ ⟨by omega, by omega⟩) gX7_isInRange_X7_in rfl yyX7_in rfl ⟨Nat.le_of_ble_eq_true rfl, Nat.le_of_ble_eq_true rfl⟩ rfl (Nat.le_of_ble_eq_true rfl) rfl ⟨Nat.zero_le _, Nat.zero_le _⟩ dX7_isInRange_24 (fun x24 M24 h24 => ?_)
    obtain ⟨rfl, rfl⟩ := h24
    refine dp_zret C hret (by first | decide | exact dp_nb) dX7_isInRange_27 ?_
    exact ⟨rfl, rfl⟩
  · skip
    obtain rfl : a = 0 := by omega
    refine dp_iload_n C dX7_isInRange_4 rfl ?_
    refine dp_sipush C dX7_isInRange_5 (by decide) ?_
    refine dp_sipush C dX7_isInRange_8 (by decide) ?_
    refine dp_cSi C (c_X7_in C.2.2.1 l ⟨by omega, by omega⟩ ⟨by omega, by omega⟩ ⟨by omega, by omega⟩) gX7_isInRange_X7_in rfl yyX7_in rfl ⟨Nat.le_of_ble_eq_true rfl, Nat.le_of_ble_eq_true rfl⟩ rfl (Nat.le_of_ble_eq_true rfl) rfl ⟨Nat.zero_le _, Nat.zero_le _⟩ dX7_isInRange_11 (fun x11 M11 h11 => ?_)
    obtain ⟨rfl, rfl⟩ := h11
    refine dp_goto (tgt := 27) C dX7_isInRange_14 (by decide) ?_
    refine dp_zret C hret (by first | decide | exact dp_nb) dX7_isInRange_27 ?_
    exact ⟨rfl, rfl⟩
theorem yyX7_apart : yX7_apart.cls ≠ "java/lang/invoke/MethodHandle" ∧ yX7_apart.cls ≠ "java/lang/invoke/VarHandle" ∧ (parseMethodDescriptor yX7_apart.desc).map (fun d => d.parameters.length) = some 2 := by decide +kernel
set_option maxHeartbeats 4000000 in
set_option maxRecDepth 100000 in
theorem c_X7_apart {E : dp_E} (hE : dp_OK E) (l : Launch) {M : dp_M} {x y : Int} (hx : dp_R x) (hy : dp_R y) : dp_met E l yX7_apart wsX7_apart 0 0 [.int (dp_I x), .int (dp_I y)] (M) (dp_qi E (fun z M1 => z = ab (x - y) ∧ M1 = M)) := by
  refine dp_of (cc := cX7_apart) (nL := 2) (own := RX7) (ret := some (.int)) (by decide +kernel) rfl rfl hE (by simp [Value.category]) (Nat.le_of_ble_eq_true rfl) ?_
  intro p e s m below meth co C hret
  show dp_G _ _ _ _ _ _ _ _ _ _ _ _ _ _ _ _ _ [some (.int (dp_I x)), some (.int (dp_I y))] _
  unfold dp_R at hx hy
  refine dp_iload_n C dX7_apart_0 rfl ?_
  refine dp_iload_n C dX7_apart_1 rfl ?_
  refine dp_icmp_ge (tgt := 11) C dX7_apart_2 (by decide) ⟨by omega, by omega⟩ ⟨by omega, by omega⟩ (fun c2 => ?_) (fun c2 => ?_)
  · skip
    refine dp_iload_n C dX7_apart_11 rfl ?_
    refine dp_iload_n C dX7_apart_12 rfl ?_
    refine dp_isub C dX7_apart_13 ?_
    refine dp_iret C hret dX7_apart_14 ?_
    exact ⟨by unfold ab; split <;> omega, rfl⟩
  · skip
    refine dp_iload_n C dX7_apart_5 rfl ?_
    refine dp_iload_n C dX7_apart_6 rfl ?_
    refine dp_isub C dX7_apart_7 ?_
    refine dp_goto (tgt := 14) C dX7_apart_8 (by decide) ?_
    refine dp_iret C hret dX7_apart_14 ?_
    exact ⟨by unfold ab; split <;> omega, rfl⟩
theorem yyX7_isPossible : yX7_isPossible.cls = RX7 ∧ yX7_isPossible.cls ≠ "java/lang/invoke/MethodHandle" ∧ yX7_isPossible.cls ≠ "java/lang/invoke/VarHandle" ∧ (parseMethodDescriptor yX7_isPossible.desc).map (fun d => d.parameters.length) = some 2 := by decide +kernel
set_option maxHeartbeats 4000000 in
set_option maxRecDepth 100000 in
theorem c_X7_isPossible {E : dp_E} (hE : dp_OK E) (l : Launch) {M : dp_M} {V X : dp_V} {a : Nat} (ha : a < 2) (hi : ivA (a + 3) (V (a + 3))) (ho : 0 ≤ V 1 0 ∧ V 1 0 ≤ 500) {to : Int} (hto : -40000 ≤ to ∧ to ≤ 40000) : dp_met E l yX7_isPossible wsX7_isPossible 3 69 [.ref (eAd E 8 0), .int (dp_I (a : Int)), .int (dp_I to)] (dN M V X) (dp_qi E (fun y M1 => y = wyP (a + 3) (V (a + 3)) to (V 1 0) ∧ ∃ X', M1 = dN M V X' ∧ fnX V X (a + 3) to X')) := by
  refine dp_of (cc := cX7_isPossible) (nL := 3) (own := RX7) (ret := some (.boolean)) (by decide +kernel) rfl rfl hE (by simp [Value.category]) (Nat.le_of_ble_eq_true rfl) ?_
  intro p e s m below meth co C hret
  show dp_G _ _ _ _ _ _ _ _ _ _ _ _ _ _ _ _ _ [some (.ref (eAd E 8 0)), some (.int (dp_I (a : Int))), some (.int (dp_I to))] _
  have hX7 : ∀ w ∈ u_ws RX7 TX7 12, w ∈ wsX7_isPossible := fun w h => List.mem_cons_of_mem _ (List.mem_append_right _ (h))
  have hb := @ax_bd (a + 3)
  have bU := wyU_bd hi hto ho
  have bE := wyE_bd hi hto
  have bT := @wyT_b (V (a + 3)) to
  have bL := wyL_bd hi hto ho
  have hi2 := hi
  unfold ivA at hi2
  refine dp_aload_n C dX7_isPossible_0 rfl ?_
  refine dp_iload_n C dX7_isPossible_1 rfl ?_
  refine dp_iload_n C dX7_isPossible_2 rfl ?_
  refine dp_cVv C (c_X7_finds C.2.2.1 l ha hi ho hto) gX7_isPossible_X7_finds rfl (dp_mM (by decide)) dp_xmo rfl yyX7_finds rfl ⟨Nat.le_of_ble_eq_true rfl, Nat.le_of_ble_eq_true rfl⟩ rfl (Nat.le_of_ble_eq_true rfl) rfl ⟨Nat.zero_le _, Nat.zero_le _⟩ dX7_isPossible_3 (fun M3 h3 => ?_)
  obtain ⟨X1, rfl, hX1⟩ := h3
  have hX2 := hX1
  obtain ⟨hs1, e2, e3, e4⟩ := hX1
  refine dp_aload_n C dX7_isPossible_6 rfl ?_
  refine dp_iload_n C dX7_isPossible_7 rfl ?_
  refine dp_aload_n C dX7_isPossible_8 rfl ?_
  refine dp_getf C (k := 8) (dp_mM (by decide)) dp_xmo rfl hX7 (by decide) (List.mem_of_getElem? (i := 1) rfl) rfl dX7_isPossible_9 ?_
  rw [e4]
  refine dp_cVi C (c_X7_isInRange C.2.2.1 l ha ⟨by omega, by omega⟩) gX7_isPossible_X7_isInRange rfl (dp_mM (by decide)) dp_xmo rfl yyX7_isInRange rfl ⟨Nat.le_of_ble_eq_true rfl, Nat.le_of_ble_eq_true rfl⟩ rfl (Nat.le_of_ble_eq_true rfl) rfl ⟨Nat.zero_le _, Nat.zero_le _⟩ dX7_isPossible_12 (fun x12 M12 h12 => ?_)
  obtain ⟨rfl, rfl⟩ := h12
  refine dp_ifz_eq (tgt := 41) C dX7_isPossible_15 (by decide) (fun c15 => ?_) (fun c15 => ?_)
  · skip
    refine dp_iconst C dX7_isPossible_41 ?_
    refine dp_zret C hret (by first | decide | exact dp_nb) dX7_isPossible_42 ?_
    refine ⟨?_, _, rfl, hX2⟩
    have eU : wyT (V (a + 3)) to = 0 → wyU (V (a + 3)) to (V 1 0) = V (a + 3) 3 := fun q => by unfold wyU; rw [if_pos q]
    unfold wyP
    first | exact (dp_b_t (by omega)).symm | exact (dp_b_f (by omega)).symm
  · skip
    refine dp_aload_n C dX7_isPossible_18 rfl ?_
    refine dp_getf C (k := 7) (dp_mM (by decide)) dp_xmo rfl hX7 (by decide) (List.mem_of_getElem? (i := 2) rfl) rfl dX7_isPossible_19 ?_
    rw [e3]
    refine dp_if_eq (tgt := 37) C dX7_isPossible_22 (by decide) ⟨by omega, by omega⟩ (fun c22 => ?_) (fun c22 => ?_)
    · skip
      refine dp_iconst C dX7_isPossible_37 ?_
      refine dp_goto (tgt := 42) C dX7_isPossible_38 (by decide) ?_
      refine dp_zret C hret (by first | decide | exact dp_nb) dX7_isPossible_42 ?_
      refine ⟨?_, _, rfl, hX2⟩
      have eU : wyT (V (a + 3)) to = 0 → wyU (V (a + 3)) to (V 1 0) = V (a + 3) 3 := fun q => by unfold wyU; rw [if_pos q]
      unfold wyP
      first | exact (dp_b_t (by omega)).symm | exact (dp_b_f (by omega)).symm
    · skip
      refine dp_aload_n C dX7_isPossible_25 rfl ?_
      refine dp_iload_n C dX7_isPossible_26 rfl ?_
      refine dp_aload_n C dX7_isPossible_27 rfl ?_
      refine dp_getf C (k := 6) (dp_mM (by decide)) dp_xmo rfl hX7 (by decide) (List.mem_of_getElem? (i := 3) rfl) rfl dX7_isPossible_28 ?_
      rw [e2]
      refine dp_cVi C (c_X7_isInRange C.2.2.1 l ha ⟨by omega, by omega⟩) gX7_isPossible_X7_isInRange rfl (dp_mM (by decide)) dp_xmo rfl yyX7_isInRange rfl ⟨Nat.le_of_ble_eq_true rfl, Nat.le_of_ble_eq_true rfl⟩ rfl (Nat.le_of_ble_eq_true rfl) rfl ⟨Nat.zero_le _, Nat.zero_le _⟩ dX7_isPossible_31 (fun x31 M31 h31 => ?_)
      obtain ⟨rfl, rfl⟩ := h31
      refine dp_ifz_eq (tgt := 41) C dX7_isPossible_34 (by decide) (fun c34 => ?_) (fun c34 => ?_)
      · skip
        refine dp_iconst C dX7_isPossible_41 ?_
        refine dp_zret C hret (by first | decide | exact dp_nb) dX7_isPossible_42 ?_
        refine ⟨?_, _, rfl, hX2⟩
        have eU : wyT (V (a + 3)) to = 0 → wyU (V (a + 3)) to (V 1 0) = V (a + 3) 3 := fun q => by unfold wyU; rw [if_pos q]
        unfold wyP
        first | exact (dp_b_t (by omega)).symm | exact (dp_b_f (by omega)).symm
      · skip
        refine dp_iconst C dX7_isPossible_37 ?_
        refine dp_goto (tgt := 42) C dX7_isPossible_38 (by decide) ?_
        refine dp_zret C hret (by first | decide | exact dp_nb) dX7_isPossible_42 ?_
        refine ⟨?_, _, rfl, hX2⟩
        have eU : wyT (V (a + 3)) to = 0 → wyU (V (a + 3)) to (V 1 0) = V (a + 3) 3 := fun q => by unfold wyU; rw [if_pos q]
        unfold wyP
        first | exact (dp_b_t (by omega)).symm | exact (dp_b_f (by omega)).symm
theorem yyX7_lengthOf : yX7_lengthOf.cls = RX7 ∧ yX7_lengthOf.cls ≠ "java/lang/invoke/MethodHandle" ∧ yX7_lengthOf.cls ≠ "java/lang/invoke/VarHandle" ∧ (parseMethodDescriptor yX7_lengthOf.desc).map (fun d => d.parameters.length) = some 2 := by decide +kernel
set_option maxHeartbeats 4000000 in
set_option maxRecDepth 100000 in
theorem c_X7_lengthOf {E : dp_E} (hE : dp_OK E) (l : Launch) {M : dp_M} {V X : dp_V} {a : Nat} (ha : a < 2) (hi : ivA (a + 3) (V (a + 3))) (ho : 0 ≤ V 1 0 ∧ V 1 0 ≤ 500) {to : Int} (hto : -40000 ≤ to ∧ to ≤ 40000) : dp_met E l yX7_lengthOf wsX7_lengthOf 3 69 [.ref (eAd E 8 0), .int (dp_I (a : Int)), .int (dp_I to)] (dN M V X) (dp_qi E (fun y M1 => y = wyL (V (a + 3)) to (V 1 0) ∧ ∃ X', M1 = dN M V X' ∧ scr X X')) := by
  refine dp_of (cc := cX7_lengthOf) (nL := 4) (own := RX7) (ret := some (.int)) (by decide +kernel) rfl rfl hE (by simp [Value.category]) (Nat.le_of_ble_eq_true rfl) ?_
  intro p e s m below meth co C hret
  show dp_G _ _ _ _ _ _ _ _ _ _ _ _ _ _ _ _ _ [some (.ref (eAd E 8 0)), some (.int (dp_I (a : Int))), some (.int (dp_I to)), none] _
  have hX7 : ∀ w ∈ u_ws RX7 TX7 12, w ∈ wsX7_lengthOf := fun w h => List.mem_cons_of_mem _ (List.mem_append_right _ (h))
  have hb := @ax_bd (a + 3)
  have bU := wyU_bd hi hto ho
  have bE := wyE_bd hi hto
  have bT := @wyT_b (V (a + 3)) to
  have bL := wyL_bd hi hto ho
  have hi2 := hi
  unfold ivA at hi2
  refine dp_aload_n C dX7_lengthOf_0 rfl ?_
  refine dp_iload_n C dX7_lengthOf_1 rfl ?_
  refine dp_iload_n C dX7_lengthOf_2 rfl ?_
  refine dp_cVv C (c_X7_finds C.2.2.1 l ha hi ho hto) gX7_lengthOf_X7_finds rfl (dp_mM (by decide)) dp_xmo rfl yyX7_finds rfl ⟨Nat.le_of_ble_eq_true rfl, Nat.le_of_ble_eq_true rfl⟩ rfl (Nat.le_of_ble_eq_true rfl) rfl ⟨Nat.zero_le _, Nat.zero_le _⟩ dX7_lengthOf_3 (fun M3 h3 => ?_)
  obtain ⟨X1, rfl, hX1⟩ := h3
  obtain ⟨hs1, e2, e3, e4⟩ := hX1
  refine dp_aload_n C dX7_lengthOf_6 rfl ?_
  refine dp_iload_n C dX7_lengthOf_7 rfl ?_
  refine dp_iconst C dX7_lengthOf_8 ?_
  refine dp_cVi C (c_X7_ofAxis C.2.2.1 l (k := 3) ha (by decide)) gX7_lengthOf_X7_ofAxis rfl (dp_mM (by decide)) dp_xmo rfl yyX7_ofAxis rfl ⟨Nat.le_of_ble_eq_true rfl, Nat.le_of_ble_eq_true rfl⟩ rfl (Nat.le_of_ble_eq_true rfl) rfl ⟨Nat.zero_le _, Nat.zero_le _⟩ dX7_lengthOf_9 (fun x9 M9 h9 => ?_)
  obtain ⟨rfl, rfl⟩ := h9
  refine dp_istore_n C dX7_lengthOf_12 (Nat.le_of_ble_eq_true rfl) ?_
  dsimp only [List.set]
  refine dp_aload_n C dX7_lengthOf_13 rfl ?_
  refine dp_getf C (k := 7) (dp_mM (by decide)) dp_xmo rfl hX7 (by decide) (List.mem_of_getElem? (i := 1) rfl) rfl dX7_lengthOf_14 ?_
  rw [e3]
  refine dp_if_eq (tgt := 43) C dX7_lengthOf_17 (by decide) ⟨by omega, by omega⟩ (fun c17 => ?_) (fun c17 => ?_)
  · skip
    refine dp_iload_n C dX7_lengthOf_43 rfl ?_
    refine dp_aload_n C dX7_lengthOf_44 rfl ?_
    refine dp_getf C (k := 8) (dp_mM (by decide)) dp_xmo rfl hX7 (by decide) (List.mem_of_getElem? (i := 3) rfl) rfl dX7_lengthOf_45 ?_
    rw [e4]
    refine dp_cSi C (c_X7_apart C.2.2.1 l ⟨by omega, by omega⟩ ⟨by omega, by omega⟩) gX7_lengthOf_X7_apart rfl yyX7_apart rfl ⟨Nat.le_of_ble_eq_true rfl, Nat.le_of_ble_eq_true rfl⟩ rfl (Nat.le_of_ble_eq_true rfl) rfl ⟨Nat.zero_le _, Nat.zero_le _⟩ dX7_lengthOf_48 (fun x48 M48 h48 => ?_)
    obtain ⟨rfl, rfl⟩ := h48
    refine dp_iret C hret dX7_lengthOf_51 ?_
    refine ⟨?_, _, rfl, hs1⟩
    have eU : wyT (V (a + 3)) to = 0 → wyU (V (a + 3)) to (V 1 0) = V (a + 3) 3 := fun q => by unfold wyU; rw [if_pos q]
    unfold wyL ab
    (repeat' split) <;> omega
  · skip
    refine dp_iload_n C dX7_lengthOf_20 rfl ?_
    refine dp_aload_n C dX7_lengthOf_21 rfl ?_
    refine dp_getf C (k := 6) (dp_mM (by decide)) dp_xmo rfl hX7 (by decide) (List.mem_of_getElem? (i := 2) rfl) rfl dX7_lengthOf_22 ?_
    rw [e2]
    refine dp_cSi C (c_X7_apart C.2.2.1 l ⟨by omega, by omega⟩ ⟨by omega, by omega⟩) gX7_lengthOf_X7_apart rfl yyX7_apart rfl ⟨Nat.le_of_ble_eq_true rfl, Nat.le_of_ble_eq_true rfl⟩ rfl (Nat.le_of_ble_eq_true rfl) rfl ⟨Nat.zero_le _, Nat.zero_le _⟩ dX7_lengthOf_25 (fun x25 M25 h25 => ?_)
    obtain ⟨rfl, rfl⟩ := h25
    refine dp_aload_n C dX7_lengthOf_28 rfl ?_
    refine dp_getf C (k := 6) (dp_mM (by decide)) dp_xmo rfl hX7 (by decide) (List.mem_of_getElem? (i := 2) rfl) rfl dX7_lengthOf_29 ?_
    rw [e2]
    refine dp_aload_n C dX7_lengthOf_32 rfl ?_
    refine dp_getf C (k := 8) (dp_mM (by decide)) dp_xmo rfl hX7 (by decide) (List.mem_of_getElem? (i := 3) rfl) rfl dX7_lengthOf_33 ?_
    rw [e4]
    refine dp_cSi C (c_X7_apart C.2.2.1 l ⟨by omega, by omega⟩ ⟨by omega, by omega⟩) gX7_lengthOf_X7_apart rfl yyX7_apart rfl ⟨Nat.le_of_ble_eq_true rfl, Nat.le_of_ble_eq_true rfl⟩ rfl (Nat.le_of_ble_eq_true rfl) rfl ⟨Nat.zero_le _, Nat.zero_le _⟩ dX7_lengthOf_36 (fun x36 M36 h36 => ?_)
    obtain ⟨rfl, rfl⟩ := h36
    refine dp_iadd C dX7_lengthOf_39 ?_
    refine dp_goto (tgt := 51) C dX7_lengthOf_40 (by decide) ?_
    refine dp_iret C hret dX7_lengthOf_51 ?_
    refine ⟨?_, _, rfl, hs1⟩
    have eU : wyT (V (a + 3)) to = 0 → wyU (V (a + 3)) to (V 1 0) = V (a + 3) 3 := fun q => by unfold wyU; rw [if_pos q]
    unfold wyL ab
    (repeat' split) <;> omega
theorem yyX7_timeOf : yX7_timeOf.cls = RX7 ∧ yX7_timeOf.cls ≠ "java/lang/invoke/MethodHandle" ∧ yX7_timeOf.cls ≠ "java/lang/invoke/VarHandle" ∧ (parseMethodDescriptor yX7_timeOf.desc).map (fun d => d.parameters.length) = some 2 := by decide +kernel
set_option maxHeartbeats 4000000 in
set_option maxRecDepth 100000 in
theorem c_X7_timeOf {E : dp_E} (hE : dp_OK E) (l : Launch) {M : dp_M} {V X : dp_V} {a : Nat} (ha : a < 2) (hi : ivA (a + 3) (V (a + 3))) (ho : 0 ≤ V 1 0 ∧ V 1 0 ≤ 500) {to : Int} (hto : -40000 ≤ to ∧ to ≤ 40000) : dp_met E l yX7_timeOf wsX7_timeOf 4 92 [.ref (eAd E 8 0), .int (dp_I (a : Int)), .int (dp_I to)] (dN M V X) (dp_qi E (fun y M1 => y = wyM (V (a + 3)) to (V 1 0) ∧ ∃ X', M1 = dN M V X' ∧ scr X X')) := by
  refine dp_of (cc := cX7_timeOf) (nL := 4) (own := RX7) (ret := some (.int)) (by decide +kernel) rfl rfl hE (by simp [Value.category]) (Nat.le_of_ble_eq_true rfl) ?_
  intro p e s m below meth co C hret
  show dp_G _ _ _ _ _ _ _ _ _ _ _ _ _ _ _ _ _ [some (.ref (eAd E 8 0)), some (.int (dp_I (a : Int))), some (.int (dp_I to)), none] _
  have hb := @ax_bd (a + 3)
  have bU := wyU_bd hi hto ho
  have bE := wyE_bd hi hto
  have bT := @wyT_b (V (a + 3)) to
  have bL := wyL_bd hi hto ho
  have hi2 := hi
  unfold ivA at hi2
  refine dp_aload_n C dX7_timeOf_0 rfl ?_
  refine dp_iload_n C dX7_timeOf_1 rfl ?_
  refine dp_iconst C dX7_timeOf_2 ?_
  refine dp_cVi C (c_X7_ofAxis C.2.2.1 l (k := 2) ha (by decide)) gX7_timeOf_X7_ofAxis rfl (dp_mM (by decide)) dp_xmo rfl yyX7_ofAxis rfl ⟨Nat.le_of_ble_eq_true rfl, Nat.le_of_ble_eq_true rfl⟩ rfl (Nat.le_of_ble_eq_true rfl) rfl ⟨Nat.zero_le _, Nat.zero_le _⟩ dX7_timeOf_3 (fun x3 M3 h3 => ?_)
  obtain ⟨rfl, rfl⟩ := h3
  refine dp_istore_n C dX7_timeOf_6 (Nat.le_of_ble_eq_true rfl) ?_
  dsimp only [List.set]
  refine dp_aload_n C dX7_timeOf_7 rfl ?_
  refine dp_iload_n C dX7_timeOf_8 rfl ?_
  refine dp_iload_n C dX7_timeOf_9 rfl ?_
  refine dp_cVi C (c_X7_lengthOf C.2.2.1 l ha hi ho hto) gX7_timeOf_X7_lengthOf rfl (dp_mM (by decide)) dp_xmo rfl yyX7_lengthOf rfl ⟨Nat.le_of_ble_eq_true rfl, Nat.le_of_ble_eq_true rfl⟩ rfl (Nat.le_of_ble_eq_true rfl) rfl ⟨Nat.zero_le _, Nat.zero_le _⟩ dX7_timeOf_10 (fun x10 M10 h10 => ?_)
  obtain ⟨rfl, X1, rfl, hs1⟩ := h10
  refine dp_iload_n C dX7_timeOf_13 rfl ?_
  refine dp_iadd C dX7_timeOf_14 ?_
  refine dp_iconst C dX7_timeOf_15 ?_
  refine dp_isub C dX7_timeOf_16 ?_
  refine dp_iload_n C dX7_timeOf_17 rfl ?_
  refine dp_idiv C ⟨by omega, by omega, by omega, by omega⟩ dX7_timeOf_18 ?_
  refine dp_iret C hret dX7_timeOf_19 ?_
  exact ⟨rfl, _, rfl, hs1⟩
theorem yyX7_isCalm : yX7_isCalm.cls = RX7 ∧ yX7_isCalm.cls ≠ "java/lang/invoke/MethodHandle" ∧ yX7_isCalm.cls ≠ "java/lang/invoke/VarHandle" ∧ (parseMethodDescriptor yX7_isCalm.desc).map (fun d => d.parameters.length) = some 1 := by decide +kernel
set_option maxHeartbeats 4000000 in
set_option maxRecDepth 100000 in
theorem c_X7_isCalm {E : dp_E} (hE : dp_OK E) (l : Launch) {M : dp_M} {V X : dp_V} {x : Int} (hw : 0 ≤ V 1 1 ∧ V 1 1 ≤ 27000) (hx : -40000 ≤ x ∧ x ≤ 40000) : dp_met E l yX7_isCalm wsX7_isCalm 1 22 [.ref (eAd E 8 0), .int (dp_I x)] (dN M V X) (dp_qi E (fun y M1 => y = dp_b (ab x ≤ V 1 1) ∧ M1 = dN M V X)) := by
  refine dp_of (cc := cX7_isCalm) (nL := 2) (own := RX7) (ret := some (.boolean)) (by decide +kernel) rfl rfl hE (by simp [Value.category]) (Nat.le_of_ble_eq_true rfl) ?_
  intro p e s m below meth co C hret
  show dp_G _ _ _ _ _ _ _ _ _ _ _ _ _ _ _ _ _ [some (.ref (eAd E 8 0)), some (.int (dp_I x))] _
  have hX7 : ∀ w ∈ u_ws RX7 TX7 12, w ∈ wsX7_isCalm := fun w h => List.mem_cons_of_mem _ (List.mem_append_right _ (h))
  refine dp_iload_n C dX7_isCalm_0 rfl ?_
  refine dp_aload_n C dX7_isCalm_1 rfl ?_
  refine dp_getf C (k := 0) (dp_mM (by decide)) dp_xmo rfl hX7 (by decide) (List.mem_of_getElem? (i := 1) rfl) rfl dX7_isCalm_2 ?_
  refine dp_iconst C dX7_isCalm_5 ?_
  refine dp_ald_ms C (j := 1) ⟨by omega, by omega⟩ rfl (c9 := 1) (k9 := 1) rfl rfl dX7_isCalm_6 ?_
  refine dp_ineg C dX7_isCalm_7 ?_
  refine dp_aload_n C dX7_isCalm_8 rfl ?_
  refine dp_getf C (k := 0) (dp_mM (by decide)) dp_xmo rfl hX7 (by decide) (List.mem_of_getElem? (i := 1) rfl) rfl dX7_isCalm_9 ?_
  refine dp_iconst C dX7_isCalm_12 ?_
  refine dp_ald_ms C (j := 1) ⟨by omega, by omega⟩ rfl (c9 := 1) (k9 := 1) rfl rfl dX7_isCalm_13 ?_
  refine dp_cSi C (c_X7_in C.2.2.1 l ⟨by omega, by omega⟩ ⟨by omega, by omega⟩ ⟨by omega, by omega⟩) gX7_isCalm_X7_in rfl yyX7_in rfl ⟨Nat.le_of_ble_eq_true rfl, Nat.le_of_ble_eq_true rfl⟩ rfl (Nat.le_of_ble_eq_true rfl) rfl ⟨Nat.zero_le _, Nat.zero_le _⟩ dX7_isCalm_14 (fun x14 M14 h14 => ?_)
  obtain ⟨rfl, rfl⟩ := h14
  refine dp_zret C hret (by first | decide | exact dp_nb) dX7_isCalm_17 ?_
  refine ⟨?_, rfl⟩
  unfold ab
  split
  · unfold dp_b
    (repeat' split) <;> omega
  · unfold dp_b
    (repeat' split) <;> omega
theorem yyX7_isBetter : yX7_isBetter.cls = RX7 ∧ yX7_isBetter.cls ≠ "java/lang/invoke/MethodHandle" ∧ yX7_isBetter.cls ≠ "java/lang/invoke/VarHandle" ∧ (parseMethodDescriptor yX7_isBetter.desc).map (fun d => d.parameters.length) = some 2 := by decide +kernel
set_option maxHeartbeats 4000000 in
set_option maxRecDepth 100000 in
theorem c_X7_isBetter {E : dp_E} (hE : dp_OK E) (l : Launch) {M : dp_M} {V X : dp_V} (hv : ivS V) {z : Int} (hz : 0 ≤ z ∧ z ≤ 36000) : dp_met E l yX7_isBetter wsX7_isBetter 4 92 [.ref (eAd E 8 0), .int (dp_I (z - 36000)), .int (dp_I z)] (dN M V X) (dp_qi E (fun y M1 => y = ltF V z ∧ ∃ X', M1 = dN M V X' ∧ scr X X')) := by
  refine dp_of (cc := cX7_isBetter) (nL := 7) (own := RX7) (ret := some (.boolean)) (by decide +kernel) rfl rfl hE (by simp [Value.category]) (Nat.le_of_ble_eq_true rfl) ?_
  intro p e s m below meth co C hret
  show dp_G _ _ _ _ _ _ _ _ _ _ _ _ _ _ _ _ _ [some (.ref (eAd E 8 0)), some (.int (dp_I (z - 36000))), some (.int (dp_I z)), none, none, none, none] _
  have h1 := hv.2.1
  have bL1 := wyL_bd hv.2.2.2.1 (show -40000 ≤ z - 36000 ∧ z - 36000 ≤ 40000 by omega) (show 0 ≤ V 1 0 ∧ V 1 0 ≤ 500 by omega)
  have bL2 := wyL_bd hv.2.2.2.1 (show -40000 ≤ z ∧ z ≤ 40000 by omega) (show 0 ≤ V 1 0 ∧ V 1 0 ≤ 500 by omega)
  have e1 : ab (z - 36000 - 0) = 36000 - z := by unfold ab; split <;> omega
  have e2 : ab (z - 0) = z := by unfold ab; split <;> omega
  have e3 : ab (z - 36000) = 36000 - z := by unfold ab; split <;> omega
  have e4 : ab z = z := by unfold ab; split <;> omega
  refine dp_aload_n C dX7_isBetter_0 rfl ?_
  refine dp_iload_n C dX7_isBetter_1 rfl ?_
  refine dp_cVi C (c_X7_isCalm C.2.2.1 l (by omega) (by omega)) gX7_isBetter_X7_isCalm rfl (dp_mM (by decide)) dp_xmo rfl yyX7_isCalm rfl ⟨Nat.le_of_ble_eq_true rfl, Nat.le_of_ble_eq_true rfl⟩ rfl (Nat.le_of_ble_eq_true rfl) rfl ⟨Nat.zero_le _, Nat.zero_le _⟩ dX7_isBetter_2 (fun x2 M2 h2 => ?_)
  obtain ⟨rfl, rfl⟩ := h2
  refine dp_aload_n C dX7_isBetter_5 rfl ?_
  refine dp_iload_n C dX7_isBetter_6 rfl ?_
  refine dp_cVi C (c_X7_isCalm C.2.2.1 l (by omega) (by omega)) gX7_isBetter_X7_isCalm rfl (dp_mM (by decide)) dp_xmo rfl yyX7_isCalm rfl ⟨Nat.le_of_ble_eq_true rfl, Nat.le_of_ble_eq_true rfl⟩ rfl (Nat.le_of_ble_eq_true rfl) rfl ⟨Nat.zero_le _, Nat.zero_le _⟩ dX7_isBetter_7 (fun x7 M7 h7 => ?_)
  obtain ⟨rfl, rfl⟩ := h7
  refine dp_icmp_eq (tgt := 19) C dX7_isBetter_10 (by decide) dp_Rb dp_Rb (fun c10 => ?_) (fun c10 => ?_)
  · skip
    refine dp_aload_n C dX7_isBetter_19 rfl ?_
    refine dp_iconst C dX7_isBetter_20 ?_
    refine dp_iload_n C dX7_isBetter_21 rfl ?_
    refine dp_cVi C (c_X7_lengthOf C.2.2.1 l (a := 0) (to := z - 36000) (by decide) hv.2.2.2.1 (by omega) (by omega)) gX7_isBetter_X7_lengthOf rfl (dp_mM (by decide)) dp_xmo rfl yyX7_lengthOf rfl ⟨Nat.le_of_ble_eq_true rfl, Nat.le_of_ble_eq_true rfl⟩ rfl (Nat.le_of_ble_eq_true rfl) rfl ⟨Nat.zero_le _, Nat.zero_le _⟩ dX7_isBetter_22 (fun x22 M22 h22 => ?_)
    obtain ⟨rfl, X1, rfl, hs1⟩ := h22
    rw [show (0 : Nat) + 3 = 3 from rfl]
    refine dp_istore_n C dX7_isBetter_25 (Nat.le_of_ble_eq_true rfl) ?_
    dsimp only [List.set]
    refine dp_aload_n C dX7_isBetter_26 rfl ?_
    refine dp_iconst C dX7_isBetter_27 ?_
    refine dp_iload_n C dX7_isBetter_28 rfl ?_
    refine dp_cVi C (c_X7_lengthOf C.2.2.1 l (a := 0) (to := z) (by decide) hv.2.2.2.1 (by omega) (by omega)) gX7_isBetter_X7_lengthOf rfl (dp_mM (by decide)) dp_xmo rfl yyX7_lengthOf rfl ⟨Nat.le_of_ble_eq_true rfl, Nat.le_of_ble_eq_true rfl⟩ rfl (Nat.le_of_ble_eq_true rfl) rfl ⟨Nat.zero_le _, Nat.zero_le _⟩ dX7_isBetter_29 (fun x29 M29 h29 => ?_)
    obtain ⟨rfl, X2, rfl, hs2⟩ := h29
    rw [show (0 : Nat) + 3 = 3 from rfl]
    refine dp_istore C dX7_isBetter_32 (Nat.le_of_ble_eq_true rfl) ?_
    dsimp only [List.set]
    refine dp_iload_n C dX7_isBetter_34 rfl ?_
    refine dp_iload C dX7_isBetter_35 rfl ?_
    refine dp_icmp_eq (tgt := 52) C dX7_isBetter_37 (by decide) ⟨by omega, by omega⟩ ⟨by omega, by omega⟩ (fun c37 => ?_) (fun c37 => ?_)
    · skip
      refine dp_iload_n C dX7_isBetter_52 rfl ?_
      refine dp_iconst C dX7_isBetter_53 ?_
      refine dp_cSi C (c_X7_apart C.2.2.1 l ⟨by omega, by omega⟩ ⟨by omega, by omega⟩) gX7_isBetter_X7_apart rfl yyX7_apart rfl ⟨Nat.le_of_ble_eq_true rfl, Nat.le_of_ble_eq_true rfl⟩ rfl (Nat.le_of_ble_eq_true rfl) rfl ⟨Nat.zero_le _, Nat.zero_le _⟩ dX7_isBetter_54 (fun x54 M54 h54 => ?_)
      obtain ⟨rfl, rfl⟩ := h54
      rw [e1]
      refine dp_istore C dX7_isBetter_57 (Nat.le_of_ble_eq_true rfl) ?_
      dsimp only [List.set]
      refine dp_iload_n C dX7_isBetter_59 rfl ?_
      refine dp_iconst C dX7_isBetter_60 ?_
      refine dp_cSi C (c_X7_apart C.2.2.1 l ⟨by omega, by omega⟩ ⟨by omega, by omega⟩) gX7_isBetter_X7_apart rfl yyX7_apart rfl ⟨Nat.le_of_ble_eq_true rfl, Nat.le_of_ble_eq_true rfl⟩ rfl (Nat.le_of_ble_eq_true rfl) rfl ⟨Nat.zero_le _, Nat.zero_le _⟩ dX7_isBetter_61 (fun x61 M61 h61 => ?_)
      obtain ⟨rfl, rfl⟩ := h61
      rw [e2]
      refine dp_istore C dX7_isBetter_64 (Nat.le_of_ble_eq_true rfl) ?_
      dsimp only [List.set]
      refine dp_iload C dX7_isBetter_66 rfl ?_
      refine dp_iload C dX7_isBetter_68 rfl ?_
      refine dp_icmp_lt (tgt := 85) C dX7_isBetter_70 (by decide) ⟨by omega, by omega⟩ ⟨by omega, by omega⟩ (fun c70 => ?_) (fun c70 => ?_)
      · skip
        refine dp_iconst C dX7_isBetter_85 ?_
        refine dp_goto (tgt := 90) C dX7_isBetter_86 (by decide) ?_
        refine dp_zret C hret (by first | decide | exact dp_nb) dX7_isBetter_90 ?_
        first | (refine ⟨?_, _, rfl, scr.rf⟩; unfold ltF; rw [if_neg (by assumption)]; done) | (refine ⟨?_, _, rfl, hs1.tr hs2⟩; unfold ltF; rw [if_pos (by assumption)]; first | (rw [if_neg (by assumption)]; first | exact (dp_b_t (by omega)).symm | exact (dp_b_f (by omega)).symm; done) | (rw [if_pos (by assumption), e3, e4]; first | exact (dp_b_t (by omega)).symm | exact (dp_b_f (by omega)).symm))
      · skip
        refine dp_iload C dX7_isBetter_73 rfl ?_
        refine dp_iload C dX7_isBetter_75 rfl ?_
        refine dp_icmp_ne (tgt := 89) C dX7_isBetter_77 (by decide) ⟨by omega, by omega⟩ ⟨by omega, by omega⟩ (fun c77 => ?_) (fun c77 => ?_)
        · skip
          refine dp_iconst C dX7_isBetter_89 ?_
          refine dp_zret C hret (by first | decide | exact dp_nb) dX7_isBetter_90 ?_
          first | (refine ⟨?_, _, rfl, scr.rf⟩; unfold ltF; rw [if_neg (by assumption)]; done) | (refine ⟨?_, _, rfl, hs1.tr hs2⟩; unfold ltF; rw [if_pos (by assumption)]; first | (rw [if_neg (by assumption)]; first | exact (dp_b_t (by omega)).symm | exact (dp_b_f (by omega)).symm; done) | (rw [if_pos (by assumption), e3, e4]; first | exact (dp_b_t (by omega)).symm | exact (dp_b_f (by omega)).symm))
        · skip
          refine dp_iload_n C dX7_isBetter_80 rfl ?_
          refine dp_iload_n C dX7_isBetter_81 rfl ?_
          refine dp_icmp_ge (tgt := 89) C dX7_isBetter_82 (by decide) ⟨by omega, by omega⟩ ⟨by omega, by omega⟩ (fun c82 => ?_) (fun c82 => ?_)
          · skip
            refine dp_iconst C dX7_isBetter_89 ?_
            refine dp_zret C hret (by first | decide | exact dp_nb) dX7_isBetter_90 ?_
            first | (refine ⟨?_, _, rfl, scr.rf⟩; unfold ltF; rw [if_neg (by assumption)]; done) | (refine ⟨?_, _, rfl, hs1.tr hs2⟩; unfold ltF; rw [if_pos (by assumption)]; first | (rw [if_neg (by assumption)]; first | exact (dp_b_t (by omega)).symm | exact (dp_b_f (by omega)).symm; done) | (rw [if_pos (by assumption), e3, e4]; first | exact (dp_b_t (by omega)).symm | exact (dp_b_f (by omega)).symm))
          · skip
            refine dp_iconst C dX7_isBetter_85 ?_
            refine dp_goto (tgt := 90) C dX7_isBetter_86 (by decide) ?_
            refine dp_zret C hret (by first | decide | exact dp_nb) dX7_isBetter_90 ?_
            first | (refine ⟨?_, _, rfl, scr.rf⟩; unfold ltF; rw [if_neg (by assumption)]; done) | (refine ⟨?_, _, rfl, hs1.tr hs2⟩; unfold ltF; rw [if_pos (by assumption)]; first | (rw [if_neg (by assumption)]; first | exact (dp_b_t (by omega)).symm | exact (dp_b_f (by omega)).symm; done) | (rw [if_pos (by assumption), e3, e4]; first | exact (dp_b_t (by omega)).symm | exact (dp_b_f (by omega)).symm))
    · skip
      refine dp_iload_n C dX7_isBetter_40 rfl ?_
      refine dp_iload C dX7_isBetter_41 rfl ?_
      refine dp_icmp_ge (tgt := 50) C dX7_isBetter_43 (by decide) ⟨by omega, by omega⟩ ⟨by omega, by omega⟩ (fun c43 => ?_) (fun c43 => ?_)
      · skip
        refine dp_iconst C dX7_isBetter_50 ?_
        refine dp_zret C hret (by first | decide | exact dp_nb) dX7_isBetter_51 ?_
        first | (refine ⟨?_, _, rfl, scr.rf⟩; unfold ltF; rw [if_neg (by assumption)]; done) | (refine ⟨?_, _, rfl, hs1.tr hs2⟩; unfold ltF; rw [if_pos (by assumption)]; first | (rw [if_neg (by assumption)]; first | exact (dp_b_t (by omega)).symm | exact (dp_b_f (by omega)).symm; done) | (rw [if_pos (by assumption), e3, e4]; first | exact (dp_b_t (by omega)).symm | exact (dp_b_f (by omega)).symm))
      · skip
        refine dp_iconst C dX7_isBetter_46 ?_
        refine dp_goto (tgt := 51) C dX7_isBetter_47 (by decide) ?_
        refine dp_zret C hret (by first | decide | exact dp_nb) dX7_isBetter_51 ?_
        first | (refine ⟨?_, _, rfl, scr.rf⟩; unfold ltF; rw [if_neg (by assumption)]; done) | (refine ⟨?_, _, rfl, hs1.tr hs2⟩; unfold ltF; rw [if_pos (by assumption)]; first | (rw [if_neg (by assumption)]; first | exact (dp_b_t (by omega)).symm | exact (dp_b_f (by omega)).symm; done) | (rw [if_pos (by assumption), e3, e4]; first | exact (dp_b_t (by omega)).symm | exact (dp_b_f (by omega)).symm))
  · skip
    refine dp_aload_n C dX7_isBetter_13 rfl ?_
    refine dp_iload_n C dX7_isBetter_14 rfl ?_
    refine dp_cVi C (c_X7_isCalm C.2.2.1 l (by omega) (by omega)) gX7_isBetter_X7_isCalm rfl (dp_mM (by decide)) dp_xmo rfl yyX7_isCalm rfl ⟨Nat.le_of_ble_eq_true rfl, Nat.le_of_ble_eq_true rfl⟩ rfl (Nat.le_of_ble_eq_true rfl) rfl ⟨Nat.zero_le _, Nat.zero_le _⟩ dX7_isBetter_15 (fun x15 M15 h15 => ?_)
    obtain ⟨rfl, rfl⟩ := h15
    refine dp_zret C hret (by first | decide | exact dp_nb) dX7_isBetter_18 ?_
    first | (refine ⟨?_, _, rfl, scr.rf⟩; unfold ltF; rw [if_neg (by assumption)]; done) | (refine ⟨?_, _, rfl, hs1.tr hs2⟩; unfold ltF; rw [if_pos (by assumption)]; first | (rw [if_neg (by assumption)]; first | exact (dp_b_t (by omega)).symm | exact (dp_b_f (by omega)).symm; done) | (rw [if_pos (by assumption), e3, e4]; first | exact (dp_b_t (by omega)).symm | exact (dp_b_f (by omega)).symm))
theorem yyX7_placeOf : yX7_placeOf.cls = RX7 ∧ yX7_placeOf.cls ≠ "java/lang/invoke/MethodHandle" ∧ yX7_placeOf.cls ≠ "java/lang/invoke/VarHandle" ∧ (parseMethodDescriptor yX7_placeOf.desc).map (fun d => d.parameters.length) = some 1 := by decide +kernel
set_option maxHeartbeats 4000000 in
set_option maxRecDepth 100000 in
theorem c_X7_placeOf {E : dp_E} (hE : dp_OK E) (l : Launch) {M : dp_M} {V X : dp_V} (hv : ivS V) {z : Int} (hz : 0 ≤ z ∧ z ≤ 36000) : dp_met E l yX7_placeOf wsX7_placeOf 5 118 [.ref (eAd E 8 0), .int (dp_I z)] (dN M V X) (dp_qi E (fun y M1 => y = pfF V z ∧ ∃ X', M1 = dN M V X' ∧ scr X X')) := by
  refine dp_of (cc := cX7_placeOf) (nL := 5) (own := RX7) (ret := some (.int)) (by decide +kernel) rfl rfl hE (by simp [Value.category]) (Nat.le_of_ble_eq_true rfl) ?_
  intro p e s m below meth co C hret
  show dp_G _ _ _ _ _ _ _ _ _ _ _ _ _ _ _ _ _ [some (.ref (eAd E 8 0)), some (.int (dp_I z)), none, none, none] _
  have h1 := hv.2.1
  have bP1 := @wyP_bd 3 (V 3) (z - 36000) (V 1 0)
  have bP2 := @wyP_bd 3 (V 3) z (V 1 0)
  have bl := @ltF_b V z
  refine dp_iload_n C dX7_placeOf_0 rfl ?_
  refine dp_ldc C (36000) (List.mem_of_getElem? (i := 1) rfl) rfl dX7_placeOf_1 ?_
  refine dp_isub C dX7_placeOf_3 ?_
  refine dp_istore_n C dX7_placeOf_4 (Nat.le_of_ble_eq_true rfl) ?_
  dsimp only [List.set]
  refine dp_aload_n C dX7_placeOf_5 rfl ?_
  refine dp_iconst C dX7_placeOf_6 ?_
  refine dp_iload_n C dX7_placeOf_7 rfl ?_
  refine dp_cVi C (c_X7_isPossible C.2.2.1 l (a := 0) (to := z - 36000) (by decide) hv.2.2.2.1 (by omega) (by omega)) gX7_placeOf_X7_isPossible rfl (dp_mM (by decide)) dp_xmo rfl yyX7_isPossible rfl ⟨Nat.le_of_ble_eq_true rfl, Nat.le_of_ble_eq_true rfl⟩ rfl (Nat.le_of_ble_eq_true rfl) rfl ⟨Nat.zero_le _, Nat.zero_le _⟩ dX7_placeOf_8 (fun x8 M8 h8 => ?_)
  obtain ⟨rfl, X1, rfl, hX1⟩ := h8
  have hs1 := hX1.1
  rw [show (0 : Nat) + 3 = 3 from rfl]
  refine dp_istore_n C dX7_placeOf_11 (Nat.le_of_ble_eq_true rfl) ?_
  dsimp only [List.set]
  refine dp_aload_n C dX7_placeOf_12 rfl ?_
  refine dp_iconst C dX7_placeOf_13 ?_
  refine dp_iload_n C dX7_placeOf_14 rfl ?_
  refine dp_cVi C (c_X7_isPossible C.2.2.1 l (a := 0) (to := z) (by decide) hv.2.2.2.1 (by omega) (by omega)) gX7_placeOf_X7_isPossible rfl (dp_mM (by decide)) dp_xmo rfl yyX7_isPossible rfl ⟨Nat.le_of_ble_eq_true rfl, Nat.le_of_ble_eq_true rfl⟩ rfl (Nat.le_of_ble_eq_true rfl) rfl ⟨Nat.zero_le _, Nat.zero_le _⟩ dX7_placeOf_15 (fun x15 M15 h15 => ?_)
  obtain ⟨rfl, X2, rfl, hX2⟩ := h15
  have hs2 := hX2.1
  rw [show (0 : Nat) + 3 = 3 from rfl]
  refine dp_istore C dX7_placeOf_18 (Nat.le_of_ble_eq_true rfl) ?_
  dsimp only [List.set]
  refine dp_iload_n C dX7_placeOf_20 rfl ?_
  refine dp_if_eq (tgt := 29) C dX7_placeOf_21 (by decide) ⟨by omega, by omega⟩ (fun c21 => ?_) (fun c21 => ?_)
  · skip
    refine dp_iload_n C dX7_placeOf_29 rfl ?_
    refine dp_if_eq (tgt := 37) C dX7_placeOf_30 (by decide) ⟨by omega, by omega⟩ (fun c30 => ?_) (fun c30 => ?_)
    · skip
      refine dp_iload C dX7_placeOf_37 rfl ?_
      refine dp_if_eq (tgt := 46) C dX7_placeOf_39 (by decide) ⟨by omega, by omega⟩ (fun c39 => ?_) (fun c39 => ?_)
      · skip
        refine dp_ldc C (-100004) (List.mem_of_getElem? (i := 2) rfl) rfl dX7_placeOf_46 ?_
        refine dp_iret C hret dX7_placeOf_48 ?_
        have ea : arW V z = (if wyP 3 (V 3) (z - 36000) (V 1 0) = 0 then 0 else if wyP 3 (V 3) z (V 1 0) = 0 then 1 else ltF V z) := rfl
        first | refine ⟨?_, _, rfl, (hs1.tr hs2).tr hs3⟩ | refine ⟨?_, _, rfl, hs1.tr hs2⟩
        unfold pfF apF
        rw [ea]
        (repeat' split) <;> first | rfl | omega
      · skip
        refine dp_iload_n C dX7_placeOf_42 rfl ?_
        refine dp_goto (tgt := 48) C dX7_placeOf_43 (by decide) ?_
        refine dp_iret C hret dX7_placeOf_48 ?_
        have ea : arW V z = (if wyP 3 (V 3) (z - 36000) (V 1 0) = 0 then 0 else if wyP 3 (V 3) z (V 1 0) = 0 then 1 else ltF V z) := rfl
        first | refine ⟨?_, _, rfl, (hs1.tr hs2).tr hs3⟩ | refine ⟨?_, _, rfl, hs1.tr hs2⟩
        unfold pfF apF
        rw [ea]
        (repeat' split) <;> first | rfl | omega
    · skip
      refine dp_iload_n C dX7_placeOf_33 rfl ?_
      refine dp_goto (tgt := 48) C dX7_placeOf_34 (by decide) ?_
      refine dp_iret C hret dX7_placeOf_48 ?_
      have ea : arW V z = (if wyP 3 (V 3) (z - 36000) (V 1 0) = 0 then 0 else if wyP 3 (V 3) z (V 1 0) = 0 then 1 else ltF V z) := rfl
      first | refine ⟨?_, _, rfl, (hs1.tr hs2).tr hs3⟩ | refine ⟨?_, _, rfl, hs1.tr hs2⟩
      unfold pfF apF
      rw [ea]
      (repeat' split) <;> first | rfl | omega
  · skip
    refine dp_iload C dX7_placeOf_24 rfl ?_
    refine dp_if_ne (tgt := 49) C dX7_placeOf_26 (by decide) ⟨by omega, by omega⟩ (fun c26 => ?_) (fun c26 => ?_)
    · skip
      refine dp_aload_n C dX7_placeOf_49 rfl ?_
      refine dp_iload_n C dX7_placeOf_50 rfl ?_
      refine dp_iload_n C dX7_placeOf_51 rfl ?_
      refine dp_cVi C (c_X7_isBetter C.2.2.1 l hv hz) gX7_placeOf_X7_isBetter rfl (dp_mM (by decide)) dp_xmo rfl yyX7_isBetter rfl ⟨Nat.le_of_ble_eq_true rfl, Nat.le_of_ble_eq_true rfl⟩ rfl (Nat.le_of_ble_eq_true rfl) rfl ⟨Nat.zero_le _, Nat.zero_le _⟩ dX7_placeOf_52 (fun x52 M52 h52 => ?_)
      obtain ⟨rfl, X3, rfl, hs3⟩ := h52
      refine dp_if_eq (tgt := 62) C dX7_placeOf_55 (by decide) ⟨by omega, by omega⟩ (fun c55 => ?_) (fun c55 => ?_)
      · skip
        refine dp_iload_n C dX7_placeOf_62 rfl ?_
        refine dp_iret C hret dX7_placeOf_63 ?_
        have ea : arW V z = (if wyP 3 (V 3) (z - 36000) (V 1 0) = 0 then 0 else if wyP 3 (V 3) z (V 1 0) = 0 then 1 else ltF V z) := rfl
        first | refine ⟨?_, _, rfl, (hs1.tr hs2).tr hs3⟩ | refine ⟨?_, _, rfl, hs1.tr hs2⟩
        unfold pfF apF
        rw [ea]
        (repeat' split) <;> first | rfl | omega
      · skip
        refine dp_iload_n C dX7_placeOf_58 rfl ?_
        refine dp_goto (tgt := 63) C dX7_placeOf_59 (by decide) ?_
        refine dp_iret C hret dX7_placeOf_63 ?_
        have ea : arW V z = (if wyP 3 (V 3) (z - 36000) (V 1 0) = 0 then 0 else if wyP 3 (V 3) z (V 1 0) = 0 then 1 else ltF V z) := rfl
        first | refine ⟨?_, _, rfl, (hs1.tr hs2).tr hs3⟩ | refine ⟨?_, _, rfl, hs1.tr hs2⟩
        unfold pfF apF
        rw [ea]
        (repeat' split) <;> first | rfl | omega
    · skip
      refine dp_iload_n C dX7_placeOf_29 rfl ?_
      refine dp_if_eq (tgt := 37) C dX7_placeOf_30 (by decide) ⟨by omega, by omega⟩ (fun c30 => ?_) (fun c30 => ?_)
      · skip
        refine dp_iload C dX7_placeOf_37 rfl ?_
        refine dp_if_eq (tgt := 46) C dX7_placeOf_39 (by decide) ⟨by omega, by omega⟩ (fun c39 => ?_) (fun c39 => ?_)
        · skip
          refine dp_ldc C (-100004) (List.mem_of_getElem? (i := 2) rfl) rfl dX7_placeOf_46 ?_
          refine dp_iret C hret dX7_placeOf_48 ?_
          have ea : arW V z = (if wyP 3 (V 3) (z - 36000) (V 1 0) = 0 then 0 else if wyP 3 (V 3) z (V 1 0) = 0 then 1 else ltF V z) := rfl
          first | refine ⟨?_, _, rfl, (hs1.tr hs2).tr hs3⟩ | refine ⟨?_, _, rfl, hs1.tr hs2⟩
          unfold pfF apF
          rw [ea]
          (repeat' split) <;> first | rfl | omega
        · skip
          refine dp_iload_n C dX7_placeOf_42 rfl ?_
          refine dp_goto (tgt := 48) C dX7_placeOf_43 (by decide) ?_
          refine dp_iret C hret dX7_placeOf_48 ?_
          have ea : arW V z = (if wyP 3 (V 3) (z - 36000) (V 1 0) = 0 then 0 else if wyP 3 (V 3) z (V 1 0) = 0 then 1 else ltF V z) := rfl
          first | refine ⟨?_, _, rfl, (hs1.tr hs2).tr hs3⟩ | refine ⟨?_, _, rfl, hs1.tr hs2⟩
          unfold pfF apF
          rw [ea]
          (repeat' split) <;> first | rfl | omega
      · skip
        refine dp_iload_n C dX7_placeOf_33 rfl ?_
        refine dp_goto (tgt := 48) C dX7_placeOf_34 (by decide) ?_
        refine dp_iret C hret dX7_placeOf_48 ?_
        have ea : arW V z = (if wyP 3 (V 3) (z - 36000) (V 1 0) = 0 then 0 else if wyP 3 (V 3) z (V 1 0) = 0 then 1 else ltF V z) := rfl
        first | refine ⟨?_, _, rfl, (hs1.tr hs2).tr hs3⟩ | refine ⟨?_, _, rfl, hs1.tr hs2⟩
        unfold pfF apF
        rw [ea]
        (repeat' split) <;> first | rfl | omega
