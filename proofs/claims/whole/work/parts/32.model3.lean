theorem dp_bc {P Q : Prop} {_ : Decidable P} {_ : Decidable Q} (h : P ↔ Q) : dp_b P = dp_b Q := by
  unfold dp_b
  by_cases p : P
  · rw [if_pos p, if_pos (h.1 p)]
  · rw [if_neg p, if_neg (fun q => p (h.2 q))]
theorem axC_n {b : Nat} (h : b < 2) : axC (b : Int) = b + 3 := by
  unfold axC
  split <;> omega
theorem axT_lo {c j : Nat} {f : Nat → Int} (h : j < 5) : axT c f (j : Int) = f j := by
  rcases (by omega : j = 0 ∨ j = 1 ∨ j = 2 ∨ j = 3 ∨ j = 4) with q | q | q | q | q <;> subst q <;> rfl
theorem axT_hi {c j : Nat} {f : Nat → Int} (h : 5 < j ∧ j < 8) : axT c f (j : Int) = f (j - 1) := by
  rcases (by omega : j = 6 ∨ j = 7) with q | q <;> subst q <;> rfl
theorem axT_5 {c : Nat} {f : Nat → Int} {x : Int} (h : x = 5) : axT c f x = f 3 - f 4 := by subst h; rfl
theorem axT_8 {b : Nat} {f : Nat → Int} {x : Int} (h : x = 8) : axT (b + 3) f x = axS (b + 3) + f 5 - f 6 := by subst h; rfl
theorem axT_no {c : Nat} {f : Nat → Int} {x : Int} (h : x < 0 ∨ 8 < x) : axT c f x = -100001 := by
  unfold axT
  repeat (first | rw [if_neg (by omega)] | rw [if_pos (by omega)])
theorem pfF_ne {V : dp_V} {z : Int} (h : ¬ pfF V z = -100004) : pfF V z = apF V z ∧ ¬ wyP 3 (V 3) (apF V z) (V 1 0) = 0 := by
  unfold pfF at h ⊢
  split at h
  · exact absurd rfl h
  · rename_i q
    rw [if_neg q]
    exact ⟨rfl, q⟩
theorem pfF_eq {V : dp_V} {z : Int} (hz : 0 ≤ z ∧ z ≤ 35999) (h : pfF V z = -100004) : wyP 3 (V 3) (apF V z) (V 1 0) = 0 := by
  have := @apF_bd V z hz
  unfold pfF at h
  split at h
  · assumption
  · omega
theorem pfF_bd {V : dp_V} {z : Int} (hz : 0 ≤ z ∧ z ≤ 35999) : -100004 ≤ pfF V z ∧ pfF V z ≤ 36000 := by
  have := @apF_bd V z hz
  unfold pfF
  split <;> omega
/-- why a target can not be begun -/
def rsM (V : dp_V) (N t : Nat) : Int := if V (t + 6) 6 = 0 then (if uwG V 0 N = -1 then (if kdF V = 0 then 3 else if V 0 0 < V (t + 6) 2 then 4 else if wyP 4 (V 4) (V (t + 6) 1) (V 1 0) = 0 then 5 else if wyP 3 (V 3) (apF V (V (t + 6) 0)) (V 1 0) = 0 then 6 else if V (t + 6) 3 < V 0 0 + tmF V (apF V (V (t + 6) 0)) (V (t + 6) 1) + V (t + 6) 4 then 7 else 0) else 2) else 1
theorem rsM_bd {V : dp_V} {N t : Nat} : 0 ≤ rsM V N t ∧ rsM V N t ≤ 7 := by
  unfold rsM
  repeat' split
  all_goals omega
/-- the best one to begin -/
def bsM (V : dp_V) (N : Nat) : Nat → Nat → Int → Int
  | _, 0, b => b
  | k, n + 1, b => bsM V N (k + 1) n (if rsM V N k = 0 then (if b = -1 then (k : Int) else if btF (V (k + 6)) (V (b.toNat + 6)) = 0 then b else (k : Int)) else b)
def bnM (V : dp_V) (N : Nat) : Int := bsM V N 0 N (-1)
theorem ftF_n {k : Nat} : ftF (k : Int) = k := by unfold ftF; rw [if_neg (by omega)]
theorem ftF_ne {b : Int} (h : ¬ ftF b = -100004) : ¬ b = -1 ∧ ftF b = b := by
  unfold ftF at h ⊢
  split at h
  · exact absurd rfl h
  · rename_i q
    rw [if_neg q]
    exact ⟨q, rfl⟩
theorem ftF_eq {b : Int} (hb : b = -1 ∨ 0 ≤ b) (h : ftF b = -100004) : b = -1 := by
  unfold ftF at h
  split at h
  · assumption
  · omega
theorem yyX7_mostOf : yX7_mostOf.cls ≠ "java/lang/invoke/MethodHandle" ∧ yX7_mostOf.cls ≠ "java/lang/invoke/VarHandle" ∧ (parseMethodDescriptor yX7_mostOf.desc).map (fun d => d.parameters.length) = some 1 := by decide +kernel
set_option maxHeartbeats 4000000 in
set_option maxRecDepth 100000 in
theorem c_X7_mostOf {E : dp_E} (hE : dp_OK E) (l : Launch) {M : dp_M} {k : Int} (hk : 0 ≤ k ∧ k ≤ 3) : dp_met E l yX7_mostOf wsX7_mostOf 0 0 [.int (dp_I k)] (M) (dp_qi E (fun y M1 => y = dp_sm k.toNat ∧ M1 = M)) := by
  refine dp_of (cc := cX7_mostOf) (nL := 1) (own := RX7) (ret := some (.int)) (by decide +kernel) rfl rfl hE (by simp [Value.category]) (Nat.le_of_ble_eq_true rfl) ?_
  intro p e s m below meth co C hret
  show dp_G _ _ _ _ _ _ _ _ _ _ _ _ _ _ _ _ _ [some (.int (dp_I k))] _
  refine dp_iload_n C dX7_mostOf_0 rfl ?_
  refine dp_if_ne (tgt := 10) C dX7_mostOf_1 (by decide) ⟨by omega, by omega⟩ (fun c1 => ?_) (fun c1 => ?_)
  · skip
    refine dp_iload_n C dX7_mostOf_10 rfl ?_
    refine dp_iconst C dX7_mostOf_11 ?_
    refine dp_icmp_ne (tgt := 21) C dX7_mostOf_12 (by decide) ⟨by omega, by omega⟩ ⟨by omega, by omega⟩ (fun c12 => ?_) (fun c12 => ?_)
    · skip
      refine dp_bipush C dX7_mostOf_21 (by decide) ?_
      refine dp_iret C hret dX7_mostOf_23 ?_
      refine ⟨?_, rfl⟩
      first | (have q : k = 0 := (by omega); subst q; rfl) | (have q : k = 1 := (by omega); subst q; rfl) | (rcases (by omega : k = 2 ∨ k = 3) with q | q <;> subst q <;> rfl)
    · skip
      refine dp_sipush C dX7_mostOf_15 (by decide) ?_
      refine dp_goto (tgt := 23) C dX7_mostOf_18 (by decide) ?_
      refine dp_iret C hret dX7_mostOf_23 ?_
      refine ⟨?_, rfl⟩
      first | (have q : k = 0 := (by omega); subst q; rfl) | (have q : k = 1 := (by omega); subst q; rfl) | (rcases (by omega : k = 2 ∨ k = 3) with q | q <;> subst q <;> rfl)
  · skip
    refine dp_sipush C dX7_mostOf_4 (by decide) ?_
    refine dp_goto (tgt := 23) C dX7_mostOf_7 (by decide) ?_
    refine dp_iret C hret dX7_mostOf_23 ?_
    refine ⟨?_, rfl⟩
    first | (have q : k = 0 := (by omega); subst q; rfl) | (have q : k = 1 := (by omega); subst q; rfl) | (rcases (by omega : k = 2 ∨ k = 3) with q | q <;> subst q <;> rfl)
theorem yyX7_isOfAxis : yX7_isOfAxis.cls ≠ "java/lang/invoke/MethodHandle" ∧ yX7_isOfAxis.cls ≠ "java/lang/invoke/VarHandle" ∧ (parseMethodDescriptor yX7_isOfAxis.desc).map (fun d => d.parameters.length) = some 2 := by decide +kernel
set_option maxHeartbeats 4000000 in
set_option maxRecDepth 100000 in
theorem c_X7_isOfAxis {E : dp_E} (hE : dp_OK E) (l : Launch) {M : dp_M} {k x : Int} (hk : dp_R k) (hx : dp_R x) : dp_met E l yX7_isOfAxis wsX7_isOfAxis 1 22 [.int (dp_I k), .int (dp_I x)] (M) (dp_qi E (fun y M1 => y = dp_b ((0 ≤ k ∧ k ≤ 2) ∧ dp_al k.toNat ≤ x ∧ x ≤ dp_am k.toNat) ∧ M1 = M)) := by
  refine dp_of (cc := cX7_isOfAxis) (nL := 2) (own := RX7) (ret := some (.boolean)) (by decide +kernel) rfl rfl hE (by simp [Value.category]) (Nat.le_of_ble_eq_true rfl) ?_
  intro p e s m below meth co C hret
  show dp_G _ _ _ _ _ _ _ _ _ _ _ _ _ _ _ _ _ [some (.int (dp_I k)), some (.int (dp_I x))] _
  unfold dp_R at hk hx
  refine dp_iload_n C dX7_isOfAxis_0 rfl ?_
  refine dp_table (td := 53) C [28, 37, 44] dX7_isOfAxis_1 (by decide) (by decide) (by decide) ⟨by omega, by omega⟩ (fun c1 => ?_) ?_
  · skip
    refine dp_iconst C dX7_isOfAxis_53 ?_
    refine dp_zret C hret (by first | decide | exact dp_nb) dX7_isOfAxis_54 ?_
    first | (have q : k = 0 := (by omega); subst q; exact ⟨dp_bc ⟨fun h => ⟨⟨by decide, by decide⟩, h⟩, fun h => h.2⟩, rfl⟩) | (have q : k = 1 := (by omega); subst q; exact ⟨dp_bc ⟨fun h => ⟨⟨by decide, by decide⟩, h⟩, fun h => h.2⟩, rfl⟩) | (have q : k = 2 := (by omega); subst q; exact ⟨dp_bc ⟨fun h => ⟨⟨by decide, by decide⟩, h⟩, fun h => h.2⟩, rfl⟩) | exact ⟨(dp_b_f (fun h => by omega)).symm, rfl⟩
  · simp only [dp_sw]
    refine ⟨fun c1 => ?_, fun c1 => ?_, fun c1 => ?_, trivial⟩
    · skip
      refine dp_iload_n C dX7_isOfAxis_28 rfl ?_
      refine dp_iconst C dX7_isOfAxis_29 ?_
      refine dp_sipush C dX7_isOfAxis_30 (by decide) ?_
      refine dp_cSi C (c_X7_in C.2.2.1 l ⟨by omega, by omega⟩ ⟨by omega, by omega⟩ ⟨by omega, by omega⟩) gX7_isOfAxis_X7_in rfl yyX7_in rfl ⟨Nat.le_of_ble_eq_true rfl, Nat.le_of_ble_eq_true rfl⟩ rfl (Nat.le_of_ble_eq_true rfl) rfl ⟨Nat.zero_le _, Nat.zero_le _⟩ dX7_isOfAxis_33 (fun x33 M33 h33 => ?_)
      obtain ⟨rfl, rfl⟩ := h33
      refine dp_zret C hret (by first | decide | exact dp_nb) dX7_isOfAxis_36 ?_
      first | (have q : k = 0 := (by omega); subst q; exact ⟨dp_bc ⟨fun h => ⟨⟨by decide, by decide⟩, h⟩, fun h => h.2⟩, rfl⟩) | (have q : k = 1 := (by omega); subst q; exact ⟨dp_bc ⟨fun h => ⟨⟨by decide, by decide⟩, h⟩, fun h => h.2⟩, rfl⟩) | (have q : k = 2 := (by omega); subst q; exact ⟨dp_bc ⟨fun h => ⟨⟨by decide, by decide⟩, h⟩, fun h => h.2⟩, rfl⟩) | exact ⟨(dp_b_f (fun h => by omega)).symm, rfl⟩
    · skip
      refine dp_iload_n C dX7_isOfAxis_37 rfl ?_
      refine dp_iconst C dX7_isOfAxis_38 ?_
      refine dp_iconst C dX7_isOfAxis_39 ?_
      refine dp_cSi C (c_X7_in C.2.2.1 l ⟨by omega, by omega⟩ ⟨by omega, by omega⟩ ⟨by omega, by omega⟩) gX7_isOfAxis_X7_in rfl yyX7_in rfl ⟨Nat.le_of_ble_eq_true rfl, Nat.le_of_ble_eq_true rfl⟩ rfl (Nat.le_of_ble_eq_true rfl) rfl ⟨Nat.zero_le _, Nat.zero_le _⟩ dX7_isOfAxis_40 (fun x40 M40 h40 => ?_)
      obtain ⟨rfl, rfl⟩ := h40
      refine dp_zret C hret (by first | decide | exact dp_nb) dX7_isOfAxis_43 ?_
      first | (have q : k = 0 := (by omega); subst q; exact ⟨dp_bc ⟨fun h => ⟨⟨by decide, by decide⟩, h⟩, fun h => h.2⟩, rfl⟩) | (have q : k = 1 := (by omega); subst q; exact ⟨dp_bc ⟨fun h => ⟨⟨by decide, by decide⟩, h⟩, fun h => h.2⟩, rfl⟩) | (have q : k = 2 := (by omega); subst q; exact ⟨dp_bc ⟨fun h => ⟨⟨by decide, by decide⟩, h⟩, fun h => h.2⟩, rfl⟩) | exact ⟨(dp_b_f (fun h => by omega)).symm, rfl⟩
    · skip
      refine dp_iload_n C dX7_isOfAxis_44 rfl ?_
      refine dp_iconst C dX7_isOfAxis_45 ?_
      refine dp_sipush C dX7_isOfAxis_46 (by decide) ?_
      refine dp_cSi C (c_X7_in C.2.2.1 l ⟨by omega, by omega⟩ ⟨by omega, by omega⟩ ⟨by omega, by omega⟩) gX7_isOfAxis_X7_in rfl yyX7_in rfl ⟨Nat.le_of_ble_eq_true rfl, Nat.le_of_ble_eq_true rfl⟩ rfl (Nat.le_of_ble_eq_true rfl) rfl ⟨Nat.zero_le _, Nat.zero_le _⟩ dX7_isOfAxis_49 (fun x49 M49 h49 => ?_)
      obtain ⟨rfl, rfl⟩ := h49
      refine dp_zret C hret (by first | decide | exact dp_nb) dX7_isOfAxis_52 ?_
      first | (have q : k = 0 := (by omega); subst q; exact ⟨dp_bc ⟨fun h => ⟨⟨by decide, by decide⟩, h⟩, fun h => h.2⟩, rfl⟩) | (have q : k = 1 := (by omega); subst q; exact ⟨dp_bc ⟨fun h => ⟨⟨by decide, by decide⟩, h⟩, fun h => h.2⟩, rfl⟩) | (have q : k = 2 := (by omega); subst q; exact ⟨dp_bc ⟨fun h => ⟨⟨by decide, by decide⟩, h⟩, fun h => h.2⟩, rfl⟩) | exact ⟨(dp_b_f (fun h => by omega)).symm, rfl⟩
theorem yyX7_isWound : yX7_isWound.cls = RX7 ∧ yX7_isWound.cls ≠ "java/lang/invoke/MethodHandle" ∧ yX7_isWound.cls ≠ "java/lang/invoke/VarHandle" ∧ (parseMethodDescriptor yX7_isWound.desc).map (fun d => d.parameters.length) = some 0 := by decide +kernel
set_option maxHeartbeats 4000000 in
set_option maxRecDepth 100000 in
theorem c_X7_isWound {E : dp_E} (hE : dp_OK E) (l : Launch) {M : dp_M} {V X : dp_V} (hv : ivS V) : dp_met E l yX7_isWound wsX7_isWound 2 43 [.ref (eAd E 8 0)] (dN M V X) (dp_qi E (fun y M1 => y = dp_b (V 1 1 < ab (V 3 3)) ∧ M1 = dN M V X)) := by
  refine dp_of (cc := cX7_isWound) (nL := 1) (own := RX7) (ret := some (.int)) (by decide +kernel) rfl rfl hE (by simp [Value.category]) (Nat.le_of_ble_eq_true rfl) ?_
  intro p e s m below meth co C hret
  show dp_G _ _ _ _ _ _ _ _ _ _ _ _ _ _ _ _ _ [some (.ref (eAd E 8 0))] _
  have h1 := hv.2.1
  have hA := hv.2.2.2.1
  unfold ivA at hA
  have hb := @ax_bd 3
  refine dp_aload_n C dX7_isWound_0 rfl ?_
  refine dp_aload_n C dX7_isWound_1 rfl ?_
  refine dp_iconst C dX7_isWound_2 ?_
  refine dp_iconst C dX7_isWound_3 ?_
  refine dp_cVi C (c_X7_ofAxis C.2.2.1 l (a := 0) (k := 3) (by decide) (by decide)) gX7_isWound_X7_ofAxis rfl (dp_mM (by decide)) dp_xmo rfl yyX7_ofAxis rfl ⟨Nat.le_of_ble_eq_true rfl, Nat.le_of_ble_eq_true rfl⟩ rfl (Nat.le_of_ble_eq_true rfl) rfl ⟨Nat.zero_le _, Nat.zero_le _⟩ dX7_isWound_4 (fun x4 M4 h4 => ?_)
  obtain ⟨rfl, rfl⟩ := h4
  rw [show (0 : Nat) + 3 = 3 from rfl]
  refine dp_cVi C (c_X7_isCalm C.2.2.1 l (by omega) (by omega)) gX7_isWound_X7_isCalm rfl (dp_mM (by decide)) dp_xmo rfl yyX7_isCalm rfl ⟨Nat.le_of_ble_eq_true rfl, Nat.le_of_ble_eq_true rfl⟩ rfl (Nat.le_of_ble_eq_true rfl) rfl ⟨Nat.zero_le _, Nat.zero_le _⟩ dX7_isWound_7 (fun x7 M7 h7 => ?_)
  obtain ⟨rfl, rfl⟩ := h7
  refine dp_ifz_eq (tgt := 17) C dX7_isWound_10 (by decide) (fun c10 => ?_) (fun c10 => ?_)
  · skip
    refine dp_iconst C dX7_isWound_17 ?_
    refine dp_iret C hret dX7_isWound_18 ?_
    exact ⟨by first | exact (dp_b_t (by omega)).symm | exact (dp_b_f (by omega)).symm, rfl⟩
  · skip
    refine dp_iconst C dX7_isWound_13 ?_
    refine dp_goto (tgt := 18) C dX7_isWound_14 (by decide) ?_
    refine dp_iret C hret dX7_isWound_18 ?_
    exact ⟨by first | exact (dp_b_t (by omega)).symm | exact (dp_b_f (by omega)).symm, rfl⟩
theorem yyX7_isWindow : yX7_isWindow.cls ≠ "java/lang/invoke/MethodHandle" ∧ yX7_isWindow.cls ≠ "java/lang/invoke/VarHandle" ∧ (parseMethodDescriptor yX7_isWindow.desc).map (fun d => d.parameters.length) = some 2 := by decide +kernel
set_option maxHeartbeats 4000000 in
set_option maxRecDepth 100000 in
theorem c_X7_isWindow {E : dp_E} (hE : dp_OK E) (l : Launch) {M : dp_M} {x z : Int} (hx : dp_R x) (hz : dp_R z) : dp_met E l yX7_isWindow wsX7_isWindow 1 22 [.int (dp_I x), .int (dp_I z)] (M) (dp_qi E (fun y M1 => y = dp_b (0 ≤ x ∧ x ≤ 43200 ∧ 0 ≤ z ∧ z ≤ 43200 ∧ x < z) ∧ M1 = M)) := by
  refine dp_of (cc := cX7_isWindow) (nL := 2) (own := RX7) (ret := some (.boolean)) (by decide +kernel) rfl rfl hE (by simp [Value.category]) (Nat.le_of_ble_eq_true rfl) ?_
  intro p e s m below meth co C hret
  show dp_G _ _ _ _ _ _ _ _ _ _ _ _ _ _ _ _ _ [some (.int (dp_I x)), some (.int (dp_I z))] _
  unfold dp_R at hx hz
  refine dp_iload_n C dX7_isWindow_0 rfl ?_
  refine dp_iconst C dX7_isWindow_1 ?_
  refine dp_ldc C (43200) (List.mem_of_getElem? (i := 1) rfl) rfl dX7_isWindow_2 ?_
  refine dp_cSi C (c_X7_in C.2.2.1 l ⟨by omega, by omega⟩ ⟨by omega, by omega⟩ ⟨by omega, by omega⟩) gX7_isWindow_X7_in rfl yyX7_in rfl ⟨Nat.le_of_ble_eq_true rfl, Nat.le_of_ble_eq_true rfl⟩ rfl (Nat.le_of_ble_eq_true rfl) rfl ⟨Nat.zero_le _, Nat.zero_le _⟩ dX7_isWindow_4 (fun x4 M4 h4 => ?_)
  obtain ⟨rfl, rfl⟩ := h4
  refine dp_ifz_eq (tgt := 29) C dX7_isWindow_7 (by decide) (fun c7 => ?_) (fun c7 => ?_)
  · skip
    refine dp_iconst C dX7_isWindow_29 ?_
    refine dp_zret C hret (by first | decide | exact dp_nb) dX7_isWindow_30 ?_
    exact ⟨by first | exact (dp_b_t (by omega)).symm | exact (dp_b_f (by omega)).symm, rfl⟩
  · skip
    refine dp_iload_n C dX7_isWindow_10 rfl ?_
    refine dp_iconst C dX7_isWindow_11 ?_
    refine dp_ldc C (43200) (List.mem_of_getElem? (i := 1) rfl) rfl dX7_isWindow_12 ?_
    refine dp_cSi C (c_X7_in C.2.2.1 l ⟨by omega, by omega⟩ ⟨by omega, by omega⟩ ⟨by omega, by omega⟩) gX7_isWindow_X7_in rfl yyX7_in rfl ⟨Nat.le_of_ble_eq_true rfl, Nat.le_of_ble_eq_true rfl⟩ rfl (Nat.le_of_ble_eq_true rfl) rfl ⟨Nat.zero_le _, Nat.zero_le _⟩ dX7_isWindow_14 (fun x14 M14 h14 => ?_)
    obtain ⟨rfl, rfl⟩ := h14
    refine dp_ifz_eq (tgt := 29) C dX7_isWindow_17 (by decide) (fun c17 => ?_) (fun c17 => ?_)
    · skip
      refine dp_iconst C dX7_isWindow_29 ?_
      refine dp_zret C hret (by first | decide | exact dp_nb) dX7_isWindow_30 ?_
      exact ⟨by first | exact (dp_b_t (by omega)).symm | exact (dp_b_f (by omega)).symm, rfl⟩
    · skip
      refine dp_iload_n C dX7_isWindow_20 rfl ?_
      refine dp_iload_n C dX7_isWindow_21 rfl ?_
      refine dp_icmp_le (tgt := 29) C dX7_isWindow_22 (by decide) ⟨by omega, by omega⟩ ⟨by omega, by omega⟩ (fun c22 => ?_) (fun c22 => ?_)
      · skip
        refine dp_iconst C dX7_isWindow_29 ?_
        refine dp_zret C hret (by first | decide | exact dp_nb) dX7_isWindow_30 ?_
        exact ⟨by first | exact (dp_b_t (by omega)).symm | exact (dp_b_f (by omega)).symm, rfl⟩
      · skip
        refine dp_iconst C dX7_isWindow_25 ?_
        refine dp_goto (tgt := 30) C dX7_isWindow_26 (by decide) ?_
        refine dp_zret C hret (by first | decide | exact dp_nb) dX7_isWindow_30 ?_
        exact ⟨by first | exact (dp_b_t (by omega)).symm | exact (dp_b_f (by omega)).symm, rfl⟩
theorem yyX7_isGood : yX7_isGood.cls ≠ "java/lang/invoke/MethodHandle" ∧ yX7_isGood.cls ≠ "java/lang/invoke/VarHandle" ∧ (parseMethodDescriptor yX7_isGood.desc).map (fun d => d.parameters.length) = some 6 := by decide +kernel
set_option maxHeartbeats 4000000 in
set_option maxRecDepth 100000 in
theorem c_X7_isGood {E : dp_E} (hE : dp_OK E) (l : Launch) {M : dp_M} {a0 a1 a2 a3 a4 a5 : Int} (ha0 : dp_R a0) (ha1 : dp_R a1) (ha2 : dp_R a2) (ha3 : dp_R a3) (ha4 : dp_R a4) (ha5 : dp_R a5) : dp_met E l yX7_isGood wsX7_isGood 2 43 [.int (dp_I a0), .int (dp_I a1), .int (dp_I a2), .int (dp_I a3), .int (dp_I a4), .int (dp_I a5)] (M) (dp_qi E (fun y M1 => y = irF a0 a1 a2 a3 a4 a5 ∧ M1 = M)) := by
  refine dp_of (cc := cX7_isGood) (nL := 6) (own := RX7) (ret := some (.boolean)) (by decide +kernel) rfl rfl hE (by simp [Value.category]) (Nat.le_of_ble_eq_true rfl) ?_
  intro p e s m below meth co C hret
  show dp_G _ _ _ _ _ _ _ _ _ _ _ _ _ _ _ _ _ [some (.int (dp_I a0)), some (.int (dp_I a1)), some (.int (dp_I a2)), some (.int (dp_I a3)), some (.int (dp_I a4)), some (.int (dp_I a5))] _
  unfold dp_R at ha0 ha1 ha2 ha3 ha4 ha5
  refine dp_iload_n C dX7_isGood_0 rfl ?_
  refine dp_iconst C dX7_isGood_1 ?_
  refine dp_ldc C (35999) (List.mem_of_getElem? (i := 1) rfl) rfl dX7_isGood_2 ?_
  refine dp_cSi C (c_X7_in C.2.2.1 l ⟨by omega, by omega⟩ ⟨by omega, by omega⟩ ⟨by omega, by omega⟩) gX7_isGood_X7_in rfl yyX7_in rfl ⟨Nat.le_of_ble_eq_true rfl, Nat.le_of_ble_eq_true rfl⟩ rfl (Nat.le_of_ble_eq_true rfl) rfl ⟨Nat.zero_le _, Nat.zero_le _⟩ dX7_isGood_4 (fun x4 M4 h4 => ?_)
  obtain ⟨rfl, rfl⟩ := h4
  refine dp_ifz_eq (tgt := 58) C dX7_isGood_7 (by decide) (fun c7 => ?_) (fun c7 => ?_)
  · skip
    refine dp_iconst C dX7_isGood_58 ?_
    refine dp_zret C hret (by first | decide | exact dp_nb) dX7_isGood_59 ?_
    exact ⟨by unfold irF; first | exact (dp_b_t (by omega)).symm | exact (dp_b_f (by omega)).symm, rfl⟩
  · skip
    refine dp_iload_n C dX7_isGood_10 rfl ?_
    refine dp_sipush C dX7_isGood_11 (by decide) ?_
    refine dp_sipush C dX7_isGood_14 (by decide) ?_
    refine dp_cSi C (c_X7_in C.2.2.1 l ⟨by omega, by omega⟩ ⟨by omega, by omega⟩ ⟨by omega, by omega⟩) gX7_isGood_X7_in rfl yyX7_in rfl ⟨Nat.le_of_ble_eq_true rfl, Nat.le_of_ble_eq_true rfl⟩ rfl (Nat.le_of_ble_eq_true rfl) rfl ⟨Nat.zero_le _, Nat.zero_le _⟩ dX7_isGood_17 (fun x17 M17 h17 => ?_)
    obtain ⟨rfl, rfl⟩ := h17
    refine dp_ifz_eq (tgt := 58) C dX7_isGood_20 (by decide) (fun c20 => ?_) (fun c20 => ?_)
    · skip
      refine dp_iconst C dX7_isGood_58 ?_
      refine dp_zret C hret (by first | decide | exact dp_nb) dX7_isGood_59 ?_
      exact ⟨by unfold irF; first | exact (dp_b_t (by omega)).symm | exact (dp_b_f (by omega)).symm, rfl⟩
    · skip
      refine dp_iload_n C dX7_isGood_23 rfl ?_
      refine dp_iload_n C dX7_isGood_24 rfl ?_
      refine dp_cSi C (c_X7_isWindow C.2.2.1 l ⟨by omega, by omega⟩ ⟨by omega, by omega⟩) gX7_isGood_X7_isWindow rfl yyX7_isWindow rfl ⟨Nat.le_of_ble_eq_true rfl, Nat.le_of_ble_eq_true rfl⟩ rfl (Nat.le_of_ble_eq_true rfl) rfl ⟨Nat.zero_le _, Nat.zero_le _⟩ dX7_isGood_25 (fun x25 M25 h25 => ?_)
      obtain ⟨rfl, rfl⟩ := h25
      refine dp_ifz_eq (tgt := 58) C dX7_isGood_28 (by decide) (fun c28 => ?_) (fun c28 => ?_)
      · skip
        refine dp_iconst C dX7_isGood_58 ?_
        refine dp_zret C hret (by first | decide | exact dp_nb) dX7_isGood_59 ?_
        exact ⟨by unfold irF; first | exact (dp_b_t (by omega)).symm | exact (dp_b_f (by omega)).symm, rfl⟩
      · skip
        refine dp_iload C dX7_isGood_31 rfl ?_
        refine dp_iconst C dX7_isGood_33 ?_
        refine dp_sipush C dX7_isGood_34 (by decide) ?_
        refine dp_cSi C (c_X7_in C.2.2.1 l ⟨by omega, by omega⟩ ⟨by omega, by omega⟩ ⟨by omega, by omega⟩) gX7_isGood_X7_in rfl yyX7_in rfl ⟨Nat.le_of_ble_eq_true rfl, Nat.le_of_ble_eq_true rfl⟩ rfl (Nat.le_of_ble_eq_true rfl) rfl ⟨Nat.zero_le _, Nat.zero_le _⟩ dX7_isGood_37 (fun x37 M37 h37 => ?_)
        obtain ⟨rfl, rfl⟩ := h37
        refine dp_ifz_eq (tgt := 58) C dX7_isGood_40 (by decide) (fun c40 => ?_) (fun c40 => ?_)
        · skip
          refine dp_iconst C dX7_isGood_58 ?_
          refine dp_zret C hret (by first | decide | exact dp_nb) dX7_isGood_59 ?_
          exact ⟨by unfold irF; first | exact (dp_b_t (by omega)).symm | exact (dp_b_f (by omega)).symm, rfl⟩
        · skip
          refine dp_iload C dX7_isGood_43 rfl ?_
          refine dp_iconst C dX7_isGood_45 ?_
          refine dp_bipush C dX7_isGood_46 (by decide) ?_
          refine dp_cSi C (c_X7_in C.2.2.1 l ⟨by omega, by omega⟩ ⟨by omega, by omega⟩ ⟨by omega, by omega⟩) gX7_isGood_X7_in rfl yyX7_in rfl ⟨Nat.le_of_ble_eq_true rfl, Nat.le_of_ble_eq_true rfl⟩ rfl (Nat.le_of_ble_eq_true rfl) rfl ⟨Nat.zero_le _, Nat.zero_le _⟩ dX7_isGood_48 (fun x48 M48 h48 => ?_)
          obtain ⟨rfl, rfl⟩ := h48
          refine dp_ifz_eq (tgt := 58) C dX7_isGood_51 (by decide) (fun c51 => ?_) (fun c51 => ?_)
          · skip
            refine dp_iconst C dX7_isGood_58 ?_
            refine dp_zret C hret (by first | decide | exact dp_nb) dX7_isGood_59 ?_
            exact ⟨by unfold irF; first | exact (dp_b_t (by omega)).symm | exact (dp_b_f (by omega)).symm, rfl⟩
          · skip
            refine dp_iconst C dX7_isGood_54 ?_
            refine dp_goto (tgt := 59) C dX7_isGood_55 (by decide) ?_
            refine dp_zret C hret (by first | decide | exact dp_nb) dX7_isGood_59 ?_
            exact ⟨by unfold irF; first | exact (dp_b_t (by omega)).symm | exact (dp_b_f (by omega)).symm, rfl⟩
theorem yyX7_axis : yX7_axis.cls = RX7 ∧ yX7_axis.cls ≠ "java/lang/invoke/MethodHandle" ∧ yX7_axis.cls ≠ "java/lang/invoke/VarHandle" ∧ (parseMethodDescriptor yX7_axis.desc).map (fun d => d.parameters.length) = some 2 := by decide +kernel
set_option maxHeartbeats 4000000 in
set_option maxRecDepth 100000 in
theorem c_X7_axis {E : dp_E} (hE : dp_OK E) (l : Launch) {M : dp_M} {V X : dp_V} {a k : Int} (ha : dp_R a) (hk : dp_R k) : dp_met E l yX7_axis wsX7_axis 2 43 [.ref (eAd E 8 0), .int (dp_I a), .int (dp_I k)] (dN M V X) (dp_qi E (fun y M1 => y = (if 0 ≤ a ∧ a ≤ 1 then axT (axC a) (V (axC a)) k else -100001) ∧ M1 = dN M V X)) := by
  refine dp_of (cc := cX7_axis) (nL := 3) (own := RX7) (ret := some (.int)) (by decide +kernel) rfl rfl hE (by simp [Value.category]) (Nat.le_of_ble_eq_true rfl) ?_
  intro p e s m below meth co C hret
  show dp_G _ _ _ _ _ _ _ _ _ _ _ _ _ _ _ _ _ [some (.ref (eAd E 8 0)), some (.int (dp_I a)), some (.int (dp_I k))] _
  unfold dp_R at ha hk
  refine dp_iload_n C dX7_axis_0 rfl ?_
  refine dp_iconst C dX7_axis_1 ?_
  refine dp_iconst C dX7_axis_2 ?_
  refine dp_cSi C (c_X7_in C.2.2.1 l ⟨by omega, by omega⟩ ⟨by omega, by omega⟩ ⟨by omega, by omega⟩) gX7_axis_X7_in rfl yyX7_in rfl ⟨Nat.le_of_ble_eq_true rfl, Nat.le_of_ble_eq_true rfl⟩ rfl (Nat.le_of_ble_eq_true rfl) rfl ⟨Nat.zero_le _, Nat.zero_le _⟩ dX7_axis_3 (fun x3 M3 h3 => ?_)
  obtain ⟨rfl, rfl⟩ := h3
  refine dp_ifz_eq (tgt := 19) C dX7_axis_6 (by decide) (fun c6 => ?_) (fun c6 => ?_)
  · skip
    refine dp_ldc C (-100001) (List.mem_of_getElem? (i := 1) rfl) rfl dX7_axis_19 ?_
    refine dp_iret C hret dX7_axis_21 ?_
    first | exact ⟨by rw [if_neg (by omega)], rfl⟩ | exact ⟨by rw [if_pos (by omega), axT_no (by omega)], rfl⟩
  · skip
    obtain ⟨b, rfl, hb⟩ : ∃ b : Nat, a = (b : Int) ∧ b < 2 := ⟨a.toNat, by omega, by omega⟩
    refine dp_iload_n C dX7_axis_9 rfl ?_
    refine dp_iconst C dX7_axis_10 ?_
    refine dp_bipush C dX7_axis_11 (by decide) ?_
    refine dp_cSi C (c_X7_in C.2.2.1 l ⟨by omega, by omega⟩ ⟨by omega, by omega⟩ ⟨by omega, by omega⟩) gX7_axis_X7_in rfl yyX7_in rfl ⟨Nat.le_of_ble_eq_true rfl, Nat.le_of_ble_eq_true rfl⟩ rfl (Nat.le_of_ble_eq_true rfl) rfl ⟨Nat.zero_le _, Nat.zero_le _⟩ dX7_axis_13 (fun x13 M13 h13 => ?_)
    obtain ⟨rfl, rfl⟩ := h13
    refine dp_ifz_ne (tgt := 22) C dX7_axis_16 (by decide) (fun c16 => ?_) (fun c16 => ?_)
    · skip
      obtain ⟨j, rfl, hj⟩ : ∃ j : Nat, k = (j : Int) ∧ j < 9 := ⟨k.toNat, by omega, by omega⟩
      refine dp_iload_n C dX7_axis_22 rfl ?_
      refine dp_iconst C dX7_axis_23 ?_
      refine dp_icmp_ge (tgt := 34) C dX7_axis_24 (by decide) ⟨by omega, by omega⟩ ⟨by omega, by omega⟩ (fun c24 => ?_) (fun c24 => ?_)
      · skip
        refine dp_iload_n C dX7_axis_34 rfl ?_
        refine dp_iconst C dX7_axis_35 ?_
        refine dp_icmp_ne (tgt := 47) C dX7_axis_36 (by decide) ⟨by omega, by omega⟩ ⟨by omega, by omega⟩ (fun c36 => ?_) (fun c36 => ?_)
        · skip
          refine dp_iload_n C dX7_axis_47 rfl ?_
          refine dp_bipush C dX7_axis_48 (by decide) ?_
          refine dp_icmp_ge (tgt := 64) C dX7_axis_50 (by decide) ⟨by omega, by omega⟩ ⟨by omega, by omega⟩ (fun c50 => ?_) (fun c50 => ?_)
          · skip
            refine dp_iload_n C dX7_axis_64 rfl ?_
            refine dp_if_ne (tgt := 72) C dX7_axis_65 (by decide) ⟨by omega, by omega⟩ (fun c65 => ?_) (fun c65 => ?_)
            · skip
              refine dp_sipush C dX7_axis_72 (by decide) ?_
              refine dp_aload_n C dX7_axis_75 rfl ?_
              refine dp_iload_n C dX7_axis_76 rfl ?_
              refine dp_iconst C dX7_axis_77 ?_
              refine dp_cVi C (c_X7_ofAxis C.2.2.1 l (a := b) (k := 5) hb (by decide)) gX7_axis_X7_ofAxis rfl (dp_mM (by decide)) dp_xmo rfl yyX7_ofAxis rfl ⟨Nat.le_of_ble_eq_true rfl, Nat.le_of_ble_eq_true rfl⟩ rfl (Nat.le_of_ble_eq_true rfl) rfl ⟨Nat.zero_le _, Nat.zero_le _⟩ dX7_axis_78 (fun x78 M78 h78 => ?_)
              obtain ⟨rfl, rfl⟩ := h78
              refine dp_iadd C dX7_axis_81 ?_
              refine dp_aload_n C dX7_axis_82 rfl ?_
              refine dp_iload_n C dX7_axis_83 rfl ?_
              refine dp_bipush C dX7_axis_84 (by decide) ?_
              refine dp_cVi C (c_X7_ofAxis C.2.2.1 l (a := b) (k := 6) hb (by decide)) gX7_axis_X7_ofAxis rfl (dp_mM (by decide)) dp_xmo rfl yyX7_ofAxis rfl ⟨Nat.le_of_ble_eq_true rfl, Nat.le_of_ble_eq_true rfl⟩ rfl (Nat.le_of_ble_eq_true rfl) rfl ⟨Nat.zero_le _, Nat.zero_le _⟩ dX7_axis_86 (fun x86 M86 h86 => ?_)
              obtain ⟨rfl, rfl⟩ := h86
              refine dp_isub C dX7_axis_89 ?_
              refine dp_iret C hret dX7_axis_90 ?_
              have e0 : b = 0 → axS (b + 3) = 0 := fun q => by subst q; rfl
              have e1 : b = 1 → axS (b + 3) = 9000 := fun q => by subst q; rfl
              refine ⟨?_, rfl⟩
              rw [if_pos (by omega), axC_n hb]
              first | (rw [axT_lo (by omega)]; done) | (rw [axT_hi (by omega)]; done) | (rw [axT_5 (by omega)]; done) | (rw [axT_8 (by omega)]; omega)
            · skip
              refine dp_iconst C dX7_axis_68 ?_
              refine dp_goto (tgt := 75) C dX7_axis_69 (by decide) ?_
              refine dp_aload_n C dX7_axis_75 rfl ?_
              refine dp_iload_n C dX7_axis_76 rfl ?_
              refine dp_iconst C dX7_axis_77 ?_
              refine dp_cVi C (c_X7_ofAxis C.2.2.1 l (a := b) (k := 5) hb (by decide)) gX7_axis_X7_ofAxis rfl (dp_mM (by decide)) dp_xmo rfl yyX7_ofAxis rfl ⟨Nat.le_of_ble_eq_true rfl, Nat.le_of_ble_eq_true rfl⟩ rfl (Nat.le_of_ble_eq_true rfl) rfl ⟨Nat.zero_le _, Nat.zero_le _⟩ dX7_axis_78 (fun x78 M78 h78 => ?_)
              obtain ⟨rfl, rfl⟩ := h78
              refine dp_iadd C dX7_axis_81 ?_
              refine dp_aload_n C dX7_axis_82 rfl ?_
              refine dp_iload_n C dX7_axis_83 rfl ?_
              refine dp_bipush C dX7_axis_84 (by decide) ?_
              refine dp_cVi C (c_X7_ofAxis C.2.2.1 l (a := b) (k := 6) hb (by decide)) gX7_axis_X7_ofAxis rfl (dp_mM (by decide)) dp_xmo rfl yyX7_ofAxis rfl ⟨Nat.le_of_ble_eq_true rfl, Nat.le_of_ble_eq_true rfl⟩ rfl (Nat.le_of_ble_eq_true rfl) rfl ⟨Nat.zero_le _, Nat.zero_le _⟩ dX7_axis_86 (fun x86 M86 h86 => ?_)
              obtain ⟨rfl, rfl⟩ := h86
              refine dp_isub C dX7_axis_89 ?_
              refine dp_iret C hret dX7_axis_90 ?_
              have e0 : b = 0 → axS (b + 3) = 0 := fun q => by subst q; rfl
              have e1 : b = 1 → axS (b + 3) = 9000 := fun q => by subst q; rfl
              refine ⟨?_, rfl⟩
              rw [if_pos (by omega), axC_n hb]
              first | (rw [axT_lo (by omega)]; done) | (rw [axT_hi (by omega)]; done) | (rw [axT_5 (by omega)]; done) | (rw [axT_8 (by omega)]; omega)
          · skip
            refine dp_aload_n C dX7_axis_53 rfl ?_
            refine dp_iload_n C dX7_axis_54 rfl ?_
            refine dp_iload_n C dX7_axis_55 rfl ?_
            refine dp_iconst C dX7_axis_56 ?_
            refine dp_isub C dX7_axis_57 ?_
            rw [show ((j : Int) - 1) = ((j - 1 : Nat) : Int) by omega]
            refine dp_cVi C (c_X7_ofAxis C.2.2.1 l (a := b) (k := j - 1) hb (by omega)) gX7_axis_X7_ofAxis rfl (dp_mM (by decide)) dp_xmo rfl yyX7_ofAxis rfl ⟨Nat.le_of_ble_eq_true rfl, Nat.le_of_ble_eq_true rfl⟩ rfl (Nat.le_of_ble_eq_true rfl) rfl ⟨Nat.zero_le _, Nat.zero_le _⟩ dX7_axis_58 (fun x58 M58 h58 => ?_)
            obtain ⟨rfl, rfl⟩ := h58
            refine dp_goto (tgt := 90) C dX7_axis_61 (by decide) ?_
            refine dp_iret C hret dX7_axis_90 ?_
            have e0 : b = 0 → axS (b + 3) = 0 := fun q => by subst q; rfl
            have e1 : b = 1 → axS (b + 3) = 9000 := fun q => by subst q; rfl
            refine ⟨?_, rfl⟩
            rw [if_pos (by omega), axC_n hb]
            first | (rw [axT_lo (by omega)]; done) | (rw [axT_hi (by omega)]; done) | (rw [axT_5 (by omega)]; done) | (rw [axT_8 (by omega)]; omega)
        · skip
          refine dp_aload_n C dX7_axis_39 rfl ?_
          refine dp_iload_n C dX7_axis_40 rfl ?_
          refine dp_cVi C (c_X7_stands C.2.2.1 l (a := b) hb) gX7_axis_X7_stands rfl (dp_mM (by decide)) dp_xmo rfl yyX7_stands rfl ⟨Nat.le_of_ble_eq_true rfl, Nat.le_of_ble_eq_true rfl⟩ rfl (Nat.le_of_ble_eq_true rfl) rfl ⟨Nat.zero_le _, Nat.zero_le _⟩ dX7_axis_41 (fun x41 M41 h41 => ?_)
          obtain ⟨rfl, rfl⟩ := h41
          refine dp_goto (tgt := 90) C dX7_axis_44 (by decide) ?_
          refine dp_iret C hret dX7_axis_90 ?_
          have e0 : b = 0 → axS (b + 3) = 0 := fun q => by subst q; rfl
          have e1 : b = 1 → axS (b + 3) = 9000 := fun q => by subst q; rfl
          refine ⟨?_, rfl⟩
          rw [if_pos (by omega), axC_n hb]
          first | (rw [axT_lo (by omega)]; done) | (rw [axT_hi (by omega)]; done) | (rw [axT_5 (by omega)]; done) | (rw [axT_8 (by omega)]; omega)
      · skip
        refine dp_aload_n C dX7_axis_27 rfl ?_
        refine dp_iload_n C dX7_axis_28 rfl ?_
        refine dp_iload_n C dX7_axis_29 rfl ?_
        refine dp_cVi C (c_X7_ofAxis C.2.2.1 l (a := b) (k := j) hb (by omega)) gX7_axis_X7_ofAxis rfl (dp_mM (by decide)) dp_xmo rfl yyX7_ofAxis rfl ⟨Nat.le_of_ble_eq_true rfl, Nat.le_of_ble_eq_true rfl⟩ rfl (Nat.le_of_ble_eq_true rfl) rfl ⟨Nat.zero_le _, Nat.zero_le _⟩ dX7_axis_30 (fun x30 M30 h30 => ?_)
        obtain ⟨rfl, rfl⟩ := h30
        refine dp_iret C hret dX7_axis_33 ?_
        have e0 : b = 0 → axS (b + 3) = 0 := fun q => by subst q; rfl
        have e1 : b = 1 → axS (b + 3) = 9000 := fun q => by subst q; rfl
        refine ⟨?_, rfl⟩
        rw [if_pos (by omega), axC_n hb]
        first | (rw [axT_lo (by omega)]; done) | (rw [axT_hi (by omega)]; done) | (rw [axT_5 (by omega)]; done) | (rw [axT_8 (by omega)]; omega)
    · skip
      refine dp_ldc C (-100001) (List.mem_of_getElem? (i := 1) rfl) rfl dX7_axis_19 ?_
      refine dp_iret C hret dX7_axis_21 ?_
      first | exact ⟨by rw [if_neg (by omega)], rfl⟩ | exact ⟨by rw [if_pos (by omega), axT_no (by omega)], rfl⟩
theorem yyX7_way : yX7_way.cls = RX7 ∧ yX7_way.cls ≠ "java/lang/invoke/MethodHandle" ∧ yX7_way.cls ≠ "java/lang/invoke/VarHandle" ∧ (parseMethodDescriptor yX7_way.desc).map (fun d => d.parameters.length) = some 3 := by decide +kernel
set_option maxHeartbeats 4000000 in
set_option maxRecDepth 100000 in
theorem c_X7_way {E : dp_E} (hE : dp_OK E) (l : Launch) {M : dp_M} {V X : dp_V} {a z k : Int} (hv : ivS V) (ha : dp_R a) (hz : dp_R z) (hk : dp_R k) : dp_met E l yX7_way wsX7_way 5 115 [.ref (eAd E 8 0), .int (dp_I a), .int (dp_I z), .int (dp_I k)] (dN M V X) (dp_qi E (fun y M1 => y = (if (0 ≤ a ∧ a ≤ 1) ∧ (-27000 ≤ z ∧ z ≤ 27000) ∧ 0 ≤ k ∧ k ≤ 3 then wyR (axC a) (V (axC a)) z (V 1 0) k else -100001) ∧ ∃ X', M1 = dN M V X' ∧ scr X X')) := by
  refine dp_of (cc := cX7_way) (nL := 4) (own := RX7) (ret := some (.int)) (by decide +kernel) rfl rfl hE (by simp [Value.category]) (Nat.le_of_ble_eq_true rfl) ?_
  intro p e s m below meth co C hret
  show dp_G _ _ _ _ _ _ _ _ _ _ _ _ _ _ _ _ _ [some (.ref (eAd E 8 0)), some (.int (dp_I a)), some (.int (dp_I z)), some (.int (dp_I k))] _
  have hX7 : ∀ w ∈ u_ws RX7 TX7 12, w ∈ wsX7_way := fun w h => List.mem_cons_of_mem _ (List.mem_append_right _ (h))
  unfold dp_R at ha hz hk
  have h1 := hv.2.1
  have ho : 0 ≤ V 1 0 ∧ V 1 0 ≤ 500 := by omega
  refine dp_iload_n C dX7_way_0 rfl ?_
  refine dp_iconst C dX7_way_1 ?_
  refine dp_iconst C dX7_way_2 ?_
  refine dp_cSi C (c_X7_in C.2.2.1 l ⟨by omega, by omega⟩ ⟨by omega, by omega⟩ ⟨by omega, by omega⟩) gX7_way_X7_in rfl yyX7_in rfl ⟨Nat.le_of_ble_eq_true rfl, Nat.le_of_ble_eq_true rfl⟩ rfl (Nat.le_of_ble_eq_true rfl) rfl ⟨Nat.zero_le _, Nat.zero_le _⟩ dX7_way_3 (fun x3 M3 h3 => ?_)
  obtain ⟨rfl, rfl⟩ := h3
  refine dp_ifz_eq (tgt := 31) C dX7_way_6 (by decide) (fun c6 => ?_) (fun c6 => ?_)
  · skip
    refine dp_ldc C (-100001) (List.mem_of_getElem? (i := 1) rfl) rfl dX7_way_31 ?_
    refine dp_iret C hret dX7_way_33 ?_
    exact ⟨by rw [if_neg (by omega)], _, rfl, scr.rf⟩
  · skip
    obtain ⟨b, rfl, hb⟩ : ∃ b : Nat, a = (b : Int) ∧ b < 2 := ⟨a.toNat, by omega, by omega⟩
    have hi : ivA (b + 3) (V (b + 3)) := by
      rcases (by omega : b = 0 ∨ b = 1) with q | q <;> subst q
      · exact hv.2.2.2.1
      · exact hv.2.2.2.2
    refine dp_iload_n C dX7_way_9 rfl ?_
    refine dp_sipush C dX7_way_10 (by decide) ?_
    refine dp_sipush C dX7_way_13 (by decide) ?_
    refine dp_cSi C (c_X7_in C.2.2.1 l ⟨by omega, by omega⟩ ⟨by omega, by omega⟩ ⟨by omega, by omega⟩) gX7_way_X7_in rfl yyX7_in rfl ⟨Nat.le_of_ble_eq_true rfl, Nat.le_of_ble_eq_true rfl⟩ rfl (Nat.le_of_ble_eq_true rfl) rfl ⟨Nat.zero_le _, Nat.zero_le _⟩ dX7_way_16 (fun x16 M16 h16 => ?_)
    obtain ⟨rfl, rfl⟩ := h16
    refine dp_ifz_eq (tgt := 31) C dX7_way_19 (by decide) (fun c19 => ?_) (fun c19 => ?_)
    · skip
      refine dp_ldc C (-100001) (List.mem_of_getElem? (i := 1) rfl) rfl dX7_way_31 ?_
      refine dp_iret C hret dX7_way_33 ?_
      exact ⟨by rw [if_neg (by omega)], _, rfl, scr.rf⟩
    · skip
      refine dp_iload_n C dX7_way_22 rfl ?_
      refine dp_iconst C dX7_way_23 ?_
      refine dp_iconst C dX7_way_24 ?_
      refine dp_cSi C (c_X7_in C.2.2.1 l ⟨by omega, by omega⟩ ⟨by omega, by omega⟩ ⟨by omega, by omega⟩) gX7_way_X7_in rfl yyX7_in rfl ⟨Nat.le_of_ble_eq_true rfl, Nat.le_of_ble_eq_true rfl⟩ rfl (Nat.le_of_ble_eq_true rfl) rfl ⟨Nat.zero_le _, Nat.zero_le _⟩ dX7_way_25 (fun x25 M25 h25 => ?_)
      obtain ⟨rfl, rfl⟩ := h25
      refine dp_ifz_ne (tgt := 34) C dX7_way_28 (by decide) (fun c28 => ?_) (fun c28 => ?_)
      · skip
        refine dp_aload_n C dX7_way_34 rfl ?_
        refine dp_iload_n C dX7_way_35 rfl ?_
        refine dp_iload_n C dX7_way_36 rfl ?_
        refine dp_cVi C (c_X7_isPossible C.2.2.1 l hb hi ho (show -40000 ≤ z ∧ z ≤ 40000 by omega)) gX7_way_X7_isPossible rfl (dp_mM (by decide)) dp_xmo rfl yyX7_isPossible rfl ⟨Nat.le_of_ble_eq_true rfl, Nat.le_of_ble_eq_true rfl⟩ rfl (Nat.le_of_ble_eq_true rfl) rfl ⟨Nat.zero_le _, Nat.zero_le _⟩ dX7_way_37 (fun x37 M37 h37 => ?_)
        obtain ⟨rfl, X1, rfl, hX1⟩ := h37
        obtain ⟨hs1, e2, e3, e4⟩ := hX1
        have bP := @wyP_bd (b + 3) (V (b + 3)) z (V 1 0)
        have bT := @wyT_b (V (b + 3)) z
        refine dp_if_ne (tgt := 46) C dX7_way_40 (by decide) ⟨by omega, by omega⟩ (fun c40 => ?_) (fun c40 => ?_)
        · skip
          refine dp_iload_n C dX7_way_46 rfl ?_
          refine dp_if_ne (tgt := 55) C dX7_way_47 (by decide) ⟨by omega, by omega⟩ (fun c47 => ?_) (fun c47 => ?_)
          · skip
            refine dp_iload_n C dX7_way_55 rfl ?_
            refine dp_iconst C dX7_way_56 ?_
            refine dp_icmp_ne (tgt := 77) C dX7_way_57 (by decide) ⟨by omega, by omega⟩ ⟨by omega, by omega⟩ (fun c57 => ?_) (fun c57 => ?_)
            · skip
              refine dp_iload_n C dX7_way_77 rfl ?_
              refine dp_iconst C dX7_way_78 ?_
              refine dp_icmp_ne (tgt := 91) C dX7_way_79 (by decide) ⟨by omega, by omega⟩ ⟨by omega, by omega⟩ (fun c79 => ?_) (fun c79 => ?_)
              · skip
                refine dp_aload_n C dX7_way_91 rfl ?_
                refine dp_iload_n C dX7_way_92 rfl ?_
                refine dp_iload_n C dX7_way_93 rfl ?_
                refine dp_cVi C (c_X7_timeOf C.2.2.1 l hb hi ho (show -40000 ≤ z ∧ z ≤ 40000 by omega)) gX7_way_X7_timeOf rfl (dp_mM (by decide)) dp_xmo rfl yyX7_timeOf rfl ⟨Nat.le_of_ble_eq_true rfl, Nat.le_of_ble_eq_true rfl⟩ rfl (Nat.le_of_ble_eq_true rfl) rfl ⟨Nat.zero_le _, Nat.zero_le _⟩ dX7_way_94 (fun x94 M94 h94 => ?_)
                obtain ⟨rfl, X2, rfl, hs2⟩ := h94
                refine dp_iret C hret dX7_way_97 ?_
                have hz2 : -27000 ≤ z ∧ z ≤ 27000 := by omega
                first | refine ⟨?_, _, rfl, hs1⟩ | refine ⟨?_, _, rfl, hs1.tr hs2⟩
                rw [if_pos ⟨by omega, hz2, by omega⟩, axC_n hb]
                unfold wyR
                repeat (first | rw [if_neg (by omega)] | rw [if_pos (by omega)])
              · skip
                refine dp_aload_n C dX7_way_82 rfl ?_
                refine dp_iload_n C dX7_way_83 rfl ?_
                refine dp_iload_n C dX7_way_84 rfl ?_
                refine dp_cVi C (c_X7_lengthOf C.2.2.1 l hb hi ho (show -40000 ≤ z ∧ z ≤ 40000 by omega)) gX7_way_X7_lengthOf rfl (dp_mM (by decide)) dp_xmo rfl yyX7_lengthOf rfl ⟨Nat.le_of_ble_eq_true rfl, Nat.le_of_ble_eq_true rfl⟩ rfl (Nat.le_of_ble_eq_true rfl) rfl ⟨Nat.zero_le _, Nat.zero_le _⟩ dX7_way_85 (fun x85 M85 h85 => ?_)
                obtain ⟨rfl, X2, rfl, hs2⟩ := h85
                refine dp_goto (tgt := 97) C dX7_way_88 (by decide) ?_
                refine dp_iret C hret dX7_way_97 ?_
                have hz2 : -27000 ≤ z ∧ z ≤ 27000 := by omega
                first | refine ⟨?_, _, rfl, hs1⟩ | refine ⟨?_, _, rfl, hs1.tr hs2⟩
                rw [if_pos ⟨by omega, hz2, by omega⟩, axC_n hb]
                unfold wyR
                repeat (first | rw [if_neg (by omega)] | rw [if_pos (by omega)])
            · skip
              refine dp_aload_n C dX7_way_60 rfl ?_
              refine dp_getf C (k := 7) (dp_mM (by decide)) dp_xmo rfl hX7 (by decide) (List.mem_of_getElem? (i := 4) rfl) rfl dX7_way_61 ?_
              rw [e3]
              refine dp_if_eq (tgt := 74) C dX7_way_64 (by decide) ⟨by omega, by omega⟩ (fun c64 => ?_) (fun c64 => ?_)
              · skip
                refine dp_ldc C (-100004) (List.mem_of_getElem? (i := 2) rfl) rfl dX7_way_74 ?_
                refine dp_iret C hret dX7_way_76 ?_
                have hz2 : -27000 ≤ z ∧ z ≤ 27000 := by omega
                first | refine ⟨?_, _, rfl, hs1⟩ | refine ⟨?_, _, rfl, hs1.tr hs2⟩
                rw [if_pos ⟨by omega, hz2, by omega⟩, axC_n hb]
                unfold wyR
                repeat (first | rw [if_neg (by omega)] | rw [if_pos (by omega)])
              · skip
                refine dp_aload_n C dX7_way_67 rfl ?_
                refine dp_getf C (k := 6) (dp_mM (by decide)) dp_xmo rfl hX7 (by decide) (List.mem_of_getElem? (i := 5) rfl) rfl dX7_way_68 ?_
                rw [e2]
                refine dp_goto (tgt := 76) C dX7_way_71 (by decide) ?_
                refine dp_iret C hret dX7_way_76 ?_
                have hz2 : -27000 ≤ z ∧ z ≤ 27000 := by omega
                first | refine ⟨?_, _, rfl, hs1⟩ | refine ⟨?_, _, rfl, hs1.tr hs2⟩
                rw [if_pos ⟨by omega, hz2, by omega⟩, axC_n hb]
                unfold wyR
                repeat (first | rw [if_neg (by omega)] | rw [if_pos (by omega)])
          · skip
            refine dp_aload_n C dX7_way_50 rfl ?_
            refine dp_getf C (k := 8) (dp_mM (by decide)) dp_xmo rfl hX7 (by decide) (List.mem_of_getElem? (i := 3) rfl) rfl dX7_way_51 ?_
            rw [e4]
            refine dp_iret C hret dX7_way_54 ?_
            have hz2 : -27000 ≤ z ∧ z ≤ 27000 := by omega
            first | refine ⟨?_, _, rfl, hs1⟩ | refine ⟨?_, _, rfl, hs1.tr hs2⟩
            rw [if_pos ⟨by omega, hz2, by omega⟩, axC_n hb]
            unfold wyR
            repeat (first | rw [if_neg (by omega)] | rw [if_pos (by omega)])
        · skip
          refine dp_ldc C (-100004) (List.mem_of_getElem? (i := 2) rfl) rfl dX7_way_43 ?_
          refine dp_iret C hret dX7_way_45 ?_
          have hz2 : -27000 ≤ z ∧ z ≤ 27000 := by omega
          first | refine ⟨?_, _, rfl, hs1⟩ | refine ⟨?_, _, rfl, hs1.tr hs2⟩
          rw [if_pos ⟨by omega, hz2, by omega⟩, axC_n hb]
          unfold wyR
          repeat (first | rw [if_neg (by omega)] | rw [if_pos (by omega)])
      · skip
        refine dp_ldc C (-100001) (List.mem_of_getElem? (i := 1) rfl) rfl dX7_way_31 ?_
        refine dp_iret C hret dX7_way_33 ?_
        exact ⟨by rw [if_neg (by omega)], _, rfl, scr.rf⟩
theorem yyX7_placeFor : yX7_placeFor.cls = RX7 ∧ yX7_placeFor.cls ≠ "java/lang/invoke/MethodHandle" ∧ yX7_placeFor.cls ≠ "java/lang/invoke/VarHandle" ∧ (parseMethodDescriptor yX7_placeFor.desc).map (fun d => d.parameters.length) = some 1 := by decide +kernel
set_option maxHeartbeats 4000000 in
set_option maxRecDepth 100000 in
theorem c_X7_placeFor {E : dp_E} (hE : dp_OK E) (l : Launch) {M : dp_M} {V X : dp_V} {z : Int} (hv : ivS V) (hz : dp_R z) : dp_met E l yX7_placeFor wsX7_placeFor 6 142 [.ref (eAd E 8 0), .int (dp_I z)] (dN M V X) (dp_qi E (fun y M1 => y = (if 0 ≤ z ∧ z ≤ 35999 then pfF V z else -100001) ∧ ∃ X', M1 = dN M V X' ∧ scr X X')) := by
  refine dp_of (cc := cX7_placeFor) (nL := 2) (own := RX7) (ret := some (.int)) (by decide +kernel) rfl rfl hE (by simp [Value.category]) (Nat.le_of_ble_eq_true rfl) ?_
  intro p e s m below meth co C hret
  show dp_G _ _ _ _ _ _ _ _ _ _ _ _ _ _ _ _ _ [some (.ref (eAd E 8 0)), some (.int (dp_I z))] _
  unfold dp_R at hz
  refine dp_iload_n C dX7_placeFor_0 rfl ?_
  refine dp_iconst C dX7_placeFor_1 ?_
  refine dp_ldc C (35999) (List.mem_of_getElem? (i := 1) rfl) rfl dX7_placeFor_2 ?_
  refine dp_cSi C (c_X7_in C.2.2.1 l ⟨by omega, by omega⟩ ⟨by omega, by omega⟩ ⟨by omega, by omega⟩) gX7_placeFor_X7_in rfl yyX7_in rfl ⟨Nat.le_of_ble_eq_true rfl, Nat.le_of_ble_eq_true rfl⟩ rfl (Nat.le_of_ble_eq_true rfl) rfl ⟨Nat.zero_le _, Nat.zero_le _⟩ dX7_placeFor_4 (fun x4 M4 h4 => ?_)
  obtain ⟨rfl, rfl⟩ := h4
  refine dp_ifz_eq (tgt := 18) C dX7_placeFor_7 (by decide) (fun c7 => ?_) (fun c7 => ?_)
  · skip
    refine dp_ldc C (-100001) (List.mem_of_getElem? (i := 2) rfl) rfl dX7_placeFor_18 ?_
    refine dp_iret C hret dX7_placeFor_20 ?_
    first | exact ⟨by rw [if_pos (by assumption)], _, rfl, hs1⟩ | exact ⟨by rw [if_neg (by assumption)], _, rfl, scr.rf⟩
  · skip
    refine dp_aload_n C dX7_placeFor_10 rfl ?_
    refine dp_iload_n C dX7_placeFor_11 rfl ?_
    refine dp_cVi C (c_X7_placeOf C.2.2.1 l hv (by omega)) gX7_placeFor_X7_placeOf rfl (dp_mM (by decide)) dp_xmo rfl yyX7_placeOf rfl ⟨Nat.le_of_ble_eq_true rfl, Nat.le_of_ble_eq_true rfl⟩ rfl (Nat.le_of_ble_eq_true rfl) rfl ⟨Nat.zero_le _, Nat.zero_le _⟩ dX7_placeFor_12 (fun x12 M12 h12 => ?_)
    obtain ⟨rfl, X1, rfl, hs1⟩ := h12
    refine dp_goto (tgt := 20) C dX7_placeFor_15 (by decide) ?_
    refine dp_iret C hret dX7_placeFor_20 ?_
    first | exact ⟨by rw [if_pos (by assumption)], _, rfl, hs1⟩ | exact ⟨by rw [if_neg (by assumption)], _, rfl, scr.rf⟩
theorem yyX7_whyNot : yX7_whyNot.cls = RX7 ∧ yX7_whyNot.cls ≠ "java/lang/invoke/MethodHandle" ∧ yX7_whyNot.cls ≠ "java/lang/invoke/VarHandle" ∧ (parseMethodDescriptor yX7_whyNot.desc).map (fun d => d.parameters.length) = some 1 := by decide +kernel
set_option maxHeartbeats 4000000 in
set_option maxRecDepth 100000 in
theorem c_X7_whyNot {E : dp_E} (hE : dp_OK E) (l : Launch) {M : dp_M} {V X : dp_V} {N : Nat} (hm : ivM V N) {t : Nat} (ht : t < N) : dp_met E l yX7_whyNot wsX7_whyNot 6 142 [.ref (eAd E 8 0), .int (dp_I (t : Int))] (dN M V X) (dp_qi E (fun y M1 => y = rsM V N t ∧ ∃ X', M1 = dN M V X' ∧ scr X X')) := by
  refine dp_of (cc := cX7_whyNot) (nL := 5) (own := RX7) (ret := some (.int)) (by decide +kernel) rfl rfl hE (by simp [Value.category]) (Nat.le_of_ble_eq_true rfl) ?_
  intro p e s m below meth co C hret
  show dp_G _ _ _ _ _ _ _ _ _ _ _ _ _ _ _ _ _ [some (.ref (eAd E 8 0)), some (.int (dp_I (t : Int))), none, none, none] _
  have hX7 : ∀ w ∈ u_ws RX7 TX7 12, w ∈ wsX7_whyNot := fun w h => List.mem_cons_of_mem _ (List.mem_append_right _ (h))
  have hm2 := hm
  obtain ⟨hN, h10, hv, hT⟩ := hm
  have ht10 : t < 10 := by omega
  have hst := hT t ht
  unfold ivT at hst
  have hu := @uwN_bd V N h10
  have hk := @kdF_bd V
  have h0 := hv.1
  have h1 := hv.2.1
  have ho : 0 ≤ V 1 0 ∧ V 1 0 ≤ 500 := by omega
  have hz : 0 ≤ V (t + 6) 0 ∧ V (t + 6) 0 ≤ 35999 := by omega
  have hq := pfF_bd (V := V) hz
  have hap := @apF_bd V (V (t + 6) 0) hz
  refine dp_aload_n C dX7_whyNot_0 rfl ?_
  refine dp_iload_n C dX7_whyNot_1 rfl ?_
  refine dp_bipush C dX7_whyNot_2 (by decide) ?_
  refine dp_cVi C (c_X7_of C.2.2.1 l (t := t) (k := 6) ht10 (by decide)) gX7_whyNot_X7_of rfl (dp_mM (by decide)) dp_xmo rfl yyX7_of rfl ⟨Nat.le_of_ble_eq_true rfl, Nat.le_of_ble_eq_true rfl⟩ rfl (Nat.le_of_ble_eq_true rfl) rfl ⟨Nat.zero_le _, Nat.zero_le _⟩ dX7_whyNot_4 (fun x4 M4 h4 => ?_)
  obtain ⟨rfl, rfl⟩ := h4
  refine dp_if_eq (tgt := 12) C dX7_whyNot_7 (by decide) ⟨by omega, by omega⟩ (fun c7 => ?_) (fun c7 => ?_)
  · skip
    refine dp_aload_n C dX7_whyNot_12 rfl ?_
    refine dp_cVi C (c_X7_underWay C.2.2.1 l hm2) gX7_whyNot_X7_underWay rfl (dp_mM (by decide)) dp_xmo rfl yyX7_underWay rfl ⟨Nat.le_of_ble_eq_true rfl, Nat.le_of_ble_eq_true rfl⟩ rfl (Nat.le_of_ble_eq_true rfl) rfl ⟨Nat.zero_le _, Nat.zero_le _⟩ dX7_whyNot_13 (fun x13 M13 h13 => ?_)
    obtain ⟨rfl, rfl⟩ := h13
    refine dp_ldc C (-100004) (List.mem_of_getElem? (i := 1) rfl) rfl dX7_whyNot_16 ?_
    refine dp_icmp_eq (tgt := 23) C dX7_whyNot_18 (by decide) ⟨by omega, by omega⟩ ⟨by omega, by omega⟩ (fun c18 => ?_) (fun c18 => ?_)
    · skip
      have hu2 : uwG V 0 N = -1 := by
        rcases @uwN_sp V N with ⟨_, q, _⟩ | ⟨t9, _, q, _⟩
        · exact q
        · omega
      refine dp_aload_n C dX7_whyNot_23 rfl ?_
      refine dp_cVi C (c_X7_kindOfDay C.2.2.1 l hv) gX7_whyNot_X7_kindOfDay rfl (dp_mM (by decide)) dp_xmo rfl yyX7_kindOfDay rfl ⟨Nat.le_of_ble_eq_true rfl, Nat.le_of_ble_eq_true rfl⟩ rfl (Nat.le_of_ble_eq_true rfl) rfl ⟨Nat.zero_le _, Nat.zero_le _⟩ dX7_whyNot_24 (fun x24 M24 h24 => ?_)
      obtain ⟨rfl, rfl⟩ := h24
      refine dp_if_ne (tgt := 32) C dX7_whyNot_27 (by decide) ⟨by omega, by omega⟩ (fun c27 => ?_) (fun c27 => ?_)
      · skip
        refine dp_aload_n C dX7_whyNot_32 rfl ?_
        refine dp_getf C (k := 0) (dp_mM (by decide)) dp_xmo rfl hX7 (by decide) (List.mem_of_getElem? (i := 2) rfl) rfl dX7_whyNot_33 ?_
        refine dp_iconst C dX7_whyNot_36 ?_
        refine dp_ald_ms C (j := 4) ⟨by omega, by omega⟩ rfl (c9 := 0) (k9 := 0) rfl rfl dX7_whyNot_37 ?_
        refine dp_aload_n C dX7_whyNot_38 rfl ?_
        refine dp_iload_n C dX7_whyNot_39 rfl ?_
        refine dp_iconst C dX7_whyNot_40 ?_
        refine dp_cVi C (c_X7_of C.2.2.1 l (t := t) (k := 2) ht10 (by decide)) gX7_whyNot_X7_of rfl (dp_mM (by decide)) dp_xmo rfl yyX7_of rfl ⟨Nat.le_of_ble_eq_true rfl, Nat.le_of_ble_eq_true rfl⟩ rfl (Nat.le_of_ble_eq_true rfl) rfl ⟨Nat.zero_le _, Nat.zero_le _⟩ dX7_whyNot_41 (fun x41 M41 h41 => ?_)
        obtain ⟨rfl, rfl⟩ := h41
        refine dp_icmp_ge (tgt := 49) C dX7_whyNot_44 (by decide) ⟨by omega, by omega⟩ ⟨by omega, by omega⟩ (fun c44 => ?_) (fun c44 => ?_)
        · skip
          refine dp_aload_n C dX7_whyNot_49 rfl ?_
          refine dp_iconst C dX7_whyNot_50 ?_
          refine dp_aload_n C dX7_whyNot_51 rfl ?_
          refine dp_iload_n C dX7_whyNot_52 rfl ?_
          refine dp_iconst C dX7_whyNot_53 ?_
          refine dp_cVi C (c_X7_of C.2.2.1 l (t := t) (k := 1) ht10 (by decide)) gX7_whyNot_X7_of rfl (dp_mM (by decide)) dp_xmo rfl yyX7_of rfl ⟨Nat.le_of_ble_eq_true rfl, Nat.le_of_ble_eq_true rfl⟩ rfl (Nat.le_of_ble_eq_true rfl) rfl ⟨Nat.zero_le _, Nat.zero_le _⟩ dX7_whyNot_54 (fun x54 M54 h54 => ?_)
          obtain ⟨rfl, rfl⟩ := h54
          refine dp_cVi C (c_X7_isPossible C.2.2.1 l (a := 1) (to := V (t + 6) 1) (by decide) hv.2.2.2.2 ho (by omega)) gX7_whyNot_X7_isPossible rfl (dp_mM (by decide)) dp_xmo rfl yyX7_isPossible rfl ⟨Nat.le_of_ble_eq_true rfl, Nat.le_of_ble_eq_true rfl⟩ rfl (Nat.le_of_ble_eq_true rfl) rfl ⟨Nat.zero_le _, Nat.zero_le _⟩ dX7_whyNot_57 (fun x57 M57 h57 => ?_)
          obtain ⟨rfl, X1, rfl, hX1⟩ := h57
          have hs1 := hX1.1
          have b6 := @wyP_bd 4 (V 4) (V (t + 6) 1) (V 1 0)
          rw [show (1 : Nat) + 3 = 4 from rfl]
          refine dp_if_ne (tgt := 65) C dX7_whyNot_60 (by decide) ⟨by omega, by omega⟩ (fun c60 => ?_) (fun c60 => ?_)
          · skip
            refine dp_aload_n C dX7_whyNot_65 rfl ?_
            refine dp_aload_n C dX7_whyNot_66 rfl ?_
            refine dp_iload_n C dX7_whyNot_67 rfl ?_
            refine dp_iconst C dX7_whyNot_68 ?_
            refine dp_cVi C (c_X7_of C.2.2.1 l (t := t) (k := 0) ht10 (by decide)) gX7_whyNot_X7_of rfl (dp_mM (by decide)) dp_xmo rfl yyX7_of rfl ⟨Nat.le_of_ble_eq_true rfl, Nat.le_of_ble_eq_true rfl⟩ rfl (Nat.le_of_ble_eq_true rfl) rfl ⟨Nat.zero_le _, Nat.zero_le _⟩ dX7_whyNot_69 (fun x69 M69 h69 => ?_)
            obtain ⟨rfl, rfl⟩ := h69
            refine dp_cVi C (c_X7_placeOf C.2.2.1 l hv (by omega)) gX7_whyNot_X7_placeOf rfl (dp_mM (by decide)) dp_xmo rfl yyX7_placeOf rfl ⟨Nat.le_of_ble_eq_true rfl, Nat.le_of_ble_eq_true rfl⟩ rfl (Nat.le_of_ble_eq_true rfl) rfl ⟨Nat.zero_le _, Nat.zero_le _⟩ dX7_whyNot_72 (fun x72 M72 h72 => ?_)
            obtain ⟨rfl, X2, rfl, hs2⟩ := h72
            refine dp_istore_n C dX7_whyNot_75 (Nat.le_of_ble_eq_true rfl) ?_
            dsimp only [List.set]
            refine dp_iload_n C dX7_whyNot_76 rfl ?_
            refine dp_ldc C (-100004) (List.mem_of_getElem? (i := 1) rfl) rfl dX7_whyNot_77 ?_
            refine dp_icmp_ne (tgt := 85) C dX7_whyNot_79 (by decide) ⟨by omega, by omega⟩ ⟨by omega, by omega⟩ (fun c79 => ?_) (fun c79 => ?_)
            · skip
              obtain ⟨ep, np⟩ := pfF_ne c79
              rw [ep]
              refine dp_aload_n C dX7_whyNot_85 rfl ?_
              refine dp_iconst C dX7_whyNot_86 ?_
              refine dp_iload_n C dX7_whyNot_87 rfl ?_
              refine dp_cVi C (c_X7_timeOf C.2.2.1 l (a := 0) (to := apF V (V (t + 6) 0)) (by decide) hv.2.2.2.1 ho (by omega)) gX7_whyNot_X7_timeOf rfl (dp_mM (by decide)) dp_xmo rfl yyX7_timeOf rfl ⟨Nat.le_of_ble_eq_true rfl, Nat.le_of_ble_eq_true rfl⟩ rfl (Nat.le_of_ble_eq_true rfl) rfl ⟨Nat.zero_le _, Nat.zero_le _⟩ dX7_whyNot_88 (fun x88 M88 h88 => ?_)
              obtain ⟨rfl, X3, rfl, hs3⟩ := h88
              have w1 := wyM_bd hv.2.2.2.1 (show -40000 ≤ apF V (V (t + 6) 0) ∧ apF V (V (t + 6) 0) ≤ 40000 by omega) ho
              rw [show (0 : Nat) + 3 = 3 from rfl]
              refine dp_istore_n C dX7_whyNot_91 (Nat.le_of_ble_eq_true rfl) ?_
              dsimp only [List.set]
              refine dp_aload_n C dX7_whyNot_92 rfl ?_
              refine dp_iconst C dX7_whyNot_93 ?_
              refine dp_aload_n C dX7_whyNot_94 rfl ?_
              refine dp_iload_n C dX7_whyNot_95 rfl ?_
              refine dp_iconst C dX7_whyNot_96 ?_
              refine dp_cVi C (c_X7_of C.2.2.1 l (t := t) (k := 1) ht10 (by decide)) gX7_whyNot_X7_of rfl (dp_mM (by decide)) dp_xmo rfl yyX7_of rfl ⟨Nat.le_of_ble_eq_true rfl, Nat.le_of_ble_eq_true rfl⟩ rfl (Nat.le_of_ble_eq_true rfl) rfl ⟨Nat.zero_le _, Nat.zero_le _⟩ dX7_whyNot_97 (fun x97 M97 h97 => ?_)
              obtain ⟨rfl, rfl⟩ := h97
              refine dp_cVi C (c_X7_timeOf C.2.2.1 l (a := 1) (to := V (t + 6) 1) (by decide) hv.2.2.2.2 ho (by omega)) gX7_whyNot_X7_timeOf rfl (dp_mM (by decide)) dp_xmo rfl yyX7_timeOf rfl ⟨Nat.le_of_ble_eq_true rfl, Nat.le_of_ble_eq_true rfl⟩ rfl (Nat.le_of_ble_eq_true rfl) rfl ⟨Nat.zero_le _, Nat.zero_le _⟩ dX7_whyNot_100 (fun x100 M100 h100 => ?_)
              obtain ⟨rfl, X4, rfl, hs4⟩ := h100
              have w2 := wyM_bd hv.2.2.2.2 (show -40000 ≤ V (t + 6) 1 ∧ V (t + 6) 1 ≤ 40000 by omega) ho
              rw [show (1 : Nat) + 3 = 4 from rfl]
              refine dp_istore C dX7_whyNot_103 (Nat.le_of_ble_eq_true rfl) ?_
              dsimp only [List.set]
              refine dp_aload_n C dX7_whyNot_105 rfl ?_
              refine dp_getf C (k := 0) (dp_mM (by decide)) dp_xmo rfl hX7 (by decide) (List.mem_of_getElem? (i := 2) rfl) rfl dX7_whyNot_106 ?_
              refine dp_iconst C dX7_whyNot_109 ?_
              refine dp_ald_ms C (j := 4) ⟨by omega, by omega⟩ rfl (c9 := 0) (k9 := 0) rfl rfl dX7_whyNot_110 ?_
              refine dp_iload_n C dX7_whyNot_111 rfl ?_
              refine dp_iload C dX7_whyNot_112 rfl ?_
              refine dp_icmp_le (tgt := 121) C dX7_whyNot_114 (by decide) ⟨by omega, by omega⟩ ⟨by omega, by omega⟩ (fun c114 => ?_) (fun c114 => ?_)
              · skip
                refine dp_iload C dX7_whyNot_121 rfl ?_
                refine dp_iadd C dX7_whyNot_123 ?_
                refine dp_aload_n C dX7_whyNot_124 rfl ?_
                refine dp_iload_n C dX7_whyNot_125 rfl ?_
                refine dp_iconst C dX7_whyNot_126 ?_
                refine dp_cVi C (c_X7_of C.2.2.1 l (t := t) (k := 4) ht10 (by decide)) gX7_whyNot_X7_of rfl (dp_mM (by decide)) dp_xmo rfl yyX7_of rfl ⟨Nat.le_of_ble_eq_true rfl, Nat.le_of_ble_eq_true rfl⟩ rfl (Nat.le_of_ble_eq_true rfl) rfl ⟨Nat.zero_le _, Nat.zero_le _⟩ dX7_whyNot_127 (fun x127 M127 h127 => ?_)
                obtain ⟨rfl, rfl⟩ := h127
                refine dp_iadd C dX7_whyNot_130 ?_
                refine dp_aload_n C dX7_whyNot_131 rfl ?_
                refine dp_iload_n C dX7_whyNot_132 rfl ?_
                refine dp_iconst C dX7_whyNot_133 ?_
                refine dp_cVi C (c_X7_of C.2.2.1 l (t := t) (k := 3) ht10 (by decide)) gX7_whyNot_X7_of rfl (dp_mM (by decide)) dp_xmo rfl yyX7_of rfl ⟨Nat.le_of_ble_eq_true rfl, Nat.le_of_ble_eq_true rfl⟩ rfl (Nat.le_of_ble_eq_true rfl) rfl ⟨Nat.zero_le _, Nat.zero_le _⟩ dX7_whyNot_134 (fun x134 M134 h134 => ?_)
                obtain ⟨rfl, rfl⟩ := h134
                refine dp_icmp_le (tgt := 145) C dX7_whyNot_137 (by decide) ⟨by omega, by omega⟩ ⟨by omega, by omega⟩ (fun c137 => ?_) (fun c137 => ?_)
                · skip
                  refine dp_iconst C dX7_whyNot_145 ?_
                  refine dp_iret C hret dX7_whyNot_146 ?_
                  have em : tmF V (apF V (V (t + 6) 0)) (V (t + 6) 1) = mx (wyM (V 3) (apF V (V (t + 6) 0)) (V 1 0)) (wyM (V 4) (V (t + 6) 1) (V 1 0)) := rfl
                  unfold mx at em
                  first | refine ⟨?_, _, rfl, ((hs1.tr hs2).tr hs3).tr hs4⟩ | refine ⟨?_, _, rfl, hs1.tr hs2⟩ | refine ⟨?_, _, rfl, hs1⟩ | refine ⟨?_, _, rfl, scr.rf⟩
                  unfold rsM
                  rw [em]
                  (repeat' split) <;> first | rfl | omega
                · skip
                  refine dp_bipush C dX7_whyNot_140 (by decide) ?_
                  refine dp_goto (tgt := 146) C dX7_whyNot_142 (by decide) ?_
                  refine dp_iret C hret dX7_whyNot_146 ?_
                  have em : tmF V (apF V (V (t + 6) 0)) (V (t + 6) 1) = mx (wyM (V 3) (apF V (V (t + 6) 0)) (V 1 0)) (wyM (V 4) (V (t + 6) 1) (V 1 0)) := rfl
                  unfold mx at em
                  first | refine ⟨?_, _, rfl, ((hs1.tr hs2).tr hs3).tr hs4⟩ | refine ⟨?_, _, rfl, hs1.tr hs2⟩ | refine ⟨?_, _, rfl, hs1⟩ | refine ⟨?_, _, rfl, scr.rf⟩
                  unfold rsM
                  rw [em]
                  (repeat' split) <;> first | rfl | omega
              · skip
                refine dp_iload_n C dX7_whyNot_117 rfl ?_
                refine dp_goto (tgt := 123) C dX7_whyNot_118 (by decide) ?_
                refine dp_iadd C dX7_whyNot_123 ?_
                refine dp_aload_n C dX7_whyNot_124 rfl ?_
                refine dp_iload_n C dX7_whyNot_125 rfl ?_
                refine dp_iconst C dX7_whyNot_126 ?_
                refine dp_cVi C (c_X7_of C.2.2.1 l (t := t) (k := 4) ht10 (by decide)) gX7_whyNot_X7_of rfl (dp_mM (by decide)) dp_xmo rfl yyX7_of rfl ⟨Nat.le_of_ble_eq_true rfl, Nat.le_of_ble_eq_true rfl⟩ rfl (Nat.le_of_ble_eq_true rfl) rfl ⟨Nat.zero_le _, Nat.zero_le _⟩ dX7_whyNot_127 (fun x127 M127 h127 => ?_)
                obtain ⟨rfl, rfl⟩ := h127
                refine dp_iadd C dX7_whyNot_130 ?_
                refine dp_aload_n C dX7_whyNot_131 rfl ?_
                refine dp_iload_n C dX7_whyNot_132 rfl ?_
                refine dp_iconst C dX7_whyNot_133 ?_
                refine dp_cVi C (c_X7_of C.2.2.1 l (t := t) (k := 3) ht10 (by decide)) gX7_whyNot_X7_of rfl (dp_mM (by decide)) dp_xmo rfl yyX7_of rfl ⟨Nat.le_of_ble_eq_true rfl, Nat.le_of_ble_eq_true rfl⟩ rfl (Nat.le_of_ble_eq_true rfl) rfl ⟨Nat.zero_le _, Nat.zero_le _⟩ dX7_whyNot_134 (fun x134 M134 h134 => ?_)
                obtain ⟨rfl, rfl⟩ := h134
                refine dp_icmp_le (tgt := 145) C dX7_whyNot_137 (by decide) ⟨by omega, by omega⟩ ⟨by omega, by omega⟩ (fun c137 => ?_) (fun c137 => ?_)
                · skip
                  refine dp_iconst C dX7_whyNot_145 ?_
                  refine dp_iret C hret dX7_whyNot_146 ?_
                  have em : tmF V (apF V (V (t + 6) 0)) (V (t + 6) 1) = mx (wyM (V 3) (apF V (V (t + 6) 0)) (V 1 0)) (wyM (V 4) (V (t + 6) 1) (V 1 0)) := rfl
                  unfold mx at em
                  first | refine ⟨?_, _, rfl, ((hs1.tr hs2).tr hs3).tr hs4⟩ | refine ⟨?_, _, rfl, hs1.tr hs2⟩ | refine ⟨?_, _, rfl, hs1⟩ | refine ⟨?_, _, rfl, scr.rf⟩
                  unfold rsM
                  rw [em]
                  (repeat' split) <;> first | rfl | omega
                · skip
                  refine dp_bipush C dX7_whyNot_140 (by decide) ?_
                  refine dp_goto (tgt := 146) C dX7_whyNot_142 (by decide) ?_
                  refine dp_iret C hret dX7_whyNot_146 ?_
                  have em : tmF V (apF V (V (t + 6) 0)) (V (t + 6) 1) = mx (wyM (V 3) (apF V (V (t + 6) 0)) (V 1 0)) (wyM (V 4) (V (t + 6) 1) (V 1 0)) := rfl
                  unfold mx at em
                  first | refine ⟨?_, _, rfl, ((hs1.tr hs2).tr hs3).tr hs4⟩ | refine ⟨?_, _, rfl, hs1.tr hs2⟩ | refine ⟨?_, _, rfl, hs1⟩ | refine ⟨?_, _, rfl, scr.rf⟩
                  unfold rsM
                  rw [em]
                  (repeat' split) <;> first | rfl | omega
            · skip
              have yp := pfF_eq hz c79
              refine dp_bipush C dX7_whyNot_82 (by decide) ?_
              refine dp_iret C hret dX7_whyNot_84 ?_
              have em : tmF V (apF V (V (t + 6) 0)) (V (t + 6) 1) = mx (wyM (V 3) (apF V (V (t + 6) 0)) (V 1 0)) (wyM (V 4) (V (t + 6) 1) (V 1 0)) := rfl
              unfold mx at em
              first | refine ⟨?_, _, rfl, ((hs1.tr hs2).tr hs3).tr hs4⟩ | refine ⟨?_, _, rfl, hs1.tr hs2⟩ | refine ⟨?_, _, rfl, hs1⟩ | refine ⟨?_, _, rfl, scr.rf⟩
              unfold rsM
              rw [em]
              (repeat' split) <;> first | rfl | omega
          · skip
            refine dp_iconst C dX7_whyNot_63 ?_
            refine dp_iret C hret dX7_whyNot_64 ?_
            have em : tmF V (apF V (V (t + 6) 0)) (V (t + 6) 1) = mx (wyM (V 3) (apF V (V (t + 6) 0)) (V 1 0)) (wyM (V 4) (V (t + 6) 1) (V 1 0)) := rfl
            unfold mx at em
            first | refine ⟨?_, _, rfl, ((hs1.tr hs2).tr hs3).tr hs4⟩ | refine ⟨?_, _, rfl, hs1.tr hs2⟩ | refine ⟨?_, _, rfl, hs1⟩ | refine ⟨?_, _, rfl, scr.rf⟩
            unfold rsM
            rw [em]
            (repeat' split) <;> first | rfl | omega
        · skip
          refine dp_iconst C dX7_whyNot_47 ?_
          refine dp_iret C hret dX7_whyNot_48 ?_
          have em : tmF V (apF V (V (t + 6) 0)) (V (t + 6) 1) = mx (wyM (V 3) (apF V (V (t + 6) 0)) (V 1 0)) (wyM (V 4) (V (t + 6) 1) (V 1 0)) := rfl
          unfold mx at em
          first | refine ⟨?_, _, rfl, ((hs1.tr hs2).tr hs3).tr hs4⟩ | refine ⟨?_, _, rfl, hs1.tr hs2⟩ | refine ⟨?_, _, rfl, hs1⟩ | refine ⟨?_, _, rfl, scr.rf⟩
          unfold rsM
          rw [em]
          (repeat' split) <;> first | rfl | omega
      · skip
        refine dp_iconst C dX7_whyNot_30 ?_
        refine dp_iret C hret dX7_whyNot_31 ?_
        have em : tmF V (apF V (V (t + 6) 0)) (V (t + 6) 1) = mx (wyM (V 3) (apF V (V (t + 6) 0)) (V 1 0)) (wyM (V 4) (V (t + 6) 1) (V 1 0)) := rfl
        unfold mx at em
        first | refine ⟨?_, _, rfl, ((hs1.tr hs2).tr hs3).tr hs4⟩ | refine ⟨?_, _, rfl, hs1.tr hs2⟩ | refine ⟨?_, _, rfl, hs1⟩ | refine ⟨?_, _, rfl, scr.rf⟩
        unfold rsM
        rw [em]
        (repeat' split) <;> first | rfl | omega
    · skip
      have hu2 : ¬ uwG V 0 N = -1 := by
        rcases @uwN_sp V N with ⟨q, _, _⟩ | ⟨t9, _, _, q, _⟩
        · omega
        · omega
      refine dp_iconst C dX7_whyNot_21 ?_
      refine dp_iret C hret dX7_whyNot_22 ?_
      have em : tmF V (apF V (V (t + 6) 0)) (V (t + 6) 1) = mx (wyM (V 3) (apF V (V (t + 6) 0)) (V 1 0)) (wyM (V 4) (V (t + 6) 1) (V 1 0)) := rfl
      unfold mx at em
      first | refine ⟨?_, _, rfl, ((hs1.tr hs2).tr hs3).tr hs4⟩ | refine ⟨?_, _, rfl, hs1.tr hs2⟩ | refine ⟨?_, _, rfl, hs1⟩ | refine ⟨?_, _, rfl, scr.rf⟩
      unfold rsM
      rw [em]
      (repeat' split) <;> first | rfl | omega
  · skip
    refine dp_iconst C dX7_whyNot_10 ?_
    refine dp_iret C hret dX7_whyNot_11 ?_
    have em : tmF V (apF V (V (t + 6) 0)) (V (t + 6) 1) = mx (wyM (V 3) (apF V (V (t + 6) 0)) (V 1 0)) (wyM (V 4) (V (t + 6) 1) (V 1 0)) := rfl
    unfold mx at em
    first | refine ⟨?_, _, rfl, ((hs1.tr hs2).tr hs3).tr hs4⟩ | refine ⟨?_, _, rfl, hs1.tr hs2⟩ | refine ⟨?_, _, rfl, hs1⟩ | refine ⟨?_, _, rfl, scr.rf⟩
    unfold rsM
    rw [em]
    (repeat' split) <;> first | rfl | omega
theorem yyX7_comesFirst : yX7_comesFirst.cls = RX7 ∧ yX7_comesFirst.cls ≠ "java/lang/invoke/MethodHandle" ∧ yX7_comesFirst.cls ≠ "java/lang/invoke/VarHandle" ∧ (parseMethodDescriptor yX7_comesFirst.desc).map (fun d => d.parameters.length) = some 2 := by decide +kernel
set_option maxHeartbeats 4000000 in
set_option maxRecDepth 100000 in
theorem c_X7_comesFirst {E : dp_E} (hE : dp_OK E) (l : Launch) {M : dp_M} {V X : dp_V} {N : Nat} (hm : ivM V N) {t t2 : Nat} (ht : t < N) (ht2 : t2 < N) : dp_met E l yX7_comesFirst wsX7_comesFirst 1 22 [.ref (eAd E 8 0), .int (dp_I (t : Int)), .int (dp_I (t2 : Int))] (dN M V X) (dp_qi E (fun y M1 => y = btF (V (t + 6)) (V (t2 + 6)) ∧ M1 = dN M V X)) := by
  refine dp_of (cc := cX7_comesFirst) (nL := 3) (own := RX7) (ret := some (.boolean)) (by decide +kernel) rfl rfl hE (by simp [Value.category]) (Nat.le_of_ble_eq_true rfl) ?_
  intro p e s m below meth co C hret
  show dp_G _ _ _ _ _ _ _ _ _ _ _ _ _ _ _ _ _ [some (.ref (eAd E 8 0)), some (.int (dp_I (t : Int))), some (.int (dp_I (t2 : Int)))] _
  obtain ⟨hN, h10, hv, hT⟩ := hm
  have ht10 : t < 10 := by omega
  have ht11 : t2 < 10 := by omega
  have hst := hT t ht
  unfold ivT at hst
  have hst2 := hT t2 ht2
  unfold ivT at hst2
  refine dp_aload_n C dX7_comesFirst_0 rfl ?_
  refine dp_iload_n C dX7_comesFirst_1 rfl ?_
  refine dp_iconst C dX7_comesFirst_2 ?_
  refine dp_cVi C (c_X7_of C.2.2.1 l (t := t) (k := 5) ht10 (by decide)) gX7_comesFirst_X7_of rfl (dp_mM (by decide)) dp_xmo rfl yyX7_of rfl ⟨Nat.le_of_ble_eq_true rfl, Nat.le_of_ble_eq_true rfl⟩ rfl (Nat.le_of_ble_eq_true rfl) rfl ⟨Nat.zero_le _, Nat.zero_le _⟩ dX7_comesFirst_3 (fun x3 M3 h3 => ?_)
  obtain ⟨rfl, rfl⟩ := h3
  refine dp_aload_n C dX7_comesFirst_6 rfl ?_
  refine dp_iload_n C dX7_comesFirst_7 rfl ?_
  refine dp_iconst C dX7_comesFirst_8 ?_
  refine dp_cVi C (c_X7_of C.2.2.1 l (t := t2) (k := 5) ht11 (by decide)) gX7_comesFirst_X7_of rfl (dp_mM (by decide)) dp_xmo rfl yyX7_of rfl ⟨Nat.le_of_ble_eq_true rfl, Nat.le_of_ble_eq_true rfl⟩ rfl (Nat.le_of_ble_eq_true rfl) rfl ⟨Nat.zero_le _, Nat.zero_le _⟩ dX7_comesFirst_9 (fun x9 M9 h9 => ?_)
  obtain ⟨rfl, rfl⟩ := h9
  refine dp_icmp_eq (tgt := 36) C dX7_comesFirst_12 (by decide) ⟨by omega, by omega⟩ ⟨by omega, by omega⟩ (fun c12 => ?_) (fun c12 => ?_)
  · skip
    refine dp_aload_n C dX7_comesFirst_36 rfl ?_
    refine dp_iload_n C dX7_comesFirst_37 rfl ?_
    refine dp_iconst C dX7_comesFirst_38 ?_
    refine dp_cVi C (c_X7_of C.2.2.1 l (t := t) (k := 3) ht10 (by decide)) gX7_comesFirst_X7_of rfl (dp_mM (by decide)) dp_xmo rfl yyX7_of rfl ⟨Nat.le_of_ble_eq_true rfl, Nat.le_of_ble_eq_true rfl⟩ rfl (Nat.le_of_ble_eq_true rfl) rfl ⟨Nat.zero_le _, Nat.zero_le _⟩ dX7_comesFirst_39 (fun x39 M39 h39 => ?_)
    obtain ⟨rfl, rfl⟩ := h39
    refine dp_aload_n C dX7_comesFirst_42 rfl ?_
    refine dp_iload_n C dX7_comesFirst_43 rfl ?_
    refine dp_iconst C dX7_comesFirst_44 ?_
    refine dp_cVi C (c_X7_of C.2.2.1 l (t := t2) (k := 3) ht11 (by decide)) gX7_comesFirst_X7_of rfl (dp_mM (by decide)) dp_xmo rfl yyX7_of rfl ⟨Nat.le_of_ble_eq_true rfl, Nat.le_of_ble_eq_true rfl⟩ rfl (Nat.le_of_ble_eq_true rfl) rfl ⟨Nat.zero_le _, Nat.zero_le _⟩ dX7_comesFirst_45 (fun x45 M45 h45 => ?_)
    obtain ⟨rfl, rfl⟩ := h45
    refine dp_icmp_ge (tgt := 55) C dX7_comesFirst_48 (by decide) ⟨by omega, by omega⟩ ⟨by omega, by omega⟩ (fun c48 => ?_) (fun c48 => ?_)
    · skip
      refine dp_iconst C dX7_comesFirst_55 ?_
      refine dp_zret C hret (by first | decide | exact dp_nb) dX7_comesFirst_56 ?_
      refine ⟨?_, rfl⟩
      unfold btF dp_b
      (repeat' split) <;> first | rfl | omega
    · skip
      refine dp_iconst C dX7_comesFirst_51 ?_
      refine dp_goto (tgt := 56) C dX7_comesFirst_52 (by decide) ?_
      refine dp_zret C hret (by first | decide | exact dp_nb) dX7_comesFirst_56 ?_
      refine ⟨?_, rfl⟩
      unfold btF dp_b
      (repeat' split) <;> first | rfl | omega
  · skip
    refine dp_aload_n C dX7_comesFirst_15 rfl ?_
    refine dp_iload_n C dX7_comesFirst_16 rfl ?_
    refine dp_iconst C dX7_comesFirst_17 ?_
    refine dp_cVi C (c_X7_of C.2.2.1 l (t := t) (k := 5) ht10 (by decide)) gX7_comesFirst_X7_of rfl (dp_mM (by decide)) dp_xmo rfl yyX7_of rfl ⟨Nat.le_of_ble_eq_true rfl, Nat.le_of_ble_eq_true rfl⟩ rfl (Nat.le_of_ble_eq_true rfl) rfl ⟨Nat.zero_le _, Nat.zero_le _⟩ dX7_comesFirst_18 (fun x18 M18 h18 => ?_)
    obtain ⟨rfl, rfl⟩ := h18
    refine dp_aload_n C dX7_comesFirst_21 rfl ?_
    refine dp_iload_n C dX7_comesFirst_22 rfl ?_
    refine dp_iconst C dX7_comesFirst_23 ?_
    refine dp_cVi C (c_X7_of C.2.2.1 l (t := t2) (k := 5) ht11 (by decide)) gX7_comesFirst_X7_of rfl (dp_mM (by decide)) dp_xmo rfl yyX7_of rfl ⟨Nat.le_of_ble_eq_true rfl, Nat.le_of_ble_eq_true rfl⟩ rfl (Nat.le_of_ble_eq_true rfl) rfl ⟨Nat.zero_le _, Nat.zero_le _⟩ dX7_comesFirst_24 (fun x24 M24 h24 => ?_)
    obtain ⟨rfl, rfl⟩ := h24
    refine dp_icmp_le (tgt := 34) C dX7_comesFirst_27 (by decide) ⟨by omega, by omega⟩ ⟨by omega, by omega⟩ (fun c27 => ?_) (fun c27 => ?_)
    · skip
      refine dp_iconst C dX7_comesFirst_34 ?_
      refine dp_zret C hret (by first | decide | exact dp_nb) dX7_comesFirst_35 ?_
      refine ⟨?_, rfl⟩
      unfold btF dp_b
      (repeat' split) <;> first | rfl | omega
    · skip
      refine dp_iconst C dX7_comesFirst_30 ?_
      refine dp_goto (tgt := 35) C dX7_comesFirst_31 (by decide) ?_
      refine dp_zret C hret (by first | decide | exact dp_nb) dX7_comesFirst_35 ?_
      refine ⟨?_, rfl⟩
      unfold btF dp_b
      (repeat' split) <;> first | rfl | omega
theorem yyX7_nextOne : yX7_nextOne.cls = RX7 ∧ yX7_nextOne.cls ≠ "java/lang/invoke/MethodHandle" ∧ yX7_nextOne.cls ≠ "java/lang/invoke/VarHandle" ∧ (parseMethodDescriptor yX7_nextOne.desc).map (fun d => d.parameters.length) = some 0 := by decide +kernel
set_option maxHeartbeats 4000000 in
set_option maxRecDepth 100000 in
theorem c_X7_nextOne {E : dp_E} (hE : dp_OK E) (l : Launch) {M : dp_M} {V X : dp_V} {N : Nat} (hm : ivM V N) : dp_met E l yX7_nextOne wsX7_nextOne 7 166 [.ref (eAd E 8 0)] (dN M V X) (dp_qi E (fun y M1 => y = ftF (bnM V N) ∧ ∃ X', M1 = dN M V X' ∧ scr X X')) := by
  refine dp_of (cc := cX7_nextOne) (nL := 3) (own := RX7) (ret := some (.int)) (by decide +kernel) rfl rfl hE (by simp [Value.category]) (Nat.le_of_ble_eq_true rfl) ?_
  intro p e s m below meth co C hret
  show dp_G _ _ _ _ _ _ _ _ _ _ _ _ _ _ _ _ _ [some (.ref (eAd E 8 0)), none, none] _
  have hX7 : ∀ w ∈ u_ws RX7 TX7 12, w ∈ wsX7_nextOne := fun w h => List.mem_cons_of_mem _ (List.mem_append_right _ (h))
  have hm2 := hm
  obtain ⟨hN, h10, hv, hT⟩ := hm
  have J5 : ∀ (n k : Nat) (b bl ki : Int) (X' : dp_V), k + n = N → ki = k → bl = ftF b → (b = -1 ∨ (0 ≤ b ∧ b < N)) → scr X X' → bsM V N k n b = bnM V N → dp_G E (dp_A E) p l e (dp_rm 7 166) s m [.ref (eAd E 8 0)].toArray below meth co 0 0 (MQ below (dp_qi E (fun y M1 => y = ftF (bnM V N) ∧ ∃ X', M1 = dN M V X' ∧ scr X X')) [.ref (eAd E 8 0)].toArray s 0 0 (dp_A E)) (dN M V X') 5 [some (.ref (eAd E 8 0)), some (.int (dp_I bl)), some (.int (dp_I ki))] [] := by
    refine dp_ind (fun n ih => ?_)
    intro k b bl ki X' hkn hki hbl hb hsc hf
    refine dp_iload_n C dX7_nextOne_5 rfl ?_
    refine dp_aload_n C dX7_nextOne_6 rfl ?_
    refine dp_getf C (k := 0) (dp_mM (by decide)) dp_xmo rfl hX7 (by decide) (List.mem_of_getElem? (i := 2) rfl) rfl dX7_nextOne_7 ?_
    refine dp_bipush C dX7_nextOne_10 (by decide) ?_
    refine dp_ald_ms C (j := 7) ⟨by omega, by omega⟩ rfl (c9 := 0) (k9 := 3) rfl rfl dX7_nextOne_12 ?_
    refine dp_icmp_ge (tgt := 51) C dX7_nextOne_13 (by decide) ⟨by omega, by omega⟩ ⟨by omega, by omega⟩ (fun c13 => ?_) (fun c13 => ?_)
    · skip
      obtain rfl : n = 0 := by omega
      refine dp_iload_n C dX7_nextOne_51 rfl ?_
      refine dp_iret C hret dX7_nextOne_52 ?_
      exact ⟨by rw [hbl, ← hf]; rfl, _, rfl, hsc⟩
    · skip
      obtain ⟨n, rfl⟩ : ∃ n', n = n' + 1 := ⟨n - 1, by omega⟩
      unfold bsM at hf
      obtain rfl := hki
      obtain rfl := hbl
      have ht : k < N := by omega
      have hbb : -100004 ≤ ftF b ∧ ftF b ≤ 10 := by unfold ftF; split <;> omega
      refine dp_aload_n C dX7_nextOne_16 rfl ?_
      refine dp_iload_n C dX7_nextOne_17 rfl ?_
      refine dp_cVi C (c_X7_whyNot C.2.2.1 l hm2 ht) gX7_nextOne_X7_whyNot rfl (dp_mM (by decide)) dp_xmo rfl yyX7_whyNot rfl ⟨Nat.le_of_ble_eq_true rfl, Nat.le_of_ble_eq_true rfl⟩ rfl (Nat.le_of_ble_eq_true rfl) rfl ⟨Nat.zero_le _, Nat.zero_le _⟩ dX7_nextOne_18 (fun x18 M18 h18 => ?_)
      obtain ⟨rfl, X1, rfl, hs1⟩ := h18
      refine dp_if_ne (tgt := 43) C dX7_nextOne_21 (by decide) (by have := @rsM_bd V N k; exact ⟨by omega, by omega⟩) (fun c21 => ?_) (fun c21 => ?_)
      · skip
        rw [if_neg c21] at hf
        refine dp_iload_n C dX7_nextOne_43 rfl ?_
        refine dp_istore_n C dX7_nextOne_44 (Nat.le_of_ble_eq_true rfl) ?_
        dsimp only [List.set]
        refine dp_iinc C dX7_nextOne_45 rfl ?_
        dsimp only [List.set]
        refine dp_goto (tgt := 5) C dX7_nextOne_48 (by decide) ?_
        first | exact ih n (by omega) (k + 1) (k : Int) _ _ _ (by omega) (by omega) ftF_n.symm (Or.inr ⟨by omega, by omega⟩) (hsc.tr hs1) hf | exact ih n (by omega) (k + 1) b _ _ _ (by omega) (by omega) (by first | rfl | exact eb.symm) hb (hsc.tr hs1) hf
      · skip
        rw [if_pos c21] at hf
        refine dp_iload_n C dX7_nextOne_24 rfl ?_
        refine dp_ldc C (-100004) (List.mem_of_getElem? (i := 1) rfl) rfl dX7_nextOne_25 ?_
        refine dp_icmp_eq (tgt := 39) C dX7_nextOne_27 (by decide) ⟨by omega, by omega⟩ ⟨by omega, by omega⟩ (fun c27 => ?_) (fun c27 => ?_)
        · skip
          have eb1 := ftF_eq (by omega) c27
          rw [if_pos eb1] at hf
          refine dp_iload_n C dX7_nextOne_39 rfl ?_
          refine dp_goto (tgt := 44) C dX7_nextOne_40 (by decide) ?_
          refine dp_istore_n C dX7_nextOne_44 (Nat.le_of_ble_eq_true rfl) ?_
          dsimp only [List.set]
          refine dp_iinc C dX7_nextOne_45 rfl ?_
          dsimp only [List.set]
          refine dp_goto (tgt := 5) C dX7_nextOne_48 (by decide) ?_
          first | exact ih n (by omega) (k + 1) (k : Int) _ _ _ (by omega) (by omega) ftF_n.symm (Or.inr ⟨by omega, by omega⟩) (hsc.tr hs1) hf | exact ih n (by omega) (k + 1) b _ _ _ (by omega) (by omega) (by first | rfl | exact eb.symm) hb (hsc.tr hs1) hf
        · skip
          obtain ⟨nb1, eb2⟩ := ftF_ne c27
          rw [if_neg nb1] at hf
          have hb2 := hb.resolve_left nb1
          have eb : ftF b = (b.toNat : Int) := by omega
          have ht2 : b.toNat < N := by omega
          rw [eb]
          refine dp_aload_n C dX7_nextOne_30 rfl ?_
          refine dp_iload_n C dX7_nextOne_31 rfl ?_
          refine dp_iload_n C dX7_nextOne_32 rfl ?_
          refine dp_cVi C (c_X7_comesFirst C.2.2.1 l hm2 ht ht2) gX7_nextOne_X7_comesFirst rfl (dp_mM (by decide)) dp_xmo rfl yyX7_comesFirst rfl ⟨Nat.le_of_ble_eq_true rfl, Nat.le_of_ble_eq_true rfl⟩ rfl (Nat.le_of_ble_eq_true rfl) rfl ⟨Nat.zero_le _, Nat.zero_le _⟩ dX7_nextOne_33 (fun x33 M33 h33 => ?_)
          obtain ⟨rfl, rfl⟩ := h33
          refine dp_if_eq (tgt := 43) C dX7_nextOne_36 (by decide) (by have := @btF_bd (V (k + 6)) (V (b.toNat + 6)); exact ⟨by omega, by omega⟩) (fun c36 => ?_) (fun c36 => ?_)
          · skip
            rw [if_pos c36] at hf
            refine dp_iload_n C dX7_nextOne_43 rfl ?_
            refine dp_istore_n C dX7_nextOne_44 (Nat.le_of_ble_eq_true rfl) ?_
            dsimp only [List.set]
            refine dp_iinc C dX7_nextOne_45 rfl ?_
            dsimp only [List.set]
            refine dp_goto (tgt := 5) C dX7_nextOne_48 (by decide) ?_
            first | exact ih n (by omega) (k + 1) (k : Int) _ _ _ (by omega) (by omega) ftF_n.symm (Or.inr ⟨by omega, by omega⟩) (hsc.tr hs1) hf | exact ih n (by omega) (k + 1) b _ _ _ (by omega) (by omega) (by first | rfl | exact eb.symm) hb (hsc.tr hs1) hf
          · skip
            rw [if_neg c36] at hf
            refine dp_iload_n C dX7_nextOne_39 rfl ?_
            refine dp_goto (tgt := 44) C dX7_nextOne_40 (by decide) ?_
            refine dp_istore_n C dX7_nextOne_44 (Nat.le_of_ble_eq_true rfl) ?_
            dsimp only [List.set]
            refine dp_iinc C dX7_nextOne_45 rfl ?_
            dsimp only [List.set]
            refine dp_goto (tgt := 5) C dX7_nextOne_48 (by decide) ?_
            first | exact ih n (by omega) (k + 1) (k : Int) _ _ _ (by omega) (by omega) ftF_n.symm (Or.inr ⟨by omega, by omega⟩) (hsc.tr hs1) hf | exact ih n (by omega) (k + 1) b _ _ _ (by omega) (by omega) (by first | rfl | exact eb.symm) hb (hsc.tr hs1) hf
  refine dp_ldc C (-100004) (List.mem_of_getElem? (i := 1) rfl) rfl dX7_nextOne_0 ?_
  refine dp_istore_n C dX7_nextOne_2 (Nat.le_of_ble_eq_true rfl) ?_
  dsimp only [List.set]
  refine dp_iconst C dX7_nextOne_3 ?_
  refine dp_istore_n C dX7_nextOne_4 (Nat.le_of_ble_eq_true rfl) ?_
  dsimp only [List.set]
  exact J5 N 0 (-1) _ 0 _ (by omega) rfl rfl (Or.inl rfl) scr.rf rfl
