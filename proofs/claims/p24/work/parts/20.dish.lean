/-! THE CLASS AS A WHOLE: V the state now, Y its ways, X text and history, M the other regions -/
theorem cM_c {M : dp_M} {V Y X : dp_V} : dS (dR M 7 X) 0 V Y = dR (dS M 0 V Y) 7 X := by
  funext r
  unfold dS dR
  by_cases a : r = 7
  · subst a
    simp
  · simp [a]
theorem dp_c7 {E : dp_E} {A : Nat → Prop} {p : Program} {l : Launch} {e : Env} {R : Room} {s : State} {m : MethodId} {args : Array Value} {below : List Frame} {meth : Method} {co : Code} {ce sl : Nat} {Q : State → Prop} {M : dp_M} {V Y X : dp_V} {pc : Nat} {L : List (Option Value)} {st : List Value} (k : dp_G E A p l e R s m args below meth co ce sl Q (dR (dS M 0 V Y) 7 X) pc L st) : dp_G E A p l e R s m args below meth co ce sl Q (dS (dR M 7 X) 0 V Y) pc L st := by
  rw [cM_c]
  exact k
theorem dp_c0 {E : dp_E} {A : Nat → Prop} {p : Program} {l : Launch} {e : Env} {R : Room} {s : State} {m : MethodId} {args : Array Value} {below : List Frame} {meth : Method} {co : Code} {ce sl : Nat} {Q : State → Prop} {M : dp_M} {V Y X : dp_V} {pc : Nat} {L : List (Option Value)} {st : List Value} (k : dp_G E A p l e R s m args below meth co ce sl Q (dS (dR M 7 X) 0 V Y) pc L st) : dp_G E A p l e R s m args below meth co ce sl Q (dR (dS M 0 V Y) 7 X) pc L st := by
  rw [← cM_c]
  exact k
def rcX1 (X : dp_V) : dp_V := u2 (rcX X) 1 0 (rcX X 1 0 + 1)
/-- a change: the state before it recorded, V' the state now -/
def rM (M : dp_M) (V Y X V' : dp_V) : dp_M := dS (dR (dR M (rcJ X) V) 7 (rcX1 X)) 0 V' Y
theorem rc_c {M : dp_M} {V Y X : dp_V} (h : 2 ≤ rcJ X ∧ rcJ X ≤ 6) : rcM (dS M 0 V Y) X = dR (dS (dR M (rcJ X) V) 0 V Y) 7 (rcX1 X) := by
  unfold rcM
  rw [dS_V]
  congr 1
  funext r
  unfold dS dR
  by_cases a : r = rcJ X
  · rw [if_pos a, if_neg (by omega), if_neg (by omega), if_pos a]
  · rw [if_neg a, if_neg a]
theorem re_c {M : dp_M} {V Y X : dp_V} {j : Nat} (h : 2 ≤ j ∧ j ≤ 6) (hj : (X 2 (X 1 0 - 1).toNat).toNat = j) : reM (dS M 0 V Y) X = dR (dS M 0 (M j) Y) 7 (u2 X 1 0 (X 1 0 - 1)) := by
  unfold reM
  rw [hj, dS_ne (by omega) (by omega)]
  congr 1
  funext r
  unfold dS dR
  by_cases a : r = 0
  · subst a
    simp
  · simp [a]
theorem dp_sm_bd {i : Nat} : 0 ≤ dp_sm i ∧ dp_sm i ≤ 27000 := by
  unfold dp_sm
  split <;> decide
theorem dp_al_bd {i : Nat} : 0 ≤ dp_al i ∧ dp_al i ≤ 1 := by
  unfold dp_al
  split <;> decide
theorem dp_am_bd {i : Nat} : 0 ≤ dp_am i ∧ dp_am i ≤ 2000 := by
  unfold dp_am
  split <;> decide
def ftF (x : Int) : Int := if x = -1 then -100004 else x
def axC (a : Int) : Nat := if a = 0 then 3 else 4
theorem axC_or {a : Int} : axC a = 3 ∨ axC a = 4 := by
  unfold axC
  split
  · exact Or.inl rfl
  · exact Or.inr rfl
def coF (V X : dp_V) (k : Int) : Int := if k = 4 then 10 - cnF V 4 else if k = 5 then cnF V 0 else if k = 6 then cnF V 2 else if k = 7 then cnF V 3 else if k = 8 then ftF (uwF V) else if k = 9 then muG V 0 10 else if k = 10 then X 1 0 else if k = 11 then X 3 0 else stT V k
def wyR (c : Nat) (f : Nat → Int) (to ov k : Int) : Int := if wyP c f to ov = 0 then -100004 else if k = 0 then wyE f to else if k = 1 then wyL f to ov else if k = 2 then wyM f to ov else if wyT f to = 0 then -100004 else wyU f to ov
theorem wyS_R {c : Nat} {f g : Nat → Int} {to ov k : Int} (h : wyOK c f to ov g) : wyS g k = wyR c f to ov k := by
  obtain ⟨-, h1, h2, h3, h4, h5, h6⟩ := h
  unfold wyS wyR
  rw [h1, h2, h3, h4, h5, h6]
def pfF (V : dp_V) (z : Int) : Int := if wyP 3 (V 3) (apF V z) (V 1 0) = 0 then -100004 else apF V z
theorem mvV_iv9 {V : dp_V} {c : Nat} (h : ivS V) (hc : c = 3 ∨ c = 4) : ivA c (V c) := by
  rcases hc with rfl | rfl
  · exact h.2.2.2.1
  · exact h.2.2.2.2
theorem muG_bd {V : dp_V} : ∀ {n k : Nat}, 0 ≤ n := fun {n k} => Nat.zero_le n
theorem yyX6_foundTarget : yX6_foundTarget.cls ≠ "java/lang/invoke/MethodHandle" ∧ yX6_foundTarget.cls ≠ "java/lang/invoke/VarHandle" ∧ (parseMethodDescriptor yX6_foundTarget.desc).map (fun d => d.parameters.length) = some 1 := by decide +kernel
set_option maxHeartbeats 4000000 in
set_option maxRecDepth 100000 in
theorem c_X6_foundTarget {E : dp_E} (hE : dp_OK E) (l : Launch) {M : dp_M} {x : Int} (hx : dp_R x) : dp_met E l yX6_foundTarget wsX6_foundTarget 0 0 [.int (dp_I x)] (M) (dp_qi E (fun y M1 => y = ftF x ∧ M1 = M)) := by
  refine dp_of (cc := cX6_foundTarget) (nL := 1) (own := RX6) (ret := some (.int)) (by decide +kernel) rfl rfl hE (by simp [Value.category]) (Nat.le_of_ble_eq_true rfl) ?_
  intro p e s m below meth co C hret
  show dp_G _ _ _ _ _ _ _ _ _ _ _ _ _ _ _ _ _ [some (.int (dp_I x))] _
  unfold dp_R at hx
  refine dp_iload_n C dX6_foundTarget_0 rfl ?_
  refine dp_iconst C dX6_foundTarget_1 ?_
  refine dp_icmp_ne (tgt := 10) C dX6_foundTarget_2 (by decide) ⟨by omega, by omega⟩ ⟨by omega, by omega⟩ (fun c2 => ?_) (fun c2 => ?_)
  · skip
    refine dp_iload_n C dX6_foundTarget_10 rfl ?_
    refine dp_iret C hret dX6_foundTarget_11 ?_
    refine ⟨?_, rfl⟩
    unfold ftF
    repeat (first | rw [if_neg (by omega)] | rw [if_pos (by omega)])
  · skip
    refine dp_ldc C (-100004) (List.mem_of_getElem? (i := 1) rfl) rfl dX6_foundTarget_5 ?_
    refine dp_goto (tgt := 11) C dX6_foundTarget_7 (by decide) ?_
    refine dp_iret C hret dX6_foundTarget_11 ?_
    refine ⟨?_, rfl⟩
    unfold ftF
    repeat (first | rw [if_neg (by omega)] | rw [if_pos (by omega)])
theorem yyX6_set : yX6_set.cls = RX6 ∧ yX6_set.cls ≠ "java/lang/invoke/MethodHandle" ∧ yX6_set.cls ≠ "java/lang/invoke/VarHandle" ∧ (parseMethodDescriptor yX6_set.desc).map (fun d => d.parameters.length) = some 2 := by decide +kernel
set_option maxHeartbeats 4000000 in
set_option maxRecDepth 100000 in
theorem c_X6_set {E : dp_E} (hE : dp_OK E) (l : Launch) {M : dp_M} {V Y X : dp_V} {k x : Int} (hv : ivC V) (hH : hOK X) (hk : dp_R k) (hx : dp_R x) : dp_met E l yX6_set wsX6_set 3 64 [.ref (eAd E 7 0), .int (dp_I k), .int (dp_I x)] (dS (dR M 7 X) 0 V Y) (dp_qi E (fun y M1 => y = (if (0 ≤ k ∧ k ≤ 3) ∧ 0 ≤ x ∧ x ≤ dp_sm k.toNat then V 1 k.toNat else -100001) ∧ M1 = (if (0 ≤ k ∧ k ≤ 3) ∧ 0 ≤ x ∧ x ≤ dp_sm k.toNat then rM M V Y X (u2 V 1 k.toNat x) else dS (dR M 7 X) 0 V Y))) := by
  refine dp_of (cc := cX6_set) (nL := 3) (own := RX6) (ret := some (.int)) (by decide +kernel) rfl rfl hE (by simp [Value.category]) (Nat.le_of_ble_eq_true rfl) ?_
  intro p e s m below meth co C hret
  show dp_G _ _ _ _ _ _ _ _ _ _ _ _ _ _ _ _ _ [some (.ref (eAd E 7 0)), some (.int (dp_I k)), some (.int (dp_I x))] _
  have hX6 : ∀ w ∈ u_ws RX6 TX6 4, w ∈ wsX6_set := fun w h => List.mem_cons_of_mem _ (List.mem_append_left _ (List.mem_append_left _ (List.mem_append_left _ (List.mem_append_left _ (List.mem_append_right _ (h))))))
  have h07 : 0 < 7 := by decide
  have hJ := rcJ_ok hH
  unfold dp_R at hk hx
  have hsm := @dp_sm_bd k.toNat
  refine dp_iload_n C dX6_set_0 rfl ?_
  refine dp_iconst C dX6_set_1 ?_
  refine dp_gets C C.2.2.2.2.2.1 (List.mem_of_getElem? (i := 1) rfl) dX6_set_2 ?_
  refine dp_tlen C 4 C.2.2.2.2.2.1 rfl dX6_set_5 ?_
  refine dp_iconst C dX6_set_6 ?_
  refine dp_isub C dX6_set_7 ?_
  refine dp_cSi C (c_X6_isBetween C.2.2.1 l ⟨by omega, by omega⟩ ⟨by omega, by omega⟩ ⟨by omega, by omega⟩) gX6_set_X6_isBetween rfl yyX6_isBetween rfl ⟨Nat.le_of_ble_eq_true rfl, Nat.le_of_ble_eq_true rfl⟩ rfl (Nat.le_of_ble_eq_true rfl) rfl ⟨Nat.zero_le _, Nat.zero_le _⟩ dX6_set_8 (fun x8 M8 h8 => ?_)
  obtain ⟨rfl, rfl⟩ := h8
  refine dp_ifz_eq (tgt := 27) C dX6_set_11 (by decide) (fun c11 => ?_) (fun c11 => ?_)
  · skip
    refine dp_ldc C (-100001) (List.mem_of_getElem? (i := 2) rfl) rfl dX6_set_27 ?_
    refine dp_iret C hret dX6_set_29 ?_
    first | exact ⟨(if_pos (by omega)).symm, (if_pos (by omega)).symm⟩ | exact ⟨(if_neg (by omega)).symm, (if_neg (by omega)).symm⟩
  · skip
    refine dp_iload_n C dX6_set_14 rfl ?_
    refine dp_iconst C dX6_set_15 ?_
    refine dp_gets C C.2.2.2.2.2.1 (List.mem_of_getElem? (i := 1) rfl) dX6_set_16 ?_
    refine dp_iload_n C dX6_set_19 rfl ?_
    refine dp_tald (j := k.toNat) C C.2.2.2.2.2.1 ⟨by omega, by omega⟩ (by decide) rfl dX6_set_20 ?_
    refine dp_cSi C (c_X6_isBetween C.2.2.1 l ⟨by omega, by omega⟩ ⟨by omega, by omega⟩ ⟨by omega, by omega⟩) gX6_set_X6_isBetween rfl yyX6_isBetween rfl ⟨Nat.le_of_ble_eq_true rfl, Nat.le_of_ble_eq_true rfl⟩ rfl (Nat.le_of_ble_eq_true rfl) rfl ⟨Nat.zero_le _, Nat.zero_le _⟩ dX6_set_21 (fun x21 M21 h21 => ?_)
    obtain ⟨rfl, rfl⟩ := h21
    refine dp_ifz_ne (tgt := 30) C dX6_set_24 (by decide) (fun c24 => ?_) (fun c24 => ?_)
    · skip
      obtain ⟨k9, rfl⟩ : ∃ k9 : Nat, k = k9 := ⟨k.toNat, by omega⟩
      rw [Int.toNat_natCast] at *
      refine dp_aload_n C dX6_set_30 rfl ?_
      refine dp_getf C (k := 2) (dp_mC (by decide)) dp_xdp rfl hX6 (by decide) (List.mem_of_getElem? (i := 3) rfl) rfl dX6_set_31 ?_
      refine dp_aload_n C dX6_set_34 rfl ?_
      refine dp_getf C (k := 0) (dp_mC (by decide)) dp_xdp rfl hX6 (by decide) (List.mem_of_getElem? (i := 4) rfl) rfl dX6_set_35 ?_
      refine dp_c7 ?_
      refine dp_cVv C (c_X1_record C.2.2.1 l hH (by rw [dS_V]; exact hv.2.2)) gX6_set_X1_record rfl (dp_mC (by decide)) dp_xhi rfl yyX1_record rfl ⟨Nat.le_of_ble_eq_true rfl, Nat.le_of_ble_eq_true rfl⟩ rfl (Nat.le_of_ble_eq_true rfl) rfl ⟨Nat.zero_le _, Nat.zero_le _⟩ dX6_set_38 (fun M38 h38 => ?_)
      obtain rfl := h38
      rw [rc_c hJ]
      refine dp_c0 ?_
      refine dp_aload_n C dX6_set_41 rfl ?_
      refine dp_getf C (k := 0) (dp_mC (by decide)) dp_xdp rfl hX6 (by decide) (List.mem_of_getElem? (i := 4) rfl) rfl dX6_set_42 ?_
      refine dp_iload_n C dX6_set_45 rfl ?_
      refine dp_iload_n C dX6_set_46 rfl ?_
      refine dp_cVi C (c_X2_changeSetting C.2.2.1 l h07 (show k9 < 4 by omega)) gX6_set_X2_changeSetting rfl (dp_mS ‹_› (by decide)) (dp_xst ‹_›) rfl yyX2_changeSetting rfl ⟨Nat.le_of_ble_eq_true rfl, Nat.le_of_ble_eq_true rfl⟩ rfl (Nat.le_of_ble_eq_true rfl) rfl ⟨Nat.zero_le _, Nat.zero_le _⟩ dX6_set_47 (fun x47 M47 h47 => ?_)
      obtain ⟨rfl, rfl⟩ := h47
      refine dp_iret C hret dX6_set_50 ?_
      first | exact ⟨(if_pos (by omega)).symm, (if_pos (by omega)).symm⟩ | exact ⟨(if_neg (by omega)).symm, (if_neg (by omega)).symm⟩
    · skip
      refine dp_ldc C (-100001) (List.mem_of_getElem? (i := 2) rfl) rfl dX6_set_27 ?_
      refine dp_iret C hret dX6_set_29 ?_
      first | exact ⟨(if_pos (by omega)).symm, (if_pos (by omega)).symm⟩ | exact ⟨(if_neg (by omega)).symm, (if_neg (by omega)).symm⟩
theorem yyX6_setAxis : yX6_setAxis.cls = RX6 ∧ yX6_setAxis.cls ≠ "java/lang/invoke/MethodHandle" ∧ yX6_setAxis.cls ≠ "java/lang/invoke/VarHandle" ∧ (parseMethodDescriptor yX6_setAxis.desc).map (fun d => d.parameters.length) = some 3 := by decide +kernel
set_option maxHeartbeats 4000000 in
set_option maxRecDepth 100000 in
theorem c_X6_setAxis {E : dp_E} (hE : dp_OK E) (l : Launch) {M : dp_M} {V Y X : dp_V} {a k x : Int} (hv : ivC V) (hH : hOK X) (ha : dp_R a) (hk : dp_R k) (hx : dp_R x) : dp_met E l yX6_setAxis wsX6_setAxis 3 64 [.ref (eAd E 7 0), .int (dp_I a), .int (dp_I k), .int (dp_I x)] (dS (dR M 7 X) 0 V Y) (dp_qi E (fun y M1 => y = (if (0 ≤ a ∧ a ≤ 1) ∧ (0 ≤ k ∧ k ≤ 2) ∧ dp_al k.toNat ≤ x ∧ x ≤ dp_am k.toNat then axT (axC a) (V (axC a)) k else -100001) ∧ M1 = (if (0 ≤ a ∧ a ≤ 1) ∧ (0 ≤ k ∧ k ≤ 2) ∧ dp_al k.toNat ≤ x ∧ x ≤ dp_am k.toNat then rM M V Y X (chV V (axC a) k x) else dS (dR M 7 X) 0 V Y))) := by
  refine dp_of (cc := cX6_setAxis) (nL := 4) (own := RX6) (ret := some (.int)) (by decide +kernel) rfl rfl hE (by simp [Value.category]) (Nat.le_of_ble_eq_true rfl) ?_
  intro p e s m below meth co C hret
  show dp_G _ _ _ _ _ _ _ _ _ _ _ _ _ _ _ _ _ [some (.ref (eAd E 7 0)), some (.int (dp_I a)), some (.int (dp_I k)), some (.int (dp_I x))] _
  have hX6 : ∀ w ∈ u_ws RX6 TX6 4, w ∈ wsX6_setAxis := fun w h => List.mem_cons_of_mem _ (List.mem_append_left _ (List.mem_append_left _ (List.mem_append_left _ (List.mem_append_left _ (List.mem_append_right _ (h))))))
  have h07 : 0 < 7 := by decide
  have hJ := rcJ_ok hH
  unfold dp_R at ha hk hx
  have hal := @dp_al_bd k.toNat
  have ham := @dp_am_bd k.toNat
  refine dp_iload_n C dX6_setAxis_0 rfl ?_
  refine dp_iconst C dX6_setAxis_1 ?_
  refine dp_iconst C dX6_setAxis_2 ?_
  refine dp_cSi C (c_X6_isBetween C.2.2.1 l ⟨by omega, by omega⟩ ⟨by omega, by omega⟩ ⟨by omega, by omega⟩) gX6_setAxis_X6_isBetween rfl yyX6_isBetween rfl ⟨Nat.le_of_ble_eq_true rfl, Nat.le_of_ble_eq_true rfl⟩ rfl (Nat.le_of_ble_eq_true rfl) rfl ⟨Nat.zero_le _, Nat.zero_le _⟩ dX6_setAxis_3 (fun x3 M3 h3 => ?_)
  obtain ⟨rfl, rfl⟩ := h3
  refine dp_ifz_eq (tgt := 40) C dX6_setAxis_6 (by decide) (fun c6 => ?_) (fun c6 => ?_)
  · skip
    refine dp_ldc C (-100001) (List.mem_of_getElem? (i := 3) rfl) rfl dX6_setAxis_40 ?_
    refine dp_iret C hret dX6_setAxis_42 ?_
    first | exact ⟨(if_pos (by omega)).symm, (if_pos (by omega)).symm⟩ | exact ⟨(if_neg (by omega)).symm, (if_neg (by omega)).symm⟩
  · skip
    refine dp_iload_n C dX6_setAxis_9 rfl ?_
    refine dp_iconst C dX6_setAxis_10 ?_
    refine dp_gets C C.2.2.2.2.2.2.2.1 (List.mem_of_getElem? (i := 1) rfl) dX6_setAxis_11 ?_
    refine dp_tlen C 3 C.2.2.2.2.2.2.2.1 rfl dX6_setAxis_14 ?_
    refine dp_iconst C dX6_setAxis_15 ?_
    refine dp_isub C dX6_setAxis_16 ?_
    refine dp_cSi C (c_X6_isBetween C.2.2.1 l ⟨by omega, by omega⟩ ⟨by omega, by omega⟩ ⟨by omega, by omega⟩) gX6_setAxis_X6_isBetween rfl yyX6_isBetween rfl ⟨Nat.le_of_ble_eq_true rfl, Nat.le_of_ble_eq_true rfl⟩ rfl (Nat.le_of_ble_eq_true rfl) rfl ⟨Nat.zero_le _, Nat.zero_le _⟩ dX6_setAxis_17 (fun x17 M17 h17 => ?_)
    obtain ⟨rfl, rfl⟩ := h17
    refine dp_ifz_eq (tgt := 40) C dX6_setAxis_20 (by decide) (fun c20 => ?_) (fun c20 => ?_)
    · skip
      refine dp_ldc C (-100001) (List.mem_of_getElem? (i := 3) rfl) rfl dX6_setAxis_40 ?_
      refine dp_iret C hret dX6_setAxis_42 ?_
      first | exact ⟨(if_pos (by omega)).symm, (if_pos (by omega)).symm⟩ | exact ⟨(if_neg (by omega)).symm, (if_neg (by omega)).symm⟩
    · skip
      refine dp_iload_n C dX6_setAxis_23 rfl ?_
      refine dp_gets C C.2.2.2.2.2.2.1 (List.mem_of_getElem? (i := 2) rfl) dX6_setAxis_24 ?_
      refine dp_iload_n C dX6_setAxis_27 rfl ?_
      refine dp_tald (j := k.toNat) C C.2.2.2.2.2.2.1 ⟨by omega, by omega⟩ (by decide) rfl dX6_setAxis_28 ?_
      refine dp_gets C C.2.2.2.2.2.2.2.1 (List.mem_of_getElem? (i := 1) rfl) dX6_setAxis_29 ?_
      refine dp_iload_n C dX6_setAxis_32 rfl ?_
      refine dp_tald (j := k.toNat) C C.2.2.2.2.2.2.2.1 ⟨by omega, by omega⟩ (by decide) rfl dX6_setAxis_33 ?_
      refine dp_cSi C (c_X6_isBetween C.2.2.1 l ⟨by omega, by omega⟩ ⟨by omega, by omega⟩ ⟨by omega, by omega⟩) gX6_setAxis_X6_isBetween rfl yyX6_isBetween rfl ⟨Nat.le_of_ble_eq_true rfl, Nat.le_of_ble_eq_true rfl⟩ rfl (Nat.le_of_ble_eq_true rfl) rfl ⟨Nat.zero_le _, Nat.zero_le _⟩ dX6_setAxis_34 (fun x34 M34 h34 => ?_)
      obtain ⟨rfl, rfl⟩ := h34
      refine dp_ifz_ne (tgt := 43) C dX6_setAxis_37 (by decide) (fun c37 => ?_) (fun c37 => ?_)
      · skip
        refine dp_aload_n C dX6_setAxis_43 rfl ?_
        refine dp_getf C (k := 2) (dp_mC (by decide)) dp_xdp rfl hX6 (by decide) (List.mem_of_getElem? (i := 4) rfl) rfl dX6_setAxis_44 ?_
        refine dp_aload_n C dX6_setAxis_47 rfl ?_
        refine dp_getf C (k := 0) (dp_mC (by decide)) dp_xdp rfl hX6 (by decide) (List.mem_of_getElem? (i := 5) rfl) rfl dX6_setAxis_48 ?_
        refine dp_c7 ?_
        refine dp_cVv C (c_X1_record C.2.2.1 l hH (by rw [dS_V]; exact hv.2.2)) gX6_setAxis_X1_record rfl (dp_mC (by decide)) dp_xhi rfl yyX1_record rfl ⟨Nat.le_of_ble_eq_true rfl, Nat.le_of_ble_eq_true rfl⟩ rfl (Nat.le_of_ble_eq_true rfl) rfl ⟨Nat.zero_le _, Nat.zero_le _⟩ dX6_setAxis_51 (fun M51 h51 => ?_)
        obtain rfl := h51
        rw [rc_c hJ]
        refine dp_c0 ?_
        refine dp_aload_n C dX6_setAxis_54 rfl ?_
        refine dp_getf C (k := 0) (dp_mC (by decide)) dp_xdp rfl hX6 (by decide) (List.mem_of_getElem? (i := 5) rfl) rfl dX6_setAxis_55 ?_
        refine dp_iload_n C dX6_setAxis_58 rfl ?_
        refine dp_cVr C (c_X2_axisNumber C.2.2.1 l h07 ⟨by omega, by omega⟩) gX6_setAxis_X2_axisNumber rfl (dp_mS ‹_› (by decide)) (dp_xst ‹_›) rfl yyX2_axisNumber rfl ⟨Nat.le_of_ble_eq_true rfl, Nat.le_of_ble_eq_true rfl⟩ rfl (Nat.le_of_ble_eq_true rfl) rfl ⟨Nat.zero_le _, Nat.zero_le _⟩ dX6_setAxis_59 (fun r59 q59 M59 h59 => ?_)
        obtain ⟨rfl, ha1, ha2, rfl⟩ := h59
        obtain rfl : q59 = axC a := by unfold axC; split <;> omega
        refine dp_iload_n C dX6_setAxis_62 rfl ?_
        refine dp_iload_n C dX6_setAxis_63 rfl ?_
        refine dp_cVi C (c_X0_change C.2.2.1 l ‹_› axC_or (mvV_iv9 hv.1 axC_or) ⟨by omega, by omega⟩ ⟨by omega, by omega⟩) gX6_setAxis_X0_change rfl (dp_mS ‹_› (dp_cA axC_or)) (dp_xax ‹_› axC_or) rfl yyX0_change rfl ⟨Nat.le_of_ble_eq_true rfl, Nat.le_of_ble_eq_true rfl⟩ rfl (Nat.le_of_ble_eq_true rfl) rfl ⟨Nat.zero_le _, Nat.zero_le _⟩ dX6_setAxis_64 (fun x64 M64 h64 => ?_)
        obtain ⟨rfl, rfl⟩ := h64
        refine dp_iret C hret dX6_setAxis_67 ?_
        first | exact ⟨(if_pos (by omega)).symm, (if_pos (by omega)).symm⟩ | exact ⟨(if_neg (by omega)).symm, (if_neg (by omega)).symm⟩
      · skip
        refine dp_ldc C (-100001) (List.mem_of_getElem? (i := 3) rfl) rfl dX6_setAxis_40 ?_
        refine dp_iret C hret dX6_setAxis_42 ?_
        first | exact ⟨(if_pos (by omega)).symm, (if_pos (by omega)).symm⟩ | exact ⟨(if_neg (by omega)).symm, (if_neg (by omega)).symm⟩
theorem yyX6_gust : yX6_gust.cls = RX6 ∧ yX6_gust.cls ≠ "java/lang/invoke/MethodHandle" ∧ yX6_gust.cls ≠ "java/lang/invoke/VarHandle" ∧ (parseMethodDescriptor yX6_gust.desc).map (fun d => d.parameters.length) = some 2 := by decide +kernel
set_option maxHeartbeats 4000000 in
set_option maxRecDepth 100000 in
theorem c_X6_gust {E : dp_E} (hE : dp_OK E) (l : Launch) {M : dp_M} {V Y X : dp_V} {d g : Int} (hv : ivC V) (hH : hOK X) (hd : dp_R d) (hg : dp_R g) : dp_met E l yX6_gust wsX6_gust 3 64 [.ref (eAd E 7 0), .int (dp_I d), .int (dp_I g)] (dS (dR M 7 X) 0 V Y) (dp_qi E (fun y M1 => y = (if (0 ≤ d ∧ d ≤ 29) ∧ 0 ≤ g ∧ g ≤ 99 then (if d * 1440 < V 0 0 then -100002 else V 2 d.toNat) else -100001) ∧ M1 = (if ((0 ≤ d ∧ d ≤ 29) ∧ 0 ≤ g ∧ g ≤ 99) ∧ ¬ d * 1440 < V 0 0 then rM M V Y X (u2 V 2 d.toNat g) else dS (dR M 7 X) 0 V Y))) := by
  refine dp_of (cc := cX6_gust) (nL := 3) (own := RX6) (ret := some (.int)) (by decide +kernel) rfl rfl hE (by simp [Value.category]) (Nat.le_of_ble_eq_true rfl) ?_
  intro p e s m below meth co C hret
  show dp_G _ _ _ _ _ _ _ _ _ _ _ _ _ _ _ _ _ [some (.ref (eAd E 7 0)), some (.int (dp_I d)), some (.int (dp_I g))] _
  have hX2 : ∀ w ∈ u_ws RX2 TX2 11, w ∈ wsX6_gust := fun w h => List.mem_cons_of_mem _ (List.mem_append_left _ (List.mem_append_left _ (List.mem_append_left _ (List.mem_append_right _ (h)))))
  have hX6 : ∀ w ∈ u_ws RX6 TX6 4, w ∈ wsX6_gust := fun w h => List.mem_cons_of_mem _ (List.mem_append_left _ (List.mem_append_left _ (List.mem_append_left _ (List.mem_append_left _ (List.mem_append_right _ (h))))))
  have h07 : 0 < 7 := by decide
  have hJ := rcJ_ok hH
  unfold dp_R at hd hg
  have h0 := hv.1.1
  refine dp_iload_n C dX6_gust_0 rfl ?_
  refine dp_iconst C dX6_gust_1 ?_
  refine dp_bipush C dX6_gust_2 (by decide) ?_
  refine dp_cSi C (c_X6_isBetween C.2.2.1 l ⟨by omega, by omega⟩ ⟨by omega, by omega⟩ ⟨by omega, by omega⟩) gX6_gust_X6_isBetween rfl yyX6_isBetween rfl ⟨Nat.le_of_ble_eq_true rfl, Nat.le_of_ble_eq_true rfl⟩ rfl (Nat.le_of_ble_eq_true rfl) rfl ⟨Nat.zero_le _, Nat.zero_le _⟩ dX6_gust_4 (fun x4 M4 h4 => ?_)
  obtain ⟨rfl, rfl⟩ := h4
  refine dp_ifz_eq (tgt := 20) C dX6_gust_7 (by decide) (fun c7 => ?_) (fun c7 => ?_)
  · skip
    refine dp_ldc C (-100001) (List.mem_of_getElem? (i := 1) rfl) rfl dX6_gust_20 ?_
    refine dp_iret C hret dX6_gust_22 ?_
    first | (refine ⟨?_, ?_⟩; rw [if_pos (by omega), if_neg (by omega)]; rfl; rw [if_pos (by omega)]; rfl) | exact ⟨by rw [if_neg (by omega)], by rw [if_neg (by omega)]⟩ | exact ⟨by rw [if_pos (by omega), if_pos (by omega)], by rw [if_neg (by omega)]⟩
  · skip
    refine dp_iload_n C dX6_gust_10 rfl ?_
    refine dp_iconst C dX6_gust_11 ?_
    refine dp_bipush C dX6_gust_12 (by decide) ?_
    refine dp_cSi C (c_X6_isBetween C.2.2.1 l ⟨by omega, by omega⟩ ⟨by omega, by omega⟩ ⟨by omega, by omega⟩) gX6_gust_X6_isBetween rfl yyX6_isBetween rfl ⟨Nat.le_of_ble_eq_true rfl, Nat.le_of_ble_eq_true rfl⟩ rfl (Nat.le_of_ble_eq_true rfl) rfl ⟨Nat.zero_le _, Nat.zero_le _⟩ dX6_gust_14 (fun x14 M14 h14 => ?_)
    obtain ⟨rfl, rfl⟩ := h14
    refine dp_ifz_ne (tgt := 23) C dX6_gust_17 (by decide) (fun c17 => ?_) (fun c17 => ?_)
    · skip
      refine dp_iload_n C dX6_gust_23 rfl ?_
      refine dp_sipush C dX6_gust_24 (by decide) ?_
      refine dp_imul C dX6_gust_27 ?_
      refine dp_aload_n C dX6_gust_28 rfl ?_
      refine dp_getf C (k := 0) (dp_mC (by decide)) dp_xdp rfl hX6 (by decide) (List.mem_of_getElem? (i := 2) rfl) rfl dX6_gust_29 ?_
      refine dp_getf C (k := 0) (dp_mS ‹_› (by decide)) (dp_xst ‹_›) rfl hX2 (by decide) (List.mem_of_getElem? (i := 3) rfl) rfl dX6_gust_32 ?_
      refine dp_icmp_ge (tgt := 41) C dX6_gust_35 (by decide) ⟨by omega, by omega⟩ ⟨by omega, by omega⟩ (fun c35 => ?_) (fun c35 => ?_)
      · skip
        obtain ⟨k9, rfl⟩ : ∃ k9 : Nat, d = k9 := ⟨d.toNat, by omega⟩
        refine dp_aload_n C dX6_gust_41 rfl ?_
        refine dp_getf C (k := 2) (dp_mC (by decide)) dp_xdp rfl hX6 (by decide) (List.mem_of_getElem? (i := 5) rfl) rfl dX6_gust_42 ?_
        refine dp_aload_n C dX6_gust_45 rfl ?_
        refine dp_getf C (k := 0) (dp_mC (by decide)) dp_xdp rfl hX6 (by decide) (List.mem_of_getElem? (i := 2) rfl) rfl dX6_gust_46 ?_
        refine dp_c7 ?_
        refine dp_cVv C (c_X1_record C.2.2.1 l hH (by rw [dS_V]; exact hv.2.2)) gX6_gust_X1_record rfl (dp_mC (by decide)) dp_xhi rfl yyX1_record rfl ⟨Nat.le_of_ble_eq_true rfl, Nat.le_of_ble_eq_true rfl⟩ rfl (Nat.le_of_ble_eq_true rfl) rfl ⟨Nat.zero_le _, Nat.zero_le _⟩ dX6_gust_49 (fun M49 h49 => ?_)
        obtain rfl := h49
        rw [rc_c hJ]
        refine dp_c0 ?_
        refine dp_aload_n C dX6_gust_52 rfl ?_
        refine dp_getf C (k := 0) (dp_mC (by decide)) dp_xdp rfl hX6 (by decide) (List.mem_of_getElem? (i := 2) rfl) rfl dX6_gust_53 ?_
        refine dp_iload_n C dX6_gust_56 rfl ?_
        refine dp_iload_n C dX6_gust_57 rfl ?_
        refine dp_cVi C (c_X2_changeGust C.2.2.1 l h07 (show k9 < 31 by omega)) gX6_gust_X2_changeGust rfl (dp_mS ‹_› (by decide)) (dp_xst ‹_›) rfl yyX2_changeGust rfl ⟨Nat.le_of_ble_eq_true rfl, Nat.le_of_ble_eq_true rfl⟩ rfl (Nat.le_of_ble_eq_true rfl) rfl ⟨Nat.zero_le _, Nat.zero_le _⟩ dX6_gust_58 (fun x58 M58 h58 => ?_)
        obtain ⟨rfl, rfl⟩ := h58
        refine dp_iret C hret dX6_gust_61 ?_
        first | (refine ⟨?_, ?_⟩; rw [if_pos (by omega), if_neg (by omega)]; rfl; rw [if_pos (by omega)]; rfl) | exact ⟨by rw [if_neg (by omega)], by rw [if_neg (by omega)]⟩ | exact ⟨by rw [if_pos (by omega), if_pos (by omega)], by rw [if_neg (by omega)]⟩
      · skip
        refine dp_ldc C (-100002) (List.mem_of_getElem? (i := 4) rfl) rfl dX6_gust_38 ?_
        refine dp_iret C hret dX6_gust_40 ?_
        first | (refine ⟨?_, ?_⟩; rw [if_pos (by omega), if_neg (by omega)]; rfl; rw [if_pos (by omega)]; rfl) | exact ⟨by rw [if_neg (by omega)], by rw [if_neg (by omega)]⟩ | exact ⟨by rw [if_pos (by omega), if_pos (by omega)], by rw [if_neg (by omega)]⟩
    · skip
      refine dp_ldc C (-100001) (List.mem_of_getElem? (i := 1) rfl) rfl dX6_gust_20 ?_
      refine dp_iret C hret dX6_gust_22 ?_
      first | (refine ⟨?_, ?_⟩; rw [if_pos (by omega), if_neg (by omega)]; rfl; rw [if_pos (by omega)]; rfl) | exact ⟨by rw [if_neg (by omega)], by rw [if_neg (by omega)]⟩ | exact ⟨by rw [if_pos (by omega), if_pos (by omega)], by rw [if_neg (by omega)]⟩
