theorem lpG_iv {first : Int} : ∀ {n : Nat} {mi wk : Int} {V : dp_V}, ivC V → 0 ≤ mi → mi + n ≤ 43201 → ivC (lpG first n mi V wk) := by
  intro n
  induction n with
  | zero => intro mi wk V h _ _; exact h
  | succ n ih =>
    intro mi wk V h h0 h1
    unfold lpG
    split
    · exact ih h (by omega) (by omega)
    · exact ih (mnV_iv h (by omega)).1 (by omega) (by omega)
theorem lpV_iv {V : dp_V} {k : Nat} (h : ivC V) (hk : V 0 0 + k ≤ 43200) : ivC (lpV V k) := by
  have h0 := h.1.1
  exact ivC_00 (lpG_iv h (by omega) (by omega)) (by omega)
theorem if_c {M : dp_M} {V Y X V1 Y1 : dp_V} : dS (dS (dR M 7 X) 0 V Y) 1 V1 Y1 = dS (dR (dS M 1 V1 Y1) 7 X) 0 V Y := by
  funext r
  unfold dS dR
  by_cases a : r = 1
  · subst a
    simp
  · by_cases b : r = 1 + 20
    · subst b
      simp
    · rw [if_neg b, if_neg a, if_neg b, if_neg a]
theorem ckG_33 {T : dp_V} {room : Int} : ∀ {n : Nat} {X : dp_V} {s : Int}, 0 ≤ X 3 3 ∧ X 3 3 ≤ 3 → 0 ≤ ckG T room n X s 3 3 ∧ ckG T room n X s 3 3 ≤ 3 := by
  intro n
  induction n with
  | zero => intro X s h; exact h
  | succ n ih =>
    intro X s h
    unfold ckG
    have hb := @reF_bd (rdX T X s) (rdR T s) room
    split
    · split
      · refine ih ?_
        rw [u2_same, u1_ne (by decide), u2_same, u1_same]
        exact hb
      · rw [u2_same, u1_ne (by decide), u2_same, u1_same]
        exact hb
    · exact h
theorem ckX_33 {X : dp_V} {room : Int} : 0 ≤ ckX X room 3 3 ∧ ckX X room 3 3 ≤ 3 := ckG_33 (by rw [u2_same, u1_same]; omega)
theorem yyX6_run : yX6_run.cls = RX6 ∧ yX6_run.cls ≠ "java/lang/invoke/MethodHandle" ∧ yX6_run.cls ≠ "java/lang/invoke/VarHandle" ∧ (parseMethodDescriptor yX6_run.desc).map (fun d => d.parameters.length) = some 1 := by decide +kernel
set_option maxHeartbeats 4000000 in
set_option maxRecDepth 100000 in
theorem c_X6_run {E : dp_E} (hE : dp_OK E) (l : Launch) {M : dp_M} {V Y X : dp_V} {k : Int} (hv : ivC V) (hH : hOK X) (hk : dp_R k) : dp_met E l yX6_run wsX6_run 7 154 [.ref (eAd E 7 0), .int (dp_I k)] (dS (dR M 7 X) 0 V Y) (dp_qi E (fun y M1 => y = (if 0 ≤ k ∧ k ≤ 2000 then (if 43200 < V 0 0 + k then -100003 else cnF (lpV V k.toNat) 2 - cnF V 2) else -100001) ∧ ∃ Y', M1 = (if (0 ≤ k ∧ k ≤ 2000) ∧ ¬ 43200 < V 0 0 + k then rM M V Y' X (lpV V k.toNat) else dS (dR M 7 X) 0 V Y'))) := by
  refine dp_of (cc := cX6_run) (nL := 3) (own := RX6) (ret := some (.int)) (by decide +kernel) rfl rfl hE (by simp [Value.category]) (Nat.le_of_ble_eq_true rfl) ?_
  intro p e s m below meth co C hret
  show dp_G _ _ _ _ _ _ _ _ _ _ _ _ _ _ _ _ _ [some (.ref (eAd E 7 0)), some (.int (dp_I k)), none] _
  have hX2 : ∀ w ∈ u_ws RX2 TX2 11, w ∈ wsX6_run := fun w h => List.mem_cons_of_mem _ (List.mem_append_left _ (List.mem_append_left _ (List.mem_append_left _ (List.mem_append_left _ (List.mem_append_right _ (h))))))
  have hX6 : ∀ w ∈ u_ws RX6 TX6 4, w ∈ wsX6_run := fun w h => List.mem_cons_of_mem _ (List.mem_append_left _ (List.mem_append_left _ (List.mem_append_left _ (List.mem_append_left _ (List.mem_append_left _ (List.mem_append_right _ (h)))))))
  have h07 : 0 < 7 := by decide
  have hJ := rcJ_ok hH
  unfold dp_R at hk
  have h0 := hv.1.1
  refine dp_iload_n C dX6_run_0 rfl ?_
  refine dp_iconst C dX6_run_1 ?_
  refine dp_sipush C dX6_run_2 (by decide) ?_
  refine dp_cSi C (c_X6_isBetween C.2.2.1 l ⟨by omega, by omega⟩ ⟨by omega, by omega⟩ ⟨by omega, by omega⟩) gX6_run_X6_isBetween rfl yyX6_isBetween rfl ⟨Nat.le_of_ble_eq_true rfl, Nat.le_of_ble_eq_true rfl⟩ rfl (Nat.le_of_ble_eq_true rfl) rfl ⟨Nat.zero_le _, Nat.zero_le _⟩ dX6_run_5 (fun x5 M5 h5 => ?_)
  obtain ⟨rfl, rfl⟩ := h5
  refine dp_ifz_ne (tgt := 14) C dX6_run_8 (by decide) (fun c8 => ?_) (fun c8 => ?_)
  · skip
    refine dp_aload_n C dX6_run_14 rfl ?_
    refine dp_getf C (k := 0) (dp_mC (by decide)) dp_xdp rfl hX6 (by decide) (List.mem_of_getElem? (i := 2) rfl) rfl dX6_run_15 ?_
    refine dp_getf C (k := 0) (dp_mS ‹_› (by decide)) (dp_xst ‹_›) rfl hX2 (by decide) (List.mem_of_getElem? (i := 3) rfl) rfl dX6_run_18 ?_
    refine dp_iload_n C dX6_run_21 rfl ?_
    refine dp_iadd C dX6_run_22 ?_
    refine dp_ldc C (43200) (List.mem_of_getElem? (i := 4) rfl) rfl dX6_run_23 ?_
    refine dp_icmp_le (tgt := 31) C dX6_run_25 (by decide) ⟨by omega, by omega⟩ ⟨by omega, by omega⟩ (fun c25 => ?_) (fun c25 => ?_)
    · skip
      obtain ⟨k9, rfl⟩ : ∃ k9 : Nat, k = k9 := ⟨k.toNat, by omega⟩
      have hl := lpV_iv (k := k9) hv (by omega)
      refine dp_aload_n C dX6_run_31 rfl ?_
      refine dp_getf C (k := 2) (dp_mC (by decide)) dp_xdp rfl hX6 (by decide) (List.mem_of_getElem? (i := 6) rfl) rfl dX6_run_32 ?_
      refine dp_aload_n C dX6_run_35 rfl ?_
      refine dp_getf C (k := 0) (dp_mC (by decide)) dp_xdp rfl hX6 (by decide) (List.mem_of_getElem? (i := 2) rfl) rfl dX6_run_36 ?_
      refine dp_c7 ?_
      refine dp_cVv C (c_X1_record C.2.2.1 l hH (by rw [dS_V]; exact hv.2.2)) gX6_run_X1_record rfl (dp_mC (by decide)) dp_xhi rfl yyX1_record rfl ⟨Nat.le_of_ble_eq_true rfl, Nat.le_of_ble_eq_true rfl⟩ rfl (Nat.le_of_ble_eq_true rfl) rfl ⟨Nat.zero_le _, Nat.zero_le _⟩ dX6_run_39 (fun M39 h39 => ?_)
      obtain rfl := h39
      rw [rc_c hJ]
      refine dp_c0 ?_
      refine dp_aload_n C dX6_run_42 rfl ?_
      refine dp_getf C (k := 0) (dp_mC (by decide)) dp_xdp rfl hX6 (by decide) (List.mem_of_getElem? (i := 2) rfl) rfl dX6_run_43 ?_
      refine dp_iconst C dX6_run_46 ?_
      refine dp_cVi C (c_X2_targetsIn C.2.2.1 l h07 ⟨by omega, by omega⟩ hv) gX6_run_X2_targetsIn rfl (dp_mS ‹_› (by decide)) (dp_xst ‹_›) rfl yyX2_targetsIn rfl ⟨Nat.le_of_ble_eq_true rfl, Nat.le_of_ble_eq_true rfl⟩ rfl (Nat.le_of_ble_eq_true rfl) rfl ⟨Nat.zero_le _, Nat.zero_le _⟩ dX6_run_47 (fun x47 M47 h47 => ?_)
      obtain ⟨rfl, rfl⟩ := h47
      refine dp_istore_n C dX6_run_50 (Nat.le_of_ble_eq_true rfl) ?_
      dsimp only [List.set]
      refine dp_aload_n C dX6_run_51 rfl ?_
      refine dp_getf C (k := 0) (dp_mC (by decide)) dp_xdp rfl hX6 (by decide) (List.mem_of_getElem? (i := 2) rfl) rfl dX6_run_52 ?_
      refine dp_iload_n C dX6_run_55 rfl ?_
      refine dp_cVv C (c_X2_letPass C.2.2.1 l h07 hv (show k9 ≤ 2000 by omega) (by omega)) gX6_run_X2_letPass rfl (dp_mS ‹_› (by decide)) (dp_xst ‹_›) rfl yyX2_letPass rfl ⟨Nat.le_of_ble_eq_true rfl, Nat.le_of_ble_eq_true rfl⟩ rfl (Nat.le_of_ble_eq_true rfl) rfl ⟨Nat.zero_le _, Nat.zero_le _⟩ dX6_run_56 (fun M56 h56 => ?_)
      obtain ⟨Y1, rfl⟩ := h56
      refine dp_aload_n C dX6_run_59 rfl ?_
      refine dp_getf C (k := 0) (dp_mC (by decide)) dp_xdp rfl hX6 (by decide) (List.mem_of_getElem? (i := 2) rfl) rfl dX6_run_60 ?_
      refine dp_iconst C dX6_run_63 ?_
      refine dp_cVi C (c_X2_targetsIn C.2.2.1 l h07 ⟨by omega, by omega⟩ hl) gX6_run_X2_targetsIn rfl (dp_mS ‹_› (by decide)) (dp_xst ‹_›) rfl yyX2_targetsIn rfl ⟨Nat.le_of_ble_eq_true rfl, Nat.le_of_ble_eq_true rfl⟩ rfl (Nat.le_of_ble_eq_true rfl) rfl ⟨Nat.zero_le _, Nat.zero_le _⟩ dX6_run_64 (fun x64 M64 h64 => ?_)
      obtain ⟨rfl, rfl⟩ := h64
      refine dp_iload_n C dX6_run_67 rfl ?_
      refine dp_isub C dX6_run_68 ?_
      refine dp_iret C hret dX6_run_69 ?_
      first | exact ⟨by rw [if_pos (by omega), if_neg (by omega)]; rfl, _, by rw [if_pos (by omega)]; rfl⟩ | exact ⟨by rw [if_neg (by omega)], _, by rw [if_neg (by omega)]⟩ | exact ⟨by rw [if_pos (by omega), if_pos (by omega)], _, by rw [if_neg (by omega)]⟩
    · skip
      refine dp_ldc C (-100003) (List.mem_of_getElem? (i := 5) rfl) rfl dX6_run_28 ?_
      refine dp_iret C hret dX6_run_30 ?_
      first | exact ⟨by rw [if_pos (by omega), if_neg (by omega)]; rfl, _, by rw [if_pos (by omega)]; rfl⟩ | exact ⟨by rw [if_neg (by omega)], _, by rw [if_neg (by omega)]⟩ | exact ⟨by rw [if_pos (by omega), if_pos (by omega)], _, by rw [if_neg (by omega)]⟩
  · skip
    refine dp_ldc C (-100001) (List.mem_of_getElem? (i := 1) rfl) rfl dX6_run_11 ?_
    refine dp_iret C hret dX6_run_13 ?_
    first | exact ⟨by rw [if_pos (by omega), if_neg (by omega)]; rfl, _, by rw [if_pos (by omega)]; rfl⟩ | exact ⟨by rw [if_neg (by omega)], _, by rw [if_neg (by omega)]⟩ | exact ⟨by rw [if_pos (by omega), if_pos (by omega)], _, by rw [if_neg (by omega)]⟩
theorem yyX6_ifRun : yX6_ifRun.cls = RX6 ∧ yX6_ifRun.cls ≠ "java/lang/invoke/MethodHandle" ∧ yX6_ifRun.cls ≠ "java/lang/invoke/VarHandle" ∧ (parseMethodDescriptor yX6_ifRun.desc).map (fun d => d.parameters.length) = some 1 := by decide +kernel
set_option maxHeartbeats 4000000 in
set_option maxRecDepth 100000 in
theorem c_X6_ifRun {E : dp_E} (hE : dp_OK E) (l : Launch) {M : dp_M} {V Y X : dp_V} {k : Int} (hv : ivC V) (hk : dp_R k) : dp_met E l yX6_ifRun wsX6_ifRun 7 154 [.ref (eAd E 7 0), .int (dp_I k)] (dS (dR M 7 X) 0 V Y) (dp_qi E (fun y M1 => y = (if 0 ≤ k ∧ k ≤ 2000 then (if 43200 < V 0 0 + k then -100003 else cnF (lpV V k.toNat) 2) else -100001) ∧ ∃ Y', M1 = (if (0 ≤ k ∧ k ≤ 2000) ∧ ¬ 43200 < V 0 0 + k then dS (dR (dS M 1 (lpV V k.toNat) Y') 7 X) 0 V Y else dS (dR M 7 X) 0 V Y))) := by
  refine dp_of (cc := cX6_ifRun) (nL := 2) (own := RX6) (ret := some (.int)) (by decide +kernel) rfl rfl hE (by simp [Value.category]) (Nat.le_of_ble_eq_true rfl) ?_
  intro p e s m below meth co C hret
  show dp_G _ _ _ _ _ _ _ _ _ _ _ _ _ _ _ _ _ [some (.ref (eAd E 7 0)), some (.int (dp_I k))] _
  have hX2 : ∀ w ∈ u_ws RX2 TX2 11, w ∈ wsX6_ifRun := fun w h => List.mem_cons_of_mem _ (List.mem_append_left _ (List.mem_append_left _ (List.mem_append_left _ (List.mem_append_right _ (h)))))
  have hX6 : ∀ w ∈ u_ws RX6 TX6 4, w ∈ wsX6_ifRun := fun w h => List.mem_cons_of_mem _ (List.mem_append_left _ (List.mem_append_left _ (List.mem_append_left _ (List.mem_append_left _ (List.mem_append_right _ (h))))))
  have h07 : 0 < 7 := by decide
  have h17 : 1 < 7 := by decide
  unfold dp_R at hk
  have h0 := hv.1.1
  refine dp_iload_n C dX6_ifRun_0 rfl ?_
  refine dp_iconst C dX6_ifRun_1 ?_
  refine dp_sipush C dX6_ifRun_2 (by decide) ?_
  refine dp_cSi C (c_X6_isBetween C.2.2.1 l ⟨by omega, by omega⟩ ⟨by omega, by omega⟩ ⟨by omega, by omega⟩) gX6_ifRun_X6_isBetween rfl yyX6_isBetween rfl ⟨Nat.le_of_ble_eq_true rfl, Nat.le_of_ble_eq_true rfl⟩ rfl (Nat.le_of_ble_eq_true rfl) rfl ⟨Nat.zero_le _, Nat.zero_le _⟩ dX6_ifRun_5 (fun x5 M5 h5 => ?_)
  obtain ⟨rfl, rfl⟩ := h5
  refine dp_ifz_ne (tgt := 14) C dX6_ifRun_8 (by decide) (fun c8 => ?_) (fun c8 => ?_)
  · skip
    refine dp_aload_n C dX6_ifRun_14 rfl ?_
    refine dp_getf C (k := 0) (dp_mC (by decide)) dp_xdp rfl hX6 (by decide) (List.mem_of_getElem? (i := 2) rfl) rfl dX6_ifRun_15 ?_
    refine dp_getf C (k := 0) (dp_mS ‹_› (by decide)) (dp_xst ‹_›) rfl hX2 (by decide) (List.mem_of_getElem? (i := 3) rfl) rfl dX6_ifRun_18 ?_
    refine dp_iload_n C dX6_ifRun_21 rfl ?_
    refine dp_iadd C dX6_ifRun_22 ?_
    refine dp_ldc C (43200) (List.mem_of_getElem? (i := 4) rfl) rfl dX6_ifRun_23 ?_
    refine dp_icmp_le (tgt := 31) C dX6_ifRun_25 (by decide) ⟨by omega, by omega⟩ ⟨by omega, by omega⟩ (fun c25 => ?_) (fun c25 => ?_)
    · skip
      obtain ⟨k9, rfl⟩ : ∃ k9 : Nat, k = k9 := ⟨k.toNat, by omega⟩
      have hl := lpV_iv (k := k9) hv (by omega)
      refine dp_aload_n C dX6_ifRun_31 rfl ?_
      refine dp_getf C (k := 1) (dp_mC (by decide)) dp_xdp rfl hX6 (by decide) (List.mem_of_getElem? (i := 6) rfl) rfl dX6_ifRun_32 ?_
      refine dp_aload_n C dX6_ifRun_35 rfl ?_
      refine dp_getf C (k := 0) (dp_mC (by decide)) dp_xdp rfl hX6 (by decide) (List.mem_of_getElem? (i := 2) rfl) rfl dX6_ifRun_36 ?_
      refine dp_asS 1 ?_
      refine dp_cVv C (c_X2_copyFrom C.2.2.1 l h17 h07 (by decide) (by rw [dS_V]; exact hv.2.2)) gX6_ifRun_X2_copyFrom rfl (dp_mS h17 (by decide)) (dp_xst h17) rfl yyX2_copyFrom rfl ⟨Nat.le_of_ble_eq_true rfl, Nat.le_of_ble_eq_true rfl⟩ rfl (Nat.le_of_ble_eq_true rfl) rfl ⟨Nat.zero_le _, Nat.zero_le _⟩ dX6_ifRun_39 (fun M39 h39 => ?_)
      obtain rfl := h39
      rw [dS_V]
      refine dp_aload_n C dX6_ifRun_42 rfl ?_
      refine dp_getf C (k := 1) (dp_mC (by decide)) dp_xdp rfl hX6 (by decide) (List.mem_of_getElem? (i := 6) rfl) rfl dX6_ifRun_43 ?_
      refine dp_iload_n C dX6_ifRun_46 rfl ?_
      refine dp_cVv C (c_X2_letPass C.2.2.1 l h17 hv (show k9 ≤ 2000 by omega) (by omega)) gX6_ifRun_X2_letPass rfl (dp_mS h17 (by decide)) (dp_xst h17) rfl yyX2_letPass rfl ⟨Nat.le_of_ble_eq_true rfl, Nat.le_of_ble_eq_true rfl⟩ rfl (Nat.le_of_ble_eq_true rfl) rfl ⟨Nat.zero_le _, Nat.zero_le _⟩ dX6_ifRun_47 (fun M47 h47 => ?_)
      obtain ⟨Y1, rfl⟩ := h47
      refine dp_aload_n C dX6_ifRun_50 rfl ?_
      refine dp_getf C (k := 1) (dp_mC (by decide)) dp_xdp rfl hX6 (by decide) (List.mem_of_getElem? (i := 6) rfl) rfl dX6_ifRun_51 ?_
      refine dp_iconst C dX6_ifRun_54 ?_
      refine dp_cVi C (c_X2_targetsIn C.2.2.1 l h17 ⟨by omega, by omega⟩ hl) gX6_ifRun_X2_targetsIn rfl (dp_mS h17 (by decide)) (dp_xst h17) rfl yyX2_targetsIn rfl ⟨Nat.le_of_ble_eq_true rfl, Nat.le_of_ble_eq_true rfl⟩ rfl (Nat.le_of_ble_eq_true rfl) rfl ⟨Nat.zero_le _, Nat.zero_le _⟩ dX6_ifRun_55 (fun x55 M55 h55 => ?_)
      obtain ⟨rfl, rfl⟩ := h55
      refine dp_iret C hret dX6_ifRun_58 ?_
      first | exact ⟨by rw [if_pos (by omega), if_neg (by omega)]; rfl, _, by rw [if_pos (by omega)]; exact if_c⟩ | exact ⟨by rw [if_neg (by omega)], Y, by rw [if_neg (by omega)]⟩ | exact ⟨by rw [if_pos (by omega), if_pos (by omega)], Y, by rw [if_neg (by omega)]⟩
    · skip
      refine dp_ldc C (-100003) (List.mem_of_getElem? (i := 5) rfl) rfl dX6_ifRun_28 ?_
      refine dp_iret C hret dX6_ifRun_30 ?_
      first | exact ⟨by rw [if_pos (by omega), if_neg (by omega)]; rfl, _, by rw [if_pos (by omega)]; exact if_c⟩ | exact ⟨by rw [if_neg (by omega)], Y, by rw [if_neg (by omega)]⟩ | exact ⟨by rw [if_pos (by omega), if_pos (by omega)], Y, by rw [if_neg (by omega)]⟩
  · skip
    refine dp_ldc C (-100001) (List.mem_of_getElem? (i := 1) rfl) rfl dX6_ifRun_11 ?_
    refine dp_iret C hret dX6_ifRun_13 ?_
    first | exact ⟨by rw [if_pos (by omega), if_neg (by omega)]; rfl, _, by rw [if_pos (by omega)]; exact if_c⟩ | exact ⟨by rw [if_neg (by omega)], Y, by rw [if_neg (by omega)]⟩ | exact ⟨by rw [if_pos (by omega), if_pos (by omega)], Y, by rw [if_neg (by omega)]⟩
/-- the region of the latest recorded state -/
def reJ (X : dp_V) : Nat := (X 2 (X 1 0 - 1).toNat).toNat
theorem yyX6_undo : yX6_undo.cls = RX6 ∧ yX6_undo.cls ≠ "java/lang/invoke/MethodHandle" ∧ yX6_undo.cls ≠ "java/lang/invoke/VarHandle" ∧ (parseMethodDescriptor yX6_undo.desc).map (fun d => d.parameters.length) = some 0 := by decide +kernel
set_option maxHeartbeats 4000000 in
set_option maxRecDepth 100000 in
theorem c_X6_undo {E : dp_E} (hE : dp_OK E) (l : Launch) {M : dp_M} {V Y X : dp_V} (hv : ivC V) (hH : hOK X) (hM : ∀ r, 1 ≤ r → r < 7 → ivC (M r)) : dp_met E l yX6_undo wsX6_undo 3 64 [.ref (eAd E 7 0)] (dS (dR M 7 X) 0 V Y) (dp_qi E (fun y M1 => y = (if X 1 0 = 0 then -100002 else X 1 0 - 1) ∧ M1 = (if X 1 0 = 0 then dS (dR M 7 X) 0 V Y else dS (dR M 7 (u2 X 1 0 (X 1 0 - 1))) 0 (M (reJ X)) Y))) := by
  refine dp_of (cc := cX6_undo) (nL := 1) (own := RX6) (ret := some (.int)) (by decide +kernel) rfl rfl hE (by simp [Value.category]) (Nat.le_of_ble_eq_true rfl) ?_
  intro p e s m below meth co C hret
  show dp_G _ _ _ _ _ _ _ _ _ _ _ _ _ _ _ _ _ [some (.ref (eAd E 7 0))] _
  have hX1 : ∀ w ∈ u_ws RX1 TX1 2, w ∈ wsX6_undo := fun w h => List.mem_cons_of_mem _ (List.mem_append_left _ (List.mem_append_left _ (List.mem_append_left _ (List.mem_append_right _ (h)))))
  have hX6 : ∀ w ∈ u_ws RX6 TX6 4, w ∈ wsX6_undo := fun w h => List.mem_cons_of_mem _ (List.mem_append_left _ (List.mem_append_left _ (List.mem_append_left _ (List.mem_append_left _ (List.mem_append_right _ (h))))))
  have h07 : 0 < 7 := by decide
  have hs0 := hH.1
  have hs1 := hH.2.1
  have hz : ∀ r, r < 7 → ∀ t, t < 10 → dS M 0 V Y r (t + 6) 13 = 0 ∨ dS M 0 V Y r (t + 6) 13 = 1 := fun r hr t ht => by
    by_cases e : r = 0
    · subst e
      rw [dS_V]
      exact hv.2.2 t ht
    · rw [dS_ne e (by omega)]
      exact (hM r (by omega) hr).2.2 t ht
  refine dp_aload_n C dX6_undo_0 rfl ?_
  refine dp_getf C (k := 2) (dp_mC (by decide)) dp_xdp rfl hX6 (by decide) (List.mem_of_getElem? (i := 1) rfl) rfl dX6_undo_1 ?_
  refine dp_c7 ?_
  refine dp_getf C (k := 1) (dp_mC (by decide)) dp_xhi rfl hX1 (by decide) (List.mem_of_getElem? (i := 2) rfl) rfl dX6_undo_4 ?_
  refine dp_c0 ?_
  refine dp_if_ne (tgt := 13) C dX6_undo_7 (by decide) ⟨by omega, by omega⟩ (fun c7 => ?_) (fun c7 => ?_)
  · skip
    have hj := hH.2.2 (X 1 0 - 1).toNat (by omega)
    have hj2 : 2 ≤ reJ X ∧ reJ X ≤ 6 := by unfold reJ; omega
    refine dp_aload_n C dX6_undo_13 rfl ?_
    refine dp_getf C (k := 2) (dp_mC (by decide)) dp_xdp rfl hX6 (by decide) (List.mem_of_getElem? (i := 1) rfl) rfl dX6_undo_14 ?_
    refine dp_aload_n C dX6_undo_17 rfl ?_
    refine dp_getf C (k := 0) (dp_mC (by decide)) dp_xdp rfl hX6 (by decide) (List.mem_of_getElem? (i := 4) rfl) rfl dX6_undo_18 ?_
    refine dp_c7 ?_
    refine dp_cVv C (c_X1_restoreLatest C.2.2.1 l hH (by omega) hz) gX6_undo_X1_restoreLatest rfl (dp_mC (by decide)) dp_xhi rfl yyX1_restoreLatest rfl ⟨Nat.le_of_ble_eq_true rfl, Nat.le_of_ble_eq_true rfl⟩ rfl (Nat.le_of_ble_eq_true rfl) rfl ⟨Nat.zero_le _, Nat.zero_le _⟩ dX6_undo_21 (fun M21 h21 => ?_)
    obtain rfl := h21
    rw [re_c hj2 rfl]
    refine dp_c0 ?_
    refine dp_aload_n C dX6_undo_24 rfl ?_
    refine dp_getf C (k := 2) (dp_mC (by decide)) dp_xdp rfl hX6 (by decide) (List.mem_of_getElem? (i := 1) rfl) rfl dX6_undo_25 ?_
    refine dp_c7 ?_
    refine dp_getf C (k := 1) (dp_mC (by decide)) dp_xhi rfl hX1 (by decide) (List.mem_of_getElem? (i := 2) rfl) rfl dX6_undo_28 ?_
    rw [u2_same, u1_same]
    refine dp_c0 ?_
    refine dp_iret C hret dX6_undo_31 ?_
    first | exact ⟨by rw [if_pos (by assumption)], by rw [if_pos (by assumption)]⟩ | exact ⟨by rw [if_neg (by assumption)], by rw [if_neg (by assumption)]⟩
  · skip
    refine dp_ldc C (-100002) (List.mem_of_getElem? (i := 3) rfl) rfl dX6_undo_10 ?_
    refine dp_iret C hret dX6_undo_12 ?_
    first | exact ⟨by rw [if_pos (by assumption)], by rw [if_pos (by assumption)]⟩ | exact ⟨by rw [if_neg (by assumption)], by rw [if_neg (by assumption)]⟩
/-- a sign appended -/
def apX (X : dp_V) (c : Int) : dp_V := u2 (u2 X 4 (X 3 0).toNat c) 3 0 (X 3 0 + 1)
theorem yyX4_append : yX4_append.cls = RX4 ∧ yX4_append.cls ≠ "java/lang/invoke/MethodHandle" ∧ yX4_append.cls ≠ "java/lang/invoke/VarHandle" ∧ (parseMethodDescriptor yX4_append.desc).map (fun d => d.parameters.length) = some 1 := by decide +kernel
set_option maxHeartbeats 4000000 in
set_option maxRecDepth 100000 in
theorem c_X4_append {E : dp_E} (hE : dp_OK E) (l : Launch) {M : dp_M} {X : dp_V} (h : tOK X) {ch : Int} (hc : 0 ≤ ch ∧ ch ≤ 126) : dp_met E l yX4_append wsX4_append 0 0 [.ref (eAd E 7 3), .int (dp_I ch)] (dR M 7 X) (dp_qv E (fun M1 => M1 = dR M 7 (if X 3 0 < 100 then apX X ch else X))) := by
  refine dp_of (cc := cX4_append) (nL := 2) (own := RX4) (ret := none) (by decide +kernel) rfl rfl hE (by simp [Value.category]) (Nat.le_of_ble_eq_true rfl) ?_
  intro p e s m below meth co C hret
  show dp_G _ _ _ _ _ _ _ _ _ _ _ _ _ _ _ _ _ [some (.ref (eAd E 7 3)), some (.int (dp_I ch))] _
  have hX4 : ∀ w ∈ u_ws RX4 TX4 6, w ∈ wsX4_append := fun w h => List.mem_cons_of_mem _ (List.mem_append_right _ (h))
  have h0 := h.1
  have h1 := h.2.1
  refine dp_aload_n C dX4_append_0 rfl ?_
  refine dp_getf C (k := 1) (dp_mC (by decide)) dp_xtx rfl hX4 (by decide) (List.mem_of_getElem? (i := 1) rfl) rfl dX4_append_1 ?_
  refine dp_aload_n C dX4_append_4 rfl ?_
  refine dp_getf C (k := 0) (dp_mC (by decide)) dp_xtx rfl hX4 (by decide) (List.mem_of_getElem? (i := 2) rfl) rfl dX4_append_5 ?_
  refine dp_alen C (t0 := 1) (dp_mC (by decide)) 100 dp_xsg rfl rfl dX4_append_8 ?_
  refine dp_icmp_ge (tgt := 32) C dX4_append_9 (by decide) ⟨by omega, by omega⟩ ⟨by omega, by omega⟩ (fun c9 => ?_) (fun c9 => ?_)
  · skip
    refine dp_vret C hret dX4_append_32 ?_
    first | (rw [if_pos (by assumption)]; rfl) | (rw [if_neg (by assumption)])
  · skip
    refine dp_aload_n C dX4_append_12 rfl ?_
    refine dp_getf C (k := 0) (dp_mC (by decide)) dp_xtx rfl hX4 (by decide) (List.mem_of_getElem? (i := 2) rfl) rfl dX4_append_13 ?_
    refine dp_aload_n C dX4_append_16 rfl ?_
    refine dp_getf C (k := 1) (dp_mC (by decide)) dp_xtx rfl hX4 (by decide) (List.mem_of_getElem? (i := 1) rfl) rfl dX4_append_17 ?_
    refine dp_iload_n C dX4_append_20 rfl ?_
    refine dp_cst_sg C ⟨by omega, by omega⟩ ⟨by omega, by omega⟩ rfl dX4_append_21 ?_
    refine dp_aload_n C dX4_append_22 rfl ?_
    refine dp_dup C dX4_append_23 rfl ?_
    refine dp_getf C (k := 1) (dp_mC (by decide)) dp_xtx rfl hX4 (by decide) (List.mem_of_getElem? (i := 1) rfl) rfl dX4_append_24 ?_
    rw [u2_ne (show 3 ≠ 4 by decide)]
    refine dp_iconst C dX4_append_27 ?_
    refine dp_iadd C dX4_append_28 ?_
    refine dp_putX C  (k := 0) hX4 (by decide) (List.mem_of_getElem? (i := 1) rfl) rfl (tyX4_ok _ (by decide)) rfl rfl dX4_append_29 ?_
    refine dp_vret C hret dX4_append_32 ?_
    first | (rw [if_pos (by assumption)]; rfl) | (rw [if_neg (by assumption)])
theorem yyX6_type : yX6_type.cls = RX6 ∧ yX6_type.cls ≠ "java/lang/invoke/MethodHandle" ∧ yX6_type.cls ≠ "java/lang/invoke/VarHandle" ∧ (parseMethodDescriptor yX6_type.desc).map (fun d => d.parameters.length) = some 1 := by decide +kernel
set_option maxHeartbeats 4000000 in
set_option maxRecDepth 100000 in
theorem c_X6_type {E : dp_E} (hE : dp_OK E) (l : Launch) {M : dp_M} {V Y X : dp_V} {k : Int} (hT : tOK X) (hk : dp_R k) : dp_met E l yX6_type wsX6_type 1 22 [.ref (eAd E 7 0), .int (dp_I k)] (dS (dR M 7 X) 0 V Y) (dp_qi E (fun y M1 => y = (if 32 ≤ k ∧ k ≤ 126 then (if X 3 0 < 100 then X 3 0 + 1 else -100003) else -100001) ∧ M1 = (if (32 ≤ k ∧ k ≤ 126) ∧ X 3 0 < 100 then dS (dR M 7 (apX X k)) 0 V Y else dS (dR M 7 X) 0 V Y))) := by
  refine dp_of (cc := cX6_type) (nL := 2) (own := RX6) (ret := some (.int)) (by decide +kernel) rfl rfl hE (by simp [Value.category]) (Nat.le_of_ble_eq_true rfl) ?_
  intro p e s m below meth co C hret
  show dp_G _ _ _ _ _ _ _ _ _ _ _ _ _ _ _ _ _ [some (.ref (eAd E 7 0)), some (.int (dp_I k))] _
  have hX4 : ∀ w ∈ u_ws RX4 TX4 6, w ∈ wsX6_type := fun w h => List.mem_cons_of_mem _ (List.mem_append_right _ (h))
  have hX6 : ∀ w ∈ u_ws RX6 TX6 4, w ∈ wsX6_type := fun w h => List.mem_cons_of_mem _ (List.mem_append_left _ (List.mem_append_right _ (h)))
  unfold dp_R at hk
  have h0 := hT.1
  have h1 := hT.2.1
  refine dp_iload_n C dX6_type_0 rfl ?_
  refine dp_bipush C dX6_type_1 (by decide) ?_
  refine dp_bipush C dX6_type_3 (by decide) ?_
  refine dp_cSi C (c_X6_isBetween C.2.2.1 l ⟨by omega, by omega⟩ ⟨by omega, by omega⟩ ⟨by omega, by omega⟩) gX6_type_X6_isBetween rfl yyX6_isBetween rfl ⟨Nat.le_of_ble_eq_true rfl, Nat.le_of_ble_eq_true rfl⟩ rfl (Nat.le_of_ble_eq_true rfl) rfl ⟨Nat.zero_le _, Nat.zero_le _⟩ dX6_type_5 (fun x5 M5 h5 => ?_)
  obtain ⟨rfl, rfl⟩ := h5
  refine dp_ifz_ne (tgt := 14) C dX6_type_8 (by decide) (fun c8 => ?_) (fun c8 => ?_)
  · skip
    refine dp_aload_n C dX6_type_14 rfl ?_
    refine dp_getf C (k := 3) (dp_mC (by decide)) dp_xdp rfl hX6 (by decide) (List.mem_of_getElem? (i := 2) rfl) rfl dX6_type_15 ?_
    refine dp_c7 ?_
    refine dp_getf C (k := 1) (dp_mC (by decide)) dp_xtx rfl hX4 (by decide) (List.mem_of_getElem? (i := 3) rfl) rfl dX6_type_18 ?_
    refine dp_c0 ?_
    refine dp_bipush C dX6_type_21 (by decide) ?_
    refine dp_icmp_lt (tgt := 29) C dX6_type_23 (by decide) ⟨by omega, by omega⟩ ⟨by omega, by omega⟩ (fun c23 => ?_) (fun c23 => ?_)
    · skip
      refine dp_aload_n C dX6_type_29 rfl ?_
      refine dp_getf C (k := 3) (dp_mC (by decide)) dp_xdp rfl hX6 (by decide) (List.mem_of_getElem? (i := 2) rfl) rfl dX6_type_30 ?_
      refine dp_iload_n C dX6_type_33 rfl ?_
      refine dp_i2c C ⟨by omega, by omega⟩ dX6_type_34 ?_
      refine dp_c7 ?_
      refine dp_cVv C (c_X4_append C.2.2.1 l hT (by omega)) gX6_type_X4_append rfl (dp_mC (by decide)) dp_xtx rfl yyX4_append rfl ⟨Nat.le_of_ble_eq_true rfl, Nat.le_of_ble_eq_true rfl⟩ rfl (Nat.le_of_ble_eq_true rfl) rfl ⟨Nat.zero_le _, Nat.zero_le _⟩ dX6_type_35 (fun M35 h35 => ?_)
      obtain rfl := h35
      rw [show (if X 3 0 < 100 then apX X k else X) = apX X k from if_pos c23]
      refine dp_c0 ?_
      refine dp_aload_n C dX6_type_38 rfl ?_
      refine dp_getf C (k := 3) (dp_mC (by decide)) dp_xdp rfl hX6 (by decide) (List.mem_of_getElem? (i := 2) rfl) rfl dX6_type_39 ?_
      refine dp_c7 ?_
      refine dp_getf C (k := 1) (dp_mC (by decide)) dp_xtx rfl hX4 (by decide) (List.mem_of_getElem? (i := 3) rfl) rfl dX6_type_42 ?_
      rw [show apX X k 3 0 = X 3 0 + 1 by unfold apX; rw [u2_same, u1_same]]
      refine dp_c0 ?_
      refine dp_iret C hret dX6_type_45 ?_
      first | exact ⟨by rw [if_neg (by omega)], by rw [if_neg (by omega)]⟩ | exact ⟨by rw [if_pos (by omega), if_neg (by omega)], by rw [if_neg (by omega)]⟩ | exact ⟨by rw [if_pos (by omega), if_pos (by omega)], by rw [if_pos ⟨by omega, by omega⟩]⟩
    · skip
      refine dp_ldc C (-100003) (List.mem_of_getElem? (i := 4) rfl) rfl dX6_type_26 ?_
      refine dp_iret C hret dX6_type_28 ?_
      first | exact ⟨by rw [if_neg (by omega)], by rw [if_neg (by omega)]⟩ | exact ⟨by rw [if_pos (by omega), if_neg (by omega)], by rw [if_neg (by omega)]⟩ | exact ⟨by rw [if_pos (by omega), if_pos (by omega)], by rw [if_pos ⟨by omega, by omega⟩]⟩
  · skip
    refine dp_ldc C (-100001) (List.mem_of_getElem? (i := 1) rfl) rfl dX6_type_11 ?_
    refine dp_iret C hret dX6_type_13 ?_
    first | exact ⟨by rw [if_neg (by omega)], by rw [if_neg (by omega)]⟩ | exact ⟨by rw [if_pos (by omega), if_neg (by omega)], by rw [if_neg (by omega)]⟩ | exact ⟨by rw [if_pos (by omega), if_pos (by omega)], by rw [if_pos ⟨by omega, by omega⟩]⟩
theorem yyX6_clearText : yX6_clearText.cls = RX6 ∧ yX6_clearText.cls ≠ "java/lang/invoke/MethodHandle" ∧ yX6_clearText.cls ≠ "java/lang/invoke/VarHandle" ∧ (parseMethodDescriptor yX6_clearText.desc).map (fun d => d.parameters.length) = some 0 := by decide +kernel
set_option maxHeartbeats 4000000 in
set_option maxRecDepth 100000 in
theorem c_X6_clearText {E : dp_E} (hE : dp_OK E) (l : Launch) {M : dp_M} {V Y X : dp_V} : dp_met E l yX6_clearText wsX6_clearText 0 0 [.ref (eAd E 7 0)] (dS (dR M 7 X) 0 V Y) (dp_qi E (fun y M1 => y = X 3 0 ∧ M1 = dS (dR M 7 (u2 X 3 0 0)) 0 V Y)) := by
  refine dp_of (cc := cX6_clearText) (nL := 2) (own := RX6) (ret := some (.int)) (by decide +kernel) rfl rfl hE (by simp [Value.category]) (Nat.le_of_ble_eq_true rfl) ?_
  intro p e s m below meth co C hret
  show dp_G _ _ _ _ _ _ _ _ _ _ _ _ _ _ _ _ _ [some (.ref (eAd E 7 0)), none] _
  have hX4 : ∀ w ∈ u_ws RX4 TX4 6, w ∈ wsX6_clearText := fun w h => List.mem_cons_of_mem _ (List.mem_append_right _ (h))
  have hX6 : ∀ w ∈ u_ws RX6 TX6 4, w ∈ wsX6_clearText := fun w h => List.mem_cons_of_mem _ (List.mem_append_left _ (List.mem_append_right _ (h)))
  refine dp_aload_n C dX6_clearText_0 rfl ?_
  refine dp_getf C (k := 3) (dp_mC (by decide)) dp_xdp rfl hX6 (by decide) (List.mem_of_getElem? (i := 1) rfl) rfl dX6_clearText_1 ?_
  refine dp_c7 ?_
  refine dp_getf C (k := 1) (dp_mC (by decide)) dp_xtx rfl hX4 (by decide) (List.mem_of_getElem? (i := 2) rfl) rfl dX6_clearText_4 ?_
  refine dp_c0 ?_
  refine dp_istore_n C dX6_clearText_7 (Nat.le_of_ble_eq_true rfl) ?_
  dsimp only [List.set]
  refine dp_aload_n C dX6_clearText_8 rfl ?_
  refine dp_getf C (k := 3) (dp_mC (by decide)) dp_xdp rfl hX6 (by decide) (List.mem_of_getElem? (i := 1) rfl) rfl dX6_clearText_9 ?_
  refine dp_iconst C dX6_clearText_12 ?_
  refine dp_c7 ?_
  refine dp_putX C  (k := 0) hX4 (by decide) (List.mem_of_getElem? (i := 2) rfl) rfl (tyX4_ok _ (by decide)) rfl rfl dX6_clearText_13 ?_
  refine dp_c0 ?_
  refine dp_iload_n C dX6_clearText_16 rfl ?_
  refine dp_iret C hret dX6_clearText_17 ?_
  exact ⟨rfl, rfl⟩
theorem yyX6_fault : yX6_fault.cls = RX6 ∧ yX6_fault.cls ≠ "java/lang/invoke/MethodHandle" ∧ yX6_fault.cls ≠ "java/lang/invoke/VarHandle" ∧ (parseMethodDescriptor yX6_fault.desc).map (fun d => d.parameters.length) = some 1 := by decide +kernel
set_option maxHeartbeats 4000000 in
set_option maxRecDepth 100000 in
theorem c_X6_fault {E : dp_E} (hE : dp_OK E) (l : Launch) {M : dp_M} {V Y X : dp_V} {k : Int} (hv : ivC V) (hT : tOK X) (hN : nOK X) (hk : dp_R k) : dp_met E l yX6_fault wsX6_fault 4 93 [.ref (eAd E 7 0), .int (dp_I k)] (dS (dR M 7 X) 0 V Y) (dp_qi E (fun y M1 => y = (if 0 ≤ k ∧ k ≤ 1 then (if ckX X (cnF V 4) 3 3 = 0 then -100004 else if k = 0 then ckX X (cnF V 4) 3 2 else ckX X (cnF V 4) 3 3) else -100001) ∧ M1 = (if 0 ≤ k ∧ k ≤ 1 then dS (dR M 7 (ckX X (cnF V 4))) 0 V Y else dS (dR M 7 X) 0 V Y))) := by
  refine dp_of (cc := cX6_fault) (nL := 2) (own := RX6) (ret := some (.int)) (by decide +kernel) rfl rfl hE (by simp [Value.category]) (Nat.le_of_ble_eq_true rfl) ?_
  intro p e s m below meth co C hret
  show dp_G _ _ _ _ _ _ _ _ _ _ _ _ _ _ _ _ _ [some (.ref (eAd E 7 0)), some (.int (dp_I k))] _
  have hX4 : ∀ w ∈ u_ws RX4 TX4 6, w ∈ wsX6_fault := fun w h => List.mem_cons_of_mem _ (List.mem_append_left _ (List.mem_append_left _ (List.mem_append_right _ (h))))
  have hX6 : ∀ w ∈ u_ws RX6 TX6 4, w ∈ wsX6_fault := fun w h => List.mem_cons_of_mem _ (List.mem_append_left _ (List.mem_append_left _ (List.mem_append_left _ (List.mem_append_right _ (h)))))
  have h07 : 0 < 7 := by decide
  unfold dp_R at hk
  have hb := @cnF_bd V 4
  have h33 := @ckX_33 X (cnF V 4)
  refine dp_iload_n C dX6_fault_0 rfl ?_
  refine dp_iconst C dX6_fault_1 ?_
  refine dp_iconst C dX6_fault_2 ?_
  refine dp_cSi C (c_X6_isBetween C.2.2.1 l ⟨by omega, by omega⟩ ⟨by omega, by omega⟩ ⟨by omega, by omega⟩) gX6_fault_X6_isBetween rfl yyX6_isBetween rfl ⟨Nat.le_of_ble_eq_true rfl, Nat.le_of_ble_eq_true rfl⟩ rfl (Nat.le_of_ble_eq_true rfl) rfl ⟨Nat.zero_le _, Nat.zero_le _⟩ dX6_fault_3 (fun x3 M3 h3 => ?_)
  obtain ⟨rfl, rfl⟩ := h3
  refine dp_ifz_ne (tgt := 12) C dX6_fault_6 (by decide) (fun c6 => ?_) (fun c6 => ?_)
  · skip
    refine dp_aload_n C dX6_fault_12 rfl ?_
    refine dp_getf C (k := 3) (dp_mC (by decide)) dp_xdp rfl hX6 (by decide) (List.mem_of_getElem? (i := 2) rfl) rfl dX6_fault_13 ?_
    refine dp_aload_n C dX6_fault_16 rfl ?_
    refine dp_getf C (k := 0) (dp_mC (by decide)) dp_xdp rfl hX6 (by decide) (List.mem_of_getElem? (i := 3) rfl) rfl dX6_fault_17 ?_
    refine dp_iconst C dX6_fault_20 ?_
    refine dp_cVi C (c_X2_targetsIn C.2.2.1 l h07 ⟨by omega, by omega⟩ hv) gX6_fault_X2_targetsIn rfl (dp_mS ‹_› (by decide)) (dp_xst ‹_›) rfl yyX2_targetsIn rfl ⟨Nat.le_of_ble_eq_true rfl, Nat.le_of_ble_eq_true rfl⟩ rfl (Nat.le_of_ble_eq_true rfl) rfl ⟨Nat.zero_le _, Nat.zero_le _⟩ dX6_fault_21 (fun x21 M21 h21 => ?_)
    obtain ⟨rfl, rfl⟩ := h21
    refine dp_c7 ?_
    refine dp_cVv C (c_X4_check C.2.2.1 l hT hN hb) gX6_fault_X4_check rfl (dp_mC (by decide)) dp_xtx rfl yyX4_check rfl ⟨Nat.le_of_ble_eq_true rfl, Nat.le_of_ble_eq_true rfl⟩ rfl (Nat.le_of_ble_eq_true rfl) rfl ⟨Nat.zero_le _, Nat.zero_le _⟩ dX6_fault_24 (fun M24 h24 => ?_)
    obtain rfl := h24
    refine dp_c0 ?_
    refine dp_aload_n C dX6_fault_27 rfl ?_
    refine dp_getf C (k := 3) (dp_mC (by decide)) dp_xdp rfl hX6 (by decide) (List.mem_of_getElem? (i := 2) rfl) rfl dX6_fault_28 ?_
    refine dp_c7 ?_
    refine dp_getf C (k := 5) (dp_mC (by decide)) dp_xtx rfl hX4 (by decide) (List.mem_of_getElem? (i := 4) rfl) rfl dX6_fault_31 ?_
    refine dp_c0 ?_
    refine dp_if_ne (tgt := 40) C dX6_fault_34 (by decide) ⟨by omega, by omega⟩ (fun c34 => ?_) (fun c34 => ?_)
    · skip
      refine dp_iload_n C dX6_fault_40 rfl ?_
      refine dp_if_ne (tgt := 54) C dX6_fault_41 (by decide) ⟨by omega, by omega⟩ (fun c41 => ?_) (fun c41 => ?_)
      · skip
        refine dp_aload_n C dX6_fault_54 rfl ?_
        refine dp_getf C (k := 3) (dp_mC (by decide)) dp_xdp rfl hX6 (by decide) (List.mem_of_getElem? (i := 2) rfl) rfl dX6_fault_55 ?_
        refine dp_c7 ?_
        refine dp_getf C (k := 5) (dp_mC (by decide)) dp_xtx rfl hX4 (by decide) (List.mem_of_getElem? (i := 4) rfl) rfl dX6_fault_58 ?_
        refine dp_c0 ?_
        refine dp_iret C hret dX6_fault_61 ?_
        first | exact ⟨by rw [if_neg (by omega)], by rw [if_neg (by omega)]⟩ | exact ⟨by rw [if_pos (by omega), if_pos (by assumption)], by rw [if_pos (by omega)]⟩ | exact ⟨by rw [if_pos (by omega), if_neg (by assumption), if_pos (by assumption)], by rw [if_pos (by omega)]⟩ | exact ⟨by rw [if_pos (by omega), if_neg (by assumption), if_neg (by assumption)], by rw [if_pos (by omega)]⟩
      · skip
        refine dp_aload_n C dX6_fault_44 rfl ?_
        refine dp_getf C (k := 3) (dp_mC (by decide)) dp_xdp rfl hX6 (by decide) (List.mem_of_getElem? (i := 2) rfl) rfl dX6_fault_45 ?_
        refine dp_c7 ?_
        refine dp_getf C (k := 4) (dp_mC (by decide)) dp_xtx rfl hX4 (by decide) (List.mem_of_getElem? (i := 6) rfl) rfl dX6_fault_48 ?_
        refine dp_c0 ?_
        refine dp_goto (tgt := 61) C dX6_fault_51 (by decide) ?_
        refine dp_iret C hret dX6_fault_61 ?_
        first | exact ⟨by rw [if_neg (by omega)], by rw [if_neg (by omega)]⟩ | exact ⟨by rw [if_pos (by omega), if_pos (by assumption)], by rw [if_pos (by omega)]⟩ | exact ⟨by rw [if_pos (by omega), if_neg (by assumption), if_pos (by assumption)], by rw [if_pos (by omega)]⟩ | exact ⟨by rw [if_pos (by omega), if_neg (by assumption), if_neg (by assumption)], by rw [if_pos (by omega)]⟩
    · skip
      refine dp_ldc C (-100004) (List.mem_of_getElem? (i := 5) rfl) rfl dX6_fault_37 ?_
      refine dp_iret C hret dX6_fault_39 ?_
      first | exact ⟨by rw [if_neg (by omega)], by rw [if_neg (by omega)]⟩ | exact ⟨by rw [if_pos (by omega), if_pos (by assumption)], by rw [if_pos (by omega)]⟩ | exact ⟨by rw [if_pos (by omega), if_neg (by assumption), if_pos (by assumption)], by rw [if_pos (by omega)]⟩ | exact ⟨by rw [if_pos (by omega), if_neg (by assumption), if_neg (by assumption)], by rw [if_pos (by omega)]⟩
  · skip
    refine dp_ldc C (-100001) (List.mem_of_getElem? (i := 1) rfl) rfl dX6_fault_9 ?_
    refine dp_iret C hret dX6_fault_11 ?_
    first | exact ⟨by rw [if_neg (by omega)], by rw [if_neg (by omega)]⟩ | exact ⟨by rw [if_pos (by omega), if_pos (by assumption)], by rw [if_pos (by omega)]⟩ | exact ⟨by rw [if_pos (by omega), if_neg (by assumption), if_pos (by assumption)], by rw [if_pos (by omega)]⟩ | exact ⟨by rw [if_pos (by omega), if_neg (by assumption), if_neg (by assumption)], by rw [if_pos (by omega)]⟩
