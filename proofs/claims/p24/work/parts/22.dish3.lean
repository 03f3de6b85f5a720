theorem lpG_iv {first : Int} : ∀ {n : Nat} {mi wk : Int} {V : dp_V}, ivC V → 0 ≤ mi → mi + n ≤ 43201 → ivC (lpG first n mi V wk) := by
  intro n
  induction n with
  | zero => intro mi wk V h _ _; exact h
  | succ n ih =>
    intro mi wk V h h0 h1
    unfold lpG
    split
    · exact ih h (by omega) (by omega)
    · exact ih (mnV_iv h (by omega)).1 (by omega) (by omega)
theorem lpV_iv {V : dp_V} {k : Nat} (h : ivC V) (hk : V 0 0 + k ≤ 43200) : ivC (lpV V k) := by
  have h0 := h.1.1
  exact ivC_00 (lpG_iv h (by omega) (by omega)) (by omega)
theorem if_c {M : dp_M} {V Y X V1 Y1 : dp_V} : dS (dS (dR M 7 X) 0 V Y) 1 V1 Y1 = dS (dR (dS M 1 V1 Y1) 7 X) 0 V Y := by
  funext r
  unfold dS dR
  by_cases a : r = 1
  · subst a
    simp
  · by_cases b : r = 1 + 20
    · subst b
      simp
    · rw [if_neg b, if_neg a, if_neg b, if_neg a]
theorem yyX6_run : yX6_run.cls = RX6 ∧ yX6_run.cls ≠ "java/lang/invoke/MethodHandle" ∧ yX6_run.cls ≠ "java/lang/invoke/VarHandle" ∧ (parseMethodDescriptor yX6_run.desc).map (fun d => d.parameters.length) = some 1 := by decide +kernel
set_option maxHeartbeats 4000000 in
set_option maxRecDepth 100000 in
theorem c_X6_run {E : dp_E} (hE : dp_OK E) (l : Launch) {M : dp_M} {V Y X : dp_V} {k : Int} (hv : ivC V) (hH : hOK X) (hk : dp_R k) : dp_met E l yX6_run wsX6_run 7 154 [.ref (eAd E 7 0), .int (dp_I k)] (dS (dR M 7 X) 0 V Y) (dp_qi E (fun y M1 => y = (if 0 ≤ k ∧ k ≤ 2000 then (if 43200 < V 0 0 + k then -100003 else cnF (lpV V k.toNat) 2 - cnF V 2) else -100001) ∧ ∃ Y', M1 = (if (0 ≤ k ∧ k ≤ 2000) ∧ ¬ 43200 < V 0 0 + k then rM M V Y' X (lpV V k.toNat) else dS (dR M 7 X) 0 V Y'))) := by
  refine dp_of (cc := cX6_run) (nL := 3) (own := RX6) (ret := some (.int)) (by decide +kernel) rfl rfl hE (by simp [Value.category]) (Nat.le_of_ble_eq_true rfl) ?_
  intro p e s m below meth co C hret
  show dp_G _ _ _ _ _ _ _ _ _ _ _ _ _ _ _ _ _ [some (.ref (eAd E 7 0)), some (.int (dp_I k)), none] _
  have hX2 : ∀ w ∈ u_ws RX2 TX2 11, w ∈ wsX6_run := fun w h => List.mem_cons_of_mem _ (List.mem_append_left _ (List.mem_append_left _ (List.mem_append_left _ (List.mem_append_left _ (List.mem_append_right _ (h))))))
  have hX6 : ∀ w ∈ u_ws RX6 TX6 4, w ∈ wsX6_run := fun w h => List.mem_cons_of_mem _ (List.mem_append_left _ (List.mem_append_left _ (List.mem_append_left _ (List.mem_append_left _ (List.mem_append_left _ (List.mem_append_right _ (h)))))))
  have h07 : 0 < 7 := by decide
  have hJ := rcJ_ok hH
  unfold dp_R at hk
  have h0 := hv.1.1
  refine dp_iload_n C dX6_run_0 rfl ?_
  refine dp_iconst C dX6_run_1 ?_
  refine dp_sipush C dX6_run_2 (by decide) ?_
  refine dp_cSi C (c_X6_isBetween C.2.2.1 l ⟨by omega, by omega⟩ ⟨by omega, by omega⟩ ⟨by omega, by omega⟩) gX6_run_X6_isBetween rfl yyX6_isBetween rfl ⟨Nat.le_of_ble_eq_true rfl, Nat.le_of_ble_eq_true rfl⟩ rfl (Nat.le_of_ble_eq_true rfl) rfl ⟨Nat.zero_le _, Nat.zero_le _⟩ dX6_run_5 (fun x5 M5 h5 => ?_)
  obtain ⟨rfl, rfl⟩ := h5
  refine dp_ifz_ne (tgt := 14) C dX6_run_8 (by decide) (fun c8 => ?_) (fun c8 => ?_)
  · skip
    refine dp_aload_n C dX6_run_14 rfl ?_
    refine dp_getf C (k := 0) (dp_mC (by decide)) dp_xdp rfl hX6 (by decide) (List.mem_of_getElem? (i := 2) rfl) rfl dX6_run_15 ?_
    refine dp_getf C (k := 0) (dp_mS ‹_› (by decide)) (dp_xst ‹_›) rfl hX2 (by decide) (List.mem_of_getElem? (i := 3) rfl) rfl dX6_run_18 ?_
    refine dp_iload_n C dX6_run_21 rfl ?_
    refine dp_iadd C dX6_run_22 ?_
    refine dp_ldc C (43200) (List.mem_of_getElem? (i := 4) rfl) rfl dX6_run_23 ?_
    refine dp_icmp_le (tgt := 31) C dX6_run_25 (by decide) ⟨by omega, by omega⟩ ⟨by omega, by omega⟩ (fun c25 => ?_) (fun c25 => ?_)
    · skip
      obtain ⟨k9, rfl⟩ : ∃ k9 : Nat, k = k9 := ⟨k.toNat, by omega⟩
      have hl := lpV_iv (k := k9) hv (by omega)
      refine dp_aload_n C dX6_run_31 rfl ?_
      refine dp_getf C (k := 2) (dp_mC (by decide)) dp_xdp rfl hX6 (by decide) (List.mem_of_getElem? (i := 6) rfl) rfl dX6_run_32 ?_
      refine dp_aload_n C dX6_run_35 rfl ?_
      refine dp_getf C (k := 0) (dp_mC (by decide)) dp_xdp rfl hX6 (by decide) (List.mem_of_getElem? (i := 2) rfl) rfl dX6_run_36 ?_
      refine dp_c7 ?_
      refine dp_cVv C (c_X1_record C.2.2.1 l hH (by rw [dS_V]; exact hv.2.2)) gX6_run_X1_record rfl (dp_mC (by decide)) dp_xhi rfl yyX1_record rfl ⟨Nat.le_of_ble_eq_true rfl, Nat.le_of_ble_eq_true rfl⟩ rfl (Nat.le_of_ble_eq_true rfl) rfl ⟨Nat.zero_le _, Nat.zero_le _⟩ dX6_run_39 (fun M39 h39 => ?_)
      obtain rfl := h39
      rw [rc_c hJ]
      refine dp_c0 ?_
      refine dp_aload_n C dX6_run_42 rfl ?_
      refine dp_getf C (k := 0) (dp_mC (by decide)) dp_xdp rfl hX6 (by decide) (List.mem_of_getElem? (i := 2) rfl) rfl dX6_run_43 ?_
      refine dp_iconst C dX6_run_46 ?_
      refine dp_cVi C (c_X2_targetsIn C.2.2.1 l h07 ⟨by omega, by omega⟩ hv) gX6_run_X2_targetsIn rfl (dp_mS ‹_› (by decide)) (dp_xst ‹_›) rfl yyX2_targetsIn rfl ⟨Nat.le_of_ble_eq_true rfl, Nat.le_of_ble_eq_true rfl⟩ rfl (Nat.le_of_ble_eq_true rfl) rfl ⟨Nat.zero_le _, Nat.zero_le _⟩ dX6_run_47 (fun x47 M47 h47 => ?_)
      obtain ⟨rfl, rfl⟩ := h47
      refine dp_istore_n C dX6_run_50 (Nat.le_of_ble_eq_true rfl) ?_
      dsimp only [List.set]
      refine dp_aload_n C dX6_run_51 rfl ?_
      refine dp_getf C (k := 0) (dp_mC (by decide)) dp_xdp rfl hX6 (by decide) (List.mem_of_getElem? (i := 2) rfl) rfl dX6_run_52 ?_
      refine dp_iload_n C dX6_run_55 rfl ?_
      refine dp_cVv C (c_X2_letPass C.2.2.1 l h07 hv (show k9 ≤ 2000 by omega) (by omega)) gX6_run_X2_letPass rfl (dp_mS ‹_› (by decide)) (dp_xst ‹_›) rfl yyX2_letPass rfl ⟨Nat.le_of_ble_eq_true rfl, Nat.le_of_ble_eq_true rfl⟩ rfl (Nat.le_of_ble_eq_true rfl) rfl ⟨Nat.zero_le _, Nat.zero_le _⟩ dX6_run_56 (fun M56 h56 => ?_)
      obtain ⟨Y1, rfl⟩ := h56
      refine dp_aload_n C dX6_run_59 rfl ?_
      refine dp_getf C (k := 0) (dp_mC (by decide)) dp_xdp rfl hX6 (by decide) (List.mem_of_getElem? (i := 2) rfl) rfl dX6_run_60 ?_
      refine dp_iconst C dX6_run_63 ?_
      refine dp_cVi C (c_X2_targetsIn C.2.2.1 l h07 ⟨by omega, by omega⟩ hl) gX6_run_X2_targetsIn rfl (dp_mS ‹_› (by decide)) (dp_xst ‹_›) rfl yyX2_targetsIn rfl ⟨Nat.le_of_ble_eq_true rfl, Nat.le_of_ble_eq_true rfl⟩ rfl (Nat.le_of_ble_eq_true rfl) rfl ⟨Nat.zero_le _, Nat.zero_le _⟩ dX6_run_64 (fun x64 M64 h64 => ?_)
      obtain ⟨rfl, rfl⟩ := h64
      refine dp_iload_n C dX6_run_67 rfl ?_
      refine dp_isub C dX6_run_68 ?_
      refine dp_iret C hret dX6_run_69 ?_
      first | exact ⟨by rw [if_pos (by omega), if_neg (by omega)]; rfl, _, by rw [if_pos (by omega)]; rfl⟩ | exact ⟨by rw [if_neg (by omega)], _, by rw [if_neg (by omega)]⟩ | exact ⟨by rw [if_pos (by omega), if_pos (by omega)], _, by rw [if_neg (by omega)]⟩
    · skip
      refine dp_ldc C (-100003) (List.mem_of_getElem? (i := 5) rfl) rfl dX6_run_28 ?_
      refine dp_iret C hret dX6_run_30 ?_
      first | exact ⟨by rw [if_pos (by omega), if_neg (by omega)]; rfl, _, by rw [if_pos (by omega)]; rfl⟩ | exact ⟨by rw [if_neg (by omega)], _, by rw [if_neg (by omega)]⟩ | exact ⟨by rw [if_pos (by omega), if_pos (by omega)], _, by rw [if_neg (by omega)]⟩
  · skip
    refine dp_ldc C (-100001) (List.mem_of_getElem? (i := 1) rfl) rfl dX6_run_11 ?_
    refine dp_iret C hret dX6_run_13 ?_
    first | exact ⟨by rw [if_pos (by omega), if_neg (by omega)]; rfl, _, by rw [if_pos (by omega)]; rfl⟩ | exact ⟨by rw [if_neg (by omega)], _, by rw [if_neg (by omega)]⟩ | exact ⟨by rw [if_pos (by omega), if_pos (by omega)], _, by rw [if_neg (by omega)]⟩
/-- the region of the latest recorded state -/
def reJ (X : dp_V) : Nat := (X 2 (X 1 0 - 1).toNat).toNat
/-- a sign appended -/
def apX (X : dp_V) (c : Int) : dp_V := u2 (u2 X 4 (X 3 0).toNat c) 3 0 (X 3 0 + 1)
