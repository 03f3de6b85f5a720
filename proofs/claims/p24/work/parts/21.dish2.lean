theorem yyX6_count : yX6_count.cls = RX6 ∧ yX6_count.cls ≠ "java/lang/invoke/MethodHandle" ∧ yX6_count.cls ≠ "java/lang/invoke/VarHandle" ∧ (parseMethodDescriptor yX6_count.desc).map (fun d => d.parameters.length) = some 1 := by decide +kernel
set_option maxHeartbeats 4000000 in
set_option maxRecDepth 100000 in
theorem c_X6_count {E : dp_E} (hE : dp_OK E) (l : Launch) {M : dp_M} {V Y X : dp_V} {k : Int} (hv : ivC V) (hk : dp_R k) : dp_met E l yX6_count wsX6_count 4 83 [.ref (eAd E 7 0), .int (dp_I k)] (dS (dR M 7 X) 0 V Y) (dp_qi E (fun y M1 => y = coF V X k ∧ M1 = dS (dR M 7 X) 0 V Y)) := by
  refine dp_of (cc := cX6_count) (nL := 2) (own := RX6) (ret := some (.int)) (by decide +kernel) rfl rfl hE (by simp [Value.category]) (Nat.le_of_ble_eq_true rfl) ?_
  intro p e s m below meth co C hret
  show dp_G _ _ _ _ _ _ _ _ _ _ _ _ _ _ _ _ _ [some (.ref (eAd E 7 0)), some (.int (dp_I k))] _
  have hX1 : ∀ w ∈ u_ws RX1 TX1 2, w ∈ wsX6_count := fun w h => List.mem_cons_of_mem _ (List.mem_append_left _ (List.mem_append_left _ (List.mem_append_left _ (List.mem_append_left _ (List.mem_append_right _ (h))))))
  have hX4 : ∀ w ∈ u_ws RX4 TX4 6, w ∈ wsX6_count := fun w h => List.mem_cons_of_mem _ (List.mem_append_left _ (List.mem_append_left _ (List.mem_append_left _ (List.mem_append_right _ (h)))))
  have hX6 : ∀ w ∈ u_ws RX6 TX6 4, w ∈ wsX6_count := fun w h => List.mem_cons_of_mem _ (List.mem_append_left _ (List.mem_append_left _ (List.mem_append_left _ (List.mem_append_left _ (List.mem_append_left _ (List.mem_append_right _ (h)))))))
  have h07 : 0 < 7 := by decide
  unfold dp_R at hk
  have hu := @uwF_bd V
  refine dp_iload_n C dX6_count_0 rfl ?_
  refine dp_table (td := 122) C [48, 60, 69, 78, 87, 98, 106, 114] dX6_count_1 (by decide) (by decide) (by decide) ⟨by omega, by omega⟩ (fun c1 => ?_) ?_
  · skip
    refine dp_aload_n C dX6_count_122 rfl ?_
    refine dp_getf C (k := 0) (dp_mC (by decide)) dp_xdp rfl hX6 (by decide) (List.mem_of_getElem? (i := 1) rfl) rfl dX6_count_123 ?_
    refine dp_iload_n C dX6_count_126 rfl ?_
    refine dp_cVi C (c_X2_tell C.2.2.1 l h07 hv.1 ⟨by omega, by omega⟩) gX6_count_X2_tell rfl (dp_mS ‹_› (by decide)) (dp_xst ‹_›) rfl yyX2_tell rfl ⟨Nat.le_of_ble_eq_true rfl, Nat.le_of_ble_eq_true rfl⟩ rfl (Nat.le_of_ble_eq_true rfl) rfl ⟨Nat.zero_le _, Nat.zero_le _⟩ dX6_count_127 (fun x127 M127 h127 => ?_)
    obtain ⟨rfl, rfl⟩ := h127
    refine dp_iret C hret dX6_count_130 ?_
    refine ⟨?_, rfl⟩
    unfold coF
    repeat (first | rw [if_neg (by omega)] | rw [if_pos (by omega)])
  · simp only [dp_sw]
    refine ⟨fun c1 => ?_, fun c1 => ?_, fun c1 => ?_, fun c1 => ?_, fun c1 => ?_, fun c1 => ?_, fun c1 => ?_, fun c1 => ?_, trivial⟩
    · skip
      refine dp_bipush C dX6_count_48 (by decide) ?_
      refine dp_aload_n C dX6_count_50 rfl ?_
      refine dp_getf C (k := 0) (dp_mC (by decide)) dp_xdp rfl hX6 (by decide) (List.mem_of_getElem? (i := 1) rfl) rfl dX6_count_51 ?_
      refine dp_iconst C dX6_count_54 ?_
      refine dp_cVi C (c_X2_targetsIn C.2.2.1 l h07 ⟨by omega, by omega⟩ hv) gX6_count_X2_targetsIn rfl (dp_mS ‹_› (by decide)) (dp_xst ‹_›) rfl yyX2_targetsIn rfl ⟨Nat.le_of_ble_eq_true rfl, Nat.le_of_ble_eq_true rfl⟩ rfl (Nat.le_of_ble_eq_true rfl) rfl ⟨Nat.zero_le _, Nat.zero_le _⟩ dX6_count_55 (fun x55 M55 h55 => ?_)
      obtain ⟨rfl, rfl⟩ := h55
      refine dp_isub C dX6_count_58 ?_
      refine dp_iret C hret dX6_count_59 ?_
      refine ⟨?_, rfl⟩
      unfold coF
      repeat (first | rw [if_neg (by omega)] | rw [if_pos (by omega)])
    · skip
      refine dp_aload_n C dX6_count_60 rfl ?_
      refine dp_getf C (k := 0) (dp_mC (by decide)) dp_xdp rfl hX6 (by decide) (List.mem_of_getElem? (i := 1) rfl) rfl dX6_count_61 ?_
      refine dp_iconst C dX6_count_64 ?_
      refine dp_cVi C (c_X2_targetsIn C.2.2.1 l h07 ⟨by omega, by omega⟩ hv) gX6_count_X2_targetsIn rfl (dp_mS ‹_› (by decide)) (dp_xst ‹_›) rfl yyX2_targetsIn rfl ⟨Nat.le_of_ble_eq_true rfl, Nat.le_of_ble_eq_true rfl⟩ rfl (Nat.le_of_ble_eq_true rfl) rfl ⟨Nat.zero_le _, Nat.zero_le _⟩ dX6_count_65 (fun x65 M65 h65 => ?_)
      obtain ⟨rfl, rfl⟩ := h65
      refine dp_iret C hret dX6_count_68 ?_
      refine ⟨?_, rfl⟩
      unfold coF
      repeat (first | rw [if_neg (by omega)] | rw [if_pos (by omega)])
    · skip
      refine dp_aload_n C dX6_count_69 rfl ?_
      refine dp_getf C (k := 0) (dp_mC (by decide)) dp_xdp rfl hX6 (by decide) (List.mem_of_getElem? (i := 1) rfl) rfl dX6_count_70 ?_
      refine dp_iconst C dX6_count_73 ?_
      refine dp_cVi C (c_X2_targetsIn C.2.2.1 l h07 ⟨by omega, by omega⟩ hv) gX6_count_X2_targetsIn rfl (dp_mS ‹_› (by decide)) (dp_xst ‹_›) rfl yyX2_targetsIn rfl ⟨Nat.le_of_ble_eq_true rfl, Nat.le_of_ble_eq_true rfl⟩ rfl (Nat.le_of_ble_eq_true rfl) rfl ⟨Nat.zero_le _, Nat.zero_le _⟩ dX6_count_74 (fun x74 M74 h74 => ?_)
      obtain ⟨rfl, rfl⟩ := h74
      refine dp_iret C hret dX6_count_77 ?_
      refine ⟨?_, rfl⟩
      unfold coF
      repeat (first | rw [if_neg (by omega)] | rw [if_pos (by omega)])
    · skip
      refine dp_aload_n C dX6_count_78 rfl ?_
      refine dp_getf C (k := 0) (dp_mC (by decide)) dp_xdp rfl hX6 (by decide) (List.mem_of_getElem? (i := 1) rfl) rfl dX6_count_79 ?_
      refine dp_iconst C dX6_count_82 ?_
      refine dp_cVi C (c_X2_targetsIn C.2.2.1 l h07 ⟨by omega, by omega⟩ hv) gX6_count_X2_targetsIn rfl (dp_mS ‹_› (by decide)) (dp_xst ‹_›) rfl yyX2_targetsIn rfl ⟨Nat.le_of_ble_eq_true rfl, Nat.le_of_ble_eq_true rfl⟩ rfl (Nat.le_of_ble_eq_true rfl) rfl ⟨Nat.zero_le _, Nat.zero_le _⟩ dX6_count_83 (fun x83 M83 h83 => ?_)
      obtain ⟨rfl, rfl⟩ := h83
      refine dp_iret C hret dX6_count_86 ?_
      refine ⟨?_, rfl⟩
      unfold coF
      repeat (first | rw [if_neg (by omega)] | rw [if_pos (by omega)])
    · skip
      refine dp_aload_n C dX6_count_87 rfl ?_
      refine dp_getf C (k := 0) (dp_mC (by decide)) dp_xdp rfl hX6 (by decide) (List.mem_of_getElem? (i := 1) rfl) rfl dX6_count_88 ?_
      refine dp_cVi C (c_X2_numberUnderWay C.2.2.1 l h07 hv) gX6_count_X2_numberUnderWay rfl (dp_mS ‹_› (by decide)) (dp_xst ‹_›) rfl yyX2_numberUnderWay rfl ⟨Nat.le_of_ble_eq_true rfl, Nat.le_of_ble_eq_true rfl⟩ rfl (Nat.le_of_ble_eq_true rfl) rfl ⟨Nat.zero_le _, Nat.zero_le _⟩ dX6_count_91 (fun x91 M91 h91 => ?_)
      obtain ⟨rfl, rfl⟩ := h91
      refine dp_cSi C (c_X6_foundTarget C.2.2.1 l ⟨by omega, by omega⟩) gX6_count_X6_foundTarget rfl yyX6_foundTarget rfl ⟨Nat.le_of_ble_eq_true rfl, Nat.le_of_ble_eq_true rfl⟩ rfl (Nat.le_of_ble_eq_true rfl) rfl ⟨Nat.zero_le _, Nat.zero_le _⟩ dX6_count_94 (fun x94 M94 h94 => ?_)
      obtain ⟨rfl, rfl⟩ := h94
      refine dp_iret C hret dX6_count_97 ?_
      refine ⟨?_, rfl⟩
      unfold coF
      repeat (first | rw [if_neg (by omega)] | rw [if_pos (by omega)])
    · skip
      refine dp_aload_n C dX6_count_98 rfl ?_
      refine dp_getf C (k := 0) (dp_mC (by decide)) dp_xdp rfl hX6 (by decide) (List.mem_of_getElem? (i := 1) rfl) rfl dX6_count_99 ?_
      refine dp_cVi C (c_X2_minutesUntilDone C.2.2.1 l h07 hv) gX6_count_X2_minutesUntilDone rfl (dp_mS ‹_› (by decide)) (dp_xst ‹_›) rfl yyX2_minutesUntilDone rfl ⟨Nat.le_of_ble_eq_true rfl, Nat.le_of_ble_eq_true rfl⟩ rfl (Nat.le_of_ble_eq_true rfl) rfl ⟨Nat.zero_le _, Nat.zero_le _⟩ dX6_count_102 (fun x102 M102 h102 => ?_)
      obtain ⟨rfl, rfl⟩ := h102
      refine dp_iret C hret dX6_count_105 ?_
      refine ⟨?_, rfl⟩
      unfold coF
      repeat (first | rw [if_neg (by omega)] | rw [if_pos (by omega)])
    · skip
      refine dp_aload_n C dX6_count_106 rfl ?_
      refine dp_getf C (k := 2) (dp_mC (by decide)) dp_xdp rfl hX6 (by decide) (List.mem_of_getElem? (i := 2) rfl) rfl dX6_count_107 ?_
      refine dp_c7 ?_
      refine dp_getf C (k := 1) (dp_mC (by decide)) dp_xhi rfl hX1 (by decide) (List.mem_of_getElem? (i := 3) rfl) rfl dX6_count_110 ?_
      refine dp_c0 ?_
      refine dp_iret C hret dX6_count_113 ?_
      refine ⟨?_, rfl⟩
      unfold coF
      repeat (first | rw [if_neg (by omega)] | rw [if_pos (by omega)])
    · skip
      refine dp_aload_n C dX6_count_114 rfl ?_
      refine dp_getf C (k := 3) (dp_mC (by decide)) dp_xdp rfl hX6 (by decide) (List.mem_of_getElem? (i := 4) rfl) rfl dX6_count_115 ?_
      refine dp_c7 ?_
      refine dp_getf C (k := 1) (dp_mC (by decide)) dp_xtx rfl hX4 (by decide) (List.mem_of_getElem? (i := 5) rfl) rfl dX6_count_118 ?_
      refine dp_c0 ?_
      refine dp_iret C hret dX6_count_121 ?_
      refine ⟨?_, rfl⟩
      unfold coF
      repeat (first | rw [if_neg (by omega)] | rw [if_pos (by omega)])
theorem yyX6_axis : yX6_axis.cls = RX6 ∧ yX6_axis.cls ≠ "java/lang/invoke/MethodHandle" ∧ yX6_axis.cls ≠ "java/lang/invoke/VarHandle" ∧ (parseMethodDescriptor yX6_axis.desc).map (fun d => d.parameters.length) = some 2 := by decide +kernel
set_option maxHeartbeats 4000000 in
set_option maxRecDepth 100000 in
theorem c_X6_axis {E : dp_E} (hE : dp_OK E) (l : Launch) {M : dp_M} {V Y X : dp_V} {a k : Int} (hv : ivC V) (ha : dp_R a) (hk : dp_R k) : dp_met E l yX6_axis wsX6_axis 2 41 [.ref (eAd E 7 0), .int (dp_I a), .int (dp_I k)] (dS (dR M 7 X) 0 V Y) (dp_qi E (fun y M1 => y = (if 0 ≤ a ∧ a ≤ 1 then axT (axC a) (V (axC a)) k else -100001) ∧ M1 = dS (dR M 7 X) 0 V Y)) := by
  refine dp_of (cc := cX6_axis) (nL := 3) (own := RX6) (ret := some (.int)) (by decide +kernel) rfl rfl hE (by simp [Value.category]) (Nat.le_of_ble_eq_true rfl) ?_
  intro p e s m below meth co C hret
  show dp_G _ _ _ _ _ _ _ _ _ _ _ _ _ _ _ _ _ [some (.ref (eAd E 7 0)), some (.int (dp_I a)), some (.int (dp_I k))] _
  have hX6 : ∀ w ∈ u_ws RX6 TX6 4, w ∈ wsX6_axis := fun w h => List.mem_cons_of_mem _ (List.mem_append_left _ (List.mem_append_left _ (List.mem_append_right _ (h))))
  have h07 : 0 < 7 := by decide
  unfold dp_R at ha hk
  refine dp_iload_n C dX6_axis_0 rfl ?_
  refine dp_iconst C dX6_axis_1 ?_
  refine dp_iconst C dX6_axis_2 ?_
  refine dp_cSi C (c_X6_isBetween C.2.2.1 l ⟨by omega, by omega⟩ ⟨by omega, by omega⟩ ⟨by omega, by omega⟩) gX6_axis_X6_isBetween rfl yyX6_isBetween rfl ⟨Nat.le_of_ble_eq_true rfl, Nat.le_of_ble_eq_true rfl⟩ rfl (Nat.le_of_ble_eq_true rfl) rfl ⟨Nat.zero_le _, Nat.zero_le _⟩ dX6_axis_3 (fun x3 M3 h3 => ?_)
  obtain ⟨rfl, rfl⟩ := h3
  refine dp_ifz_ne (tgt := 12) C dX6_axis_6 (by decide) (fun c6 => ?_) (fun c6 => ?_)
  · skip
    refine dp_aload_n C dX6_axis_12 rfl ?_
    refine dp_getf C (k := 0) (dp_mC (by decide)) dp_xdp rfl hX6 (by decide) (List.mem_of_getElem? (i := 2) rfl) rfl dX6_axis_13 ?_
    refine dp_iload_n C dX6_axis_16 rfl ?_
    refine dp_cVr C (c_X2_axisNumber C.2.2.1 l h07 ⟨by omega, by omega⟩) gX6_axis_X2_axisNumber rfl (dp_mS ‹_› (by decide)) (dp_xst ‹_›) rfl yyX2_axisNumber rfl ⟨Nat.le_of_ble_eq_true rfl, Nat.le_of_ble_eq_true rfl⟩ rfl (Nat.le_of_ble_eq_true rfl) rfl ⟨Nat.zero_le _, Nat.zero_le _⟩ dX6_axis_17 (fun r17 q17 M17 h17 => ?_)
    obtain ⟨rfl, ha1, ha2, rfl⟩ := h17
    obtain rfl : q17 = axC a := by unfold axC; split <;> omega
    refine dp_iload_n C dX6_axis_20 rfl ?_
    refine dp_cVi C (c_X0_tell C.2.2.1 l ‹_› axC_or ⟨by omega, by omega⟩) gX6_axis_X0_tell rfl (dp_mS ‹_› (dp_cA axC_or)) (dp_xax ‹_› axC_or) rfl yyX0_tell rfl ⟨Nat.le_of_ble_eq_true rfl, Nat.le_of_ble_eq_true rfl⟩ rfl (Nat.le_of_ble_eq_true rfl) rfl ⟨Nat.zero_le _, Nat.zero_le _⟩ dX6_axis_21 (fun x21 M21 h21 => ?_)
    obtain ⟨rfl, rfl⟩ := h21
    refine dp_iret C hret dX6_axis_24 ?_
    first | exact ⟨(if_pos (by omega)).symm, rfl⟩ | exact ⟨(if_neg (by omega)).symm, rfl⟩
  · skip
    refine dp_ldc C (-100001) (List.mem_of_getElem? (i := 1) rfl) rfl dX6_axis_9 ?_
    refine dp_iret C hret dX6_axis_11 ?_
    first | exact ⟨(if_pos (by omega)).symm, rfl⟩ | exact ⟨(if_neg (by omega)).symm, rfl⟩
theorem yyX6_slew : yX6_slew.cls = RX6 ∧ yX6_slew.cls ≠ "java/lang/invoke/MethodHandle" ∧ yX6_slew.cls ≠ "java/lang/invoke/VarHandle" ∧ (parseMethodDescriptor yX6_slew.desc).map (fun d => d.parameters.length) = some 2 := by decide +kernel
set_option maxHeartbeats 4000000 in
set_option maxRecDepth 100000 in
theorem c_X6_slew {E : dp_E} (hE : dp_OK E) (l : Launch) {M : dp_M} {V Y X : dp_V} {z el : Int} (hv : ivC V) (hH : hOK X) (hz : dp_R z) (he : dp_R el) : dp_met E l yX6_slew wsX6_slew 4 86 [.ref (eAd E 7 0), .int (dp_I z), .int (dp_I el)] (dS (dR M 7 X) 0 V Y) (dp_qi E (fun y M1 => y = (if (0 ≤ z ∧ z ≤ 35999) ∧ 500 ≤ el ∧ el ≤ 9000 then (if uwF V = -1 ∧ ¬ kdF V = 0 ∧ ¬ wyP 3 (V 3) (apF V z) (V 1 0) = 0 ∧ ¬ wyP 4 (V 4) el (V 1 0) = 0 then tmF V (apF V z) el else -100002) else -100001) ∧ ∃ Y', M1 = (if ((0 ≤ z ∧ z ≤ 35999) ∧ 500 ≤ el ∧ el ≤ 9000) ∧ uwF V = -1 ∧ ¬ kdF V = 0 ∧ ¬ wyP 3 (V 3) (apF V z) (V 1 0) = 0 ∧ ¬ wyP 4 (V 4) el (V 1 0) = 0 then rM M V Y' X (slV V (apF V z) el) else dS (dR M 7 X) 0 V Y'))) := by
  refine dp_of (cc := cX6_slew) (nL := 5) (own := RX6) (ret := some (.int)) (by decide +kernel) rfl rfl hE (by simp [Value.category]) (Nat.le_of_ble_eq_true rfl) ?_
  intro p e s m below meth co C hret
  show dp_G _ _ _ _ _ _ _ _ _ _ _ _ _ _ _ _ _ [some (.ref (eAd E 7 0)), some (.int (dp_I z)), some (.int (dp_I el)), none, none] _
  have hX5 : ∀ w ∈ u_ws RX5 TX5 7, w ∈ wsX6_slew := fun w h => List.mem_cons_of_mem _ (List.mem_append_left _ (List.mem_append_left _ (List.mem_append_left _ (List.mem_append_left _ (List.mem_append_right _ (h))))))
  have hX6 : ∀ w ∈ u_ws RX6 TX6 4, w ∈ wsX6_slew := fun w h => List.mem_cons_of_mem _ (List.mem_append_left _ (List.mem_append_left _ (List.mem_append_left _ (List.mem_append_left _ (List.mem_append_left _ (List.mem_append_right _ (h)))))))
  have h07 : 0 < 7 := by decide
  have hJ := rcJ_ok hH
  unfold dp_R at hz he
  have h1 := hv.1.2.1
  have hu := @uwF_bd V
  have hk := @kdF_bd V
  refine dp_iload_n C dX6_slew_0 rfl ?_
  refine dp_iconst C dX6_slew_1 ?_
  refine dp_ldc C (35999) (List.mem_of_getElem? (i := 1) rfl) rfl dX6_slew_2 ?_
  refine dp_cSi C (c_X6_isBetween C.2.2.1 l ⟨by omega, by omega⟩ ⟨by omega, by omega⟩ ⟨by omega, by omega⟩) gX6_slew_X6_isBetween rfl yyX6_isBetween rfl ⟨Nat.le_of_ble_eq_true rfl, Nat.le_of_ble_eq_true rfl⟩ rfl (Nat.le_of_ble_eq_true rfl) rfl ⟨Nat.zero_le _, Nat.zero_le _⟩ dX6_slew_4 (fun x4 M4 h4 => ?_)
  obtain ⟨rfl, rfl⟩ := h4
  refine dp_ifz_eq (tgt := 23) C dX6_slew_7 (by decide) (fun c7 => ?_) (fun c7 => ?_)
  · skip
    refine dp_ldc C (-100001) (List.mem_of_getElem? (i := 2) rfl) rfl dX6_slew_23 ?_
    refine dp_iret C hret dX6_slew_25 ?_
    first | exact ⟨by rw [if_pos (by omega), if_pos (by omega)]; rfl, _, by rw [if_pos (by omega)]; rfl⟩ | exact ⟨by rw [if_pos (by omega), if_neg (by omega)], _, by rw [if_neg (by omega)]⟩ | exact ⟨by rw [if_neg (by omega)], _, by rw [if_neg (by omega)]⟩
  · skip
    refine dp_iload_n C dX6_slew_10 rfl ?_
    refine dp_sipush C dX6_slew_11 (by decide) ?_
    refine dp_sipush C dX6_slew_14 (by decide) ?_
    refine dp_cSi C (c_X6_isBetween C.2.2.1 l ⟨by omega, by omega⟩ ⟨by omega, by omega⟩ ⟨by omega, by omega⟩) gX6_slew_X6_isBetween rfl yyX6_isBetween rfl ⟨Nat.le_of_ble_eq_true rfl, Nat.le_of_ble_eq_true rfl⟩ rfl (Nat.le_of_ble_eq_true rfl) rfl ⟨Nat.zero_le _, Nat.zero_le _⟩ dX6_slew_17 (fun x17 M17 h17 => ?_)
    obtain ⟨rfl, rfl⟩ := h17
    refine dp_ifz_ne (tgt := 26) C dX6_slew_20 (by decide) (fun c20 => ?_) (fun c20 => ?_)
    · skip
      refine dp_aload_n C dX6_slew_26 rfl ?_
      refine dp_getf C (k := 0) (dp_mC (by decide)) dp_xdp rfl hX6 (by decide) (List.mem_of_getElem? (i := 3) rfl) rfl dX6_slew_27 ?_
      refine dp_cVi C (c_X2_numberUnderWay C.2.2.1 l h07 hv) gX6_slew_X2_numberUnderWay rfl (dp_mS ‹_› (by decide)) (dp_xst ‹_›) rfl yyX2_numberUnderWay rfl ⟨Nat.le_of_ble_eq_true rfl, Nat.le_of_ble_eq_true rfl⟩ rfl (Nat.le_of_ble_eq_true rfl) rfl ⟨Nat.zero_le _, Nat.zero_le _⟩ dX6_slew_30 (fun x30 M30 h30 => ?_)
      obtain ⟨rfl, rfl⟩ := h30
      refine dp_iconst C dX6_slew_33 ?_
      refine dp_icmp_ne (tgt := 47) C dX6_slew_34 (by decide) ⟨by omega, by omega⟩ ⟨by omega, by omega⟩ (fun c34 => ?_) (fun c34 => ?_)
      · skip
        refine dp_ldc C (-100002) (List.mem_of_getElem? (i := 4) rfl) rfl dX6_slew_47 ?_
        refine dp_iret C hret dX6_slew_49 ?_
        first | exact ⟨by rw [if_pos (by omega), if_pos (by omega)]; rfl, _, by rw [if_pos (by omega)]; rfl⟩ | exact ⟨by rw [if_pos (by omega), if_neg (by omega)], _, by rw [if_neg (by omega)]⟩ | exact ⟨by rw [if_neg (by omega)], _, by rw [if_neg (by omega)]⟩
      · skip
        refine dp_aload_n C dX6_slew_37 rfl ?_
        refine dp_getf C (k := 0) (dp_mC (by decide)) dp_xdp rfl hX6 (by decide) (List.mem_of_getElem? (i := 3) rfl) rfl dX6_slew_38 ?_
        refine dp_cVi C (c_X2_kindOfDay C.2.2.1 l h07 hv.1) gX6_slew_X2_kindOfDay rfl (dp_mS ‹_› (by decide)) (dp_xst ‹_›) rfl yyX2_kindOfDay rfl ⟨Nat.le_of_ble_eq_true rfl, Nat.le_of_ble_eq_true rfl⟩ rfl (Nat.le_of_ble_eq_true rfl) rfl ⟨Nat.zero_le _, Nat.zero_le _⟩ dX6_slew_41 (fun x41 M41 h41 => ?_)
        obtain ⟨rfl, rfl⟩ := h41
        refine dp_if_ne (tgt := 50) C dX6_slew_44 (by decide) ⟨by omega, by omega⟩ (fun c44 => ?_) (fun c44 => ?_)
        · skip
          refine dp_aload_n C dX6_slew_50 rfl ?_
          refine dp_getf C (k := 0) (dp_mC (by decide)) dp_xdp rfl hX6 (by decide) (List.mem_of_getElem? (i := 3) rfl) rfl dX6_slew_51 ?_
          refine dp_iload_n C dX6_slew_54 rfl ?_
          refine dp_cVr C (c_X2_wayAround C.2.2.1 l h07 hv.1 (by omega)) gX6_slew_X2_wayAround rfl (dp_mS ‹_› (by decide)) (dp_xst ‹_›) rfl yyX2_wayAround rfl ⟨Nat.le_of_ble_eq_true rfl, Nat.le_of_ble_eq_true rfl⟩ rfl (Nat.le_of_ble_eq_true rfl) rfl ⟨Nat.zero_le _, Nat.zero_le _⟩ dX6_slew_55 (fun r55 q55 M55 h55 => ?_)
          obtain ⟨rfl, Y1, rfl, h18, hc1, hW1⟩ := h55
          have ha := @apF_bd V z (by omega)
          have hc9 : q55 = 16 ∨ q55 = 17 ∨ q55 = 18 := by omega
          have hP := @wyP_bd 3 (V 3) (apF V z) (V 1 0)
          have hc8 : q55 ≠ 18 := by omega
          refine dp_astore_n C dX6_slew_58 (Nat.le_of_ble_eq_true rfl) ?_
          dsimp only [List.set]
          refine dp_aload_n C dX6_slew_59 rfl ?_
          refine dp_getf C (k := 0) (dp_mC (by decide)) dp_xdp rfl hX6 (by decide) (List.mem_of_getElem? (i := 3) rfl) rfl dX6_slew_60 ?_
          refine dp_iload_n C dX6_slew_63 rfl ?_
          refine dp_cVr C (c_X2_wayRise C.2.2.1 l ‹_› hv.1 (by omega)) gX6_slew_X2_wayRise rfl (dp_mS ‹_› (by decide)) (dp_xst ‹_›) rfl yyX2_wayRise rfl ⟨Nat.le_of_ble_eq_true rfl, Nat.le_of_ble_eq_true rfl⟩ rfl (Nat.le_of_ble_eq_true rfl) rfl ⟨Nat.zero_le _, Nat.zero_le _⟩ dX6_slew_64 (fun r64 q64 M64 h64 => ?_)
          obtain ⟨rfl, rfl, Y2, rfl, hY2, hW2⟩ := h64
          rw [← hY2 _ hc8] at hW1
          have hP2 := @wyP_bd 4 (V 4) el (V 1 0)
          refine dp_astore C dX6_slew_67 (Nat.le_of_ble_eq_true rfl) ?_
          dsimp only [List.set]
          refine dp_aload_n C dX6_slew_69 rfl ?_
          refine dp_getf C (k := 6) (dp_mS ‹_› (dp_cW hc9)) (dp_xwy ‹_› hc9) rfl hX5 (by decide) (List.mem_of_getElem? (i := 5) rfl) rfl dX6_slew_70 ?_
          rw [hW1.2.2.2.2.2.2]
          refine dp_if_eq (tgt := 84) C dX6_slew_73 (by decide) ⟨by omega, by omega⟩ (fun c73 => ?_) (fun c73 => ?_)
          · skip
            refine dp_ldc C (-100002) (List.mem_of_getElem? (i := 4) rfl) rfl dX6_slew_84 ?_
            refine dp_iret C hret dX6_slew_86 ?_
            first | exact ⟨by rw [if_pos (by omega), if_pos (by omega)]; rfl, _, by rw [if_pos (by omega)]; rfl⟩ | exact ⟨by rw [if_pos (by omega), if_neg (by omega)], _, by rw [if_neg (by omega)]⟩ | exact ⟨by rw [if_neg (by omega)], _, by rw [if_neg (by omega)]⟩
          · skip
            refine dp_aload C dX6_slew_76 rfl ?_
            refine dp_getf C (k := 6) (dp_mS ‹_› (dp_cW (Or.inr (Or.inr rfl)))) (dp_xwy ‹_› (Or.inr (Or.inr rfl))) rfl hX5 (by decide) (List.mem_of_getElem? (i := 5) rfl) rfl dX6_slew_78 ?_
            rw [hW2.2.2.2.2.2.2]
            refine dp_if_ne (tgt := 87) C dX6_slew_81 (by decide) ⟨by omega, by omega⟩ (fun c81 => ?_) (fun c81 => ?_)
            · skip
              refine dp_aload_n C dX6_slew_87 rfl ?_
              refine dp_getf C (k := 2) (dp_mC (by decide)) dp_xdp rfl hX6 (by decide) (List.mem_of_getElem? (i := 6) rfl) rfl dX6_slew_88 ?_
              refine dp_aload_n C dX6_slew_91 rfl ?_
              refine dp_getf C (k := 0) (dp_mC (by decide)) dp_xdp rfl hX6 (by decide) (List.mem_of_getElem? (i := 3) rfl) rfl dX6_slew_92 ?_
              refine dp_c7 ?_
              refine dp_cVv C (c_X1_record C.2.2.1 l hH (by rw [dS_V]; exact hv.2.2)) gX6_slew_X1_record rfl (dp_mC (by decide)) dp_xhi rfl yyX1_record rfl ⟨Nat.le_of_ble_eq_true rfl, Nat.le_of_ble_eq_true rfl⟩ rfl (Nat.le_of_ble_eq_true rfl) rfl ⟨Nat.zero_le _, Nat.zero_le _⟩ dX6_slew_95 (fun M95 h95 => ?_)
              obtain rfl := h95
              rw [rc_c hJ]
              refine dp_c0 ?_
              refine dp_aload_n C dX6_slew_98 rfl ?_
              refine dp_getf C (k := 0) (dp_mC (by decide)) dp_xdp rfl hX6 (by decide) (List.mem_of_getElem? (i := 3) rfl) rfl dX6_slew_99 ?_
              refine dp_aload_n C dX6_slew_102 rfl ?_
              refine dp_aload C dX6_slew_103 rfl ?_
              refine dp_cVi C (c_X2_followWays C.2.2.1 l ‹_› hv.1 hc9 hW1 hW2 (by assumption) (by assumption) (by omega) (by omega)) gX6_slew_X2_followWays rfl (dp_mS ‹_› (by decide)) (dp_xst ‹_›) rfl yyX2_followWays rfl ⟨Nat.le_of_ble_eq_true rfl, Nat.le_of_ble_eq_true rfl⟩ rfl (Nat.le_of_ble_eq_true rfl) rfl ⟨Nat.zero_le _, Nat.zero_le _⟩ dX6_slew_105 (fun x105 M105 h105 => ?_)
              obtain ⟨rfl, rfl⟩ := h105
              refine dp_iret C hret dX6_slew_108 ?_
              first | exact ⟨by rw [if_pos (by omega), if_pos (by omega)]; rfl, _, by rw [if_pos (by omega)]; rfl⟩ | exact ⟨by rw [if_pos (by omega), if_neg (by omega)], _, by rw [if_neg (by omega)]⟩ | exact ⟨by rw [if_neg (by omega)], _, by rw [if_neg (by omega)]⟩
            · skip
              refine dp_ldc C (-100002) (List.mem_of_getElem? (i := 4) rfl) rfl dX6_slew_84 ?_
              refine dp_iret C hret dX6_slew_86 ?_
              first | exact ⟨by rw [if_pos (by omega), if_pos (by omega)]; rfl, _, by rw [if_pos (by omega)]; rfl⟩ | exact ⟨by rw [if_pos (by omega), if_neg (by omega)], _, by rw [if_neg (by omega)]⟩ | exact ⟨by rw [if_neg (by omega)], _, by rw [if_neg (by omega)]⟩
        · skip
          refine dp_ldc C (-100002) (List.mem_of_getElem? (i := 4) rfl) rfl dX6_slew_47 ?_
          refine dp_iret C hret dX6_slew_49 ?_
          first | exact ⟨by rw [if_pos (by omega), if_pos (by omega)]; rfl, _, by rw [if_pos (by omega)]; rfl⟩ | exact ⟨by rw [if_pos (by omega), if_neg (by omega)], _, by rw [if_neg (by omega)]⟩ | exact ⟨by rw [if_neg (by omega)], _, by rw [if_neg (by omega)]⟩
    · skip
      refine dp_ldc C (-100001) (List.mem_of_getElem? (i := 2) rfl) rfl dX6_slew_23 ?_
      refine dp_iret C hret dX6_slew_25 ?_
      first | exact ⟨by rw [if_pos (by omega), if_pos (by omega)]; rfl, _, by rw [if_pos (by omega)]; rfl⟩ | exact ⟨by rw [if_pos (by omega), if_neg (by omega)], _, by rw [if_neg (by omega)]⟩ | exact ⟨by rw [if_neg (by omega)], _, by rw [if_neg (by omega)]⟩
theorem yyX6_isWound : yX6_isWound.cls = RX6 ∧ yX6_isWound.cls ≠ "java/lang/invoke/MethodHandle" ∧ yX6_isWound.cls ≠ "java/lang/invoke/VarHandle" ∧ (parseMethodDescriptor yX6_isWound.desc).map (fun d => d.parameters.length) = some 0 := by decide +kernel
set_option maxHeartbeats 4000000 in
set_option maxRecDepth 100000 in
theorem c_X6_isWound {E : dp_E} (hE : dp_OK E) (l : Launch) {M : dp_M} {V Y X : dp_V} (hv : ivC V) : dp_met E l yX6_isWound wsX6_isWound 1 21 [.ref (eAd E 7 0)] (dS (dR M 7 X) 0 V Y) (dp_qi E (fun y M1 => y = dp_b (V 1 1 < ab (V 3 3)) ∧ M1 = dS (dR M 7 X) 0 V Y)) := by
  refine dp_of (cc := cX6_isWound) (nL := 1) (own := RX6) (ret := some (.int)) (by decide +kernel) rfl rfl hE (by simp [Value.category]) (Nat.le_of_ble_eq_true rfl) ?_
  intro p e s m below meth co C hret
  show dp_G _ _ _ _ _ _ _ _ _ _ _ _ _ _ _ _ _ [some (.ref (eAd E 7 0))] _
  have hX0 : ∀ w ∈ u_ws RX0 TX0 10, w ∈ wsX6_isWound := fun w h => List.mem_cons_of_mem _ (List.mem_append_right _ (h))
  have hX2 : ∀ w ∈ u_ws RX2 TX2 11, w ∈ wsX6_isWound := fun w h => List.mem_cons_of_mem _ (List.mem_append_left _ (List.mem_append_right _ (h)))
  have hX6 : ∀ w ∈ u_ws RX6 TX6 4, w ∈ wsX6_isWound := fun w h => List.mem_cons_of_mem _ (List.mem_append_left _ (List.mem_append_left _ (List.mem_append_right _ (h))))
  have h07 : 0 < 7 := by decide
  have h1 := hv.1.2.1
  have hA := hv.1.2.2.2.1
  unfold ivA at hA
  have hb := @ax_bd 3
  have hab : 0 ≤ ab (V 3 3) ∧ ab (V 3 3) ≤ 27000 := by unfold ab; split <;> omega
  refine dp_aload_n C dX6_isWound_0 rfl ?_
  refine dp_getf C (k := 0) (dp_mC (by decide)) dp_xdp rfl hX6 (by decide) (List.mem_of_getElem? (i := 1) rfl) rfl dX6_isWound_1 ?_
  refine dp_getf C (k := 5) (dp_mS ‹_› (by decide)) (dp_xst ‹_›) rfl hX2 (by decide) (List.mem_of_getElem? (i := 2) rfl) rfl dX6_isWound_4 ?_
  refine dp_getf C (k := 6) (dp_mS ‹_› (dp_cA (Or.inl rfl))) (dp_xax ‹_› (Or.inl rfl)) rfl hX0 (by decide) (List.mem_of_getElem? (i := 3) rfl) rfl dX6_isWound_7 ?_
  refine dp_mabs C ⟨by omega, by omega⟩ (List.mem_of_getElem? (i := 4) rfl) (List.mem_of_getElem? (i := 5) rfl) (List.mem_of_getElem? (i := 6) rfl) (List.mem_of_getElem? (i := 7) rfl) (Nat.le_of_ble_eq_true rfl) (Nat.le_of_ble_eq_true rfl) (Nat.le_of_ble_eq_true rfl) rfl ⟨Nat.zero_le _, Nat.zero_le _⟩ dX6_isWound_10 ?_
  show dp_G _ _ _ _ _ _ _ _ _ _ _ _ _ _ _ _ _ _ (.int (dp_I (ab (V 3 3))) :: _)
  refine dp_aload_n C dX6_isWound_13 rfl ?_
  refine dp_getf C (k := 0) (dp_mC (by decide)) dp_xdp rfl hX6 (by decide) (List.mem_of_getElem? (i := 1) rfl) rfl dX6_isWound_14 ?_
  refine dp_getf C (k := 3) (dp_mS ‹_› (by decide)) (dp_xst ‹_›) rfl hX2 (by decide) (List.mem_of_getElem? (i := 8) rfl) rfl dX6_isWound_17 ?_
  refine dp_iconst C dX6_isWound_20 ?_
  refine dp_ald_se C ‹_› (j := 1) ⟨by omega, by omega⟩ rfl dX6_isWound_21 ?_
  refine dp_icmp_le (tgt := 29) C dX6_isWound_22 (by decide) ⟨by omega, by omega⟩ ⟨by omega, by omega⟩ (fun c22 => ?_) (fun c22 => ?_)
  · skip
    refine dp_iconst C dX6_isWound_29 ?_
    refine dp_iret C hret dX6_isWound_30 ?_
    exact ⟨by first | exact (dp_b_t (by omega)).symm | exact (dp_b_f (by omega)).symm, rfl⟩
  · skip
    refine dp_iconst C dX6_isWound_25 ?_
    refine dp_goto (tgt := 30) C dX6_isWound_26 (by decide) ?_
    refine dp_iret C hret dX6_isWound_30 ?_
    exact ⟨by first | exact (dp_b_t (by omega)).symm | exact (dp_b_f (by omega)).symm, rfl⟩
theorem yyX6_add : yX6_add.cls = RX6 ∧ yX6_add.cls ≠ "java/lang/invoke/MethodHandle" ∧ yX6_add.cls ≠ "java/lang/invoke/VarHandle" ∧ (parseMethodDescriptor yX6_add.desc).map (fun d => d.parameters.length) = some 6 := by decide +kernel
set_option maxHeartbeats 4000000 in
set_option maxRecDepth 100000 in
theorem c_X6_add {E : dp_E} (hE : dp_OK E) (l : Launch) {M : dp_M} {V Y X : dp_V} {a0 a1 a2 a3 a4 a5 : Int} {n : Nat} (hv : ivC V) (hH : hOK X) (hn : cnF V 4 = 10 - n) (ha0 : dp_R a0) (ha1 : dp_R a1) (ha2 : dp_R a2) (ha3 : dp_R a3) (ha4 : dp_R a4) (ha5 : dp_R a5) : dp_met E l yX6_add wsX6_add 3 64 [.ref (eAd E 7 0), .int (dp_I a0), .int (dp_I a1), .int (dp_I a2), .int (dp_I a3), .int (dp_I a4), .int (dp_I a5)] (dS (dR M 7 X) 0 V Y) (dp_qi E (fun y M1 => y = (if irF a0 a1 a2 a3 a4 a5 = 0 then -100001 else if n = 10 then -100003 else (n : Int)) ∧ M1 = (if irF a0 a1 a2 a3 a4 a5 = 0 then dS (dR M 7 X) 0 V Y else if n = 10 then dS (dR M 7 X) 0 V Y else rM M V Y X (aqV V n a0 a1 a2 a3 a4 a5)))) := by
  refine dp_of (cc := cX6_add) (nL := 7) (own := RX6) (ret := some (.int)) (by decide +kernel) rfl rfl hE (by simp [Value.category]) (Nat.le_of_ble_eq_true rfl) ?_
  intro p e s m below meth co C hret
  show dp_G _ _ _ _ _ _ _ _ _ _ _ _ _ _ _ _ _ [some (.ref (eAd E 7 0)), some (.int (dp_I a0)), some (.int (dp_I a1)), some (.int (dp_I a2)), some (.int (dp_I a3)), some (.int (dp_I a4)), some (.int (dp_I a5))] _
  have hX6 : ∀ w ∈ u_ws RX6 TX6 4, w ∈ wsX6_add := fun w h => List.mem_cons_of_mem _ (List.mem_append_left _ (List.mem_append_left _ (List.mem_append_left _ (List.mem_append_left _ (List.mem_append_right _ (h))))))
  have h07 : 0 < 7 := by decide
  have hJ := rcJ_ok hH
  unfold dp_R at ha0 ha1 ha2 ha3 ha4 ha5
  have hb := @cnF_bd V 4
  have hi : 0 ≤ irF a0 a1 a2 a3 a4 a5 ∧ irF a0 a1 a2 a3 a4 a5 ≤ 1 := dp_b_bd
  refine dp_iload_n C dX6_add_0 rfl ?_
  refine dp_iload_n C dX6_add_1 rfl ?_
  refine dp_iload_n C dX6_add_2 rfl ?_
  refine dp_iload C dX6_add_3 rfl ?_
  refine dp_iload C dX6_add_5 rfl ?_
  refine dp_iload C dX6_add_7 rfl ?_
  refine dp_cSi C (c_X6_isTargetInRange C.2.2.1 l ⟨by omega, by omega⟩ ⟨by omega, by omega⟩ ⟨by omega, by omega⟩ ⟨by omega, by omega⟩ ⟨by omega, by omega⟩ ⟨by omega, by omega⟩) gX6_add_X6_isTargetInRange rfl yyX6_isTargetInRange rfl ⟨Nat.le_of_ble_eq_true rfl, Nat.le_of_ble_eq_true rfl⟩ rfl (Nat.le_of_ble_eq_true rfl) rfl ⟨Nat.zero_le _, Nat.zero_le _⟩ dX6_add_9 (fun x9 M9 h9 => ?_)
  obtain ⟨rfl, rfl⟩ := h9
  refine dp_if_ne (tgt := 18) C dX6_add_12 (by decide) ⟨by omega, by omega⟩ (fun c12 => ?_) (fun c12 => ?_)
  · skip
    refine dp_aload_n C dX6_add_18 rfl ?_
    refine dp_getf C (k := 0) (dp_mC (by decide)) dp_xdp rfl hX6 (by decide) (List.mem_of_getElem? (i := 2) rfl) rfl dX6_add_19 ?_
    refine dp_iconst C dX6_add_22 ?_
    refine dp_cVi C (c_X2_targetsIn C.2.2.1 l h07 ⟨by omega, by omega⟩ hv) gX6_add_X2_targetsIn rfl (dp_mS ‹_› (by decide)) (dp_xst ‹_›) rfl yyX2_targetsIn rfl ⟨Nat.le_of_ble_eq_true rfl, Nat.le_of_ble_eq_true rfl⟩ rfl (Nat.le_of_ble_eq_true rfl) rfl ⟨Nat.zero_le _, Nat.zero_le _⟩ dX6_add_23 (fun x23 M23 h23 => ?_)
    obtain ⟨rfl, rfl⟩ := h23
    rw [hn]
    refine dp_if_ne (tgt := 32) C dX6_add_26 (by decide) ⟨by omega, by omega⟩ (fun c26 => ?_) (fun c26 => ?_)
    · skip
      refine dp_aload_n C dX6_add_32 rfl ?_
      refine dp_getf C (k := 2) (dp_mC (by decide)) dp_xdp rfl hX6 (by decide) (List.mem_of_getElem? (i := 4) rfl) rfl dX6_add_33 ?_
      refine dp_aload_n C dX6_add_36 rfl ?_
      refine dp_getf C (k := 0) (dp_mC (by decide)) dp_xdp rfl hX6 (by decide) (List.mem_of_getElem? (i := 2) rfl) rfl dX6_add_37 ?_
      refine dp_c7 ?_
      refine dp_cVv C (c_X1_record C.2.2.1 l hH (by rw [dS_V]; exact hv.2.2)) gX6_add_X1_record rfl (dp_mC (by decide)) dp_xhi rfl yyX1_record rfl ⟨Nat.le_of_ble_eq_true rfl, Nat.le_of_ble_eq_true rfl⟩ rfl (Nat.le_of_ble_eq_true rfl) rfl ⟨Nat.zero_le _, Nat.zero_le _⟩ dX6_add_40 (fun M40 h40 => ?_)
      obtain rfl := h40
      rw [rc_c hJ]
      refine dp_c0 ?_
      refine dp_aload_n C dX6_add_43 rfl ?_
      refine dp_getf C (k := 0) (dp_mC (by decide)) dp_xdp rfl hX6 (by decide) (List.mem_of_getElem? (i := 2) rfl) rfl dX6_add_44 ?_
      refine dp_iload_n C dX6_add_47 rfl ?_
      refine dp_iload_n C dX6_add_48 rfl ?_
      refine dp_iload_n C dX6_add_49 rfl ?_
      refine dp_iload C dX6_add_50 rfl ?_
      refine dp_iload C dX6_add_52 rfl ?_
      refine dp_iload C dX6_add_54 rfl ?_
      refine dp_cVi C (c_X2_append C.2.2.1 l h07 hv hn (by omega)) gX6_add_X2_append rfl (dp_mS ‹_› (by decide)) (dp_xst ‹_›) rfl yyX2_append rfl ⟨Nat.le_of_ble_eq_true rfl, Nat.le_of_ble_eq_true rfl⟩ rfl (Nat.le_of_ble_eq_true rfl) rfl ⟨Nat.zero_le _, Nat.zero_le _⟩ dX6_add_56 (fun x56 M56 h56 => ?_)
      obtain ⟨rfl, rfl⟩ := h56
      refine dp_iret C hret dX6_add_59 ?_
      first | exact ⟨by rw [if_pos (by assumption)], by rw [if_pos (by assumption)]⟩ | exact ⟨by rw [if_neg (by assumption), if_pos (by omega)], by rw [if_neg (by assumption), if_pos (by omega)]⟩ | exact ⟨by rw [if_neg (by assumption), if_neg (by omega)], by rw [if_neg (by assumption), if_neg (by omega)]; rfl⟩
    · skip
      refine dp_ldc C (-100003) (List.mem_of_getElem? (i := 3) rfl) rfl dX6_add_29 ?_
      refine dp_iret C hret dX6_add_31 ?_
      first | exact ⟨by rw [if_pos (by assumption)], by rw [if_pos (by assumption)]⟩ | exact ⟨by rw [if_neg (by assumption), if_pos (by omega)], by rw [if_neg (by assumption), if_pos (by omega)]⟩ | exact ⟨by rw [if_neg (by assumption), if_neg (by omega)], by rw [if_neg (by assumption), if_neg (by omega)]; rfl⟩
  · skip
    refine dp_ldc C (-100001) (List.mem_of_getElem? (i := 1) rfl) rfl dX6_add_15 ?_
    refine dp_iret C hret dX6_add_17 ?_
    first | exact ⟨by rw [if_pos (by assumption)], by rw [if_pos (by assumption)]⟩ | exact ⟨by rw [if_neg (by assumption), if_pos (by omega)], by rw [if_neg (by assumption), if_pos (by omega)]⟩ | exact ⟨by rw [if_neg (by assumption), if_neg (by omega)], by rw [if_neg (by assumption), if_neg (by omega)]; rfl⟩
theorem yyX6_drop : yX6_drop.cls = RX6 ∧ yX6_drop.cls ≠ "java/lang/invoke/MethodHandle" ∧ yX6_drop.cls ≠ "java/lang/invoke/VarHandle" ∧ (parseMethodDescriptor yX6_drop.desc).map (fun d => d.parameters.length) = some 1 := by decide +kernel
set_option maxHeartbeats 4000000 in
set_option maxRecDepth 100000 in
theorem c_X6_drop {E : dp_E} (hE : dp_OK E) (l : Launch) {M : dp_M} {V Y X : dp_V} {x : Int} (hv : ivC V) (hH : hOK X) (hx : dp_R x) : dp_met E l yX6_drop wsX6_drop 3 64 [.ref (eAd E 7 0), .int (dp_I x)] (dS (dR M 7 X) 0 V Y) (dp_qi E (fun y M1 => y = (if (0 ≤ x ∧ x < 10) ∧ ¬ V (x.toNat + 6) 6 = 4 then (if V (x.toNat + 6) 6 = 1 then -100002 else 10 - cnF (rmV V x.toNat) 4) else -100001) ∧ M1 = (if ((0 ≤ x ∧ x < 10) ∧ ¬ V (x.toNat + 6) 6 = 4) ∧ ¬ V (x.toNat + 6) 6 = 1 then rM M V Y X (rmV V x.toNat) else dS (dR M 7 X) 0 V Y))) := by
  refine dp_of (cc := cX6_drop) (nL := 2) (own := RX6) (ret := some (.int)) (by decide +kernel) rfl rfl hE (by simp [Value.category]) (Nat.le_of_ble_eq_true rfl) ?_
  intro p e s m below meth co C hret
  show dp_G _ _ _ _ _ _ _ _ _ _ _ _ _ _ _ _ _ [some (.ref (eAd E 7 0)), some (.int (dp_I x))] _
  have hX2 : ∀ w ∈ u_ws RX2 TX2 11, w ∈ wsX6_drop := fun w h => List.mem_cons_of_mem _ (List.mem_append_left _ (List.mem_append_left _ (List.mem_append_left _ (List.mem_append_right _ (h)))))
  have hX3 : ∀ w ∈ u_ws RX3 TX3 14, w ∈ wsX6_drop := fun w h => List.mem_cons_of_mem _ (List.mem_append_left _ (List.mem_append_left _ (List.mem_append_right _ (h))))
  have hX6 : ∀ w ∈ u_ws RX6 TX6 4, w ∈ wsX6_drop := fun w h => List.mem_cons_of_mem _ (List.mem_append_left _ (List.mem_append_left _ (List.mem_append_left _ (List.mem_append_left _ (List.mem_append_right _ (h))))))
  have h07 : 0 < 7 := by decide
  have hJ := rcJ_ok hH
  unfold dp_R at hx
  refine dp_aload_n C dX6_drop_0 rfl ?_
  refine dp_getf C (k := 0) (dp_mC (by decide)) dp_xdp rfl hX6 (by decide) (List.mem_of_getElem? (i := 1) rfl) rfl dX6_drop_1 ?_
  refine dp_iload_n C dX6_drop_4 rfl ?_
  refine dp_cVi C (c_X2_hasTarget C.2.2.1 l h07 ⟨by omega, by omega⟩ hv) gX6_drop_X2_hasTarget rfl (dp_mS ‹_› (by decide)) (dp_xst ‹_›) rfl yyX2_hasTarget rfl ⟨Nat.le_of_ble_eq_true rfl, Nat.le_of_ble_eq_true rfl⟩ rfl (Nat.le_of_ble_eq_true rfl) rfl ⟨Nat.zero_le _, Nat.zero_le _⟩ dX6_drop_5 (fun x5 M5 h5 => ?_)
  obtain ⟨rfl, rfl⟩ := h5
  refine dp_ifz_ne (tgt := 14) C dX6_drop_8 (by decide) (fun c8 => ?_) (fun c8 => ?_)
  · skip
    have ht : x.toNat < 10 := by omega
    have hst := hv.st ht
    have hvr := rmV_iv hv ht
    refine dp_aload_n C dX6_drop_14 rfl ?_
    refine dp_getf C (k := 0) (dp_mC (by decide)) dp_xdp rfl hX6 (by decide) (List.mem_of_getElem? (i := 1) rfl) rfl dX6_drop_15 ?_
    refine dp_getf C (k := 7) (dp_mS ‹_› (by decide)) (dp_xst ‹_›) rfl hX2 (by decide) (List.mem_of_getElem? (i := 3) rfl) rfl dX6_drop_18 ?_
    refine dp_iload_n C dX6_drop_21 rfl ?_
    refine dp_aald_t C ‹_› ⟨by omega, by omega⟩ rfl dX6_drop_22 ?_
    refine dp_getf C (k := 6) (dp_mS h07 (dp_cT ht)) (dp_xtg h07 ht) rfl hX3 (by decide) (List.mem_of_getElem? (i := 4) rfl) rfl dX6_drop_23 ?_
    refine dp_iconst C dX6_drop_26 ?_
    refine dp_icmp_ne (tgt := 33) C dX6_drop_27 (by decide) ⟨by omega, by omega⟩ ⟨by omega, by omega⟩ (fun c27 => ?_) (fun c27 => ?_)
    · skip
      refine dp_aload_n C dX6_drop_33 rfl ?_
      refine dp_getf C (k := 2) (dp_mC (by decide)) dp_xdp rfl hX6 (by decide) (List.mem_of_getElem? (i := 6) rfl) rfl dX6_drop_34 ?_
      refine dp_aload_n C dX6_drop_37 rfl ?_
      refine dp_getf C (k := 0) (dp_mC (by decide)) dp_xdp rfl hX6 (by decide) (List.mem_of_getElem? (i := 1) rfl) rfl dX6_drop_38 ?_
      refine dp_c7 ?_
      refine dp_cVv C (c_X1_record C.2.2.1 l hH (by rw [dS_V]; exact hv.2.2)) gX6_drop_X1_record rfl (dp_mC (by decide)) dp_xhi rfl yyX1_record rfl ⟨Nat.le_of_ble_eq_true rfl, Nat.le_of_ble_eq_true rfl⟩ rfl (Nat.le_of_ble_eq_true rfl) rfl ⟨Nat.zero_le _, Nat.zero_le _⟩ dX6_drop_41 (fun M41 h41 => ?_)
      obtain rfl := h41
      rw [rc_c hJ]
      refine dp_c0 ?_
      refine dp_aload_n C dX6_drop_44 rfl ?_
      refine dp_getf C (k := 0) (dp_mC (by decide)) dp_xdp rfl hX6 (by decide) (List.mem_of_getElem? (i := 1) rfl) rfl dX6_drop_45 ?_
      refine dp_iload_n C dX6_drop_48 rfl ?_
      refine dp_cVv C (c_X2_remove C.2.2.1 l h07 (show x = (x.toNat : Int) by omega) ht hv) gX6_drop_X2_remove rfl (dp_mS ‹_› (by decide)) (dp_xst ‹_›) rfl yyX2_remove rfl ⟨Nat.le_of_ble_eq_true rfl, Nat.le_of_ble_eq_true rfl⟩ rfl (Nat.le_of_ble_eq_true rfl) rfl ⟨Nat.zero_le _, Nat.zero_le _⟩ dX6_drop_49 (fun M49 h49 => ?_)
      obtain rfl := h49
      refine dp_bipush C dX6_drop_52 (by decide) ?_
      refine dp_aload_n C dX6_drop_54 rfl ?_
      refine dp_getf C (k := 0) (dp_mC (by decide)) dp_xdp rfl hX6 (by decide) (List.mem_of_getElem? (i := 1) rfl) rfl dX6_drop_55 ?_
      refine dp_iconst C dX6_drop_58 ?_
      refine dp_cVi C (c_X2_targetsIn C.2.2.1 l h07 ⟨by omega, by omega⟩ hvr) gX6_drop_X2_targetsIn rfl (dp_mS ‹_› (by decide)) (dp_xst ‹_›) rfl yyX2_targetsIn rfl ⟨Nat.le_of_ble_eq_true rfl, Nat.le_of_ble_eq_true rfl⟩ rfl (Nat.le_of_ble_eq_true rfl) rfl ⟨Nat.zero_le _, Nat.zero_le _⟩ dX6_drop_59 (fun x59 M59 h59 => ?_)
      obtain ⟨rfl, rfl⟩ := h59
      refine dp_isub C dX6_drop_62 ?_
      refine dp_iret C hret dX6_drop_63 ?_
      first | exact ⟨by rw [if_neg (by assumption)], by rw [if_neg (fun q => absurd q.1 (by assumption))]⟩ | exact ⟨by rw [if_pos (by assumption), if_pos (by assumption)], by rw [if_neg (fun q => absurd (by assumption) q.2)]⟩ | exact ⟨by rw [if_pos (by assumption), if_neg (by assumption)], by rw [if_pos ⟨by assumption, by assumption⟩]; rfl⟩
    · skip
      refine dp_ldc C (-100002) (List.mem_of_getElem? (i := 5) rfl) rfl dX6_drop_30 ?_
      refine dp_iret C hret dX6_drop_32 ?_
      first | exact ⟨by rw [if_neg (by assumption)], by rw [if_neg (fun q => absurd q.1 (by assumption))]⟩ | exact ⟨by rw [if_pos (by assumption), if_pos (by assumption)], by rw [if_neg (fun q => absurd (by assumption) q.2)]⟩ | exact ⟨by rw [if_pos (by assumption), if_neg (by assumption)], by rw [if_pos ⟨by assumption, by assumption⟩]; rfl⟩
  · skip
    refine dp_ldc C (-100001) (List.mem_of_getElem? (i := 2) rfl) rfl dX6_drop_11 ?_
    refine dp_iret C hret dX6_drop_13 ?_
    first | exact ⟨by rw [if_neg (by assumption)], by rw [if_neg (fun q => absurd q.1 (by assumption))]⟩ | exact ⟨by rw [if_pos (by assumption), if_pos (by assumption)], by rw [if_neg (fun q => absurd (by assumption) q.2)]⟩ | exact ⟨by rw [if_pos (by assumption), if_neg (by assumption)], by rw [if_pos ⟨by assumption, by assumption⟩]; rfl⟩
theorem yyX6_target : yX6_target.cls = RX6 ∧ yX6_target.cls ≠ "java/lang/invoke/MethodHandle" ∧ yX6_target.cls ≠ "java/lang/invoke/VarHandle" ∧ (parseMethodDescriptor yX6_target.desc).map (fun d => d.parameters.length) = some 2 := by decide +kernel
set_option maxHeartbeats 4000000 in
set_option maxRecDepth 100000 in
theorem c_X6_target {E : dp_E} (hE : dp_OK E) (l : Launch) {M : dp_M} {V Y X : dp_V} {x k : Int} (hv : ivC V) (hx : dp_R x) (hk : dp_R k) : dp_met E l yX6_target wsX6_target 2 42 [.ref (eAd E 7 0), .int (dp_I x), .int (dp_I k)] (dS (dR M 7 X) 0 V Y) (dp_qi E (fun y M1 => y = (if (0 ≤ x ∧ x < 10) ∧ ¬ V (x.toNat + 6) 6 = 4 then tgT (V (x.toNat + 6)) k else -100001) ∧ M1 = dS (dR M 7 X) 0 V Y)) := by
  refine dp_of (cc := cX6_target) (nL := 3) (own := RX6) (ret := some (.int)) (by decide +kernel) rfl rfl hE (by simp [Value.category]) (Nat.le_of_ble_eq_true rfl) ?_
  intro p e s m below meth co C hret
  show dp_G _ _ _ _ _ _ _ _ _ _ _ _ _ _ _ _ _ [some (.ref (eAd E 7 0)), some (.int (dp_I x)), some (.int (dp_I k))] _
  have hX2 : ∀ w ∈ u_ws RX2 TX2 11, w ∈ wsX6_target := fun w h => List.mem_cons_of_mem _ (List.mem_append_left _ (List.mem_append_right _ (h)))
  have hX3 : ∀ w ∈ u_ws RX3 TX3 14, w ∈ wsX6_target := fun w h => List.mem_cons_of_mem _ (List.mem_append_right _ (h))
  have hX6 : ∀ w ∈ u_ws RX6 TX6 4, w ∈ wsX6_target := fun w h => List.mem_cons_of_mem _ (List.mem_append_left _ (List.mem_append_left _ (List.mem_append_right _ (h))))
  have h07 : 0 < 7 := by decide
  unfold dp_R at hx hk
  refine dp_aload_n C dX6_target_0 rfl ?_
  refine dp_getf C (k := 0) (dp_mC (by decide)) dp_xdp rfl hX6 (by decide) (List.mem_of_getElem? (i := 1) rfl) rfl dX6_target_1 ?_
  refine dp_iload_n C dX6_target_4 rfl ?_
  refine dp_cVi C (c_X2_hasTarget C.2.2.1 l h07 ⟨by omega, by omega⟩ hv) gX6_target_X2_hasTarget rfl (dp_mS ‹_› (by decide)) (dp_xst ‹_›) rfl yyX2_hasTarget rfl ⟨Nat.le_of_ble_eq_true rfl, Nat.le_of_ble_eq_true rfl⟩ rfl (Nat.le_of_ble_eq_true rfl) rfl ⟨Nat.zero_le _, Nat.zero_le _⟩ dX6_target_5 (fun x5 M5 h5 => ?_)
  obtain ⟨rfl, rfl⟩ := h5
  refine dp_ifz_ne (tgt := 14) C dX6_target_8 (by decide) (fun c8 => ?_) (fun c8 => ?_)
  · skip
    have ht : x.toNat < 10 := by omega
    have hst := hv.st ht
    refine dp_aload_n C dX6_target_14 rfl ?_
    refine dp_getf C (k := 0) (dp_mC (by decide)) dp_xdp rfl hX6 (by decide) (List.mem_of_getElem? (i := 1) rfl) rfl dX6_target_15 ?_
    refine dp_getf C (k := 7) (dp_mS ‹_› (by decide)) (dp_xst ‹_›) rfl hX2 (by decide) (List.mem_of_getElem? (i := 3) rfl) rfl dX6_target_18 ?_
    refine dp_iload_n C dX6_target_21 rfl ?_
    refine dp_aald_t C ‹_› ⟨by omega, by omega⟩ rfl dX6_target_22 ?_
    refine dp_iload_n C dX6_target_23 rfl ?_
    refine dp_cVi C (c_X3_tell C.2.2.1 l h07 ht hst ⟨by omega, by omega⟩) gX6_target_X3_tell rfl (dp_mS h07 (dp_cT ht)) (dp_xtg h07 ht) rfl yyX3_tell rfl ⟨Nat.le_of_ble_eq_true rfl, Nat.le_of_ble_eq_true rfl⟩ rfl (Nat.le_of_ble_eq_true rfl) rfl ⟨Nat.zero_le _, Nat.zero_le _⟩ dX6_target_24 (fun x24 M24 h24 => ?_)
    obtain ⟨rfl, rfl⟩ := h24
    refine dp_iret C hret dX6_target_27 ?_
    first | exact ⟨by rw [if_pos (by assumption)], rfl⟩ | exact ⟨by rw [if_neg (by assumption)], rfl⟩
  · skip
    refine dp_ldc C (-100001) (List.mem_of_getElem? (i := 2) rfl) rfl dX6_target_11 ?_
    refine dp_iret C hret dX6_target_13 ?_
    first | exact ⟨by rw [if_pos (by assumption)], rfl⟩ | exact ⟨by rw [if_neg (by assumption)], rfl⟩
theorem yyX6_why : yX6_why.cls = RX6 ∧ yX6_why.cls ≠ "java/lang/invoke/MethodHandle" ∧ yX6_why.cls ≠ "java/lang/invoke/VarHandle" ∧ (parseMethodDescriptor yX6_why.desc).map (fun d => d.parameters.length) = some 1 := by decide +kernel
set_option maxHeartbeats 4000000 in
set_option maxRecDepth 100000 in
theorem c_X6_why {E : dp_E} (hE : dp_OK E) (l : Launch) {M : dp_M} {V Y X : dp_V} {x : Int} (hv : ivC V) (hx : dp_R x) : dp_met E l yX6_why wsX6_why 4 90 [.ref (eAd E 7 0), .int (dp_I x)] (dS (dR M 7 X) 0 V Y) (dp_qi E (fun y M1 => y = (if (0 ≤ x ∧ x < 10) ∧ ¬ V (x.toNat + 6) 6 = 4 then rsF V x.toNat else -100001) ∧ ∃ Y', M1 = dS (dR M 7 X) 0 V Y')) := by
  refine dp_of (cc := cX6_why) (nL := 2) (own := RX6) (ret := some (.int)) (by decide +kernel) rfl rfl hE (by simp [Value.category]) (Nat.le_of_ble_eq_true rfl) ?_
  intro p e s m below meth co C hret
  show dp_G _ _ _ _ _ _ _ _ _ _ _ _ _ _ _ _ _ [some (.ref (eAd E 7 0)), some (.int (dp_I x))] _
  have hX2 : ∀ w ∈ u_ws RX2 TX2 11, w ∈ wsX6_why := fun w h => List.mem_cons_of_mem _ (List.mem_append_left _ (List.mem_append_left _ (List.mem_append_left _ (List.mem_append_right _ (h)))))
  have hX6 : ∀ w ∈ u_ws RX6 TX6 4, w ∈ wsX6_why := fun w h => List.mem_cons_of_mem _ (List.mem_append_left _ (List.mem_append_left _ (List.mem_append_left _ (List.mem_append_left _ (List.mem_append_right _ (h))))))
  have h07 : 0 < 7 := by decide
  unfold dp_R at hx
  refine dp_aload_n C dX6_why_0 rfl ?_
  refine dp_getf C (k := 0) (dp_mC (by decide)) dp_xdp rfl hX6 (by decide) (List.mem_of_getElem? (i := 1) rfl) rfl dX6_why_1 ?_
  refine dp_iload_n C dX6_why_4 rfl ?_
  refine dp_cVi C (c_X2_hasTarget C.2.2.1 l h07 ⟨by omega, by omega⟩ hv) gX6_why_X2_hasTarget rfl (dp_mS ‹_› (by decide)) (dp_xst ‹_›) rfl yyX2_hasTarget rfl ⟨Nat.le_of_ble_eq_true rfl, Nat.le_of_ble_eq_true rfl⟩ rfl (Nat.le_of_ble_eq_true rfl) rfl ⟨Nat.zero_le _, Nat.zero_le _⟩ dX6_why_5 (fun x5 M5 h5 => ?_)
  obtain ⟨rfl, rfl⟩ := h5
  refine dp_ifz_ne (tgt := 14) C dX6_why_8 (by decide) (fun c8 => ?_) (fun c8 => ?_)
  · skip
    have ht : x.toNat < 10 := by omega
    refine dp_aload_n C dX6_why_14 rfl ?_
    refine dp_getf C (k := 0) (dp_mC (by decide)) dp_xdp rfl hX6 (by decide) (List.mem_of_getElem? (i := 1) rfl) rfl dX6_why_15 ?_
    refine dp_aload_n C dX6_why_18 rfl ?_
    refine dp_getf C (k := 0) (dp_mC (by decide)) dp_xdp rfl hX6 (by decide) (List.mem_of_getElem? (i := 1) rfl) rfl dX6_why_19 ?_
    refine dp_getf C (k := 7) (dp_mS ‹_› (by decide)) (dp_xst ‹_›) rfl hX2 (by decide) (List.mem_of_getElem? (i := 3) rfl) rfl dX6_why_22 ?_
    refine dp_iload_n C dX6_why_25 rfl ?_
    refine dp_aald_t C ‹_› ⟨by omega, by omega⟩ rfl dX6_why_26 ?_
    refine dp_cVi C (c_X2_reasonAgainst C.2.2.1 l h07 ht hv) gX6_why_X2_reasonAgainst rfl (dp_mS ‹_› (by decide)) (dp_xst ‹_›) rfl yyX2_reasonAgainst rfl ⟨Nat.le_of_ble_eq_true rfl, Nat.le_of_ble_eq_true rfl⟩ rfl (Nat.le_of_ble_eq_true rfl) rfl ⟨Nat.zero_le _, Nat.zero_le _⟩ dX6_why_27 (fun x27 M27 h27 => ?_)
    obtain ⟨rfl, Y1, rfl⟩ := h27
    refine dp_iret C hret dX6_why_30 ?_
    first | exact ⟨by rw [if_pos (by assumption)], _, rfl⟩ | exact ⟨by rw [if_neg (by assumption)], _, rfl⟩
  · skip
    refine dp_ldc C (-100001) (List.mem_of_getElem? (i := 2) rfl) rfl dX6_why_11 ?_
    refine dp_iret C hret dX6_why_13 ?_
    first | exact ⟨by rw [if_pos (by assumption)], _, rfl⟩ | exact ⟨by rw [if_neg (by assumption)], _, rfl⟩
theorem yyX6_next : yX6_next.cls = RX6 ∧ yX6_next.cls ≠ "java/lang/invoke/MethodHandle" ∧ yX6_next.cls ≠ "java/lang/invoke/VarHandle" ∧ (parseMethodDescriptor yX6_next.desc).map (fun d => d.parameters.length) = some 0 := by decide +kernel
set_option maxHeartbeats 4000000 in
set_option maxRecDepth 100000 in
theorem c_X6_next {E : dp_E} (hE : dp_OK E) (l : Launch) {M : dp_M} {V Y X : dp_V} (hv : ivC V) : dp_met E l yX6_next wsX6_next 5 112 [.ref (eAd E 7 0)] (dS (dR M 7 X) 0 V Y) (dp_qi E (fun y M1 => y = ftF (bsF V) ∧ ∃ Y', M1 = dS (dR M 7 X) 0 V Y')) := by
  refine dp_of (cc := cX6_next) (nL := 1) (own := RX6) (ret := some (.int)) (by decide +kernel) rfl rfl hE (by simp [Value.category]) (Nat.le_of_ble_eq_true rfl) ?_
  intro p e s m below meth co C hret
  show dp_G _ _ _ _ _ _ _ _ _ _ _ _ _ _ _ _ _ [some (.ref (eAd E 7 0))] _
  have hX6 : ∀ w ∈ u_ws RX6 TX6 4, w ∈ wsX6_next := fun w h => List.mem_cons_of_mem _ (List.mem_append_left _ (List.mem_append_left _ (List.mem_append_left _ (List.mem_append_left _ (List.mem_append_right _ (h))))))
  have h07 : 0 < 7 := by decide
  have hb := @bsF_sp V
  refine dp_aload_n C dX6_next_0 rfl ?_
  refine dp_getf C (k := 0) (dp_mC (by decide)) dp_xdp rfl hX6 (by decide) (List.mem_of_getElem? (i := 1) rfl) rfl dX6_next_1 ?_
  refine dp_cVi C (c_X2_bestToBegin C.2.2.1 l h07 hv) gX6_next_X2_bestToBegin rfl (dp_mS ‹_› (by decide)) (dp_xst ‹_›) rfl yyX2_bestToBegin rfl ⟨Nat.le_of_ble_eq_true rfl, Nat.le_of_ble_eq_true rfl⟩ rfl (Nat.le_of_ble_eq_true rfl) rfl ⟨Nat.zero_le _, Nat.zero_le _⟩ dX6_next_4 (fun x4 M4 h4 => ?_)
  obtain ⟨rfl, Y1, rfl⟩ := h4
  refine dp_cSi C (c_X6_foundTarget C.2.2.1 l ⟨by omega, by omega⟩) gX6_next_X6_foundTarget rfl yyX6_foundTarget rfl ⟨Nat.le_of_ble_eq_true rfl, Nat.le_of_ble_eq_true rfl⟩ rfl (Nat.le_of_ble_eq_true rfl) rfl ⟨Nat.zero_le _, Nat.zero_le _⟩ dX6_next_7 (fun x7 M7 h7 => ?_)
  obtain ⟨rfl, rfl⟩ := h7
  refine dp_iret C hret dX6_next_10 ?_
  exact ⟨rfl, _, rfl⟩
