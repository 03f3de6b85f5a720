theorem yyX0_dish : yX0_dish.cls = RX0 ∧ yX0_dish.cls ≠ "java/lang/invoke/MethodHandle" ∧ yX0_dish.cls ≠ "java/lang/invoke/VarHandle" ∧ (parseMethodDescriptor yX0_dish.desc).map (fun d => d.parameters.length) = some 0 := by decide +kernel
set_option maxHeartbeats 4000000 in
set_option maxRecDepth 100000 in
theorem c_X0_dish {E : dp_E} (hE : dp_OK E) (l : Launch) {M : dp_M} {r c : Nat} {V Y : dp_V} (hr : r < 7) (hc : c = 3 ∨ c = 4) : dp_met E l yX0_dish wsX0_dish 0 0 [.ref (eAd E r c)] (dS M r V Y) (dp_qi E (fun x M1 => x = V c 3 - V c 4 ∧ M1 = dS M r V Y)) := by
  refine dp_of (cc := cX0_dish) (nL := 1) (own := RX0) (ret := some (.int)) (by decide +kernel) rfl rfl hE (by simp [Value.category]) (Nat.le_of_ble_eq_true rfl) ?_
  intro p e s m below meth co C hret
  show dp_G _ _ _ _ _ _ _ _ _ _ _ _ _ _ _ _ _ [some (.ref (eAd E r c))] _
  have hX0 : ∀ w ∈ u_ws RX0 TX0 10, w ∈ wsX0_dish := fun w h => List.mem_cons_of_mem _ (List.mem_append_right _ (h))
  refine dp_aload_n C dX0_dish_0 rfl ?_
  refine dp_getf C (k := 6) (dp_mS ‹_› (dp_cA ‹_›)) (dp_xax ‹_› ‹_›) rfl hX0 (by decide) (List.mem_of_getElem? (i := 1) rfl) rfl dX0_dish_1 ?_
  refine dp_aload_n C dX0_dish_4 rfl ?_
  refine dp_getf C (k := 7) (dp_mS ‹_› (dp_cA ‹_›)) (dp_xax ‹_› ‹_›) rfl hX0 (by decide) (List.mem_of_getElem? (i := 2) rfl) rfl dX0_dish_5 ?_
  refine dp_isub C dX0_dish_8 ?_
  refine dp_iret C hret dX0_dish_9 ?_
  exact ⟨rfl, rfl⟩
theorem yyX0_reaches : yX0_reaches.cls = RX0 ∧ yX0_reaches.cls ≠ "java/lang/invoke/MethodHandle" ∧ yX0_reaches.cls ≠ "java/lang/invoke/VarHandle" ∧ (parseMethodDescriptor yX0_reaches.desc).map (fun d => d.parameters.length) = some 1 := by decide +kernel
set_option maxHeartbeats 4000000 in
set_option maxRecDepth 100000 in
theorem c_X0_reaches {E : dp_E} (hE : dp_OK E) (l : Launch) {M : dp_M} {r c : Nat} {V Y : dp_V} (hr : r < 7) (hc : c = 3 ∨ c = 4) {x : Int} (hx : dp_R x) : dp_met E l yX0_reaches wsX0_reaches 0 0 [.ref (eAd E r c), .int (dp_I x)] (dS M r V Y) (dp_qi E (fun y M1 => y = dp_b (axL c ≤ x ∧ x ≤ axH c) ∧ M1 = dS M r V Y)) := by
  refine dp_of (cc := cX0_reaches) (nL := 2) (own := RX0) (ret := some (.boolean)) (by decide +kernel) rfl rfl hE (by simp [Value.category]) (Nat.le_of_ble_eq_true rfl) ?_
  intro p e s m below meth co C hret
  show dp_G _ _ _ _ _ _ _ _ _ _ _ _ _ _ _ _ _ [some (.ref (eAd E r c)), some (.int (dp_I x))] _
  have hX0 : ∀ w ∈ u_ws RX0 TX0 10, w ∈ wsX0_reaches := fun w h => List.mem_cons_of_mem _ (List.mem_append_right _ (h))
  have hb := @ax_bd c
  unfold dp_R at hx
  refine dp_iload_n C dX0_reaches_0 rfl ?_
  refine dp_aload_n C dX0_reaches_1 rfl ?_
  refine dp_getf C (k := 0) (dp_mS ‹_› (dp_cA ‹_›)) (dp_xax ‹_› ‹_›) rfl hX0 (by decide) (List.mem_of_getElem? (i := 1) rfl) rfl dX0_reaches_2 ?_
  refine dp_icmp_lt (tgt := 20) C dX0_reaches_5 (by decide) ⟨by omega, by omega⟩ ⟨by omega, by omega⟩ (fun c5 => ?_) (fun c5 => ?_)
  · skip
    refine dp_iconst C dX0_reaches_20 ?_
    refine dp_zret C hret (by first | decide | exact dp_nb) dX0_reaches_21 ?_
    exact ⟨by unfold dp_b; split <;> omega, rfl⟩
  · skip
    refine dp_iload_n C dX0_reaches_8 rfl ?_
    refine dp_aload_n C dX0_reaches_9 rfl ?_
    refine dp_getf C (k := 1) (dp_mS ‹_› (dp_cA ‹_›)) (dp_xax ‹_› ‹_›) rfl hX0 (by decide) (List.mem_of_getElem? (i := 2) rfl) rfl dX0_reaches_10 ?_
    refine dp_icmp_gt (tgt := 20) C dX0_reaches_13 (by decide) ⟨by omega, by omega⟩ ⟨by omega, by omega⟩ (fun c13 => ?_) (fun c13 => ?_)
    · skip
      refine dp_iconst C dX0_reaches_20 ?_
      refine dp_zret C hret (by first | decide | exact dp_nb) dX0_reaches_21 ?_
      exact ⟨by unfold dp_b; split <;> omega, rfl⟩
    · skip
      refine dp_iconst C dX0_reaches_16 ?_
      refine dp_goto (tgt := 21) C dX0_reaches_17 (by decide) ?_
      refine dp_zret C hret (by first | decide | exact dp_nb) dX0_reaches_21 ?_
      exact ⟨by unfold dp_b; split <;> omega, rfl⟩
theorem yyX0_tell : yX0_tell.cls = RX0 ∧ yX0_tell.cls ≠ "java/lang/invoke/MethodHandle" ∧ yX0_tell.cls ≠ "java/lang/invoke/VarHandle" ∧ (parseMethodDescriptor yX0_tell.desc).map (fun d => d.parameters.length) = some 1 := by decide +kernel
set_option maxHeartbeats 4000000 in
set_option maxRecDepth 100000 in
theorem c_X0_tell {E : dp_E} (hE : dp_OK E) (l : Launch) {M : dp_M} {r c : Nat} {V Y : dp_V} (hr : r < 7) (hc : c = 3 ∨ c = 4) {x : Int} (hx : dp_R x) : dp_met E l yX0_tell wsX0_tell 1 20 [.ref (eAd E r c), .int (dp_I x)] (dS M r V Y) (dp_qi E (fun y M1 => y = axT c (V c) x ∧ M1 = dS M r V Y)) := by
  refine dp_of (cc := cX0_tell) (nL := 2) (own := RX0) (ret := some (.int)) (by decide +kernel) rfl rfl hE (by simp [Value.category]) (Nat.le_of_ble_eq_true rfl) ?_
  intro p e s m below meth co C hret
  show dp_G _ _ _ _ _ _ _ _ _ _ _ _ _ _ _ _ _ [some (.ref (eAd E r c)), some (.int (dp_I x))] _
  have hX0 : ∀ w ∈ u_ws RX0 TX0 10, w ∈ wsX0_tell := fun w h => List.mem_cons_of_mem _ (List.mem_append_right _ (h))
  unfold dp_R at hx
  refine dp_iload_n C dX0_tell_0 rfl ?_
  refine dp_table (td := 107) C [52, 57, 62, 67, 72, 77, 82, 87, 92] dX0_tell_1 (by decide) (by decide) (by decide) ⟨by omega, by omega⟩ (fun c1 => ?_) ?_
  · skip
    refine dp_ldc C (-100001) (List.mem_of_getElem? (i := 9) rfl) rfl dX0_tell_107 ?_
    refine dp_iret C hret dX0_tell_109 ?_
    exact ⟨by unfold axT; repeat (first | rw [if_neg (by omega)] | rw [if_pos (by omega)] | rfl), rfl⟩
  · simp only [dp_sw]
    refine ⟨fun c1 => ?_, fun c1 => ?_, fun c1 => ?_, fun c1 => ?_, fun c1 => ?_, fun c1 => ?_, fun c1 => ?_, fun c1 => ?_, fun c1 => ?_, trivial⟩
    · skip
      refine dp_aload_n C dX0_tell_52 rfl ?_
      refine dp_getf C (k := 3) (dp_mS ‹_› (dp_cA ‹_›)) (dp_xax ‹_› ‹_›) rfl hX0 (by decide) (List.mem_of_getElem? (i := 1) rfl) rfl dX0_tell_53 ?_
      refine dp_iret C hret dX0_tell_56 ?_
      exact ⟨by unfold axT; repeat (first | rw [if_neg (by omega)] | rw [if_pos (by omega)] | rfl), rfl⟩
    · skip
      refine dp_aload_n C dX0_tell_57 rfl ?_
      refine dp_getf C (k := 4) (dp_mS ‹_› (dp_cA ‹_›)) (dp_xax ‹_› ‹_›) rfl hX0 (by decide) (List.mem_of_getElem? (i := 2) rfl) rfl dX0_tell_58 ?_
      refine dp_iret C hret dX0_tell_61 ?_
      exact ⟨by unfold axT; repeat (first | rw [if_neg (by omega)] | rw [if_pos (by omega)] | rfl), rfl⟩
    · skip
      refine dp_aload_n C dX0_tell_62 rfl ?_
      refine dp_getf C (k := 5) (dp_mS ‹_› (dp_cA ‹_›)) (dp_xax ‹_› ‹_›) rfl hX0 (by decide) (List.mem_of_getElem? (i := 3) rfl) rfl dX0_tell_63 ?_
      refine dp_iret C hret dX0_tell_66 ?_
      exact ⟨by unfold axT; repeat (first | rw [if_neg (by omega)] | rw [if_pos (by omega)] | rfl), rfl⟩
    · skip
      refine dp_aload_n C dX0_tell_67 rfl ?_
      refine dp_getf C (k := 6) (dp_mS ‹_› (dp_cA ‹_›)) (dp_xax ‹_› ‹_›) rfl hX0 (by decide) (List.mem_of_getElem? (i := 4) rfl) rfl dX0_tell_68 ?_
      refine dp_iret C hret dX0_tell_71 ?_
      exact ⟨by unfold axT; repeat (first | rw [if_neg (by omega)] | rw [if_pos (by omega)] | rfl), rfl⟩
    · skip
      refine dp_aload_n C dX0_tell_72 rfl ?_
      refine dp_getf C (k := 7) (dp_mS ‹_› (dp_cA ‹_›)) (dp_xax ‹_› ‹_›) rfl hX0 (by decide) (List.mem_of_getElem? (i := 5) rfl) rfl dX0_tell_73 ?_
      refine dp_iret C hret dX0_tell_76 ?_
      exact ⟨by unfold axT; repeat (first | rw [if_neg (by omega)] | rw [if_pos (by omega)] | rfl), rfl⟩
    · skip
      refine dp_aload_n C dX0_tell_77 rfl ?_
      refine dp_cVi C (c_X0_dish C.2.2.1 l ‹_› ‹_›) gX0_tell_X0_dish rfl (dp_mS ‹_› (dp_cA ‹_›)) (dp_xax ‹_› ‹_›) rfl yyX0_dish rfl ⟨Nat.le_of_ble_eq_true rfl, Nat.le_of_ble_eq_true rfl⟩ rfl (Nat.le_of_ble_eq_true rfl) rfl ⟨Nat.zero_le _, Nat.zero_le _⟩ dX0_tell_78 (fun x78 M78 h78 => ?_)
      obtain ⟨rfl, rfl⟩ := h78
      refine dp_iret C hret dX0_tell_81 ?_
      exact ⟨by unfold axT; repeat (first | rw [if_neg (by omega)] | rw [if_pos (by omega)] | rfl), rfl⟩
    · skip
      refine dp_aload_n C dX0_tell_82 rfl ?_
      refine dp_getf C (k := 8) (dp_mS ‹_› (dp_cA ‹_›)) (dp_xax ‹_› ‹_›) rfl hX0 (by decide) (List.mem_of_getElem? (i := 6) rfl) rfl dX0_tell_83 ?_
      refine dp_iret C hret dX0_tell_86 ?_
      exact ⟨by unfold axT; repeat (first | rw [if_neg (by omega)] | rw [if_pos (by omega)] | rfl), rfl⟩
    · skip
      refine dp_aload_n C dX0_tell_87 rfl ?_
      refine dp_getf C (k := 9) (dp_mS ‹_› (dp_cA ‹_›)) (dp_xax ‹_› ‹_›) rfl hX0 (by decide) (List.mem_of_getElem? (i := 7) rfl) rfl dX0_tell_88 ?_
      refine dp_iret C hret dX0_tell_91 ?_
      exact ⟨by unfold axT; repeat (first | rw [if_neg (by omega)] | rw [if_pos (by omega)] | rfl), rfl⟩
    · skip
      refine dp_aload_n C dX0_tell_92 rfl ?_
      refine dp_getf C (k := 2) (dp_mS ‹_› (dp_cA ‹_›)) (dp_xax ‹_› ‹_›) rfl hX0 (by decide) (List.mem_of_getElem? (i := 8) rfl) rfl dX0_tell_93 ?_
      refine dp_aload_n C dX0_tell_96 rfl ?_
      refine dp_getf C (k := 8) (dp_mS ‹_› (dp_cA ‹_›)) (dp_xax ‹_› ‹_›) rfl hX0 (by decide) (List.mem_of_getElem? (i := 6) rfl) rfl dX0_tell_97 ?_
      refine dp_iadd C dX0_tell_100 ?_
      refine dp_aload_n C dX0_tell_101 rfl ?_
      refine dp_getf C (k := 9) (dp_mS ‹_› (dp_cA ‹_›)) (dp_xax ‹_› ‹_›) rfl hX0 (by decide) (List.mem_of_getElem? (i := 7) rfl) rfl dX0_tell_102 ?_
      refine dp_isub C dX0_tell_105 ?_
      refine dp_iret C hret dX0_tell_106 ?_
      exact ⟨by unfold axT; repeat (first | rw [if_neg (by omega)] | rw [if_pos (by omega)] | rfl), rfl⟩
theorem yyX0_moveTo : yX0_moveTo.cls = RX0 ∧ yX0_moveTo.cls ≠ "java/lang/invoke/MethodHandle" ∧ yX0_moveTo.cls ≠ "java/lang/invoke/VarHandle" ∧ (parseMethodDescriptor yX0_moveTo.desc).map (fun d => d.parameters.length) = some 1 := by decide +kernel
set_option maxHeartbeats 4000000 in
set_option maxRecDepth 100000 in
theorem c_X0_moveTo {E : dp_E} (hE : dp_OK E) (l : Launch) {M : dp_M} {r c : Nat} {V Y : dp_V} (hr : r < 7) (hc : c = 3 ∨ c = 4) {x : Int} (hi : ivA c (V c)) (hx : -100000 ≤ x ∧ x ≤ 100000) : dp_met E l yX0_moveTo wsX0_moveTo 1 21 [.ref (eAd E r c), .int (dp_I x)] (dS M r V Y) (dp_qv E (fun M1 => M1 = dS M r (mvV V c x) Y)) := by
  refine dp_of (cc := cX0_moveTo) (nL := 3) (own := RX0) (ret := none) (by decide +kernel) rfl rfl hE (by simp [Value.category]) (Nat.le_of_ble_eq_true rfl) ?_
  intro p e s m below meth co C hret
  show dp_G _ _ _ _ _ _ _ _ _ _ _ _ _ _ _ _ _ [some (.ref (eAd E r c)), some (.int (dp_I x)), none] _
  have hX0 : ∀ w ∈ u_ws RX0 TX0 10, w ∈ wsX0_moveTo := fun w h => List.mem_cons_of_mem _ (List.mem_append_right _ (h))
  have hb := @ax_bd c
  unfold ivA at hi
  refine dp_iload_n C dX0_moveTo_0 rfl ?_
  refine dp_aload_n C dX0_moveTo_1 rfl ?_
  refine dp_getf C (k := 6) (dp_mS ‹_› (dp_cA ‹_›)) (dp_xax ‹_› ‹_›) rfl hX0 (by decide) (List.mem_of_getElem? (i := 1) rfl) rfl dX0_moveTo_2 ?_
  refine dp_isub C dX0_moveTo_5 ?_
  refine dp_istore_n C dX0_moveTo_6 (Nat.le_of_ble_eq_true rfl) ?_
  dsimp only [List.set]
  refine dp_aload_n C dX0_moveTo_7 rfl ?_
  refine dp_iload_n C dX0_moveTo_8 rfl ?_
  refine dp_putA C ‹_› ‹_› (k := 3) hX0 (by decide) (List.mem_of_getElem? (i := 1) rfl) rfl (tyX0_ok _ (by decide)) rfl rfl dX0_moveTo_9 ?_
  refine dp_iload_n C dX0_moveTo_12 rfl ?_
  refine dp_if_lt (tgt := 46) C dX0_moveTo_13 (by decide) ⟨by omega, by omega⟩ (fun c13 => ?_) (fun c13 => ?_)
  · skip
    refine dp_aload_n C dX0_moveTo_46 rfl ?_
    refine dp_dup C dX0_moveTo_47 rfl ?_
    refine dp_getf C (k := 9) (dp_mS ‹_› (dp_cA ‹_›)) (dp_xax ‹_› ‹_›) rfl hX0 (by decide) (List.mem_of_getElem? (i := 9) rfl) rfl dX0_moveTo_48 ?_
    simp only [u2_ap, reduceIte, Nat.reduceEqDiff]
    refine dp_iload_n C dX0_moveTo_51 rfl ?_
    refine dp_isub C dX0_moveTo_52 ?_
    refine dp_putA C ‹_› ‹_› (k := 6) hX0 (by decide) (List.mem_of_getElem? (i := 9) rfl) rfl (tyX0_ok _ (by decide)) rfl rfl dX0_moveTo_53 ?_
    refine dp_aload_n C dX0_moveTo_56 rfl ?_
    refine dp_aload_n C dX0_moveTo_57 rfl ?_
    refine dp_getf C (k := 7) (dp_mS ‹_› (dp_cA ‹_›)) (dp_xax ‹_› ‹_›) rfl hX0 (by decide) (List.mem_of_getElem? (i := 3) rfl) rfl dX0_moveTo_58 ?_
    simp only [u2_ap, reduceIte, Nat.reduceEqDiff]
    refine dp_iload_n C dX0_moveTo_61 rfl ?_
    refine dp_iadd C dX0_moveTo_62 ?_
    refine dp_iconst C dX0_moveTo_63 ?_
    refine dp_mmax C ⟨by omega, by omega⟩ ⟨by omega, by omega⟩ (List.mem_of_getElem? (i := 10) rfl) (List.mem_of_getElem? (i := 11) rfl) (List.mem_of_getElem? (i := 7) rfl) (List.mem_of_getElem? (i := 12) rfl) (Nat.le_of_ble_eq_true rfl) (Nat.le_of_ble_eq_true rfl) (Nat.le_of_ble_eq_true rfl) rfl ⟨Nat.zero_le _, Nat.zero_le _⟩ dX0_moveTo_64 ?_
    refine dp_putA C ‹_› ‹_› (k := 4) hX0 (by decide) (List.mem_of_getElem? (i := 3) rfl) rfl (tyX0_ok _ (by decide)) rfl rfl dX0_moveTo_67 ?_
    refine dp_vret C hret dX0_moveTo_70 ?_
    unfold mvV
    first | (rw [if_pos c13]; rfl) | (rw [if_neg c13]; rfl)
  · skip
    refine dp_aload_n C dX0_moveTo_16 rfl ?_
    refine dp_dup C dX0_moveTo_17 rfl ?_
    refine dp_getf C (k := 8) (dp_mS ‹_› (dp_cA ‹_›)) (dp_xax ‹_› ‹_›) rfl hX0 (by decide) (List.mem_of_getElem? (i := 2) rfl) rfl dX0_moveTo_18 ?_
    simp only [u2_ap, reduceIte, and_true, Nat.reduceEqDiff]
    refine dp_iload_n C dX0_moveTo_21 rfl ?_
    refine dp_iadd C dX0_moveTo_22 ?_
    refine dp_putA C ‹_› ‹_› (k := 5) hX0 (by decide) (List.mem_of_getElem? (i := 2) rfl) rfl (tyX0_ok _ (by decide)) rfl rfl dX0_moveTo_23 ?_
    refine dp_aload_n C dX0_moveTo_26 rfl ?_
    refine dp_aload_n C dX0_moveTo_27 rfl ?_
    refine dp_getf C (k := 7) (dp_mS ‹_› (dp_cA ‹_›)) (dp_xax ‹_› ‹_›) rfl hX0 (by decide) (List.mem_of_getElem? (i := 3) rfl) rfl dX0_moveTo_28 ?_
    simp only [u2_ap, reduceIte, Nat.reduceEqDiff]
    refine dp_iload_n C dX0_moveTo_31 rfl ?_
    refine dp_iadd C dX0_moveTo_32 ?_
    refine dp_aload_n C dX0_moveTo_33 rfl ?_
    refine dp_getf C (k := 3) (dp_mS ‹_› (dp_cA ‹_›)) (dp_xax ‹_› ‹_›) rfl hX0 (by decide) (List.mem_of_getElem? (i := 4) rfl) rfl dX0_moveTo_34 ?_
    simp only [u2_ap, reduceIte, Nat.reduceEqDiff]
    refine dp_mmin C ⟨by omega, by omega⟩ ⟨by omega, by omega⟩ (List.mem_of_getElem? (i := 5) rfl) (List.mem_of_getElem? (i := 6) rfl) (List.mem_of_getElem? (i := 7) rfl) (List.mem_of_getElem? (i := 8) rfl) (Nat.le_of_ble_eq_true rfl) (Nat.le_of_ble_eq_true rfl) (Nat.le_of_ble_eq_true rfl) rfl ⟨Nat.zero_le _, Nat.zero_le _⟩ dX0_moveTo_37 ?_
    refine dp_putA C ‹_› ‹_› (k := 4) hX0 (by decide) (List.mem_of_getElem? (i := 3) rfl) rfl (tyX0_ok _ (by decide)) rfl rfl dX0_moveTo_40 ?_
    refine dp_goto (tgt := 70) C dX0_moveTo_43 (by decide) ?_
    refine dp_vret C hret dX0_moveTo_70 ?_
    unfold mvV
    first | (rw [if_pos c13]; rfl) | (rw [if_neg c13]; rfl)
