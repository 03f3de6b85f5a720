theorem yyJ9_floorMod_7cf53 : yJ9_floorMod_7cf53.cls ≠ "java/lang/invoke/MethodHandle" ∧ yJ9_floorMod_7cf53.cls ≠ "java/lang/invoke/VarHandle" ∧ (parseMethodDescriptor yJ9_floorMod_7cf53.desc).map (fun d => d.parameters.length) = some 2 := by decide +kernel
set_option maxHeartbeats 4000000 in
set_option maxRecDepth 100000 in
theorem c_J9_floorMod_7cf53 {E : dp_E} (hE : dp_OK E) (l : Launch) {M : dp_M} {x y : Int} (hx : dp_R x) (hy : 0 < y ∧ y < 2147483648) : dp_met E l yJ9_floorMod_7cf53 wsJ9_floorMod_7cf53 0 0 [.int (dp_I x), .int (dp_I y)] (M) (dp_qi E (fun z M1 => z = x % y ∧ M1 = M)) := by
  refine dp_ofF (cc := cJ9_floorMod_7cf53) (nL := 3) (own := RJ9) (ret := some (.int)) (by decide +kernel) rfl rfl hE (by simp [Value.category]) (Nat.le_of_ble_eq_true rfl) ?_
  intro p e s m below meth co C hret
  show dp_G _ _ _ _ _ _ _ _ _ _ _ _ _ _ _ _ _ [some (.int (dp_I x)), some (.int (dp_I y)), none] _
  have e0 := Int.emod_nonneg x (show y ≠ 0 by omega)
  have e1 := Int.emod_lt_of_pos x hy.1
  have t1 : x.tmod y = if 0 ≤ x ∨ x % y = 0 then x % y else x % y - y := by
    rw [Int.tmod_eq_emod]
    have hd : y ∣ x ↔ x % y = 0 := Int.dvd_iff_emod_eq_zero
    have hn : (y.natAbs : Int) = y := Int.natAbs_of_nonneg (by omega)
    by_cases h : 0 ≤ x
    · simp [h]
    · by_cases h2 : x % y = 0
      · simp [h, h2, hd]
      · simp [h, h2, hd, hn]
  unfold dp_R at hx
  refine dp_iload_n C dJ9_floorMod_7cf53_0 rfl ?_
  refine dp_iload_n C dJ9_floorMod_7cf53_1 rfl ?_
  refine dp_iremT C hx hy dJ9_floorMod_7cf53_2 ?_
  refine dp_istore_n C dJ9_floorMod_7cf53_3 (Nat.le_of_ble_eq_true rfl) ?_
  dsimp only [List.set]
  refine dp_iload_n C dJ9_floorMod_7cf53_4 rfl ?_
  refine dp_iload_n C dJ9_floorMod_7cf53_5 rfl ?_
  refine dp_ixor C hx ⟨by omega, by omega⟩ dJ9_floorMod_7cf53_6 (fun z hz hzs => ?_)
  unfold dp_R at hz
  refine dp_if_ge (tgt := 18) C dJ9_floorMod_7cf53_7 (by decide) hz (fun c7 => ?_) (fun c7 => ?_)
  · skip
    refine dp_iload_n C dJ9_floorMod_7cf53_18 rfl ?_
    refine dp_iret C hret dJ9_floorMod_7cf53_19 ?_
    refine ⟨?_, rfl⟩
    rw [t1] at *
    split <;> omega
  · skip
    refine dp_iload_n C dJ9_floorMod_7cf53_10 rfl ?_
    refine dp_if_eq (tgt := 18) C dJ9_floorMod_7cf53_11 (by decide) (by rw [t1]; split <;> exact ⟨by omega, by omega⟩) (fun c11 => ?_) (fun c11 => ?_)
    · skip
      refine dp_iload_n C dJ9_floorMod_7cf53_18 rfl ?_
      refine dp_iret C hret dJ9_floorMod_7cf53_19 ?_
      refine ⟨?_, rfl⟩
      rw [t1] at *
      split <;> omega
    · skip
      refine dp_iload_n C dJ9_floorMod_7cf53_14 rfl ?_
      refine dp_iload_n C dJ9_floorMod_7cf53_15 rfl ?_
      refine dp_iadd C dJ9_floorMod_7cf53_16 ?_
      refine dp_iret C hret dJ9_floorMod_7cf53_17 ?_
      refine ⟨?_, rfl⟩
      rw [t1] at *
      split <;> omega
theorem yyX2_changeSetting : yX2_changeSetting.cls = RX2 ∧ yX2_changeSetting.cls ≠ "java/lang/invoke/MethodHandle" ∧ yX2_changeSetting.cls ≠ "java/lang/invoke/VarHandle" ∧ (parseMethodDescriptor yX2_changeSetting.desc).map (fun d => d.parameters.length) = some 2 := by decide +kernel
set_option maxHeartbeats 4000000 in
set_option maxRecDepth 100000 in
theorem c_X2_changeSetting {E : dp_E} (hE : dp_OK E) (l : Launch) {M : dp_M} {r : Nat} {V Y : dp_V} (hr : r < 7) {k : Nat} {x : Int} (hk : k < 4) : dp_met E l yX2_changeSetting wsX2_changeSetting 0 0 [.ref (eAd E r 0), .int (dp_I k), .int (dp_I x)] (dS M r V Y) (dp_qi E (fun y M1 => y = V 1 k ∧ M1 = dS M r (u2 V 1 k x) Y)) := by
  refine dp_of (cc := cX2_changeSetting) (nL := 4) (own := RX2) (ret := some (.int)) (by decide +kernel) rfl rfl hE (by simp [Value.category]) (Nat.le_of_ble_eq_true rfl) ?_
  intro p e s m below meth co C hret
  show dp_G _ _ _ _ _ _ _ _ _ _ _ _ _ _ _ _ _ [some (.ref (eAd E r 0)), some (.int (dp_I k)), some (.int (dp_I x)), none] _
  have hX2 : ∀ w ∈ u_ws RX2 TX2 11, w ∈ wsX2_changeSetting := fun w h => List.mem_cons_of_mem _ (List.mem_append_right _ (h))
  refine dp_aload_n C dX2_changeSetting_0 rfl ?_
  refine dp_getf C (k := 3) (dp_mS ‹_› (by decide)) (dp_xst ‹_›) rfl hX2 (by decide) (List.mem_of_getElem? (i := 1) rfl) rfl dX2_changeSetting_1 ?_
  refine dp_iload_n C dX2_changeSetting_4 rfl ?_
  refine dp_ald_se C ‹_› ⟨by omega, by omega⟩ (Int.toNat_natCast _) dX2_changeSetting_5 ?_
  refine dp_istore_n C dX2_changeSetting_6 (Nat.le_of_ble_eq_true rfl) ?_
  dsimp only [List.set]
  refine dp_aload_n C dX2_changeSetting_7 rfl ?_
  refine dp_getf C (k := 3) (dp_mS ‹_› (by decide)) (dp_xst ‹_›) rfl hX2 (by decide) (List.mem_of_getElem? (i := 1) rfl) rfl dX2_changeSetting_8 ?_
  refine dp_iload_n C dX2_changeSetting_11 rfl ?_
  refine dp_iload_n C dX2_changeSetting_12 rfl ?_
  refine dp_ast_se C ‹_› ⟨by omega, by omega⟩ (Int.toNat_natCast _) dX2_changeSetting_13 ?_
  refine dp_iload_n C dX2_changeSetting_14 rfl ?_
  refine dp_iret C hret dX2_changeSetting_15 ?_
  exact ⟨rfl, rfl⟩
theorem yyX2_changeGust : yX2_changeGust.cls = RX2 ∧ yX2_changeGust.cls ≠ "java/lang/invoke/MethodHandle" ∧ yX2_changeGust.cls ≠ "java/lang/invoke/VarHandle" ∧ (parseMethodDescriptor yX2_changeGust.desc).map (fun d => d.parameters.length) = some 2 := by decide +kernel
set_option maxHeartbeats 4000000 in
set_option maxRecDepth 100000 in
theorem c_X2_changeGust {E : dp_E} (hE : dp_OK E) (l : Launch) {M : dp_M} {r : Nat} {V Y : dp_V} (hr : r < 7) {k : Nat} {x : Int} (hk : k < 31) : dp_met E l yX2_changeGust wsX2_changeGust 0 0 [.ref (eAd E r 0), .int (dp_I k), .int (dp_I x)] (dS M r V Y) (dp_qi E (fun y M1 => y = V 2 k ∧ M1 = dS M r (u2 V 2 k x) Y)) := by
  refine dp_of (cc := cX2_changeGust) (nL := 4) (own := RX2) (ret := some (.int)) (by decide +kernel) rfl rfl hE (by simp [Value.category]) (Nat.le_of_ble_eq_true rfl) ?_
  intro p e s m below meth co C hret
  show dp_G _ _ _ _ _ _ _ _ _ _ _ _ _ _ _ _ _ [some (.ref (eAd E r 0)), some (.int (dp_I k)), some (.int (dp_I x)), none] _
  have hX2 : ∀ w ∈ u_ws RX2 TX2 11, w ∈ wsX2_changeGust := fun w h => List.mem_cons_of_mem _ (List.mem_append_right _ (h))
  refine dp_aload_n C dX2_changeGust_0 rfl ?_
  refine dp_getf C (k := 4) (dp_mS ‹_› (by decide)) (dp_xst ‹_›) rfl hX2 (by decide) (List.mem_of_getElem? (i := 1) rfl) rfl dX2_changeGust_1 ?_
  refine dp_iload_n C dX2_changeGust_4 rfl ?_
  refine dp_ald_gu C ‹_› ⟨by omega, by omega⟩ (Int.toNat_natCast _) dX2_changeGust_5 ?_
  refine dp_istore_n C dX2_changeGust_6 (Nat.le_of_ble_eq_true rfl) ?_
  dsimp only [List.set]
  refine dp_aload_n C dX2_changeGust_7 rfl ?_
  refine dp_getf C (k := 4) (dp_mS ‹_› (by decide)) (dp_xst ‹_›) rfl hX2 (by decide) (List.mem_of_getElem? (i := 1) rfl) rfl dX2_changeGust_8 ?_
  refine dp_iload_n C dX2_changeGust_11 rfl ?_
  refine dp_iload_n C dX2_changeGust_12 rfl ?_
  refine dp_ast_gu C ‹_› ⟨by omega, by omega⟩ (Int.toNat_natCast _) dX2_changeGust_13 ?_
  refine dp_iload_n C dX2_changeGust_14 rfl ?_
  refine dp_iret C hret dX2_changeGust_15 ?_
  exact ⟨rfl, rfl⟩
theorem yyX2_axisNumber : yX2_axisNumber.cls = RX2 ∧ yX2_axisNumber.cls ≠ "java/lang/invoke/MethodHandle" ∧ yX2_axisNumber.cls ≠ "java/lang/invoke/VarHandle" ∧ (parseMethodDescriptor yX2_axisNumber.desc).map (fun d => d.parameters.length) = some 1 := by decide +kernel
set_option maxHeartbeats 4000000 in
set_option maxRecDepth 100000 in
theorem c_X2_axisNumber {E : dp_E} (hE : dp_OK E) (l : Launch) {M : dp_M} {r : Nat} {V Y : dp_V} (hr : r < 7) {n : Int} (hn : dp_R n) : dp_met E l yX2_axisNumber wsX2_axisNumber 0 0 [.ref (eAd E r 0), .int (dp_I n)] (dS M r V Y) (dp_qr E (fun r1 c1 M1 => r1 = r ∧ (n = 0 → c1 = 3) ∧ (¬ n = 0 → c1 = 4) ∧ M1 = dS M r V Y)) := by
  refine dp_of (cc := cX2_axisNumber) (nL := 2) (own := RX2) (ret := some ((.object "DishPointer$Axis"))) (by decide +kernel) rfl rfl hE (by simp [Value.category]) (Nat.le_of_ble_eq_true rfl) ?_
  intro p e s m below meth co C hret
  show dp_G _ _ _ _ _ _ _ _ _ _ _ _ _ _ _ _ _ [some (.ref (eAd E r 0)), some (.int (dp_I n))] _
  have hX2 : ∀ w ∈ u_ws RX2 TX2 11, w ∈ wsX2_axisNumber := fun w h => List.mem_cons_of_mem _ (List.mem_append_right _ (h))
  unfold dp_R at hn
  refine dp_iload_n C dX2_axisNumber_0 rfl ?_
  refine dp_if_ne (tgt := 11) C dX2_axisNumber_1 (by decide) ⟨by omega, by omega⟩ (fun c1 => ?_) (fun c1 => ?_)
  · skip
    refine dp_aload_n C dX2_axisNumber_11 rfl ?_
    refine dp_getf C (k := 6) (dp_mS ‹_› (by decide)) (dp_xst ‹_›) rfl hX2 (by decide) (List.mem_of_getElem? (i := 2) rfl) rfl dX2_axisNumber_12 ?_
    refine dp_aret C hret dX2_axisNumber_15 ?_
    exact ⟨rfl, fun h => by first | rfl | exact absurd h (by assumption), fun h => by first | rfl | exact absurd (by assumption) h, rfl⟩
  · skip
    refine dp_aload_n C dX2_axisNumber_4 rfl ?_
    refine dp_getf C (k := 5) (dp_mS ‹_› (by decide)) (dp_xst ‹_›) rfl hX2 (by decide) (List.mem_of_getElem? (i := 1) rfl) rfl dX2_axisNumber_5 ?_
    refine dp_goto (tgt := 15) C dX2_axisNumber_8 (by decide) ?_
    refine dp_aret C hret dX2_axisNumber_15 ?_
    exact ⟨rfl, fun h => by first | rfl | exact absurd h (by assumption), fun h => by first | rfl | exact absurd (by assumption) h, rfl⟩
theorem yyX2_day : yX2_day.cls = RX2 ∧ yX2_day.cls ≠ "java/lang/invoke/MethodHandle" ∧ yX2_day.cls ≠ "java/lang/invoke/VarHandle" ∧ (parseMethodDescriptor yX2_day.desc).map (fun d => d.parameters.length) = some 0 := by decide +kernel
set_option maxHeartbeats 4000000 in
set_option maxRecDepth 100000 in
theorem c_X2_day {E : dp_E} (hE : dp_OK E) (l : Launch) {M : dp_M} {r : Nat} {V Y : dp_V} (hr : r < 7) (hv : 0 ≤ V 0 0 ∧ V 0 0 ≤ 43200) : dp_met E l yX2_day wsX2_day 0 0 [.ref (eAd E r 0)] (dS M r V Y) (dp_qi E (fun y M1 => y = V 0 0 / 1440 ∧ M1 = dS M r V Y)) := by
  refine dp_of (cc := cX2_day) (nL := 1) (own := RX2) (ret := some (.int)) (by decide +kernel) rfl rfl hE (by simp [Value.category]) (Nat.le_of_ble_eq_true rfl) ?_
  intro p e s m below meth co C hret
  show dp_G _ _ _ _ _ _ _ _ _ _ _ _ _ _ _ _ _ [some (.ref (eAd E r 0))] _
  have hX2 : ∀ w ∈ u_ws RX2 TX2 11, w ∈ wsX2_day := fun w h => List.mem_cons_of_mem _ (List.mem_append_right _ (h))
  refine dp_aload_n C dX2_day_0 rfl ?_
  refine dp_getf C (k := 0) (dp_mS ‹_› (by decide)) (dp_xst ‹_›) rfl hX2 (by decide) (List.mem_of_getElem? (i := 1) rfl) rfl dX2_day_1 ?_
  refine dp_sipush C dX2_day_4 (by decide) ?_
  refine dp_idiv C ⟨by omega, by omega, by omega, by omega⟩ dX2_day_7 ?_
  refine dp_iret C hret dX2_day_8 ?_
  exact ⟨rfl, rfl⟩
theorem yyX2_gustToday : yX2_gustToday.cls = RX2 ∧ yX2_gustToday.cls ≠ "java/lang/invoke/MethodHandle" ∧ yX2_gustToday.cls ≠ "java/lang/invoke/VarHandle" ∧ (parseMethodDescriptor yX2_gustToday.desc).map (fun d => d.parameters.length) = some 0 := by decide +kernel
set_option maxHeartbeats 4000000 in
set_option maxRecDepth 100000 in
theorem c_X2_gustToday {E : dp_E} (hE : dp_OK E) (l : Launch) {M : dp_M} {r : Nat} {V Y : dp_V} (hr : r < 7) (hv : 0 ≤ V 0 0 ∧ V 0 0 ≤ 43200) : dp_met E l yX2_gustToday wsX2_gustToday 1 20 [.ref (eAd E r 0)] (dS M r V Y) (dp_qi E (fun y M1 => y = guF V ∧ M1 = dS M r V Y)) := by
  refine dp_of (cc := cX2_gustToday) (nL := 2) (own := RX2) (ret := some (.int)) (by decide +kernel) rfl rfl hE (by simp [Value.category]) (Nat.le_of_ble_eq_true rfl) ?_
  intro p e s m below meth co C hret
  show dp_G _ _ _ _ _ _ _ _ _ _ _ _ _ _ _ _ _ [some (.ref (eAd E r 0)), none] _
  have hX2 : ∀ w ∈ u_ws RX2 TX2 11, w ∈ wsX2_gustToday := fun w h => List.mem_cons_of_mem _ (List.mem_append_right _ (h))
  refine dp_aload_n C dX2_gustToday_0 rfl ?_
  refine dp_cVi C (c_X2_day C.2.2.1 l ‹_› ‹_›) gX2_gustToday_X2_day rfl (dp_mS ‹_› (by decide)) (dp_xst ‹_›) rfl yyX2_day rfl ⟨Nat.le_of_ble_eq_true rfl, Nat.le_of_ble_eq_true rfl⟩ rfl (Nat.le_of_ble_eq_true rfl) rfl ⟨Nat.zero_le _, Nat.zero_le _⟩ dX2_gustToday_1 (fun x1 M1 h1 => ?_)
  obtain ⟨rfl, rfl⟩ := h1
  refine dp_istore_n C dX2_gustToday_4 (Nat.le_of_ble_eq_true rfl) ?_
  dsimp only [List.set]
  refine dp_iload_n C dX2_gustToday_5 rfl ?_
  refine dp_if_lt (tgt := 27) C dX2_gustToday_6 (by decide) ⟨by omega, by omega⟩ (fun c6 => ?_) (fun c6 => ?_)
  · skip
    refine dp_iconst C dX2_gustToday_27 ?_
    refine dp_iret C hret dX2_gustToday_28 ?_
    first | exact ⟨rfl, rfl⟩ | (exfalso; omega)
  · skip
    refine dp_iload_n C dX2_gustToday_9 rfl ?_
    refine dp_aload_n C dX2_gustToday_10 rfl ?_
    refine dp_getf C (k := 4) (dp_mS ‹_› (by decide)) (dp_xst ‹_›) rfl hX2 (by decide) (List.mem_of_getElem? (i := 1) rfl) rfl dX2_gustToday_11 ?_
    refine dp_alen C (t0 := 0) (dp_mS ‹_› (by decide)) 31 (dp_xgu ‹_›) rfl rfl dX2_gustToday_14 ?_
    refine dp_icmp_ge (tgt := 27) C dX2_gustToday_15 (by decide) ⟨by omega, by omega⟩ ⟨by omega, by omega⟩ (fun c15 => ?_) (fun c15 => ?_)
    · skip
      refine dp_iconst C dX2_gustToday_27 ?_
      refine dp_iret C hret dX2_gustToday_28 ?_
      first | exact ⟨rfl, rfl⟩ | (exfalso; omega)
    · skip
      refine dp_aload_n C dX2_gustToday_18 rfl ?_
      refine dp_getf C (k := 4) (dp_mS ‹_› (by decide)) (dp_xst ‹_›) rfl hX2 (by decide) (List.mem_of_getElem? (i := 1) rfl) rfl dX2_gustToday_19 ?_
      refine dp_iload_n C dX2_gustToday_22 rfl ?_
      refine dp_ald_gu C ‹_› ⟨by omega, by omega⟩ rfl dX2_gustToday_23 ?_
      refine dp_goto (tgt := 28) C dX2_gustToday_24 (by decide) ?_
      refine dp_iret C hret dX2_gustToday_28 ?_
      first | exact ⟨rfl, rfl⟩ | (exfalso; omega)
theorem yyX2_kindOfDay : yX2_kindOfDay.cls = RX2 ∧ yX2_kindOfDay.cls ≠ "java/lang/invoke/MethodHandle" ∧ yX2_kindOfDay.cls ≠ "java/lang/invoke/VarHandle" ∧ (parseMethodDescriptor yX2_kindOfDay.desc).map (fun d => d.parameters.length) = some 0 := by decide +kernel
set_option maxHeartbeats 4000000 in
set_option maxRecDepth 100000 in
theorem c_X2_kindOfDay {E : dp_E} (hE : dp_OK E) (l : Launch) {M : dp_M} {r : Nat} {V Y : dp_V} (hr : r < 7) (hv : ivS V) : dp_met E l yX2_kindOfDay wsX2_kindOfDay 2 41 [.ref (eAd E r 0)] (dS M r V Y) (dp_qi E (fun y M1 => y = kdF V ∧ M1 = dS M r V Y)) := by
  refine dp_of (cc := cX2_kindOfDay) (nL := 2) (own := RX2) (ret := some (.int)) (by decide +kernel) rfl rfl hE (by simp [Value.category]) (Nat.le_of_ble_eq_true rfl) ?_
  intro p e s m below meth co C hret
  show dp_G _ _ _ _ _ _ _ _ _ _ _ _ _ _ _ _ _ [some (.ref (eAd E r 0)), none] _
  have hX2 : ∀ w ∈ u_ws RX2 TX2 11, w ∈ wsX2_kindOfDay := fun w h => List.mem_cons_of_mem _ (List.mem_append_right _ (h))
  have hg := guF_bd hv
  have h0 := hv.1
  have h1 := hv.2.1
  refine dp_aload_n C dX2_kindOfDay_0 rfl ?_
  refine dp_cVi C (c_X2_gustToday C.2.2.1 l ‹_› h0) gX2_kindOfDay_X2_gustToday rfl (dp_mS ‹_› (by decide)) (dp_xst ‹_›) rfl yyX2_gustToday rfl ⟨Nat.le_of_ble_eq_true rfl, Nat.le_of_ble_eq_true rfl⟩ rfl (Nat.le_of_ble_eq_true rfl) rfl ⟨Nat.zero_le _, Nat.zero_le _⟩ dX2_kindOfDay_1 (fun x1 M1 h1 => ?_)
  obtain ⟨rfl, rfl⟩ := h1
  refine dp_istore_n C dX2_kindOfDay_4 (Nat.le_of_ble_eq_true rfl) ?_
  dsimp only [List.set]
  refine dp_iload_n C dX2_kindOfDay_5 rfl ?_
  refine dp_aload_n C dX2_kindOfDay_6 rfl ?_
  refine dp_getf C (k := 3) (dp_mS ‹_› (by decide)) (dp_xst ‹_›) rfl hX2 (by decide) (List.mem_of_getElem? (i := 1) rfl) rfl dX2_kindOfDay_7 ?_
  refine dp_iconst C dX2_kindOfDay_10 ?_
  refine dp_ald_se C ‹_› (j := 3) ⟨by omega, by omega⟩ rfl dX2_kindOfDay_11 ?_
  refine dp_icmp_lt (tgt := 17) C dX2_kindOfDay_12 (by decide) ⟨by omega, by omega⟩ ⟨by omega, by omega⟩ (fun c12 => ?_) (fun c12 => ?_)
  · skip
    refine dp_iload_n C dX2_kindOfDay_17 rfl ?_
    refine dp_aload_n C dX2_kindOfDay_18 rfl ?_
    refine dp_getf C (k := 3) (dp_mS ‹_› (by decide)) (dp_xst ‹_›) rfl hX2 (by decide) (List.mem_of_getElem? (i := 1) rfl) rfl dX2_kindOfDay_19 ?_
    refine dp_iconst C dX2_kindOfDay_22 ?_
    refine dp_ald_se C ‹_› (j := 2) ⟨by omega, by omega⟩ rfl dX2_kindOfDay_23 ?_
    refine dp_icmp_lt (tgt := 31) C dX2_kindOfDay_24 (by decide) ⟨by omega, by omega⟩ ⟨by omega, by omega⟩ (fun c24 => ?_) (fun c24 => ?_)
    · skip
      refine dp_iconst C dX2_kindOfDay_31 ?_
      refine dp_iret C hret dX2_kindOfDay_32 ?_
      refine ⟨?_, rfl⟩
      unfold kdF
      repeat (first | rw [if_neg (by omega)] | rw [if_pos (by omega)])
    · skip
      refine dp_iconst C dX2_kindOfDay_27 ?_
      refine dp_goto (tgt := 32) C dX2_kindOfDay_28 (by decide) ?_
      refine dp_iret C hret dX2_kindOfDay_32 ?_
      refine ⟨?_, rfl⟩
      unfold kdF
      repeat (first | rw [if_neg (by omega)] | rw [if_pos (by omega)])
  · skip
    refine dp_iconst C dX2_kindOfDay_15 ?_
    refine dp_iret C hret dX2_kindOfDay_16 ?_
    refine ⟨?_, rfl⟩
    unfold kdF
    repeat (first | rw [if_neg (by omega)] | rw [if_pos (by omega)])
theorem yyX2_tell : yX2_tell.cls = RX2 ∧ yX2_tell.cls ≠ "java/lang/invoke/MethodHandle" ∧ yX2_tell.cls ≠ "java/lang/invoke/VarHandle" ∧ (parseMethodDescriptor yX2_tell.desc).map (fun d => d.parameters.length) = some 1 := by decide +kernel
set_option maxHeartbeats 4000000 in
set_option maxRecDepth 100000 in
theorem c_X2_tell {E : dp_E} (hE : dp_OK E) (l : Launch) {M : dp_M} {r : Nat} {V Y : dp_V} (hr : r < 7) {x : Int} (hv : ivS V) (hx : dp_R x) : dp_met E l yX2_tell wsX2_tell 3 62 [.ref (eAd E r 0), .int (dp_I x)] (dS M r V Y) (dp_qi E (fun y M1 => y = stT V x ∧ M1 = dS M r V Y)) := by
  refine dp_of (cc := cX2_tell) (nL := 2) (own := RX2) (ret := some (.int)) (by decide +kernel) rfl rfl hE (by simp [Value.category]) (Nat.le_of_ble_eq_true rfl) ?_
  intro p e s m below meth co C hret
  show dp_G _ _ _ _ _ _ _ _ _ _ _ _ _ _ _ _ _ [some (.ref (eAd E r 0)), some (.int (dp_I x))] _
  have hX2 : ∀ w ∈ u_ws RX2 TX2 11, w ∈ wsX2_tell := fun w h => List.mem_cons_of_mem _ (List.mem_append_left _ (List.mem_append_right _ (h)))
  have h0 := hv.1
  have hA := hv.2.2.2.1
  unfold ivA at hA
  have hb := @ax_bd 3
  unfold dp_R at hx
  refine dp_iload_n C dX2_tell_0 rfl ?_
  refine dp_table (td := 163) C [92, 97, 102, 107, 163, 163, 163, 163, 163, 163, 163, 163, 112, 119, 126, 133, 140, 145, 150] dX2_tell_1 (by decide) (by decide) (by decide) ⟨by omega, by omega⟩ (fun c1 => ?_) ?_
  · skip
    refine dp_ldc C (-100001) (List.mem_of_getElem? (i := 7) rfl) rfl dX2_tell_163 ?_
    refine dp_iret C hret dX2_tell_165 ?_
    refine ⟨?_, rfl⟩
    unfold stT
    repeat (first | rw [if_neg (by omega)] | rw [if_pos (by omega)])
  · simp only [dp_sw]
    refine ⟨fun c1 => ?_, fun c1 => ?_, fun c1 => ?_, fun c1 => ?_, fun c1 => ?_, fun c1 => ?_, fun c1 => ?_, fun c1 => ?_, fun c1 => ?_, fun c1 => ?_, fun c1 => ?_, fun c1 => ?_, fun c1 => ?_, fun c1 => ?_, fun c1 => ?_, fun c1 => ?_, fun c1 => ?_, fun c1 => ?_, fun c1 => ?_, trivial⟩
    · skip
      refine dp_aload_n C dX2_tell_92 rfl ?_
      refine dp_getf C (k := 0) (dp_mS ‹_› (by decide)) (dp_xst ‹_›) rfl hX2 (by decide) (List.mem_of_getElem? (i := 1) rfl) rfl dX2_tell_93 ?_
      refine dp_iret C hret dX2_tell_96 ?_
      refine ⟨?_, rfl⟩
      unfold stT
      repeat (first | rw [if_neg (by omega)] | rw [if_pos (by omega)])
    · skip
      refine dp_aload_n C dX2_tell_97 rfl ?_
      refine dp_cVi C (c_X2_day C.2.2.1 l ‹_› h0) gX2_tell_X2_day rfl (dp_mS ‹_› (by decide)) (dp_xst ‹_›) rfl yyX2_day rfl ⟨Nat.le_of_ble_eq_true rfl, Nat.le_of_ble_eq_true rfl⟩ rfl (Nat.le_of_ble_eq_true rfl) rfl ⟨Nat.zero_le _, Nat.zero_le _⟩ dX2_tell_98 (fun x98 M98 h98 => ?_)
      obtain ⟨rfl, rfl⟩ := h98
      refine dp_iret C hret dX2_tell_101 ?_
      refine ⟨?_, rfl⟩
      unfold stT
      repeat (first | rw [if_neg (by omega)] | rw [if_pos (by omega)])
    · skip
      refine dp_aload_n C dX2_tell_102 rfl ?_
      refine dp_cVi C (c_X2_gustToday C.2.2.1 l ‹_› h0) gX2_tell_X2_gustToday rfl (dp_mS ‹_› (by decide)) (dp_xst ‹_›) rfl yyX2_gustToday rfl ⟨Nat.le_of_ble_eq_true rfl, Nat.le_of_ble_eq_true rfl⟩ rfl (Nat.le_of_ble_eq_true rfl) rfl ⟨Nat.zero_le _, Nat.zero_le _⟩ dX2_tell_103 (fun x103 M103 h103 => ?_)
      obtain ⟨rfl, rfl⟩ := h103
      refine dp_iret C hret dX2_tell_106 ?_
      refine ⟨?_, rfl⟩
      unfold stT
      repeat (first | rw [if_neg (by omega)] | rw [if_pos (by omega)])
    · skip
      refine dp_aload_n C dX2_tell_107 rfl ?_
      refine dp_cVi C (c_X2_kindOfDay C.2.2.1 l ‹_› hv) gX2_tell_X2_kindOfDay rfl (dp_mS ‹_› (by decide)) (dp_xst ‹_›) rfl yyX2_kindOfDay rfl ⟨Nat.le_of_ble_eq_true rfl, Nat.le_of_ble_eq_true rfl⟩ rfl (Nat.le_of_ble_eq_true rfl) rfl ⟨Nat.zero_le _, Nat.zero_le _⟩ dX2_tell_108 (fun x108 M108 h108 => ?_)
      obtain ⟨rfl, rfl⟩ := h108
      refine dp_iret C hret dX2_tell_111 ?_
      refine ⟨?_, rfl⟩
      unfold stT
      repeat (first | rw [if_neg (by omega)] | rw [if_pos (by omega)])
    · skip
      refine dp_ldc C (-100001) (List.mem_of_getElem? (i := 7) rfl) rfl dX2_tell_163 ?_
      refine dp_iret C hret dX2_tell_165 ?_
      refine ⟨?_, rfl⟩
      unfold stT
      repeat (first | rw [if_neg (by omega)] | rw [if_pos (by omega)])
    · skip
      refine dp_ldc C (-100001) (List.mem_of_getElem? (i := 7) rfl) rfl dX2_tell_163 ?_
      refine dp_iret C hret dX2_tell_165 ?_
      refine ⟨?_, rfl⟩
      unfold stT
      repeat (first | rw [if_neg (by omega)] | rw [if_pos (by omega)])
    · skip
      refine dp_ldc C (-100001) (List.mem_of_getElem? (i := 7) rfl) rfl dX2_tell_163 ?_
      refine dp_iret C hret dX2_tell_165 ?_
      refine ⟨?_, rfl⟩
      unfold stT
      repeat (first | rw [if_neg (by omega)] | rw [if_pos (by omega)])
    · skip
      refine dp_ldc C (-100001) (List.mem_of_getElem? (i := 7) rfl) rfl dX2_tell_163 ?_
      refine dp_iret C hret dX2_tell_165 ?_
      refine ⟨?_, rfl⟩
      unfold stT
      repeat (first | rw [if_neg (by omega)] | rw [if_pos (by omega)])
    · skip
      refine dp_ldc C (-100001) (List.mem_of_getElem? (i := 7) rfl) rfl dX2_tell_163 ?_
      refine dp_iret C hret dX2_tell_165 ?_
      refine ⟨?_, rfl⟩
      unfold stT
      repeat (first | rw [if_neg (by omega)] | rw [if_pos (by omega)])
    · skip
      refine dp_ldc C (-100001) (List.mem_of_getElem? (i := 7) rfl) rfl dX2_tell_163 ?_
      refine dp_iret C hret dX2_tell_165 ?_
      refine ⟨?_, rfl⟩
      unfold stT
      repeat (first | rw [if_neg (by omega)] | rw [if_pos (by omega)])
    · skip
      refine dp_ldc C (-100001) (List.mem_of_getElem? (i := 7) rfl) rfl dX2_tell_163 ?_
      refine dp_iret C hret dX2_tell_165 ?_
      refine ⟨?_, rfl⟩
      unfold stT
      repeat (first | rw [if_neg (by omega)] | rw [if_pos (by omega)])
    · skip
      refine dp_ldc C (-100001) (List.mem_of_getElem? (i := 7) rfl) rfl dX2_tell_163 ?_
      refine dp_iret C hret dX2_tell_165 ?_
      refine ⟨?_, rfl⟩
      unfold stT
      repeat (first | rw [if_neg (by omega)] | rw [if_pos (by omega)])
    · skip
      refine dp_aload_n C dX2_tell_112 rfl ?_
      refine dp_getf C (k := 3) (dp_mS ‹_› (by decide)) (dp_xst ‹_›) rfl hX2 (by decide) (List.mem_of_getElem? (i := 2) rfl) rfl dX2_tell_113 ?_
      refine dp_iconst C dX2_tell_116 ?_
      refine dp_ald_se C ‹_› (j := 0) ⟨by omega, by omega⟩ rfl dX2_tell_117 ?_
      refine dp_iret C hret dX2_tell_118 ?_
      refine ⟨?_, rfl⟩
      unfold stT
      repeat (first | rw [if_neg (by omega)] | rw [if_pos (by omega)])
    · skip
      refine dp_aload_n C dX2_tell_119 rfl ?_
      refine dp_getf C (k := 3) (dp_mS ‹_› (by decide)) (dp_xst ‹_›) rfl hX2 (by decide) (List.mem_of_getElem? (i := 2) rfl) rfl dX2_tell_120 ?_
      refine dp_iconst C dX2_tell_123 ?_
      refine dp_ald_se C ‹_› (j := 1) ⟨by omega, by omega⟩ rfl dX2_tell_124 ?_
      refine dp_iret C hret dX2_tell_125 ?_
      refine ⟨?_, rfl⟩
      unfold stT
      repeat (first | rw [if_neg (by omega)] | rw [if_pos (by omega)])
    · skip
      refine dp_aload_n C dX2_tell_126 rfl ?_
      refine dp_getf C (k := 3) (dp_mS ‹_› (by decide)) (dp_xst ‹_›) rfl hX2 (by decide) (List.mem_of_getElem? (i := 2) rfl) rfl dX2_tell_127 ?_
      refine dp_iconst C dX2_tell_130 ?_
      refine dp_ald_se C ‹_› (j := 2) ⟨by omega, by omega⟩ rfl dX2_tell_131 ?_
      refine dp_iret C hret dX2_tell_132 ?_
      refine ⟨?_, rfl⟩
      unfold stT
      repeat (first | rw [if_neg (by omega)] | rw [if_pos (by omega)])
    · skip
      refine dp_aload_n C dX2_tell_133 rfl ?_
      refine dp_getf C (k := 3) (dp_mS ‹_› (by decide)) (dp_xst ‹_›) rfl hX2 (by decide) (List.mem_of_getElem? (i := 2) rfl) rfl dX2_tell_134 ?_
      refine dp_iconst C dX2_tell_137 ?_
      refine dp_ald_se C ‹_› (j := 3) ⟨by omega, by omega⟩ rfl dX2_tell_138 ?_
      refine dp_iret C hret dX2_tell_139 ?_
      refine ⟨?_, rfl⟩
      unfold stT
      repeat (first | rw [if_neg (by omega)] | rw [if_pos (by omega)])
    · skip
      refine dp_aload_n C dX2_tell_140 rfl ?_
      refine dp_getf C (k := 1) (dp_mS ‹_› (by decide)) (dp_xst ‹_›) rfl hX2 (by decide) (List.mem_of_getElem? (i := 3) rfl) rfl dX2_tell_141 ?_
      refine dp_iret C hret dX2_tell_144 ?_
      refine ⟨?_, rfl⟩
      unfold stT
      repeat (first | rw [if_neg (by omega)] | rw [if_pos (by omega)])
    · skip
      refine dp_aload_n C dX2_tell_145 rfl ?_
      refine dp_getf C (k := 2) (dp_mS ‹_› (by decide)) (dp_xst ‹_›) rfl hX2 (by decide) (List.mem_of_getElem? (i := 4) rfl) rfl dX2_tell_146 ?_
      refine dp_iret C hret dX2_tell_149 ?_
      refine ⟨?_, rfl⟩
      unfold stT
      repeat (first | rw [if_neg (by omega)] | rw [if_pos (by omega)])
    · skip
      refine dp_aload_n C dX2_tell_150 rfl ?_
      refine dp_getf C (k := 5) (dp_mS ‹_› (by decide)) (dp_xst ‹_›) rfl hX2 (by decide) (List.mem_of_getElem? (i := 5) rfl) rfl dX2_tell_151 ?_
      refine dp_cVi C (c_X0_dish C.2.2.1 l ‹_› (Or.inl rfl)) gX2_tell_X0_dish rfl (dp_mS ‹_› (dp_cA (Or.inl rfl))) (dp_xax ‹_› (Or.inl rfl)) rfl yyX0_dish rfl ⟨Nat.le_of_ble_eq_true rfl, Nat.le_of_ble_eq_true rfl⟩ rfl (Nat.le_of_ble_eq_true rfl) rfl ⟨Nat.zero_le _, Nat.zero_le _⟩ dX2_tell_154 (fun x154 M154 h154 => ?_)
      obtain ⟨rfl, rfl⟩ := h154
      refine dp_ldc C (36000) (List.mem_of_getElem? (i := 6) rfl) rfl dX2_tell_157 ?_
      refine dp_cSi C (c_J9_floorMod_7cf53 C.2.2.1 l ⟨by omega, by omega⟩ (by decide)) gX2_tell_J9_floorMod_7cf53 rfl yyJ9_floorMod_7cf53 rfl ⟨Nat.le_of_ble_eq_true rfl, Nat.le_of_ble_eq_true rfl⟩ rfl (Nat.le_of_ble_eq_true rfl) rfl ⟨Nat.zero_le _, Nat.zero_le _⟩ dX2_tell_159 (fun x159 M159 h159 => ?_)
      obtain ⟨rfl, rfl⟩ := h159
      refine dp_iret C hret dX2_tell_162 ?_
      refine ⟨?_, rfl⟩
      unfold stT
      repeat (first | rw [if_neg (by omega)] | rw [if_pos (by omega)])
theorem yyX2_wayRise : yX2_wayRise.cls = RX2 ∧ yX2_wayRise.cls ≠ "java/lang/invoke/MethodHandle" ∧ yX2_wayRise.cls ≠ "java/lang/invoke/VarHandle" ∧ (parseMethodDescriptor yX2_wayRise.desc).map (fun d => d.parameters.length) = some 1 := by decide +kernel
set_option maxHeartbeats 4000000 in
set_option maxRecDepth 100000 in
theorem c_X2_wayRise {E : dp_E} (hE : dp_OK E) (l : Launch) {M : dp_M} {r : Nat} {V Y : dp_V} (hr : r < 7) (hv : ivS V) {el : Int} (he : -40000 ≤ el ∧ el ≤ 40000) : dp_met E l yX2_wayRise wsX2_wayRise 2 46 [.ref (eAd E r 0), .int (dp_I el)] (dS M r V Y) (dp_qr E (fun r1 c1 M1 => r1 = r ∧ c1 = 18 ∧ ∃ Y', M1 = dS M r V Y' ∧ (∀ c', c' ≠ 18 → Y' c' = Y c') ∧ wyOK 4 (V 4) el (V 1 0) (Y' 18))) := by
  refine dp_of (cc := cX2_wayRise) (nL := 2) (own := RX2) (ret := some ((.object "DishPointer$Way"))) (by decide +kernel) rfl rfl hE (by simp [Value.category]) (Nat.le_of_ble_eq_true rfl) ?_
  intro p e s m below meth co C hret
  show dp_G _ _ _ _ _ _ _ _ _ _ _ _ _ _ _ _ _ [some (.ref (eAd E r 0)), some (.int (dp_I el))] _
  have hX2 : ∀ w ∈ u_ws RX2 TX2 11, w ∈ wsX2_wayRise := fun w h => List.mem_cons_of_mem _ (List.mem_append_left _ (List.mem_append_left _ (List.mem_append_right _ (h))))
  have h1 := hv.2.1
  refine dp_aload_n C dX2_wayRise_0 rfl ?_
  refine dp_getf C (k := 10) (dp_mS ‹_› (by decide)) (dp_xst ‹_›) rfl hX2 (by decide) (List.mem_of_getElem? (i := 1) rfl) rfl dX2_wayRise_1 ?_
  refine dp_aload_n C dX2_wayRise_4 rfl ?_
  refine dp_getf C (k := 6) (dp_mS ‹_› (by decide)) (dp_xst ‹_›) rfl hX2 (by decide) (List.mem_of_getElem? (i := 2) rfl) rfl dX2_wayRise_5 ?_
  refine dp_iload_n C dX2_wayRise_8 rfl ?_
  refine dp_aload_n C dX2_wayRise_9 rfl ?_
  refine dp_getf C (k := 3) (dp_mS ‹_› (by decide)) (dp_xst ‹_›) rfl hX2 (by decide) (List.mem_of_getElem? (i := 3) rfl) rfl dX2_wayRise_10 ?_
  refine dp_iconst C dX2_wayRise_13 ?_
  refine dp_ald_se C ‹_› (j := 0) ⟨by omega, by omega⟩ rfl dX2_wayRise_14 ?_
  refine dp_cVv C (c_X5_plan C.2.2.1 l ‹_› (Or.inr (Or.inr rfl)) (Or.inr rfl) hv.2.2.2.2 he ⟨by omega, by omega⟩) gX2_wayRise_X5_plan rfl (dp_mS ‹_› (dp_cW (Or.inr (Or.inr rfl)))) (dp_xwy ‹_› (Or.inr (Or.inr rfl))) rfl yyX5_plan rfl ⟨Nat.le_of_ble_eq_true rfl, Nat.le_of_ble_eq_true rfl⟩ rfl (Nat.le_of_ble_eq_true rfl) rfl ⟨Nat.zero_le _, Nat.zero_le _⟩ dX2_wayRise_15 (fun M15 h15 => ?_)
  obtain ⟨Y1, rfl, hY1, hW1⟩ := h15
  refine dp_aload_n C dX2_wayRise_18 rfl ?_
  refine dp_getf C (k := 10) (dp_mS ‹_› (by decide)) (dp_xst ‹_›) rfl hX2 (by decide) (List.mem_of_getElem? (i := 1) rfl) rfl dX2_wayRise_19 ?_
  refine dp_aret C hret dX2_wayRise_22 ?_
  exact ⟨rfl, rfl, _, rfl, hY1, hW1⟩
theorem yyX2_isLowWayTaken : yX2_isLowWayTaken.cls = RX2 ∧ yX2_isLowWayTaken.cls ≠ "java/lang/invoke/MethodHandle" ∧ yX2_isLowWayTaken.cls ≠ "java/lang/invoke/VarHandle" ∧ (parseMethodDescriptor yX2_isLowWayTaken.desc).map (fun d => d.parameters.length) = some 0 := by decide +kernel
set_option maxHeartbeats 4000000 in
set_option maxRecDepth 100000 in
theorem c_X2_isLowWayTaken {E : dp_E} (hE : dp_OK E) (l : Launch) {M : dp_M} {r : Nat} {V Y : dp_V} (hr : r < 7) {z : Int} (hv : ivS V) (hz : 0 ≤ z ∧ z ≤ 36000) (h16 : wyOK 3 (V 3) (z - 36000) (V 1 0) (Y 16)) (h17 : wyOK 3 (V 3) z (V 1 0) (Y 17)) : dp_met E l yX2_isLowWayTaken wsX2_isLowWayTaken 1 21 [.ref (eAd E r 0)] (dS M r V Y) (dp_qi E (fun y M1 => y = ltF V z ∧ M1 = dS M r V Y)) := by
  refine dp_of (cc := cX2_isLowWayTaken) (nL := 5) (own := RX2) (ret := some (.boolean)) (by decide +kernel) rfl rfl hE (by simp [Value.category]) (Nat.le_of_ble_eq_true rfl) ?_
  intro p e s m below meth co C hret
  show dp_G _ _ _ _ _ _ _ _ _ _ _ _ _ _ _ _ _ [some (.ref (eAd E r 0)), none, none, none, none] _
  have hX2 : ∀ w ∈ u_ws RX2 TX2 11, w ∈ wsX2_isLowWayTaken := fun w h => List.mem_cons_of_mem _ (List.mem_append_left _ (List.mem_append_right _ (h)))
  have hX5 : ∀ w ∈ u_ws RX5 TX5 7, w ∈ wsX2_isLowWayTaken := fun w h => List.mem_cons_of_mem _ (List.mem_append_right _ (h))
  have h1 := hv.2.1
  have bL1 := wyL_bd hv.2.2.2.1 (show -40000 ≤ z - 36000 ∧ z - 36000 ≤ 40000 by omega) (show 0 ≤ V 1 0 ∧ V 1 0 ≤ 500 by omega)
  have bL2 := wyL_bd hv.2.2.2.1 (show -40000 ≤ z ∧ z ≤ 40000 by omega) (show 0 ≤ V 1 0 ∧ V 1 0 ≤ 500 by omega)
  obtain ⟨p0, -, -, p3, -, -, -⟩ := h16
  obtain ⟨q0, -, -, q3, -, -, -⟩ := h17
  have e1 : ab (z - 36000) = 36000 - z := by unfold ab; split <;> omega
  have e2 : ab z = z := by unfold ab; split <;> omega
  have J53 : ∀ (a b : Int), a = dp_b (ab (z - 36000) ≤ V 1 1) → b = dp_b (ab z ≤ V 1 1) → dp_G E (dp_A E) p l e (dp_rm 1 21) s m [.ref (eAd E r 0)].toArray below meth co 0 0 (MQ below (dp_qi E (fun y M1 => y = ltF V z ∧ M1 = dS M r V Y)) [.ref (eAd E r 0)].toArray s 0 0 (dp_A E)) (dS M r V Y) 53 [some (.ref (eAd E r 0)), some (.int (dp_I (ab (z - 36000)))), some (.int (dp_I (ab z))), some (.int (dp_I a)), none] [.int (dp_I b)] := by
    intro a b ha hb
    subst ha
    subst hb
    have ba : 0 ≤ dp_b (ab (z - 36000) ≤ V 1 1) ∧ dp_b (ab (z - 36000) ≤ V 1 1) ≤ 1 := dp_b_bd
    have bb : 0 ≤ dp_b (ab z ≤ V 1 1) ∧ dp_b (ab z ≤ V 1 1) ≤ 1 := dp_b_bd
    refine dp_istore C dX2_isLowWayTaken_53 (Nat.le_of_ble_eq_true rfl) ?_
    dsimp only [List.set]
    refine dp_iload_n C dX2_isLowWayTaken_55 rfl ?_
    refine dp_iload C dX2_isLowWayTaken_56 rfl ?_
    refine dp_icmp_eq (tgt := 63) C dX2_isLowWayTaken_58 (by decide) ⟨by omega, by omega⟩ ⟨by omega, by omega⟩ (fun c58 => ?_) (fun c58 => ?_)
    · skip
      refine dp_aload_n C dX2_isLowWayTaken_63 rfl ?_
      refine dp_getf C (k := 8) (dp_mS ‹_› (by decide)) (dp_xst ‹_›) rfl hX2 (by decide) (List.mem_of_getElem? (i := 1) rfl) rfl dX2_isLowWayTaken_64 ?_
      refine dp_getf C (k := 3) (dp_mS ‹_› (dp_cW (Or.inl rfl))) (dp_xwy ‹_› (Or.inl rfl)) rfl hX5 (by decide) (List.mem_of_getElem? (i := 9) rfl) rfl dX2_isLowWayTaken_67 ?_
      rw [p3]
      refine dp_aload_n C dX2_isLowWayTaken_70 rfl ?_
      refine dp_getf C (k := 9) (dp_mS ‹_› (by decide)) (dp_xst ‹_›) rfl hX2 (by decide) (List.mem_of_getElem? (i := 7) rfl) rfl dX2_isLowWayTaken_71 ?_
      refine dp_getf C (k := 3) (dp_mS ‹_› (dp_cW (Or.inr (Or.inl rfl)))) (dp_xwy ‹_› (Or.inr (Or.inl rfl))) rfl hX5 (by decide) (List.mem_of_getElem? (i := 9) rfl) rfl dX2_isLowWayTaken_74 ?_
      rw [q3]
      refine dp_icmp_eq (tgt := 103) C dX2_isLowWayTaken_77 (by decide) ⟨by omega, by omega⟩ ⟨by omega, by omega⟩ (fun c77 => ?_) (fun c77 => ?_)
      · skip
        refine dp_iload_n C dX2_isLowWayTaken_103 rfl ?_
        refine dp_iload_n C dX2_isLowWayTaken_104 rfl ?_
        refine dp_icmp_gt (tgt := 112) C dX2_isLowWayTaken_105 (by decide) ⟨by omega, by omega⟩ ⟨by omega, by omega⟩ (fun c105 => ?_) (fun c105 => ?_)
        · skip
          refine dp_iconst C dX2_isLowWayTaken_112 ?_
          refine dp_zret C hret (by first | decide | exact dp_nb) dX2_isLowWayTaken_113 ?_
          refine ⟨?_, rfl⟩
          unfold ltF
          first | (rw [if_neg (by omega)]; done) | (rw [if_pos (by omega), if_pos (by omega)]; first | exact (dp_b_t (by omega)).symm | exact (dp_b_f (by omega)).symm) | (rw [if_pos (by omega), if_neg (by omega)]; first | exact (dp_b_t (by omega)).symm | exact (dp_b_f (by omega)).symm)
        · skip
          refine dp_iconst C dX2_isLowWayTaken_108 ?_
          refine dp_goto (tgt := 113) C dX2_isLowWayTaken_109 (by decide) ?_
          refine dp_zret C hret (by first | decide | exact dp_nb) dX2_isLowWayTaken_113 ?_
          refine ⟨?_, rfl⟩
          unfold ltF
          first | (rw [if_neg (by omega)]; done) | (rw [if_pos (by omega), if_pos (by omega)]; first | exact (dp_b_t (by omega)).symm | exact (dp_b_f (by omega)).symm) | (rw [if_pos (by omega), if_neg (by omega)]; first | exact (dp_b_t (by omega)).symm | exact (dp_b_f (by omega)).symm)
      · skip
        refine dp_aload_n C dX2_isLowWayTaken_80 rfl ?_
        refine dp_getf C (k := 8) (dp_mS ‹_› (by decide)) (dp_xst ‹_›) rfl hX2 (by decide) (List.mem_of_getElem? (i := 1) rfl) rfl dX2_isLowWayTaken_81 ?_
        refine dp_getf C (k := 3) (dp_mS ‹_› (dp_cW (Or.inl rfl))) (dp_xwy ‹_› (Or.inl rfl)) rfl hX5 (by decide) (List.mem_of_getElem? (i := 9) rfl) rfl dX2_isLowWayTaken_84 ?_
        rw [p3]
        refine dp_aload_n C dX2_isLowWayTaken_87 rfl ?_
        refine dp_getf C (k := 9) (dp_mS ‹_› (by decide)) (dp_xst ‹_›) rfl hX2 (by decide) (List.mem_of_getElem? (i := 7) rfl) rfl dX2_isLowWayTaken_88 ?_
        refine dp_getf C (k := 3) (dp_mS ‹_› (dp_cW (Or.inr (Or.inl rfl)))) (dp_xwy ‹_› (Or.inr (Or.inl rfl))) rfl hX5 (by decide) (List.mem_of_getElem? (i := 9) rfl) rfl dX2_isLowWayTaken_91 ?_
        rw [q3]
        refine dp_icmp_ge (tgt := 101) C dX2_isLowWayTaken_94 (by decide) ⟨by omega, by omega⟩ ⟨by omega, by omega⟩ (fun c94 => ?_) (fun c94 => ?_)
        · skip
          refine dp_iconst C dX2_isLowWayTaken_101 ?_
          refine dp_zret C hret (by first | decide | exact dp_nb) dX2_isLowWayTaken_102 ?_
          refine ⟨?_, rfl⟩
          unfold ltF
          first | (rw [if_neg (by omega)]; done) | (rw [if_pos (by omega), if_pos (by omega)]; first | exact (dp_b_t (by omega)).symm | exact (dp_b_f (by omega)).symm) | (rw [if_pos (by omega), if_neg (by omega)]; first | exact (dp_b_t (by omega)).symm | exact (dp_b_f (by omega)).symm)
        · skip
          refine dp_iconst C dX2_isLowWayTaken_97 ?_
          refine dp_goto (tgt := 102) C dX2_isLowWayTaken_98 (by decide) ?_
          refine dp_zret C hret (by first | decide | exact dp_nb) dX2_isLowWayTaken_102 ?_
          refine ⟨?_, rfl⟩
          unfold ltF
          first | (rw [if_neg (by omega)]; done) | (rw [if_pos (by omega), if_pos (by omega)]; first | exact (dp_b_t (by omega)).symm | exact (dp_b_f (by omega)).symm) | (rw [if_pos (by omega), if_neg (by omega)]; first | exact (dp_b_t (by omega)).symm | exact (dp_b_f (by omega)).symm)
    · skip
      refine dp_iload_n C dX2_isLowWayTaken_61 rfl ?_
      refine dp_zret C hret (by first | decide | exact dp_nb) dX2_isLowWayTaken_62 ?_
      refine ⟨?_, rfl⟩
      unfold ltF
      first | (rw [if_neg (by omega)]; done) | (rw [if_pos (by omega), if_pos (by omega)]; first | exact (dp_b_t (by omega)).symm | exact (dp_b_f (by omega)).symm) | (rw [if_pos (by omega), if_neg (by omega)]; first | exact (dp_b_t (by omega)).symm | exact (dp_b_f (by omega)).symm)
  have J37 : ∀ (a : Int), a = dp_b (ab (z - 36000) ≤ V 1 1) → dp_G E (dp_A E) p l e (dp_rm 1 21) s m [.ref (eAd E r 0)].toArray below meth co 0 0 (MQ below (dp_qi E (fun y M1 => y = ltF V z ∧ M1 = dS M r V Y)) [.ref (eAd E r 0)].toArray s 0 0 (dp_A E)) (dS M r V Y) 37 [some (.ref (eAd E r 0)), some (.int (dp_I (ab (z - 36000)))), some (.int (dp_I (ab z))), none, none] [.int (dp_I a)] := by
    intro a ha
    refine dp_istore_n C dX2_isLowWayTaken_37 (Nat.le_of_ble_eq_true rfl) ?_
    dsimp only [List.set]
    refine dp_iload_n C dX2_isLowWayTaken_38 rfl ?_
    refine dp_aload_n C dX2_isLowWayTaken_39 rfl ?_
    refine dp_getf C (k := 3) (dp_mS ‹_› (by decide)) (dp_xst ‹_›) rfl hX2 (by decide) (List.mem_of_getElem? (i := 8) rfl) rfl dX2_isLowWayTaken_40 ?_
    refine dp_iconst C dX2_isLowWayTaken_43 ?_
    refine dp_ald_se C ‹_› (j := 1) ⟨by omega, by omega⟩ rfl dX2_isLowWayTaken_44 ?_
    refine dp_icmp_gt (tgt := 52) C dX2_isLowWayTaken_45 (by decide) ⟨by omega, by omega⟩ ⟨by omega, by omega⟩ (fun c45 => ?_) (fun c45 => ?_)
    · skip
      refine dp_iconst C dX2_isLowWayTaken_52 ?_
      exact J53 _ _ (by assumption) (by first | exact (dp_b_t (by omega)).symm | exact (dp_b_f (by omega)).symm)
    · skip
      refine dp_iconst C dX2_isLowWayTaken_48 ?_
      refine dp_goto (tgt := 53) C dX2_isLowWayTaken_49 (by decide) ?_
      exact J53 _ _ (by assumption) (by first | exact (dp_b_t (by omega)).symm | exact (dp_b_f (by omega)).symm)
  refine dp_aload_n C dX2_isLowWayTaken_0 rfl ?_
  refine dp_getf C (k := 8) (dp_mS ‹_› (by decide)) (dp_xst ‹_›) rfl hX2 (by decide) (List.mem_of_getElem? (i := 1) rfl) rfl dX2_isLowWayTaken_1 ?_
  refine dp_getf C (k := 0) (dp_mS ‹_› (dp_cW (Or.inl rfl))) (dp_xwy ‹_› (Or.inl rfl)) rfl hX5 (by decide) (List.mem_of_getElem? (i := 2) rfl) rfl dX2_isLowWayTaken_4 ?_
  rw [p0]
  refine dp_mabs C ⟨by omega, by omega⟩ (List.mem_of_getElem? (i := 3) rfl) (List.mem_of_getElem? (i := 4) rfl) (List.mem_of_getElem? (i := 5) rfl) (List.mem_of_getElem? (i := 6) rfl) (Nat.le_of_ble_eq_true rfl) (Nat.le_of_ble_eq_true rfl) (Nat.le_of_ble_eq_true rfl) rfl ⟨Nat.zero_le _, Nat.zero_le _⟩ dX2_isLowWayTaken_7 ?_
  show dp_G _ _ _ _ _ _ _ _ _ _ _ _ _ _ _ _ _ _ (.int (dp_I (ab (z - 36000))) :: _)
  refine dp_istore_n C dX2_isLowWayTaken_10 (Nat.le_of_ble_eq_true rfl) ?_
  dsimp only [List.set]
  refine dp_aload_n C dX2_isLowWayTaken_11 rfl ?_
  refine dp_getf C (k := 9) (dp_mS ‹_› (by decide)) (dp_xst ‹_›) rfl hX2 (by decide) (List.mem_of_getElem? (i := 7) rfl) rfl dX2_isLowWayTaken_12 ?_
  refine dp_getf C (k := 0) (dp_mS ‹_› (dp_cW (Or.inr (Or.inl rfl)))) (dp_xwy ‹_› (Or.inr (Or.inl rfl))) rfl hX5 (by decide) (List.mem_of_getElem? (i := 2) rfl) rfl dX2_isLowWayTaken_15 ?_
  rw [q0]
  refine dp_mabs C ⟨by omega, by omega⟩ (List.mem_of_getElem? (i := 3) rfl) (List.mem_of_getElem? (i := 4) rfl) (List.mem_of_getElem? (i := 5) rfl) (List.mem_of_getElem? (i := 6) rfl) (Nat.le_of_ble_eq_true rfl) (Nat.le_of_ble_eq_true rfl) (Nat.le_of_ble_eq_true rfl) rfl ⟨Nat.zero_le _, Nat.zero_le _⟩ dX2_isLowWayTaken_18 ?_
  show dp_G _ _ _ _ _ _ _ _ _ _ _ _ _ _ _ _ _ _ (.int (dp_I (ab z)) :: _)
  refine dp_istore_n C dX2_isLowWayTaken_21 (Nat.le_of_ble_eq_true rfl) ?_
  dsimp only [List.set]
  refine dp_iload_n C dX2_isLowWayTaken_22 rfl ?_
  refine dp_aload_n C dX2_isLowWayTaken_23 rfl ?_
  refine dp_getf C (k := 3) (dp_mS ‹_› (by decide)) (dp_xst ‹_›) rfl hX2 (by decide) (List.mem_of_getElem? (i := 8) rfl) rfl dX2_isLowWayTaken_24 ?_
  refine dp_iconst C dX2_isLowWayTaken_27 ?_
  refine dp_ald_se C ‹_› (j := 1) ⟨by omega, by omega⟩ rfl dX2_isLowWayTaken_28 ?_
  refine dp_icmp_gt (tgt := 36) C dX2_isLowWayTaken_29 (by decide) ⟨by omega, by omega⟩ ⟨by omega, by omega⟩ (fun c29 => ?_) (fun c29 => ?_)
  · skip
    refine dp_iconst C dX2_isLowWayTaken_36 ?_
    exact J37 _ (by first | exact (dp_b_t (by omega)).symm | exact (dp_b_f (by omega)).symm)
  · skip
    refine dp_iconst C dX2_isLowWayTaken_32 ?_
    refine dp_goto (tgt := 37) C dX2_isLowWayTaken_33 (by decide) ?_
    exact J37 _ (by first | exact (dp_b_t (by omega)).symm | exact (dp_b_f (by omega)).symm)
theorem yyX2_wayAround : yX2_wayAround.cls = RX2 ∧ yX2_wayAround.cls ≠ "java/lang/invoke/MethodHandle" ∧ yX2_wayAround.cls ≠ "java/lang/invoke/VarHandle" ∧ (parseMethodDescriptor yX2_wayAround.desc).map (fun d => d.parameters.length) = some 1 := by decide +kernel
set_option maxHeartbeats 4000000 in
set_option maxRecDepth 100000 in
theorem c_X2_wayAround {E : dp_E} (hE : dp_OK E) (l : Launch) {M : dp_M} {r : Nat} {V Y : dp_V} (hr : r < 7) {z : Int} (hv : ivS V) (hz : 0 ≤ z ∧ z ≤ 36000) : dp_met E l yX2_wayAround wsX2_wayAround 2 46 [.ref (eAd E r 0), .int (dp_I z)] (dS M r V Y) (dp_qr E (fun r1 c1 M1 => r1 = r ∧ ∃ Y', M1 = dS M r V Y' ∧ Y' 18 = Y 18 ∧ ((arW V z = 1 ∧ c1 = 16) ∨ (arW V z = 0 ∧ c1 = 17)) ∧ wyOK 3 (V 3) (apF V z) (V 1 0) (Y' c1))) := by
  refine dp_of (cc := cX2_wayAround) (nL := 2) (own := RX2) (ret := some ((.object "DishPointer$Way"))) (by decide +kernel) rfl rfl hE (by simp [Value.category]) (Nat.le_of_ble_eq_true rfl) ?_
  intro p e s m below meth co C hret
  show dp_G _ _ _ _ _ _ _ _ _ _ _ _ _ _ _ _ _ [some (.ref (eAd E r 0)), some (.int (dp_I z))] _
  have hX2 : ∀ w ∈ u_ws RX2 TX2 11, w ∈ wsX2_wayAround := fun w h => List.mem_cons_of_mem _ (List.mem_append_left _ (List.mem_append_left _ (List.mem_append_right _ (h))))
  have hX5 : ∀ w ∈ u_ws RX5 TX5 7, w ∈ wsX2_wayAround := fun w h => List.mem_cons_of_mem _ (List.mem_append_left _ (List.mem_append_right _ (h)))
  have h1 := hv.2.1
  have bP1 := @wyP_bd 3 (V 3) (z - 36000) (V 1 0)
  have bP2 := @wyP_bd 3 (V 3) z (V 1 0)
  refine dp_aload_n C dX2_wayAround_0 rfl ?_
  refine dp_getf C (k := 8) (dp_mS ‹_› (by decide)) (dp_xst ‹_›) rfl hX2 (by decide) (List.mem_of_getElem? (i := 1) rfl) rfl dX2_wayAround_1 ?_
  refine dp_aload_n C dX2_wayAround_4 rfl ?_
  refine dp_getf C (k := 5) (dp_mS ‹_› (by decide)) (dp_xst ‹_›) rfl hX2 (by decide) (List.mem_of_getElem? (i := 2) rfl) rfl dX2_wayAround_5 ?_
  refine dp_iload_n C dX2_wayAround_8 rfl ?_
  refine dp_ldc C (36000) (List.mem_of_getElem? (i := 3) rfl) rfl dX2_wayAround_9 ?_
  refine dp_isub C dX2_wayAround_11 ?_
  refine dp_aload_n C dX2_wayAround_12 rfl ?_
  refine dp_getf C (k := 3) (dp_mS ‹_› (by decide)) (dp_xst ‹_›) rfl hX2 (by decide) (List.mem_of_getElem? (i := 4) rfl) rfl dX2_wayAround_13 ?_
  refine dp_iconst C dX2_wayAround_16 ?_
  refine dp_ald_se C ‹_› (j := 0) ⟨by omega, by omega⟩ rfl dX2_wayAround_17 ?_
  refine dp_cVv C (c_X5_plan C.2.2.1 l ‹_› (Or.inl rfl) (Or.inl rfl) hv.2.2.2.1 ⟨by omega, by omega⟩ ⟨by omega, by omega⟩) gX2_wayAround_X5_plan rfl (dp_mS ‹_› (dp_cW (Or.inl rfl))) (dp_xwy ‹_› (Or.inl rfl)) rfl yyX5_plan rfl ⟨Nat.le_of_ble_eq_true rfl, Nat.le_of_ble_eq_true rfl⟩ rfl (Nat.le_of_ble_eq_true rfl) rfl ⟨Nat.zero_le _, Nat.zero_le _⟩ dX2_wayAround_18 (fun M18 h18 => ?_)
  obtain ⟨Y1, rfl, hY1, hW1⟩ := h18
  refine dp_aload_n C dX2_wayAround_21 rfl ?_
  refine dp_getf C (k := 9) (dp_mS ‹_› (by decide)) (dp_xst ‹_›) rfl hX2 (by decide) (List.mem_of_getElem? (i := 5) rfl) rfl dX2_wayAround_22 ?_
  refine dp_aload_n C dX2_wayAround_25 rfl ?_
  refine dp_getf C (k := 5) (dp_mS ‹_› (by decide)) (dp_xst ‹_›) rfl hX2 (by decide) (List.mem_of_getElem? (i := 2) rfl) rfl dX2_wayAround_26 ?_
  refine dp_iload_n C dX2_wayAround_29 rfl ?_
  refine dp_aload_n C dX2_wayAround_30 rfl ?_
  refine dp_getf C (k := 3) (dp_mS ‹_› (by decide)) (dp_xst ‹_›) rfl hX2 (by decide) (List.mem_of_getElem? (i := 4) rfl) rfl dX2_wayAround_31 ?_
  refine dp_iconst C dX2_wayAround_34 ?_
  refine dp_ald_se C ‹_› (j := 0) ⟨by omega, by omega⟩ rfl dX2_wayAround_35 ?_
  refine dp_cVv C (c_X5_plan C.2.2.1 l ‹_› (Or.inr (Or.inl rfl)) (Or.inl rfl) hv.2.2.2.1 ⟨by omega, by omega⟩ ⟨by omega, by omega⟩) gX2_wayAround_X5_plan rfl (dp_mS ‹_› (dp_cW (Or.inr (Or.inl rfl)))) (dp_xwy ‹_› (Or.inr (Or.inl rfl))) rfl yyX5_plan rfl ⟨Nat.le_of_ble_eq_true rfl, Nat.le_of_ble_eq_true rfl⟩ rfl (Nat.le_of_ble_eq_true rfl) rfl ⟨Nat.zero_le _, Nat.zero_le _⟩ dX2_wayAround_36 (fun M36 h36 => ?_)
  obtain ⟨Y2, rfl, hY2, hW2⟩ := h36
  rw [← hY2 16 (by decide)] at hW1
  have h18 : Y2 18 = Y 18 := (hY2 18 (by decide)).trans (hY1 18 (by decide))
  have p6 := hW1.2.2.2.2.2.2
  have q6 := hW2.2.2.2.2.2.2
  refine dp_aload_n C dX2_wayAround_39 rfl ?_
  refine dp_getf C (k := 8) (dp_mS ‹_› (by decide)) (dp_xst ‹_›) rfl hX2 (by decide) (List.mem_of_getElem? (i := 1) rfl) rfl dX2_wayAround_40 ?_
  refine dp_getf C (k := 6) (dp_mS ‹_› (dp_cW (Or.inl rfl))) (dp_xwy ‹_› (Or.inl rfl)) rfl hX5 (by decide) (List.mem_of_getElem? (i := 6) rfl) rfl dX2_wayAround_43 ?_
  rw [p6]
  refine dp_if_eq (tgt := 59) C dX2_wayAround_46 (by decide) ⟨by omega, by omega⟩ (fun c46 => ?_) (fun c46 => ?_)
  · skip
    refine dp_aload_n C dX2_wayAround_59 rfl ?_
    refine dp_getf C (k := 8) (dp_mS ‹_› (by decide)) (dp_xst ‹_›) rfl hX2 (by decide) (List.mem_of_getElem? (i := 1) rfl) rfl dX2_wayAround_60 ?_
    refine dp_getf C (k := 6) (dp_mS ‹_› (dp_cW (Or.inl rfl))) (dp_xwy ‹_› (Or.inl rfl)) rfl hX5 (by decide) (List.mem_of_getElem? (i := 6) rfl) rfl dX2_wayAround_63 ?_
    rw [p6]
    refine dp_if_eq (tgt := 76) C dX2_wayAround_66 (by decide) ⟨by omega, by omega⟩ (fun c66 => ?_) (fun c66 => ?_)
    · skip
      refine dp_aload_n C dX2_wayAround_76 rfl ?_
      refine dp_getf C (k := 9) (dp_mS ‹_› (by decide)) (dp_xst ‹_›) rfl hX2 (by decide) (List.mem_of_getElem? (i := 5) rfl) rfl dX2_wayAround_77 ?_
      refine dp_aret C hret dX2_wayAround_80 ?_
      have ea : arW V z = (if wyP 3 (V 3) (z - 36000) (V 1 0) = 0 then 0 else if wyP 3 (V 3) z (V 1 0) = 0 then 1 else ltF V z) := rfl
      first | (have eb : arW V z = 0 := (by rw [ea]; first | rw [if_pos (by assumption)] | (rw [if_neg (by assumption), if_neg (by assumption)]; omega)); refine ⟨rfl, _, rfl, h18, Or.inr ⟨eb, rfl⟩, ?_⟩; unfold apF; rw [if_pos eb]; exact hW2) | (have eb : arW V z = 1 := (by rw [ea]; first | (rw [if_neg (by assumption), if_pos (by assumption)]; done) | (rw [if_neg (by assumption), if_neg (by assumption)]; omega)); refine ⟨rfl, _, rfl, h18, Or.inl ⟨eb, rfl⟩, ?_⟩; unfold apF; rw [if_neg (by omega)]; exact hW1) | (exfalso; omega)
    · skip
      refine dp_aload_n C dX2_wayAround_69 rfl ?_
      refine dp_getf C (k := 8) (dp_mS ‹_› (by decide)) (dp_xst ‹_›) rfl hX2 (by decide) (List.mem_of_getElem? (i := 1) rfl) rfl dX2_wayAround_70 ?_
      refine dp_goto (tgt := 80) C dX2_wayAround_73 (by decide) ?_
      refine dp_aret C hret dX2_wayAround_80 ?_
      have ea : arW V z = (if wyP 3 (V 3) (z - 36000) (V 1 0) = 0 then 0 else if wyP 3 (V 3) z (V 1 0) = 0 then 1 else ltF V z) := rfl
      first | (have eb : arW V z = 0 := (by rw [ea]; first | rw [if_pos (by assumption)] | (rw [if_neg (by assumption), if_neg (by assumption)]; omega)); refine ⟨rfl, _, rfl, h18, Or.inr ⟨eb, rfl⟩, ?_⟩; unfold apF; rw [if_pos eb]; exact hW2) | (have eb : arW V z = 1 := (by rw [ea]; first | (rw [if_neg (by assumption), if_pos (by assumption)]; done) | (rw [if_neg (by assumption), if_neg (by assumption)]; omega)); refine ⟨rfl, _, rfl, h18, Or.inl ⟨eb, rfl⟩, ?_⟩; unfold apF; rw [if_neg (by omega)]; exact hW1) | (exfalso; omega)
  · skip
    refine dp_aload_n C dX2_wayAround_49 rfl ?_
    refine dp_getf C (k := 9) (dp_mS ‹_› (by decide)) (dp_xst ‹_›) rfl hX2 (by decide) (List.mem_of_getElem? (i := 5) rfl) rfl dX2_wayAround_50 ?_
    refine dp_getf C (k := 6) (dp_mS ‹_› (dp_cW (Or.inr (Or.inl rfl)))) (dp_xwy ‹_› (Or.inr (Or.inl rfl))) rfl hX5 (by decide) (List.mem_of_getElem? (i := 6) rfl) rfl dX2_wayAround_53 ?_
    rw [q6]
    refine dp_if_ne (tgt := 81) C dX2_wayAround_56 (by decide) ⟨by omega, by omega⟩ (fun c56 => ?_) (fun c56 => ?_)
    · skip
      refine dp_aload_n C dX2_wayAround_81 rfl ?_
      refine dp_cVi C (c_X2_isLowWayTaken C.2.2.1 l ‹_› hv hz hW1 hW2) gX2_wayAround_X2_isLowWayTaken rfl (dp_mS ‹_› (by decide)) (dp_xst ‹_›) rfl yyX2_isLowWayTaken rfl ⟨Nat.le_of_ble_eq_true rfl, Nat.le_of_ble_eq_true rfl⟩ rfl (Nat.le_of_ble_eq_true rfl) rfl ⟨Nat.zero_le _, Nat.zero_le _⟩ dX2_wayAround_82 (fun x82 M82 h82 => ?_)
      obtain ⟨rfl, rfl⟩ := h82
      have bl := @ltF_b V z
      refine dp_if_eq (tgt := 95) C dX2_wayAround_85 (by decide) ⟨by omega, by omega⟩ (fun c85 => ?_) (fun c85 => ?_)
      · skip
        refine dp_aload_n C dX2_wayAround_95 rfl ?_
        refine dp_getf C (k := 9) (dp_mS ‹_› (by decide)) (dp_xst ‹_›) rfl hX2 (by decide) (List.mem_of_getElem? (i := 5) rfl) rfl dX2_wayAround_96 ?_
        refine dp_aret C hret dX2_wayAround_99 ?_
        have ea : arW V z = (if wyP 3 (V 3) (z - 36000) (V 1 0) = 0 then 0 else if wyP 3 (V 3) z (V 1 0) = 0 then 1 else ltF V z) := rfl
        first | (have eb : arW V z = 0 := (by rw [ea]; first | rw [if_pos (by assumption)] | (rw [if_neg (by assumption), if_neg (by assumption)]; omega)); refine ⟨rfl, _, rfl, h18, Or.inr ⟨eb, rfl⟩, ?_⟩; unfold apF; rw [if_pos eb]; exact hW2) | (have eb : arW V z = 1 := (by rw [ea]; first | (rw [if_neg (by assumption), if_pos (by assumption)]; done) | (rw [if_neg (by assumption), if_neg (by assumption)]; omega)); refine ⟨rfl, _, rfl, h18, Or.inl ⟨eb, rfl⟩, ?_⟩; unfold apF; rw [if_neg (by omega)]; exact hW1) | (exfalso; omega)
      · skip
        refine dp_aload_n C dX2_wayAround_88 rfl ?_
        refine dp_getf C (k := 8) (dp_mS ‹_› (by decide)) (dp_xst ‹_›) rfl hX2 (by decide) (List.mem_of_getElem? (i := 1) rfl) rfl dX2_wayAround_89 ?_
        refine dp_goto (tgt := 99) C dX2_wayAround_92 (by decide) ?_
        refine dp_aret C hret dX2_wayAround_99 ?_
        have ea : arW V z = (if wyP 3 (V 3) (z - 36000) (V 1 0) = 0 then 0 else if wyP 3 (V 3) z (V 1 0) = 0 then 1 else ltF V z) := rfl
        first | (have eb : arW V z = 0 := (by rw [ea]; first | rw [if_pos (by assumption)] | (rw [if_neg (by assumption), if_neg (by assumption)]; omega)); refine ⟨rfl, _, rfl, h18, Or.inr ⟨eb, rfl⟩, ?_⟩; unfold apF; rw [if_pos eb]; exact hW2) | (have eb : arW V z = 1 := (by rw [ea]; first | (rw [if_neg (by assumption), if_pos (by assumption)]; done) | (rw [if_neg (by assumption), if_neg (by assumption)]; omega)); refine ⟨rfl, _, rfl, h18, Or.inl ⟨eb, rfl⟩, ?_⟩; unfold apF; rw [if_neg (by omega)]; exact hW1) | (exfalso; omega)
    · skip
      refine dp_aload_n C dX2_wayAround_59 rfl ?_
      refine dp_getf C (k := 8) (dp_mS ‹_› (by decide)) (dp_xst ‹_›) rfl hX2 (by decide) (List.mem_of_getElem? (i := 1) rfl) rfl dX2_wayAround_60 ?_
      refine dp_getf C (k := 6) (dp_mS ‹_› (dp_cW (Or.inl rfl))) (dp_xwy ‹_› (Or.inl rfl)) rfl hX5 (by decide) (List.mem_of_getElem? (i := 6) rfl) rfl dX2_wayAround_63 ?_
      rw [p6]
      refine dp_if_eq (tgt := 76) C dX2_wayAround_66 (by decide) ⟨by omega, by omega⟩ (fun c66 => ?_) (fun c66 => ?_)
      · skip
        refine dp_aload_n C dX2_wayAround_76 rfl ?_
        refine dp_getf C (k := 9) (dp_mS ‹_› (by decide)) (dp_xst ‹_›) rfl hX2 (by decide) (List.mem_of_getElem? (i := 5) rfl) rfl dX2_wayAround_77 ?_
        refine dp_aret C hret dX2_wayAround_80 ?_
        have ea : arW V z = (if wyP 3 (V 3) (z - 36000) (V 1 0) = 0 then 0 else if wyP 3 (V 3) z (V 1 0) = 0 then 1 else ltF V z) := rfl
        first | (have eb : arW V z = 0 := (by rw [ea]; first | rw [if_pos (by assumption)] | (rw [if_neg (by assumption), if_neg (by assumption)]; omega)); refine ⟨rfl, _, rfl, h18, Or.inr ⟨eb, rfl⟩, ?_⟩; unfold apF; rw [if_pos eb]; exact hW2) | (have eb : arW V z = 1 := (by rw [ea]; first | (rw [if_neg (by assumption), if_pos (by assumption)]; done) | (rw [if_neg (by assumption), if_neg (by assumption)]; omega)); refine ⟨rfl, _, rfl, h18, Or.inl ⟨eb, rfl⟩, ?_⟩; unfold apF; rw [if_neg (by omega)]; exact hW1) | (exfalso; omega)
      · skip
        refine dp_aload_n C dX2_wayAround_69 rfl ?_
        refine dp_getf C (k := 8) (dp_mS ‹_› (by decide)) (dp_xst ‹_›) rfl hX2 (by decide) (List.mem_of_getElem? (i := 1) rfl) rfl dX2_wayAround_70 ?_
        refine dp_goto (tgt := 80) C dX2_wayAround_73 (by decide) ?_
        refine dp_aret C hret dX2_wayAround_80 ?_
        have ea : arW V z = (if wyP 3 (V 3) (z - 36000) (V 1 0) = 0 then 0 else if wyP 3 (V 3) z (V 1 0) = 0 then 1 else ltF V z) := rfl
        first | (have eb : arW V z = 0 := (by rw [ea]; first | rw [if_pos (by assumption)] | (rw [if_neg (by assumption), if_neg (by assumption)]; omega)); refine ⟨rfl, _, rfl, h18, Or.inr ⟨eb, rfl⟩, ?_⟩; unfold apF; rw [if_pos eb]; exact hW2) | (have eb : arW V z = 1 := (by rw [ea]; first | (rw [if_neg (by assumption), if_pos (by assumption)]; done) | (rw [if_neg (by assumption), if_neg (by assumption)]; omega)); refine ⟨rfl, _, rfl, h18, Or.inl ⟨eb, rfl⟩, ?_⟩; unfold apF; rw [if_neg (by omega)]; exact hW1) | (exfalso; omega)
theorem yyX2_followWays : yX2_followWays.cls = RX2 ∧ yX2_followWays.cls ≠ "java/lang/invoke/MethodHandle" ∧ yX2_followWays.cls ≠ "java/lang/invoke/VarHandle" ∧ (parseMethodDescriptor yX2_followWays.desc).map (fun d => d.parameters.length) = some 2 := by decide +kernel
set_option maxHeartbeats 4000000 in
set_option maxRecDepth 100000 in
theorem c_X2_followWays {E : dp_E} (hE : dp_OK E) (l : Launch) {M : dp_M} {r w : Nat} {V Y : dp_V} {z el : Int} (hr : r < 7) (hv : ivS V) (hw : w = 16 ∨ w = 17 ∨ w = 18) (ha : wyOK 3 (V 3) z (V 1 0) (Y w)) (he : wyOK 4 (V 4) el (V 1 0) (Y 18)) (pa : ¬ wyP 3 (V 3) z (V 1 0) = 0) (pe : ¬ wyP 4 (V 4) el (V 1 0) = 0) (hp : -40000 ≤ z ∧ z ≤ 40000) (hq : -40000 ≤ el ∧ el ≤ 40000) : dp_met E l yX2_followWays wsX2_followWays 3 64 [.ref (eAd E r 0), .ref (eAd E r w), .ref (eAd E r 18)] (dS M r V Y) (dp_qi E (fun y M1 => y = mx (wyM (V 3) z (V 1 0)) (wyM (V 4) el (V 1 0)) ∧ M1 = dS M r (slV V z el) Y)) := by
  refine dp_of (cc := cX2_followWays) (nL := 3) (own := RX2) (ret := some (.int)) (by decide +kernel) rfl rfl hE (by simp [Value.category]) (Nat.le_of_ble_eq_true rfl) ?_
  intro p e s m below meth co C hret
  show dp_G _ _ _ _ _ _ _ _ _ _ _ _ _ _ _ _ _ [some (.ref (eAd E r 0)), some (.ref (eAd E r w)), some (.ref (eAd E r 18))] _
  have hX2 : ∀ w ∈ u_ws RX2 TX2 11, w ∈ wsX2_followWays := fun w h => List.mem_cons_of_mem _ (List.mem_append_left _ (List.mem_append_left _ (List.mem_append_right _ (h))))
  have hX5 : ∀ w ∈ u_ws RX5 TX5 7, w ∈ wsX2_followWays := fun w h => List.mem_cons_of_mem _ (List.mem_append_left _ (List.mem_append_right _ (h)))
  have h1 := hv.2.1
  obtain ⟨-, a1, a2, -, a4, -, -⟩ := ha
  obtain ⟨-, e1, e2, -, e4, -, -⟩ := he
  have ya := wyP_yes pa
  have ye := wyP_yes pe
  have bM1 := wyM_bd hv.2.2.2.1 hp (show 0 ≤ V 1 0 ∧ V 1 0 ≤ 500 by omega)
  have bM2 := wyM_bd hv.2.2.2.2 hq (show 0 ≤ V 1 0 ∧ V 1 0 ≤ 500 by omega)
  have hF : mvV (mvV V 3 (Y w 1)) 3 (Y w 2) = foV V 3 z := by
    rw [a1, a2]
    rfl
  have hi4 : ivA 4 (foV V 3 z 4) := by
    rw [foV_ne (by decide)]
    exact hv.2.2.2.2
  refine dp_aload_n C dX2_followWays_0 rfl ?_
  refine dp_getf C (k := 5) (dp_mS ‹_› (by decide)) (dp_xst ‹_›) rfl hX2 (by decide) (List.mem_of_getElem? (i := 1) rfl) rfl dX2_followWays_1 ?_
  refine dp_aload_n C dX2_followWays_4 rfl ?_
  refine dp_cVv C (c_X0_follow C.2.2.1 l ‹_› (Or.inl rfl) hw hv.2.2.2.1 (by rw [a1]; exact ya.1) (by rw [a2]; exact ya.2)) gX2_followWays_X0_follow rfl (dp_mS ‹_› (dp_cA (Or.inl rfl))) (dp_xax ‹_› (Or.inl rfl)) rfl yyX0_follow rfl ⟨Nat.le_of_ble_eq_true rfl, Nat.le_of_ble_eq_true rfl⟩ rfl (Nat.le_of_ble_eq_true rfl) rfl ⟨Nat.zero_le _, Nat.zero_le _⟩ dX2_followWays_5 (fun M5 h5 => ?_)
  obtain rfl := h5
  rw [hF]
  refine dp_aload_n C dX2_followWays_8 rfl ?_
  refine dp_getf C (k := 6) (dp_mS ‹_› (by decide)) (dp_xst ‹_›) rfl hX2 (by decide) (List.mem_of_getElem? (i := 2) rfl) rfl dX2_followWays_9 ?_
  refine dp_aload_n C dX2_followWays_12 rfl ?_
  refine dp_cVv C (c_X0_follow C.2.2.1 l ‹_› (Or.inr rfl) (Or.inr (Or.inr rfl)) hi4 (by rw [e1]; exact ye.1) (by rw [e2]; exact ye.2)) gX2_followWays_X0_follow rfl (dp_mS ‹_› (dp_cA (Or.inr rfl))) (dp_xax ‹_› (Or.inr rfl)) rfl yyX0_follow rfl ⟨Nat.le_of_ble_eq_true rfl, Nat.le_of_ble_eq_true rfl⟩ rfl (Nat.le_of_ble_eq_true rfl) rfl ⟨Nat.zero_le _, Nat.zero_le _⟩ dX2_followWays_13 (fun M13 h13 => ?_)
  obtain rfl := h13
  rw [show mvV (mvV (foV V 3 z) 4 (Y 18 1)) 4 (Y 18 2) = foV (foV V 3 z) 4 el by rw [e1, e2]; unfold foV; rw [mvV_ne (c' := 4) (by decide), mvV_ne (c' := 4) (by decide), mvV_ne (c' := 1) (by decide), mvV_ne (c' := 1) (by decide)]]
  refine dp_aload_n C dX2_followWays_16 rfl ?_
  refine dp_dup C dX2_followWays_17 rfl ?_
  refine dp_getf C (k := 1) (dp_mS ‹_› (by decide)) (dp_xst ‹_›) rfl hX2 (by decide) (List.mem_of_getElem? (i := 3) rfl) rfl dX2_followWays_18 ?_
  refine dp_iconst C dX2_followWays_21 ?_
  refine dp_iadd C dX2_followWays_22 ?_
  refine dp_putS C ‹_› (k := 1) hX2 (by decide) (List.mem_of_getElem? (i := 3) rfl) rfl (tyX2_ok _ (by decide)) rfl rfl dX2_followWays_23 ?_
  refine dp_aload_n C dX2_followWays_26 rfl ?_
  refine dp_getf C (k := 4) (dp_mS ‹_› (dp_cW ‹_›)) (dp_xwy ‹_› ‹_›) rfl hX5 (by decide) (List.mem_of_getElem? (i := 4) rfl) rfl dX2_followWays_27 ?_
  rw [a4]
  refine dp_aload_n C dX2_followWays_30 rfl ?_
  refine dp_getf C (k := 4) (dp_mS ‹_› (dp_cW (Or.inr (Or.inr rfl)))) (dp_xwy ‹_› (Or.inr (Or.inr rfl))) rfl hX5 (by decide) (List.mem_of_getElem? (i := 4) rfl) rfl dX2_followWays_31 ?_
  rw [e4]
  refine dp_mmax C ⟨by omega, by omega⟩ ⟨by omega, by omega⟩ (List.mem_of_getElem? (i := 5) rfl) (List.mem_of_getElem? (i := 6) rfl) (List.mem_of_getElem? (i := 7) rfl) (List.mem_of_getElem? (i := 8) rfl) (Nat.le_of_ble_eq_true rfl) (Nat.le_of_ble_eq_true rfl) (Nat.le_of_ble_eq_true rfl) rfl ⟨Nat.zero_le _, Nat.zero_le _⟩ dX2_followWays_34 ?_
  refine dp_iret C hret dX2_followWays_37 ?_
  exact ⟨rfl, rfl⟩
