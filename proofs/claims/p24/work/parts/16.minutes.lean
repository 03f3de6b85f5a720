theorem yyX2_sooner : yX2_sooner.cls = RX2 ∧ yX2_sooner.cls ≠ "java/lang/invoke/MethodHandle" ∧ yX2_sooner.cls ≠ "java/lang/invoke/VarHandle" ∧ (parseMethodDescriptor yX2_sooner.desc).map (fun d => d.parameters.length) = some 2 := by decide +kernel
set_option maxHeartbeats 4000000 in
set_option maxRecDepth 100000 in
theorem c_X2_sooner {E : dp_E} (hE : dp_OK E) (l : Launch) {M : dp_M} {r : Nat} {V Y : dp_V} (hr : r < 7) {ev m9 : Int} (h0 : 0 ≤ V 0 0 ∧ V 0 0 ≤ 43200) (he : 0 ≤ ev ∧ ev ≤ 50000) (hm : dp_R m9) : dp_met E l yX2_sooner wsX2_sooner 0 0 [.ref (eAd E r 0), .int (dp_I ev), .int (dp_I m9)] (dS M r V Y) (dp_qi E (fun y M1 => y = soF V ev m9 ∧ M1 = dS M r V Y)) := by
  refine dp_of (cc := cX2_sooner) (nL := 3) (own := RX2) (ret := some (.int)) (by decide +kernel) rfl rfl hE (by simp [Value.category]) (Nat.le_of_ble_eq_true rfl) ?_
  intro p e s m below meth co C hret
  show dp_G _ _ _ _ _ _ _ _ _ _ _ _ _ _ _ _ _ [some (.ref (eAd E r 0)), some (.int (dp_I ev)), some (.int (dp_I m9))] _
  have hX2 : ∀ w ∈ u_ws RX2 TX2 11, w ∈ wsX2_sooner := fun w h => List.mem_cons_of_mem _ (List.mem_append_right _ (h))
  unfold dp_R at hm
  refine dp_iload_n C dX2_sooner_0 rfl ?_
  refine dp_aload_n C dX2_sooner_1 rfl ?_
  refine dp_getf C (k := 0) (dp_mS ‹_› (by decide)) (dp_xst ‹_›) rfl hX2 (by decide) (List.mem_of_getElem? (i := 1) rfl) rfl dX2_sooner_2 ?_
  refine dp_icmp_le (tgt := 17) C dX2_sooner_5 (by decide) ⟨by omega, by omega⟩ ⟨by omega, by omega⟩ (fun c5 => ?_) (fun c5 => ?_)
  · skip
    refine dp_iload_n C dX2_sooner_17 rfl ?_
    refine dp_iret C hret dX2_sooner_18 ?_
    refine ⟨?_, rfl⟩
    unfold soF
    repeat (first | rw [if_neg (by omega)] | rw [if_pos (by omega)])
  · skip
    refine dp_iload_n C dX2_sooner_8 rfl ?_
    refine dp_iload_n C dX2_sooner_9 rfl ?_
    refine dp_icmp_ge (tgt := 17) C dX2_sooner_10 (by decide) ⟨by omega, by omega⟩ ⟨by omega, by omega⟩ (fun c10 => ?_) (fun c10 => ?_)
    · skip
      refine dp_iload_n C dX2_sooner_17 rfl ?_
      refine dp_iret C hret dX2_sooner_18 ?_
      refine ⟨?_, rfl⟩
      unfold soF
      repeat (first | rw [if_neg (by omega)] | rw [if_pos (by omega)])
    · skip
      refine dp_iload_n C dX2_sooner_13 rfl ?_
      refine dp_goto (tgt := 18) C dX2_sooner_14 (by decide) ?_
      refine dp_iret C hret dX2_sooner_18 ?_
      refine ⟨?_, rfl⟩
      unfold soF
      repeat (first | rw [if_neg (by omega)] | rw [if_pos (by omega)])
theorem yyX2_nextEvent : yX2_nextEvent.cls = RX2 ∧ yX2_nextEvent.cls ≠ "java/lang/invoke/MethodHandle" ∧ yX2_nextEvent.cls ≠ "java/lang/invoke/VarHandle" ∧ (parseMethodDescriptor yX2_nextEvent.desc).map (fun d => d.parameters.length) = some 0 := by decide +kernel
set_option maxHeartbeats 4000000 in
set_option maxRecDepth 100000 in
theorem c_X2_nextEvent {E : dp_E} (hE : dp_OK E) (l : Launch) {M : dp_M} {r : Nat} {V Y : dp_V} (hr : r < 7) (hv : ivC V) : dp_met E l yX2_nextEvent wsX2_nextEvent 1 22 [.ref (eAd E r 0)] (dS M r V Y) (dp_qi E (fun y M1 => y = neF V ∧ M1 = dS M r V Y)) := by
  refine dp_of (cc := cX2_nextEvent) (nL := 6) (own := RX2) (ret := some (.int)) (by decide +kernel) rfl rfl hE (by simp [Value.category]) (Nat.le_of_ble_eq_true rfl) ?_
  intro p e s m below meth co C hret
  show dp_G _ _ _ _ _ _ _ _ _ _ _ _ _ _ _ _ _ [some (.ref (eAd E r 0)), none, none, none, none, none] _
  have hX2 : ∀ w ∈ u_ws RX2 TX2 11, w ∈ wsX2_nextEvent := fun w h => List.mem_cons_of_mem _ (List.mem_append_left _ (List.mem_append_right _ (h)))
  have hX3 : ∀ w ∈ u_ws RX3 TX3 14, w ∈ wsX2_nextEvent := fun w h => List.mem_cons_of_mem _ (List.mem_append_right _ (h))
  have h0 := hv.1.1
  have J22 : ∀ (n k : Nat) (ev ki : Int) (o : Option Value), k + n = 10 → ki = k → 0 ≤ ev ∧ ev ≤ 50000 → neG V k n ev = neF V → dp_G E (dp_A E) p l e (dp_rm 1 22) s m [.ref (eAd E r 0)].toArray below meth co 0 0 (MQ below (dp_qi E (fun y M1 => y = neF V ∧ M1 = dS M r V Y)) [.ref (eAd E r 0)].toArray s 0 0 (dp_A E)) (dS M r V Y) 22 [some (.ref (eAd E r 0)), some (.int (dp_I ev)), some (.ref (eAd E r 5)), some (.int (dp_I 10)), some (.int (dp_I ki)), o] [] := by
    refine dp_ind (fun n ih => ?_)
    intro k ev ki o hkn hki he hf
    refine dp_iload C dX2_nextEvent_22 rfl ?_
    refine dp_iload_n C dX2_nextEvent_24 rfl ?_
    refine dp_icmp_ge (tgt := 104) C dX2_nextEvent_25 (by decide) ⟨by omega, by omega⟩ ⟨by omega, by omega⟩ (fun c25 => ?_) (fun c25 => ?_)
    · skip
      obtain rfl : n = 0 := by omega
      refine dp_iload_n C dX2_nextEvent_104 rfl ?_
      refine dp_iret C hret dX2_nextEvent_105 ?_
      exact ⟨hf, rfl⟩
    · skip
      obtain ⟨n, rfl⟩ : ∃ n', n = n' + 1 := ⟨n - 1, by omega⟩
      unfold neG at hf
      have ht : k < 10 := by omega
      have hst := hv.st ht
      refine dp_aload_n C dX2_nextEvent_28 rfl ?_
      refine dp_iload C dX2_nextEvent_29 rfl ?_
      refine dp_aald_t C ‹_› ⟨by omega, by omega⟩ (show ki.toNat = k by omega) dX2_nextEvent_31 ?_
      refine dp_astore C dX2_nextEvent_32 (Nat.le_of_ble_eq_true rfl) ?_
      dsimp only [List.set]
      refine dp_aload C dX2_nextEvent_34 rfl ?_
      refine dp_getf C (k := 6) (dp_mS ‹_› (dp_cT ‹_›)) (dp_xtg ‹_› ‹_›) rfl hX3 (by decide) (List.mem_of_getElem? (i := 2) rfl) rfl dX2_nextEvent_36 ?_
      refine dp_iconst C dX2_nextEvent_39 ?_
      refine dp_icmp_ne (tgt := 68) C dX2_nextEvent_40 (by decide) ⟨by omega, by omega⟩ ⟨by omega, by omega⟩ (fun c40 => ?_) (fun c40 => ?_)
      · skip
        rw [if_neg c40] at hf
        refine dp_aload C dX2_nextEvent_68 rfl ?_
        refine dp_getf C (k := 6) (dp_mS ‹_› (dp_cT ‹_›)) (dp_xtg ‹_› ‹_›) rfl hX3 (by decide) (List.mem_of_getElem? (i := 2) rfl) rfl dX2_nextEvent_70 ?_
        refine dp_if_ne (tgt := 98) C dX2_nextEvent_73 (by decide) ⟨by omega, by omega⟩ (fun c73 => ?_) (fun c73 => ?_)
        · skip
          rw [if_neg c73] at hf
          refine dp_iinc C dX2_nextEvent_98 rfl ?_
          dsimp only [List.set]
          refine dp_goto (tgt := 22) C dX2_nextEvent_101 (by decide) ?_
          exact ih n (by omega) (k + 1) _ _ _ (by omega) (by omega) (by assumption) hf
        · skip
          rw [if_pos c73] at hf
          have hT : ivT (V (k + 6)) := (hv.2.1 k ht).resolve_left (by omega)
          unfold ivT at hT
          refine dp_aload_n C dX2_nextEvent_76 rfl ?_
          refine dp_iload_n C dX2_nextEvent_77 rfl ?_
          refine dp_aload C dX2_nextEvent_78 rfl ?_
          refine dp_getf C (k := 2) (dp_mS ‹_› (dp_cT ‹_›)) (dp_xtg ‹_› ‹_›) rfl hX3 (by decide) (List.mem_of_getElem? (i := 5) rfl) rfl dX2_nextEvent_80 ?_
          refine dp_cVi C (c_X2_sooner C.2.2.1 l ‹_› h0 he ⟨by omega, by omega⟩) gX2_nextEvent_X2_sooner rfl (dp_mS ‹_› (by decide)) (dp_xst ‹_›) rfl yyX2_sooner rfl ⟨Nat.le_of_ble_eq_true rfl, Nat.le_of_ble_eq_true rfl⟩ rfl (Nat.le_of_ble_eq_true rfl) rfl ⟨Nat.zero_le _, Nat.zero_le _⟩ dX2_nextEvent_83 (fun x83 M83 h83 => ?_)
          obtain ⟨rfl, rfl⟩ := h83
          have he1 := @soF_bd V ev (V (k + 6) 2) he h0.1
          refine dp_istore_n C dX2_nextEvent_86 (Nat.le_of_ble_eq_true rfl) ?_
          dsimp only [List.set]
          refine dp_aload_n C dX2_nextEvent_87 rfl ?_
          refine dp_iload_n C dX2_nextEvent_88 rfl ?_
          refine dp_aload C dX2_nextEvent_89 rfl ?_
          refine dp_getf C (k := 3) (dp_mS ‹_› (dp_cT ‹_›)) (dp_xtg ‹_› ‹_›) rfl hX3 (by decide) (List.mem_of_getElem? (i := 6) rfl) rfl dX2_nextEvent_91 ?_
          refine dp_cVi C (c_X2_sooner C.2.2.1 l ‹_› h0 he1 ⟨by omega, by omega⟩) gX2_nextEvent_X2_sooner rfl (dp_mS ‹_› (by decide)) (dp_xst ‹_›) rfl yyX2_sooner rfl ⟨Nat.le_of_ble_eq_true rfl, Nat.le_of_ble_eq_true rfl⟩ rfl (Nat.le_of_ble_eq_true rfl) rfl ⟨Nat.zero_le _, Nat.zero_le _⟩ dX2_nextEvent_94 (fun x94 M94 h94 => ?_)
          obtain ⟨rfl, rfl⟩ := h94
          have he2 := @soF_bd V _ (V (k + 6) 3) he1 h0.1
          refine dp_istore_n C dX2_nextEvent_97 (Nat.le_of_ble_eq_true rfl) ?_
          dsimp only [List.set]
          refine dp_iinc C dX2_nextEvent_98 rfl ?_
          dsimp only [List.set]
          refine dp_goto (tgt := 22) C dX2_nextEvent_101 (by decide) ?_
          exact ih n (by omega) (k + 1) _ _ _ (by omega) (by omega) (by assumption) hf
      · skip
        rw [if_pos c40] at hf
        have hT : ivT (V (k + 6)) := (hv.2.1 k ht).resolve_left (by omega)
        unfold ivT at hT
        refine dp_aload_n C dX2_nextEvent_43 rfl ?_
        refine dp_iload_n C dX2_nextEvent_44 rfl ?_
        refine dp_aload C dX2_nextEvent_45 rfl ?_
        refine dp_getf C (k := 8) (dp_mS ‹_› (dp_cT ‹_›)) (dp_xtg ‹_› ‹_›) rfl hX3 (by decide) (List.mem_of_getElem? (i := 3) rfl) rfl dX2_nextEvent_47 ?_
        refine dp_cVi C (c_X2_sooner C.2.2.1 l ‹_› h0 he ⟨by omega, by omega⟩) gX2_nextEvent_X2_sooner rfl (dp_mS ‹_› (by decide)) (dp_xst ‹_›) rfl yyX2_sooner rfl ⟨Nat.le_of_ble_eq_true rfl, Nat.le_of_ble_eq_true rfl⟩ rfl (Nat.le_of_ble_eq_true rfl) rfl ⟨Nat.zero_le _, Nat.zero_le _⟩ dX2_nextEvent_50 (fun x50 M50 h50 => ?_)
        obtain ⟨rfl, rfl⟩ := h50
        have he1 := @soF_bd V ev (V (k + 6) 8) he h0.1
        refine dp_istore_n C dX2_nextEvent_53 (Nat.le_of_ble_eq_true rfl) ?_
        dsimp only [List.set]
        refine dp_aload_n C dX2_nextEvent_54 rfl ?_
        refine dp_iload_n C dX2_nextEvent_55 rfl ?_
        refine dp_aload C dX2_nextEvent_56 rfl ?_
        refine dp_getf C (k := 9) (dp_mS ‹_› (dp_cT ‹_›)) (dp_xtg ‹_› ‹_›) rfl hX3 (by decide) (List.mem_of_getElem? (i := 4) rfl) rfl dX2_nextEvent_58 ?_
        refine dp_cVi C (c_X2_sooner C.2.2.1 l ‹_› h0 he1 ⟨by omega, by omega⟩) gX2_nextEvent_X2_sooner rfl (dp_mS ‹_› (by decide)) (dp_xst ‹_›) rfl yyX2_sooner rfl ⟨Nat.le_of_ble_eq_true rfl, Nat.le_of_ble_eq_true rfl⟩ rfl (Nat.le_of_ble_eq_true rfl) rfl ⟨Nat.zero_le _, Nat.zero_le _⟩ dX2_nextEvent_61 (fun x61 M61 h61 => ?_)
        obtain ⟨rfl, rfl⟩ := h61
        have he2 := @soF_bd V _ (V (k + 6) 9) he1 h0.1
        refine dp_istore_n C dX2_nextEvent_64 (Nat.le_of_ble_eq_true rfl) ?_
        dsimp only [List.set]
        refine dp_goto (tgt := 98) C dX2_nextEvent_65 (by decide) ?_
        refine dp_iinc C dX2_nextEvent_98 rfl ?_
        dsimp only [List.set]
        refine dp_goto (tgt := 22) C dX2_nextEvent_101 (by decide) ?_
        exact ih n (by omega) (k + 1) _ _ _ (by omega) (by omega) (by assumption) hf
  refine dp_aload_n C dX2_nextEvent_0 rfl ?_
  refine dp_cVi C (c_X2_day C.2.2.1 l ‹_› h0) gX2_nextEvent_X2_day rfl (dp_mS ‹_› (by decide)) (dp_xst ‹_›) rfl yyX2_day rfl ⟨Nat.le_of_ble_eq_true rfl, Nat.le_of_ble_eq_true rfl⟩ rfl (Nat.le_of_ble_eq_true rfl) rfl ⟨Nat.zero_le _, Nat.zero_le _⟩ dX2_nextEvent_1 (fun x1 M1 h1 => ?_)
  obtain ⟨rfl, rfl⟩ := h1
  refine dp_iconst C dX2_nextEvent_4 ?_
  refine dp_iadd C dX2_nextEvent_5 ?_
  refine dp_sipush C dX2_nextEvent_6 (by decide) ?_
  refine dp_imul C dX2_nextEvent_9 ?_
  refine dp_istore_n C dX2_nextEvent_10 (Nat.le_of_ble_eq_true rfl) ?_
  dsimp only [List.set]
  refine dp_aload_n C dX2_nextEvent_11 rfl ?_
  refine dp_getf C (k := 7) (dp_mS ‹_› (by decide)) (dp_xst ‹_›) rfl hX2 (by decide) (List.mem_of_getElem? (i := 1) rfl) rfl dX2_nextEvent_12 ?_
  refine dp_astore_n C dX2_nextEvent_15 (Nat.le_of_ble_eq_true rfl) ?_
  dsimp only [List.set]
  refine dp_aload_n C dX2_nextEvent_16 rfl ?_
  refine dp_alen C (t0 := 2) (dp_mS ‹_› (by decide)) 10 (dp_xta ‹_›) rfl rfl dX2_nextEvent_17 ?_
  refine dp_istore_n C dX2_nextEvent_18 (Nat.le_of_ble_eq_true rfl) ?_
  dsimp only [List.set]
  refine dp_iconst C dX2_nextEvent_19 ?_
  refine dp_istore C dX2_nextEvent_20 (Nat.le_of_ble_eq_true rfl) ?_
  dsimp only [List.set]
  exact J22 10 0 _ 0 _ (by omega) rfl (by omega) rfl
theorem yyX2_lookAtSlew : yX2_lookAtSlew.cls = RX2 ∧ yX2_lookAtSlew.cls ≠ "java/lang/invoke/MethodHandle" ∧ yX2_lookAtSlew.cls ≠ "java/lang/invoke/VarHandle" ∧ (parseMethodDescriptor yX2_lookAtSlew.desc).map (fun d => d.parameters.length) = some 1 := by decide +kernel
set_option maxHeartbeats 4000000 in
set_option maxRecDepth 100000 in
theorem c_X2_lookAtSlew {E : dp_E} (hE : dp_OK E) (l : Launch) {M : dp_M} {r t : Nat} {V Y : dp_V} (hr : r < 7) (ht : t < 10) (hv : ivC V) (hT : ivT (V (t + 6))) (h6 : V (t + 6) 6 = 1) : dp_met E l yX2_lookAtSlew wsX2_lookAtSlew 3 62 [.ref (eAd E r 0), .ref (eAd E r (t + 6))] (dS M r V Y) (dp_qv E (fun M1 => M1 = dS M r (lkV V t) Y)) := by
  refine dp_of (cc := cX2_lookAtSlew) (nL := 2) (own := RX2) (ret := none) (by decide +kernel) rfl rfl hE (by simp [Value.category]) (Nat.le_of_ble_eq_true rfl) ?_
  intro p e s m below meth co C hret
  show dp_G _ _ _ _ _ _ _ _ _ _ _ _ _ _ _ _ _ [some (.ref (eAd E r 0)), some (.ref (eAd E r (t + 6)))] _
  have hX0 : ∀ w ∈ u_ws RX0 TX0 10, w ∈ wsX2_lookAtSlew := fun w h => List.mem_cons_of_mem _ (List.mem_append_right _ (h))
  have hX2 : ∀ w ∈ u_ws RX2 TX2 11, w ∈ wsX2_lookAtSlew := fun w h => List.mem_cons_of_mem _ (List.mem_append_left _ (List.mem_append_right _ (h)))
  have hX3 : ∀ w ∈ u_ws RX3 TX3 14, w ∈ wsX2_lookAtSlew := fun w h => List.mem_cons_of_mem _ (List.mem_append_left _ (List.mem_append_left _ (List.mem_append_right _ (h))))
  have h0 := hv.1.1
  have hz := hv.2.2 t ht
  have hT2 := hT
  unfold ivT at hT2
  have hT3 := hT2.2.2.2.2.2.2.2.2.2.2.2.2.2 h6
  have hk0 : kdF (u2 V (t + 6) 13 1) = kdF V := kdF_of (by rw [u2_ne (by omega)]) (u2_ne (by omega)) (u2_ne (by omega))
  have hs1 : ivS (u2 V (t + 6) 13 1) := ivS_of hv.1 (by rw [u2_ne (by omega)]) (u2_ne (by omega)) (u2_ne (by omega)) (u2_ne (by omega)) (u2_ne (by omega))
  have hk := @kdF_bd V
  have e0 : u2 V (t + 6) 13 1 0 = V 0 := u2_ne (by omega)
  have e3 : u2 V (t + 6) 13 1 3 = V 3 := u2_ne (by omega)
  refine dp_aload_n C dX2_lookAtSlew_0 rfl ?_
  refine dp_getf C (k := 13) (dp_mS ‹_› (dp_cT ‹_›)) (dp_xtg ‹_› ‹_›) rfl hX3 (by decide) (List.mem_of_getElem? (i := 1) rfl) rfl dX2_lookAtSlew_1 ?_
  refine dp_if_ne (tgt := 18) C dX2_lookAtSlew_4 (by decide) ⟨by omega, by omega⟩ (fun c4 => ?_) (fun c4 => ?_)
  · skip
    refine dp_vret C hret dX2_lookAtSlew_18 ?_
    unfold lkV
    first | (rw [if_neg (by assumption)]; done) | (rw [if_pos (by assumption), if_pos (by assumption)]; done) | (rw [if_pos (by assumption), if_neg (by assumption), if_neg (by assumption)]; done) | (rw [if_pos (by assumption), if_neg (by assumption), if_pos (by assumption)]; first | (rw [if_pos (by assumption)]; done) | (rw [if_neg (by assumption)]; done)) | (exfalso; omega)
  · skip
    refine dp_aload_n C dX2_lookAtSlew_7 rfl ?_
    refine dp_getf C (k := 0) (dp_mS ‹_› (by decide)) (dp_xst ‹_›) rfl hX2 (by decide) (List.mem_of_getElem? (i := 2) rfl) rfl dX2_lookAtSlew_8 ?_
    refine dp_aload_n C dX2_lookAtSlew_11 rfl ?_
    refine dp_getf C (k := 8) (dp_mS ‹_› (dp_cT ‹_›)) (dp_xtg ‹_› ‹_›) rfl hX3 (by decide) (List.mem_of_getElem? (i := 3) rfl) rfl dX2_lookAtSlew_12 ?_
    refine dp_icmp_ge (tgt := 19) C dX2_lookAtSlew_15 (by decide) ⟨by omega, by omega⟩ ⟨by omega, by omega⟩ (fun c15 => ?_) (fun c15 => ?_)
    · skip
      refine dp_aload_n C dX2_lookAtSlew_19 rfl ?_
      refine dp_iconst C dX2_lookAtSlew_20 ?_
      refine dp_putT C ‹_› ‹_› (k := 13) hX3 (by decide) (List.mem_of_getElem? (i := 1) rfl) rfl (tyX3_ok _ (by decide)) rfl rfl dX2_lookAtSlew_21 ?_
      refine dp_aload_n C dX2_lookAtSlew_24 rfl ?_
      refine dp_cVi C (c_X2_kindOfDay C.2.2.1 l ‹_› hs1) gX2_lookAtSlew_X2_kindOfDay rfl (dp_mS ‹_› (by decide)) (dp_xst ‹_›) rfl yyX2_kindOfDay rfl ⟨Nat.le_of_ble_eq_true rfl, Nat.le_of_ble_eq_true rfl⟩ rfl (Nat.le_of_ble_eq_true rfl) rfl ⟨Nat.zero_le _, Nat.zero_le _⟩ dX2_lookAtSlew_25 (fun x25 M25 h25 => ?_)
      obtain ⟨rfl, rfl⟩ := h25
      rw [hk0]
      refine dp_iconst C dX2_lookAtSlew_28 ?_
      refine dp_icmp_ne (tgt := 59) C dX2_lookAtSlew_29 (by decide) ⟨by omega, by omega⟩ ⟨by omega, by omega⟩ (fun c29 => ?_) (fun c29 => ?_)
      · skip
        refine dp_vret C hret dX2_lookAtSlew_59 ?_
        unfold lkV
        first | (rw [if_neg (by assumption)]; done) | (rw [if_pos (by assumption), if_pos (by assumption)]; done) | (rw [if_pos (by assumption), if_neg (by assumption), if_neg (by assumption)]; done) | (rw [if_pos (by assumption), if_neg (by assumption), if_pos (by assumption)]; first | (rw [if_pos (by assumption)]; done) | (rw [if_neg (by assumption)]; done)) | (exfalso; omega)
      · skip
        refine dp_aload_n C dX2_lookAtSlew_32 rfl ?_
        refine dp_getf C (k := 5) (dp_mS ‹_› (by decide)) (dp_xst ‹_›) rfl hX2 (by decide) (List.mem_of_getElem? (i := 4) rfl) rfl dX2_lookAtSlew_33 ?_
        refine dp_aload_n C dX2_lookAtSlew_36 rfl ?_
        refine dp_cVi C (c_X2_day C.2.2.1 l ‹_› (by rw [e0]; exact h0)) gX2_lookAtSlew_X2_day rfl (dp_mS ‹_› (by decide)) (dp_xst ‹_›) rfl yyX2_day rfl ⟨Nat.le_of_ble_eq_true rfl, Nat.le_of_ble_eq_true rfl⟩ rfl (Nat.le_of_ble_eq_true rfl) rfl ⟨Nat.zero_le _, Nat.zero_le _⟩ dX2_lookAtSlew_37 (fun x37 M37 h37 => ?_)
        obtain ⟨rfl, rfl⟩ := h37
        rw [e0]
        refine dp_iconst C dX2_lookAtSlew_40 ?_
        refine dp_irem C ⟨by omega, by omega, by omega, by omega⟩ dX2_lookAtSlew_41 ?_
        refine dp_if_ne (tgt := 49) C dX2_lookAtSlew_42 (by decide) ⟨by omega, by omega⟩ (fun c42 => ?_) (fun c42 => ?_)
        · skip
          refine dp_aload_n C dX2_lookAtSlew_49 rfl ?_
          refine dp_getf C (k := 5) (dp_mS ‹_› (by decide)) (dp_xst ‹_›) rfl hX2 (by decide) (List.mem_of_getElem? (i := 4) rfl) rfl dX2_lookAtSlew_50 ?_
          refine dp_getf C (k := 3) (dp_mS ‹_› (dp_cA (Or.inl rfl))) (dp_xax ‹_› (Or.inl rfl)) rfl hX0 (by decide) (List.mem_of_getElem? (i := 5) rfl) rfl dX2_lookAtSlew_53 ?_
          rw [e3]
          refine dp_putA C ‹_› (Or.inl rfl) (k := 4) hX0 (by decide) (List.mem_of_getElem? (i := 6) rfl) rfl (tyX0_ok _ (by decide)) rfl rfl dX2_lookAtSlew_56 ?_
          refine dp_vret C hret dX2_lookAtSlew_59 ?_
          unfold lkV
          first | (rw [if_neg (by assumption)]; done) | (rw [if_pos (by assumption), if_pos (by assumption)]; done) | (rw [if_pos (by assumption), if_neg (by assumption), if_neg (by assumption)]; done) | (rw [if_pos (by assumption), if_neg (by assumption), if_pos (by assumption)]; first | (rw [if_pos (by assumption)]; done) | (rw [if_neg (by assumption)]; done)) | (exfalso; omega)
        · skip
          refine dp_iconst C dX2_lookAtSlew_45 ?_
          refine dp_goto (tgt := 56) C dX2_lookAtSlew_46 (by decide) ?_
          refine dp_putA C ‹_› (Or.inl rfl) (k := 4) hX0 (by decide) (List.mem_of_getElem? (i := 6) rfl) rfl (tyX0_ok _ (by decide)) rfl rfl dX2_lookAtSlew_56 ?_
          refine dp_vret C hret dX2_lookAtSlew_59 ?_
          unfold lkV
          first | (rw [if_neg (by assumption)]; done) | (rw [if_pos (by assumption), if_pos (by assumption)]; done) | (rw [if_pos (by assumption), if_neg (by assumption), if_neg (by assumption)]; done) | (rw [if_pos (by assumption), if_neg (by assumption), if_pos (by assumption)]; first | (rw [if_pos (by assumption)]; done) | (rw [if_neg (by assumption)]; done)) | (exfalso; omega)
    · skip
      refine dp_vret C hret dX2_lookAtSlew_18 ?_
      unfold lkV
      first | (rw [if_neg (by assumption)]; done) | (rw [if_pos (by assumption), if_pos (by assumption)]; done) | (rw [if_pos (by assumption), if_neg (by assumption), if_neg (by assumption)]; done) | (rw [if_pos (by assumption), if_neg (by assumption), if_pos (by assumption)]; first | (rw [if_pos (by assumption)]; done) | (rw [if_neg (by assumption)]; done)) | (exfalso; omega)
theorem yyX2_goOnWith : yX2_goOnWith.cls = RX2 ∧ yX2_goOnWith.cls ≠ "java/lang/invoke/MethodHandle" ∧ yX2_goOnWith.cls ≠ "java/lang/invoke/VarHandle" ∧ (parseMethodDescriptor yX2_goOnWith.desc).map (fun d => d.parameters.length) = some 1 := by decide +kernel
set_option maxHeartbeats 4000000 in
set_option maxRecDepth 100000 in
theorem c_X2_goOnWith {E : dp_E} (hE : dp_OK E) (l : Launch) {M : dp_M} {r t : Nat} {V Y : dp_V} (hr : r < 7) (ht : t < 10) (hv : ivC V) (hT : ivT (V (t + 6))) (h6 : V (t + 6) 6 = 1) : dp_met E l yX2_goOnWith wsX2_goOnWith 4 83 [.ref (eAd E r 0), .ref (eAd E r (t + 6))] (dS M r V Y) (dp_qv E (fun M1 => M1 = dS M r (goV V t) Y)) := by
  refine dp_of (cc := cX2_goOnWith) (nL := 2) (own := RX2) (ret := none) (by decide +kernel) rfl rfl hE (by simp [Value.category]) (Nat.le_of_ble_eq_true rfl) ?_
  intro p e s m below meth co C hret
  show dp_G _ _ _ _ _ _ _ _ _ _ _ _ _ _ _ _ _ [some (.ref (eAd E r 0)), some (.ref (eAd E r (t + 6)))] _
  have hX2 : ∀ w ∈ u_ws RX2 TX2 11, w ∈ wsX2_goOnWith := fun w h => List.mem_cons_of_mem _ (List.mem_append_left _ (List.mem_append_left _ (List.mem_append_right _ (h))))
  have hX3 : ∀ w ∈ u_ws RX3 TX3 14, w ∈ wsX2_goOnWith := fun w h => List.mem_cons_of_mem _ (List.mem_append_left _ (List.mem_append_right _ (h)))
  obtain ⟨il, iT⟩ := lkV_iv hv ht hT
  have hl6 : lkV V t (t + 6) 6 = 1 := by
    unfold lkV
    repeat' split
    all_goals first | exact h6 | (rw [u2_ne (by omega), u2_same, u1_ne (by decide)]; exact h6) | (rw [u2_same, u1_ne (by decide)]; exact h6)
  have h0 := il.1.1
  have iT2 := iT
  unfold ivT at iT2
  have iT3 := iT2.2.2.2.2.2.2.2.2.2.2.2.2.2 hl6
  have e3 : u2 (lkV V t) (t + 6) 6 2 3 = lkV V t 3 := u2_ne (by omega)
  have e12 : u2 (lkV V t) (t + 6) 6 2 (t + 6) 12 = lkV V t (t + 6) 12 := by rw [u2_same, u1_ne (by decide)]
  refine dp_aload_n C dX2_goOnWith_0 rfl ?_
  refine dp_aload_n C dX2_goOnWith_1 rfl ?_
  refine dp_cVv C (c_X2_lookAtSlew C.2.2.1 l ‹_› ‹_› hv hT h6) gX2_goOnWith_X2_lookAtSlew rfl (dp_mS ‹_› (by decide)) (dp_xst ‹_›) rfl yyX2_lookAtSlew rfl ⟨Nat.le_of_ble_eq_true rfl, Nat.le_of_ble_eq_true rfl⟩ rfl (Nat.le_of_ble_eq_true rfl) rfl ⟨Nat.zero_le _, Nat.zero_le _⟩ dX2_goOnWith_2 (fun M2 h2 => ?_)
  obtain rfl := h2
  refine dp_aload_n C dX2_goOnWith_5 rfl ?_
  refine dp_getf C (k := 0) (dp_mS ‹_› (by decide)) (dp_xst ‹_›) rfl hX2 (by decide) (List.mem_of_getElem? (i := 1) rfl) rfl dX2_goOnWith_6 ?_
  refine dp_aload_n C dX2_goOnWith_9 rfl ?_
  refine dp_getf C (k := 9) (dp_mS ‹_› (dp_cT ‹_›)) (dp_xtg ‹_› ‹_›) rfl hX3 (by decide) (List.mem_of_getElem? (i := 2) rfl) rfl dX2_goOnWith_10 ?_
  refine dp_icmp_lt (tgt := 37) C dX2_goOnWith_13 (by decide) ⟨by omega, by omega⟩ ⟨by omega, by omega⟩ (fun c13 => ?_) (fun c13 => ?_)
  · skip
    refine dp_vret C hret dX2_goOnWith_37 ?_
    unfold goV
    first | (rw [if_pos (by assumption)]; done) | (rw [if_neg (by assumption)]; done)
  · skip
    refine dp_aload_n C dX2_goOnWith_16 rfl ?_
    refine dp_iconst C dX2_goOnWith_17 ?_
    refine dp_putT C ‹_› ‹_› (k := 6) hX3 (by decide) (List.mem_of_getElem? (i := 3) rfl) rfl (tyX3_ok _ (by decide)) rfl rfl dX2_goOnWith_18 ?_
    refine dp_aload_n C dX2_goOnWith_21 rfl ?_
    refine dp_aload_n C dX2_goOnWith_22 rfl ?_
    refine dp_getf C (k := 5) (dp_mS ‹_› (by decide)) (dp_xst ‹_›) rfl hX2 (by decide) (List.mem_of_getElem? (i := 4) rfl) rfl dX2_goOnWith_23 ?_
    refine dp_cVi C (c_X0_dish C.2.2.1 l ‹_› (Or.inl rfl)) gX2_goOnWith_X0_dish rfl (dp_mS ‹_› (dp_cA (Or.inl rfl))) (dp_xax ‹_› (Or.inl rfl)) rfl yyX0_dish rfl ⟨Nat.le_of_ble_eq_true rfl, Nat.le_of_ble_eq_true rfl⟩ rfl (Nat.le_of_ble_eq_true rfl) rfl ⟨Nat.zero_le _, Nat.zero_le _⟩ dX2_goOnWith_26 (fun x26 M26 h26 => ?_)
    obtain ⟨rfl, rfl⟩ := h26
    rw [e3]
    refine dp_aload_n C dX2_goOnWith_29 rfl ?_
    refine dp_getf C (k := 12) (dp_mS ‹_› (dp_cT ‹_›)) (dp_xtg ‹_› ‹_›) rfl hX3 (by decide) (List.mem_of_getElem? (i := 5) rfl) rfl dX2_goOnWith_30 ?_
    rw [e12]
    refine dp_isub C dX2_goOnWith_33 ?_
    refine dp_putT C ‹_› ‹_› (k := 10) hX3 (by decide) (List.mem_of_getElem? (i := 6) rfl) rfl (tyX3_ok _ (by decide)) rfl rfl dX2_goOnWith_34 ?_
    refine dp_vret C hret dX2_goOnWith_37 ?_
    unfold goV
    first | (rw [if_pos (by assumption)]; done) | (rw [if_neg (by assumption)]; done)
theorem yyX2_endWhatIsOver : yX2_endWhatIsOver.cls = RX2 ∧ yX2_endWhatIsOver.cls ≠ "java/lang/invoke/MethodHandle" ∧ yX2_endWhatIsOver.cls ≠ "java/lang/invoke/VarHandle" ∧ (parseMethodDescriptor yX2_endWhatIsOver.desc).map (fun d => d.parameters.length) = some 0 := by decide +kernel
set_option maxHeartbeats 4000000 in
set_option maxRecDepth 100000 in
theorem c_X2_endWhatIsOver {E : dp_E} (hE : dp_OK E) (l : Launch) {M : dp_M} {r : Nat} {V Y : dp_V} (hr : r < 7) (hv : ivC V) : dp_met E l yX2_endWhatIsOver wsX2_endWhatIsOver 5 104 [.ref (eAd E r 0)] (dS M r V Y) (dp_qv E (fun M1 => M1 = dS M r (enV V) Y)) := by
  refine dp_of (cc := cX2_endWhatIsOver) (nL := 5) (own := RX2) (ret := none) (by decide +kernel) rfl rfl hE (by simp [Value.category]) (Nat.le_of_ble_eq_true rfl) ?_
  intro p e s m below meth co C hret
  show dp_G _ _ _ _ _ _ _ _ _ _ _ _ _ _ _ _ _ [some (.ref (eAd E r 0)), none, none, none, none] _
  have hX2 : ∀ w ∈ u_ws RX2 TX2 11, w ∈ wsX2_endWhatIsOver := fun w h => List.mem_cons_of_mem _ (List.mem_append_left _ (List.mem_append_left _ (List.mem_append_right _ (h))))
  have hX3 : ∀ w ∈ u_ws RX3 TX3 14, w ∈ wsX2_endWhatIsOver := fun w h => List.mem_cons_of_mem _ (List.mem_append_left _ (List.mem_append_right _ (h)))
  have J51 : ∀ (n k : Nat) (V' : dp_V) (ki : Int) (o : Option Value), k + n = 10 → ki = k → ivC V' → en2 k n V' = enV V → dp_G E (dp_A E) p l e (dp_rm 5 104) s m [.ref (eAd E r 0)].toArray below meth co 0 0 (MQ below (dp_qv E (fun M1 => M1 = dS M r (enV V) Y)) [.ref (eAd E r 0)].toArray s 0 0 (dp_A E)) (dS M r V' Y) 51 [some (.ref (eAd E r 0)), some (.ref (eAd E r 5)), some (.int (dp_I 10)), some (.int (dp_I ki)), o] [] := by
    refine dp_ind (fun n ih => ?_)
    intro k V' ki o hkn hki hv' hf
    refine dp_iload_n C dX2_endWhatIsOver_51 rfl ?_
    refine dp_iload_n C dX2_endWhatIsOver_52 rfl ?_
    refine dp_icmp_ge (tgt := 93) C dX2_endWhatIsOver_53 (by decide) ⟨by omega, by omega⟩ ⟨by omega, by omega⟩ (fun c53 => ?_) (fun c53 => ?_)
    · skip
      obtain rfl : n = 0 := by omega
      refine dp_vret C hret dX2_endWhatIsOver_93 ?_
      rw [show V' = enV V from hf]
    · skip
      obtain ⟨n, rfl⟩ : ∃ n', n = n' + 1 := ⟨n - 1, by omega⟩
      unfold en2 at hf
      have ht : k < 10 := by omega
      have hst := hv'.st ht
      have h0 := hv'.1.1
      refine dp_aload_n C dX2_endWhatIsOver_56 rfl ?_
      refine dp_iload_n C dX2_endWhatIsOver_57 rfl ?_
      refine dp_aald_t C ‹_› ⟨by omega, by omega⟩ (show ki.toNat = k by omega) dX2_endWhatIsOver_58 ?_
      refine dp_astore C dX2_endWhatIsOver_59 (Nat.le_of_ble_eq_true rfl) ?_
      dsimp only [List.set]
      refine dp_aload C dX2_endWhatIsOver_61 rfl ?_
      refine dp_getf C (k := 6) (dp_mS ‹_› (dp_cT ‹_›)) (dp_xtg ‹_› ‹_›) rfl hX3 (by decide) (List.mem_of_getElem? (i := 2) rfl) rfl dX2_endWhatIsOver_63 ?_
      refine dp_if_ne (tgt := 87) C dX2_endWhatIsOver_66 (by decide) ⟨by omega, by omega⟩ (fun c66 => ?_) (fun c66 => ?_)
      · skip
        rw [if_neg c66] at hf
        refine dp_iinc C dX2_endWhatIsOver_87 rfl ?_
        dsimp only [List.set]
        refine dp_goto (tgt := 51) C dX2_endWhatIsOver_90 (by decide) ?_
        first | exact ih n (by omega) (k + 1) _ _ _ (by omega) (by omega) hv' hf | exact ih n (by omega) (k + 1) _ _ _ (by omega) (by omega) hv2 hf
      · skip
        rw [if_pos c66] at hf
        have hT : ivT (V' (k + 6)) := (hv'.2.1 k ht).resolve_left (by omega)
        have hT2 := hT
        unfold ivT at hT2
        refine dp_aload C dX2_endWhatIsOver_69 rfl ?_
        refine dp_getf C (k := 3) (dp_mS ‹_› (dp_cT ‹_›)) (dp_xtg ‹_› ‹_›) rfl hX3 (by decide) (List.mem_of_getElem? (i := 3) rfl) rfl dX2_endWhatIsOver_71 ?_
        refine dp_aload_n C dX2_endWhatIsOver_74 rfl ?_
        refine dp_getf C (k := 0) (dp_mS ‹_› (by decide)) (dp_xst ‹_›) rfl hX2 (by decide) (List.mem_of_getElem? (i := 4) rfl) rfl dX2_endWhatIsOver_75 ?_
        refine dp_icmp_gt (tgt := 87) C dX2_endWhatIsOver_78 (by decide) ⟨by omega, by omega⟩ ⟨by omega, by omega⟩ (fun c78 => ?_) (fun c78 => ?_)
        · skip
          rw [if_pos c78] at hf
          refine dp_iinc C dX2_endWhatIsOver_87 rfl ?_
          dsimp only [List.set]
          refine dp_goto (tgt := 51) C dX2_endWhatIsOver_90 (by decide) ?_
          first | exact ih n (by omega) (k + 1) _ _ _ (by omega) (by omega) hv' hf | exact ih n (by omega) (k + 1) _ _ _ (by omega) (by omega) hv2 hf
        · skip
          rw [if_neg c78] at hf
          have hz := hv'.2.2 k ht
          have hv2 : ivC (u2 V' (k + 6) 6 3) := ivC_uT hv' (Or.inr (ivT_st hT (by omega))) (by rw [u1_ne (by decide)]; exact hz)
          refine dp_aload C dX2_endWhatIsOver_81 rfl ?_
          refine dp_iconst C dX2_endWhatIsOver_83 ?_
          refine dp_putT C ‹_› ‹_› (k := 6) hX3 (by decide) (List.mem_of_getElem? (i := 2) rfl) rfl (tyX3_ok _ (by decide)) rfl rfl dX2_endWhatIsOver_84 ?_
          refine dp_iinc C dX2_endWhatIsOver_87 rfl ?_
          dsimp only [List.set]
          refine dp_goto (tgt := 51) C dX2_endWhatIsOver_90 (by decide) ?_
          first | exact ih n (by omega) (k + 1) _ _ _ (by omega) (by omega) hv' hf | exact ih n (by omega) (k + 1) _ _ _ (by omega) (by omega) hv2 hf
  have J10 : ∀ (n k : Nat) (V' : dp_V) (ki : Int) (o : Option Value), k + n = 10 → ki = k → ivC V' → en1 k n V' = en1 0 10 V → dp_G E (dp_A E) p l e (dp_rm 5 104) s m [.ref (eAd E r 0)].toArray below meth co 0 0 (MQ below (dp_qv E (fun M1 => M1 = dS M r (enV V) Y)) [.ref (eAd E r 0)].toArray s 0 0 (dp_A E)) (dS M r V' Y) 10 [some (.ref (eAd E r 0)), some (.ref (eAd E r 5)), some (.int (dp_I 10)), some (.int (dp_I ki)), o] [] := by
    refine dp_ind (fun n ih => ?_)
    intro k V' ki o hkn hki hv' hf
    refine dp_iload_n C dX2_endWhatIsOver_10 rfl ?_
    refine dp_iload_n C dX2_endWhatIsOver_11 rfl ?_
    refine dp_icmp_ge (tgt := 41) C dX2_endWhatIsOver_12 (by decide) ⟨by omega, by omega⟩ ⟨by omega, by omega⟩ (fun c12 => ?_) (fun c12 => ?_)
    · skip
      obtain rfl : n = 0 := by omega
      rw [show V' = en1 0 10 V from hf]
      refine dp_aload_n C dX2_endWhatIsOver_41 rfl ?_
      refine dp_getf C (k := 7) (dp_mS ‹_› (by decide)) (dp_xst ‹_›) rfl hX2 (by decide) (List.mem_of_getElem? (i := 1) rfl) rfl dX2_endWhatIsOver_42 ?_
      refine dp_astore_n C dX2_endWhatIsOver_45 (Nat.le_of_ble_eq_true rfl) ?_
      dsimp only [List.set]
      refine dp_aload_n C dX2_endWhatIsOver_46 rfl ?_
      refine dp_alen C (t0 := 2) (dp_mS ‹_› (by decide)) 10 (dp_xta ‹_›) rfl rfl dX2_endWhatIsOver_47 ?_
      refine dp_istore_n C dX2_endWhatIsOver_48 (Nat.le_of_ble_eq_true rfl) ?_
      dsimp only [List.set]
      refine dp_iconst C dX2_endWhatIsOver_49 ?_
      refine dp_istore_n C dX2_endWhatIsOver_50 (Nat.le_of_ble_eq_true rfl) ?_
      dsimp only [List.set]
      exact J51 10 0 _ 0 _ (by omega) rfl (en1_iv (k := 0) (n := 10) (by omega) hv).1 rfl
    · skip
      obtain ⟨n, rfl⟩ : ∃ n', n = n' + 1 := ⟨n - 1, by omega⟩
      unfold en1 at hf
      have ht : k < 10 := by omega
      have hst := hv'.st ht
      refine dp_aload_n C dX2_endWhatIsOver_15 rfl ?_
      refine dp_iload_n C dX2_endWhatIsOver_16 rfl ?_
      refine dp_aald_t C ‹_› ⟨by omega, by omega⟩ (show ki.toNat = k by omega) dX2_endWhatIsOver_17 ?_
      refine dp_astore C dX2_endWhatIsOver_18 (Nat.le_of_ble_eq_true rfl) ?_
      dsimp only [List.set]
      refine dp_aload C dX2_endWhatIsOver_20 rfl ?_
      refine dp_getf C (k := 6) (dp_mS ‹_› (dp_cT ‹_›)) (dp_xtg ‹_› ‹_›) rfl hX3 (by decide) (List.mem_of_getElem? (i := 2) rfl) rfl dX2_endWhatIsOver_22 ?_
      refine dp_iconst C dX2_endWhatIsOver_25 ?_
      refine dp_icmp_ne (tgt := 35) C dX2_endWhatIsOver_26 (by decide) ⟨by omega, by omega⟩ ⟨by omega, by omega⟩ (fun c26 => ?_) (fun c26 => ?_)
      · skip
        rw [if_neg c26] at hf
        refine dp_iinc C dX2_endWhatIsOver_35 rfl ?_
        dsimp only [List.set]
        refine dp_goto (tgt := 10) C dX2_endWhatIsOver_38 (by decide) ?_
        first | exact ih n (by omega) (k + 1) _ _ _ (by omega) (by omega) hv' hf | exact ih n (by omega) (k + 1) _ _ _ (by omega) (by omega) hv2 hf
      · skip
        rw [if_pos c26] at hf
        have hT : ivT (V' (k + 6)) := (hv'.2.1 k ht).resolve_left (by omega)
        have hv2 := goV_iv hv' ht hT
        refine dp_aload_n C dX2_endWhatIsOver_29 rfl ?_
        refine dp_aload C dX2_endWhatIsOver_30 rfl ?_
        refine dp_cVv C (c_X2_goOnWith C.2.2.1 l ‹_› ‹_› hv' hT c26) gX2_endWhatIsOver_X2_goOnWith rfl (dp_mS ‹_› (by decide)) (dp_xst ‹_›) rfl yyX2_goOnWith rfl ⟨Nat.le_of_ble_eq_true rfl, Nat.le_of_ble_eq_true rfl⟩ rfl (Nat.le_of_ble_eq_true rfl) rfl ⟨Nat.zero_le _, Nat.zero_le _⟩ dX2_endWhatIsOver_32 (fun M32 h32 => ?_)
        obtain rfl := h32
        refine dp_iinc C dX2_endWhatIsOver_35 rfl ?_
        dsimp only [List.set]
        refine dp_goto (tgt := 10) C dX2_endWhatIsOver_38 (by decide) ?_
        first | exact ih n (by omega) (k + 1) _ _ _ (by omega) (by omega) hv' hf | exact ih n (by omega) (k + 1) _ _ _ (by omega) (by omega) hv2 hf
  refine dp_aload_n C dX2_endWhatIsOver_0 rfl ?_
  refine dp_getf C (k := 7) (dp_mS ‹_› (by decide)) (dp_xst ‹_›) rfl hX2 (by decide) (List.mem_of_getElem? (i := 1) rfl) rfl dX2_endWhatIsOver_1 ?_
  refine dp_astore_n C dX2_endWhatIsOver_4 (Nat.le_of_ble_eq_true rfl) ?_
  dsimp only [List.set]
  refine dp_aload_n C dX2_endWhatIsOver_5 rfl ?_
  refine dp_alen C (t0 := 2) (dp_mS ‹_› (by decide)) 10 (dp_xta ‹_›) rfl rfl dX2_endWhatIsOver_6 ?_
  refine dp_istore_n C dX2_endWhatIsOver_7 (Nat.le_of_ble_eq_true rfl) ?_
  dsimp only [List.set]
  refine dp_iconst C dX2_endWhatIsOver_8 ?_
  refine dp_istore_n C dX2_endWhatIsOver_9 (Nat.le_of_ble_eq_true rfl) ?_
  dsimp only [List.set]
  exact J10 10 0 _ 0 _ (by omega) rfl hv rfl
theorem yyX2_beginHold : yX2_beginHold.cls = RX2 ∧ yX2_beginHold.cls ≠ "java/lang/invoke/MethodHandle" ∧ yX2_beginHold.cls ≠ "java/lang/invoke/VarHandle" ∧ (parseMethodDescriptor yX2_beginHold.desc).map (fun d => d.parameters.length) = some 0 := by decide +kernel
set_option maxHeartbeats 4000000 in
set_option maxRecDepth 100000 in
theorem c_X2_beginHold {E : dp_E} (hE : dp_OK E) (l : Launch) {M : dp_M} {r : Nat} {V Y : dp_V} (hr : r < 7) (hv : ivC V) : dp_met E l yX2_beginHold wsX2_beginHold 2 43 [.ref (eAd E r 0)] (dS M r V Y) (dp_qv E (fun M1 => M1 = dS M r (hoV V) Y)) := by
  refine dp_of (cc := cX2_beginHold) (nL := 5) (own := RX2) (ret := none) (by decide +kernel) rfl rfl hE (by simp [Value.category]) (Nat.le_of_ble_eq_true rfl) ?_
  intro p e s m below meth co C hret
  show dp_G _ _ _ _ _ _ _ _ _ _ _ _ _ _ _ _ _ [some (.ref (eAd E r 0)), none, none, none, none] _
  have hX2 : ∀ w ∈ u_ws RX2 TX2 11, w ∈ wsX2_beginHold := fun w h => List.mem_cons_of_mem _ (List.mem_append_left _ (List.mem_append_left _ (List.mem_append_right _ (h))))
  have hX3 : ∀ w ∈ u_ws RX3 TX3 14, w ∈ wsX2_beginHold := fun w h => List.mem_cons_of_mem _ (List.mem_append_left _ (List.mem_append_right _ (h)))
  have J20 : ∀ (n k : Nat) (V' : dp_V) (ki : Int) (o : Option Value), k + n = 10 → ki = k → ivC V' → hoG k n V' = hoG 0 10 (u2 V 0 2 (V 0 2 + 1)) → dp_G E (dp_A E) p l e (dp_rm 2 43) s m [.ref (eAd E r 0)].toArray below meth co 0 0 (MQ below (dp_qv E (fun M1 => M1 = dS M r (hoV V) Y)) [.ref (eAd E r 0)].toArray s 0 0 (dp_A E)) (dS M r V' Y) 20 [some (.ref (eAd E r 0)), some (.ref (eAd E r 5)), some (.int (dp_I 10)), some (.int (dp_I ki)), o] [] := by
    refine dp_ind (fun n ih => ?_)
    intro k V' ki o hkn hki hv' hf
    refine dp_iload_n C dX2_beginHold_20 rfl ?_
    refine dp_iload_n C dX2_beginHold_21 rfl ?_
    refine dp_icmp_ge (tgt := 62) C dX2_beginHold_22 (by decide) ⟨by omega, by omega⟩ ⟨by omega, by omega⟩ (fun c22 => ?_) (fun c22 => ?_)
    · skip
      obtain rfl : n = 0 := by omega
      refine dp_aload_n C dX2_beginHold_62 rfl ?_
      refine dp_getf C (k := 6) (dp_mS ‹_› (by decide)) (dp_xst ‹_›) rfl hX2 (by decide) (List.mem_of_getElem? (i := 5) rfl) rfl dX2_beginHold_63 ?_
      refine dp_sipush C dX2_beginHold_66 (by decide) ?_
      refine dp_cVv C (c_X0_moveTo C.2.2.1 l ‹_› (Or.inr rfl) hv'.1.2.2.2.2 ⟨by omega, by omega⟩) gX2_beginHold_X0_moveTo rfl (dp_mS ‹_› (dp_cA (Or.inr rfl))) (dp_xax ‹_› (Or.inr rfl)) rfl yyX0_moveTo rfl ⟨Nat.le_of_ble_eq_true rfl, Nat.le_of_ble_eq_true rfl⟩ rfl (Nat.le_of_ble_eq_true rfl) rfl ⟨Nat.zero_le _, Nat.zero_le _⟩ dX2_beginHold_69 (fun M69 h69 => ?_)
      obtain rfl := h69
      refine dp_vret C hret dX2_beginHold_72 ?_
      rw [show V' = hoG 0 10 (u2 V 0 2 (V 0 2 + 1)) from hf]
      rfl
    · skip
      obtain ⟨n, rfl⟩ : ∃ n', n = n' + 1 := ⟨n - 1, by omega⟩
      unfold hoG at hf
      have ht : k < 10 := by omega
      have hst := hv'.st ht
      refine dp_aload_n C dX2_beginHold_25 rfl ?_
      refine dp_iload_n C dX2_beginHold_26 rfl ?_
      refine dp_aald_t C ‹_› ⟨by omega, by omega⟩ (show ki.toNat = k by omega) dX2_beginHold_27 ?_
      refine dp_astore C dX2_beginHold_28 (Nat.le_of_ble_eq_true rfl) ?_
      dsimp only [List.set]
      refine dp_aload C dX2_beginHold_30 rfl ?_
      refine dp_getf C (k := 6) (dp_mS ‹_› (dp_cT ‹_›)) (dp_xtg ‹_› ‹_›) rfl hX3 (by decide) (List.mem_of_getElem? (i := 3) rfl) rfl dX2_beginHold_32 ?_
      refine dp_iconst C dX2_beginHold_35 ?_
      refine dp_icmp_ne (tgt := 56) C dX2_beginHold_36 (by decide) ⟨by omega, by omega⟩ ⟨by omega, by omega⟩ (fun c36 => ?_) (fun c36 => ?_)
      · skip
        rw [if_neg c36] at hf
        refine dp_iinc C dX2_beginHold_56 rfl ?_
        dsimp only [List.set]
        refine dp_goto (tgt := 20) C dX2_beginHold_59 (by decide) ?_
        first | exact ih n (by omega) (k + 1) _ _ _ (by omega) (by omega) hv' hf | exact ih n (by omega) (k + 1) _ _ _ (by omega) (by omega) hv3 hf
      · skip
        rw [if_pos c36] at hf
        have hT : ivT (V' (k + 6)) := (hv'.2.1 k ht).resolve_left (by omega)
        have hz := hv'.2.2 k ht
        have hv2 : ivC (u2 V' (k + 6) 6 0) := ivC_uT hv' (Or.inr (ivT_st hT (by omega))) (by rw [u1_ne (by decide)]; exact hz)
        have hT2 : ivT (u2 V' (k + 6) 6 0 (k + 6)) := by
          rw [u2_same]
          exact ivT_st hT (by omega)
        have hv3 : ivC (u2 (u2 V' (k + 6) 6 0) (k + 6) 11 (V' (k + 6) 11 + 1)) := ivC_uT hv2 (Or.inr (ivT_11 hT2)) (by rw [u1_ne (by decide), u2_same, u1_ne (by decide)]; exact hz)
        refine dp_aload C dX2_beginHold_39 rfl ?_
        refine dp_iconst C dX2_beginHold_41 ?_
        refine dp_putT C ‹_› ‹_› (k := 6) hX3 (by decide) (List.mem_of_getElem? (i := 3) rfl) rfl (tyX3_ok _ (by decide)) rfl rfl dX2_beginHold_42 ?_
        refine dp_aload C dX2_beginHold_45 rfl ?_
        refine dp_dup C dX2_beginHold_47 rfl ?_
        refine dp_getf C (k := 11) (dp_mS ‹_› (dp_cT ‹_›)) (dp_xtg ‹_› ‹_›) rfl hX3 (by decide) (List.mem_of_getElem? (i := 4) rfl) rfl dX2_beginHold_48 ?_
        rw [show u2 V' (k + 6) 6 0 (k + 6) 11 = V' (k + 6) 11 by rw [u2_same, u1_ne (by decide)]]
        refine dp_iconst C dX2_beginHold_51 ?_
        refine dp_iadd C dX2_beginHold_52 ?_
        refine dp_putT C ‹_› ‹_› (k := 11) hX3 (by decide) (List.mem_of_getElem? (i := 4) rfl) rfl (tyX3_ok _ (by decide)) rfl rfl dX2_beginHold_53 ?_
        refine dp_iinc C dX2_beginHold_56 rfl ?_
        dsimp only [List.set]
        refine dp_goto (tgt := 20) C dX2_beginHold_59 (by decide) ?_
        first | exact ih n (by omega) (k + 1) _ _ _ (by omega) (by omega) hv' hf | exact ih n (by omega) (k + 1) _ _ _ (by omega) (by omega) hv3 hf
  refine dp_aload_n C dX2_beginHold_0 rfl ?_
  refine dp_dup C dX2_beginHold_1 rfl ?_
  refine dp_getf C (k := 2) (dp_mS ‹_› (by decide)) (dp_xst ‹_›) rfl hX2 (by decide) (List.mem_of_getElem? (i := 1) rfl) rfl dX2_beginHold_2 ?_
  refine dp_iconst C dX2_beginHold_5 ?_
  refine dp_iadd C dX2_beginHold_6 ?_
  refine dp_putS C ‹_› (k := 2) hX2 (by decide) (List.mem_of_getElem? (i := 1) rfl) rfl (tyX2_ok _ (by decide)) rfl rfl dX2_beginHold_7 ?_
  refine dp_aload_n C dX2_beginHold_10 rfl ?_
  refine dp_getf C (k := 7) (dp_mS ‹_› (by decide)) (dp_xst ‹_›) rfl hX2 (by decide) (List.mem_of_getElem? (i := 2) rfl) rfl dX2_beginHold_11 ?_
  refine dp_astore_n C dX2_beginHold_14 (Nat.le_of_ble_eq_true rfl) ?_
  dsimp only [List.set]
  refine dp_aload_n C dX2_beginHold_15 rfl ?_
  refine dp_alen C (t0 := 2) (dp_mS ‹_› (by decide)) 10 (dp_xta ‹_›) rfl rfl dX2_beginHold_16 ?_
  refine dp_istore_n C dX2_beginHold_17 (Nat.le_of_ble_eq_true rfl) ?_
  dsimp only [List.set]
  refine dp_iconst C dX2_beginHold_18 ?_
  refine dp_istore_n C dX2_beginHold_19 (Nat.le_of_ble_eq_true rfl) ?_
  dsimp only [List.set]
  exact J20 10 0 _ 0 _ (by omega) rfl (ivC_02 hv (by omega)) rfl
theorem yyX2_begin : yX2_begin.cls = RX2 ∧ yX2_begin.cls ≠ "java/lang/invoke/MethodHandle" ∧ yX2_begin.cls ≠ "java/lang/invoke/VarHandle" ∧ (parseMethodDescriptor yX2_begin.desc).map (fun d => d.parameters.length) = some 1 := by decide +kernel
set_option maxHeartbeats 4000000 in
set_option maxRecDepth 100000 in
theorem c_X2_begin {E : dp_E} (hE : dp_OK E) (l : Launch) {M : dp_M} {r t : Nat} {V Y : dp_V} (hr : r < 7) (ht : t < 10) (hv : ivC V) (hrs : rsF V t = 0) : dp_met E l yX2_begin wsX2_begin 4 86 [.ref (eAd E r 0), .ref (eAd E r (t + 6))] (dS M r V Y) (dp_qv E (fun M1 => ∃ Y', M1 = dS M r (beV V t) Y')) := by
  refine dp_of (cc := cX2_begin) (nL := 4) (own := RX2) (ret := none) (by decide +kernel) rfl rfl hE (by simp [Value.category]) (Nat.le_of_ble_eq_true rfl) ?_
  intro p e s m below meth co C hret
  show dp_G _ _ _ _ _ _ _ _ _ _ _ _ _ _ _ _ _ [some (.ref (eAd E r 0)), some (.ref (eAd E r (t + 6))), none, none] _
  have hX2 : ∀ w ∈ u_ws RX2 TX2 11, w ∈ wsX2_begin := fun w h => List.mem_cons_of_mem _ (List.mem_append_left _ (List.mem_append_right _ (h)))
  have hX3 : ∀ w ∈ u_ws RX3 TX3 14, w ∈ wsX2_begin := fun w h => List.mem_cons_of_mem _ (List.mem_append_left _ (List.mem_append_left _ (List.mem_append_left _ (List.mem_append_right _ (h)))))
  have hX5 : ∀ w ∈ u_ws RX5 TX5 7, w ∈ wsX2_begin := fun w h => List.mem_cons_of_mem _ (List.mem_append_left _ (List.mem_append_left _ (List.mem_append_right _ (h))))
  obtain ⟨r1, r2, r3, r4, r5, r6, r7⟩ := rsF_0 hrs
  have hT : ivT (V (t + 6)) := (hv.2.1 t ht).resolve_left (by omega)
  unfold ivT at hT
  have h0 := hv.1.1
  have hb := @apF_bd V (V (t + 6) 0) (by omega)
  have htm := @tmF_bd V (apF V (V (t + 6) 0)) (V (t + 6) 1) hv.1 (by omega) (by omega)
  obtain ⟨i7, iT7⟩ := b7V_iv hv ht hrs
  have e3 : b3V V t 3 = V 3 := b3V_ne (by omega)
  have e4 : b3V V t 4 = V 4 := b3V_ne (by omega)
  have e1 : b3V V t 1 = V 1 := b3V_ne (by omega)
  have e0 : b3V V t 0 = V 0 := b3V_ne (by omega)
  have s3 : ivS (b3V V t) := ivS_of hv.1 (by rw [e0]) e1 (b3V_ne (by omega)) e3 e4
  have eb4 : slV (b3V V t) (apF V (V (t + 6) 0)) (V (t + 6) 1) (t + 6) = b3V V t (t + 6) := slV_ne (by omega) (by omega) (by omega)
  have eb3 : b3V V t (t + 6) 4 = V (t + 6) 4 := by
    unfold b3V
    rw [u2_same, u1_ne (by decide), u2_same, u1_ne (by decide), u2_same, u1_ne (by decide)]
  have e76 : b7V V t (t + 6) 6 = 1 := by
    unfold b7V
    rw [u2_same, u1_ne (by decide), u2_same, u1_ne (by decide), u2_same, u1_ne (by decide), eb4]
    unfold b3V
    rw [u2_same, u1_ne (by decide), u2_same, u1_ne (by decide), u2_same, u1_same]
  refine dp_aload_n C dX2_begin_0 rfl ?_
  refine dp_aload_n C dX2_begin_1 rfl ?_
  refine dp_getf C (k := 0) (dp_mS ‹_› (dp_cT ‹_›)) (dp_xtg ‹_› ‹_›) rfl hX3 (by decide) (List.mem_of_getElem? (i := 1) rfl) rfl dX2_begin_2 ?_
  refine dp_cVr C (c_X2_wayAround C.2.2.1 l ‹_› hv.1 (by omega)) gX2_begin_X2_wayAround rfl (dp_mS ‹_› (by decide)) (dp_xst ‹_›) rfl yyX2_wayAround rfl ⟨Nat.le_of_ble_eq_true rfl, Nat.le_of_ble_eq_true rfl⟩ rfl (Nat.le_of_ble_eq_true rfl) rfl ⟨Nat.zero_le _, Nat.zero_le _⟩ dX2_begin_5 (fun r5 q5 M5 h5 => ?_)
  obtain ⟨rfl, Y1, rfl, h18, hc1, hW1⟩ := h5
  have hc9 : q5 = 16 ∨ q5 = 17 ∨ q5 = 18 := by omega
  have hc8 : q5 ≠ 18 := by omega
  refine dp_astore_n C dX2_begin_8 (Nat.le_of_ble_eq_true rfl) ?_
  dsimp only [List.set]
  refine dp_aload_n C dX2_begin_9 rfl ?_
  refine dp_aload_n C dX2_begin_10 rfl ?_
  refine dp_getf C (k := 1) (dp_mS ‹_› (dp_cT ‹_›)) (dp_xtg ‹_› ‹_›) rfl hX3 (by decide) (List.mem_of_getElem? (i := 2) rfl) rfl dX2_begin_11 ?_
  refine dp_cVr C (c_X2_wayRise C.2.2.1 l ‹_› hv.1 (by omega)) gX2_begin_X2_wayRise rfl (dp_mS ‹_› (by decide)) (dp_xst ‹_›) rfl yyX2_wayRise rfl ⟨Nat.le_of_ble_eq_true rfl, Nat.le_of_ble_eq_true rfl⟩ rfl (Nat.le_of_ble_eq_true rfl) rfl ⟨Nat.zero_le _, Nat.zero_le _⟩ dX2_begin_14 (fun r14 q14 M14 h14 => ?_)
  obtain ⟨rfl, rfl, Y2, rfl, hY2, hW2⟩ := h14
  rw [← hY2 _ hc8] at hW1
  refine dp_astore_n C dX2_begin_17 (Nat.le_of_ble_eq_true rfl) ?_
  dsimp only [List.set]
  refine dp_aload_n C dX2_begin_18 rfl ?_
  refine dp_iconst C dX2_begin_19 ?_
  refine dp_putT C ‹_› ‹_› (k := 6) hX3 (by decide) (List.mem_of_getElem? (i := 3) rfl) rfl (tyX3_ok _ (by decide)) rfl rfl dX2_begin_20 ?_
  refine dp_aload_n C dX2_begin_23 rfl ?_
  refine dp_aload_n C dX2_begin_24 rfl ?_
  refine dp_getf C (k := 0) (dp_mS ‹_› (dp_cW ‹_›)) (dp_xwy ‹_› ‹_›) rfl hX5 (by decide) (List.mem_of_getElem? (i := 4) rfl) rfl dX2_begin_25 ?_
  rw [hW1.1]
  refine dp_putT C ‹_› ‹_› (k := 12) hX3 (by decide) (List.mem_of_getElem? (i := 5) rfl) rfl (tyX3_ok _ (by decide)) rfl rfl dX2_begin_28 ?_
  refine dp_aload_n C dX2_begin_31 rfl ?_
  refine dp_aload_n C dX2_begin_32 rfl ?_
  refine dp_getf C (k := 0) (dp_mS ‹_› (by decide)) (dp_xst ‹_›) rfl hX2 (by decide) (List.mem_of_getElem? (i := 6) rfl) rfl dX2_begin_33 ?_
  rw [u2_ne (show 0 ≠ t + 6 by omega), u2_ne (show 0 ≠ t + 6 by omega)]
  refine dp_putT C ‹_› ‹_› (k := 7) hX3 (by decide) (List.mem_of_getElem? (i := 7) rfl) rfl (tyX3_ok _ (by decide)) rfl rfl dX2_begin_36 ?_
  show dp_G _ _ _ _ _ _ _ _ _ _ _ _ _ _ _ (dS _ _ (b3V V t) _) _ _ _
  refine dp_aload_n C dX2_begin_39 rfl ?_
  refine dp_aload_n C dX2_begin_40 rfl ?_
  refine dp_getf C (k := 0) (dp_mS ‹_› (by decide)) (dp_xst ‹_›) rfl hX2 (by decide) (List.mem_of_getElem? (i := 6) rfl) rfl dX2_begin_41 ?_
  rw [e0]
  refine dp_aload_n C dX2_begin_44 rfl ?_
  refine dp_aload_n C dX2_begin_45 rfl ?_
  refine dp_aload_n C dX2_begin_46 rfl ?_
  refine dp_cVi C (c_X2_followWays C.2.2.1 l ‹_› s3 ‹_› (by rw [e3, e1]; exact hW1) (by rw [e4, e1]; exact hW2) (by rw [e3, e1]; exact r6) (by rw [e4, e1]; exact r5) (by omega) (by omega)) gX2_begin_X2_followWays rfl (dp_mS ‹_› (by decide)) (dp_xst ‹_›) rfl yyX2_followWays rfl ⟨Nat.le_of_ble_eq_true rfl, Nat.le_of_ble_eq_true rfl⟩ rfl (Nat.le_of_ble_eq_true rfl) rfl ⟨Nat.zero_le _, Nat.zero_le _⟩ dX2_begin_47 (fun x47 M47 h47 => ?_)
  obtain ⟨rfl, rfl⟩ := h47
  rw [e3, e4, e1]
  show dp_G _ _ _ _ _ _ _ _ _ _ _ _ _ _ _ _ _ _ (.int (dp_I (tmF V (apF V (V (t + 6) 0)) (V (t + 6) 1))) :: _)
  refine dp_iadd C dX2_begin_50 ?_
  refine dp_putT C ‹_› ‹_› (k := 8) hX3 (by decide) (List.mem_of_getElem? (i := 8) rfl) rfl (tyX3_ok _ (by decide)) rfl rfl dX2_begin_51 ?_
  refine dp_aload_n C dX2_begin_54 rfl ?_
  refine dp_aload_n C dX2_begin_55 rfl ?_
  refine dp_getf C (k := 8) (dp_mS ‹_› (dp_cT ‹_›)) (dp_xtg ‹_› ‹_›) rfl hX3 (by decide) (List.mem_of_getElem? (i := 8) rfl) rfl dX2_begin_56 ?_
  rw [u2_same, u1_same]
  refine dp_aload_n C dX2_begin_59 rfl ?_
  refine dp_getf C (k := 4) (dp_mS ‹_› (dp_cT ‹_›)) (dp_xtg ‹_› ‹_›) rfl hX3 (by decide) (List.mem_of_getElem? (i := 9) rfl) rfl dX2_begin_60 ?_
  rw [u2_same, u1_ne (by decide), eb4, eb3]
  refine dp_iadd C dX2_begin_63 ?_
  refine dp_putT C ‹_› ‹_› (k := 9) hX3 (by decide) (List.mem_of_getElem? (i := 10) rfl) rfl (tyX3_ok _ (by decide)) rfl rfl dX2_begin_64 ?_
  refine dp_aload_n C dX2_begin_67 rfl ?_
  refine dp_iconst C dX2_begin_68 ?_
  refine dp_putT C ‹_› ‹_› (k := 13) hX3 (by decide) (List.mem_of_getElem? (i := 11) rfl) rfl (tyX3_ok _ (by decide)) (by first | rfl | exact dp_nb) (by first | rfl | decide) dX2_begin_69 ?_
  show dp_G _ _ _ _ _ _ _ _ _ _ _ _ _ _ _ (dS _ _ (b7V V t) _) _ _ _
  refine dp_aload_n C dX2_begin_72 rfl ?_
  refine dp_aload_n C dX2_begin_73 rfl ?_
  refine dp_cVv C (c_X2_lookAtSlew C.2.2.1 l ‹_› ‹_› i7 iT7 e76) gX2_begin_X2_lookAtSlew rfl (dp_mS ‹_› (by decide)) (dp_xst ‹_›) rfl yyX2_lookAtSlew rfl ⟨Nat.le_of_ble_eq_true rfl, Nat.le_of_ble_eq_true rfl⟩ rfl (Nat.le_of_ble_eq_true rfl) rfl ⟨Nat.zero_le _, Nat.zero_le _⟩ dX2_begin_74 (fun M74 h74 => ?_)
  obtain rfl := h74
  refine dp_vret C hret dX2_begin_77 ?_
  exact ⟨_, rfl⟩
/-- a target appended as the n-th -/
def aqV (V : dp_V) (n : Nat) (a0 a1 a2 a3 a4 a5 : Int) : dp_V := u2 (u2 (u2 (u2 (u2 (u2 (u2 (u2 V (n + 6) 0 a0) (n + 6) 1 a1) (n + 6) 2 a2) (n + 6) 3 a3) (n + 6) 4 a4) (n + 6) 5 a5) (n + 6) 6 0) (n + 6) 11 0
theorem yyX2_append : yX2_append.cls = RX2 ∧ yX2_append.cls ≠ "java/lang/invoke/MethodHandle" ∧ yX2_append.cls ≠ "java/lang/invoke/VarHandle" ∧ (parseMethodDescriptor yX2_append.desc).map (fun d => d.parameters.length) = some 6 := by decide +kernel
set_option maxHeartbeats 4000000 in
set_option maxRecDepth 100000 in
theorem c_X2_append {E : dp_E} (hE : dp_OK E) (l : Launch) {M : dp_M} {r : Nat} {V Y : dp_V} (hr : r < 7) {a0 a1 a2 a3 a4 a5 : Int} {n : Nat} (hv : ivC V) (hn : cnF V 4 = 10 - n) (hn9 : n < 10) : dp_met E l yX2_append wsX2_append 1 26 [.ref (eAd E r 0), .int (dp_I a0), .int (dp_I a1), .int (dp_I a2), .int (dp_I a3), .int (dp_I a4), .int (dp_I a5)] (dS M r V Y) (dp_qi E (fun y M1 => y = n ∧ M1 = dS M r (aqV V n a0 a1 a2 a3 a4 a5) Y)) := by
  refine dp_of (cc := cX2_append) (nL := 9) (own := RX2) (ret := some (.int)) (by decide +kernel) rfl rfl hE (by simp [Value.category]) (Nat.le_of_ble_eq_true rfl) ?_
  intro p e s m below meth co C hret
  show dp_G _ _ _ _ _ _ _ _ _ _ _ _ _ _ _ _ _ [some (.ref (eAd E r 0)), some (.int (dp_I a0)), some (.int (dp_I a1)), some (.int (dp_I a2)), some (.int (dp_I a3)), some (.int (dp_I a4)), some (.int (dp_I a5)), none, none] _
  have hX2 : ∀ w ∈ u_ws RX2 TX2 11, w ∈ wsX2_append := fun w h => List.mem_cons_of_mem _ (List.mem_append_left _ (List.mem_append_right _ (h)))
  have hX3 : ∀ w ∈ u_ws RX3 TX3 14, w ∈ wsX2_append := fun w h => List.mem_cons_of_mem _ (List.mem_append_right _ (h))
  refine dp_aload_n C dX2_append_0 rfl ?_
  refine dp_getf C (k := 7) (dp_mS ‹_› (by decide)) (dp_xst ‹_›) rfl hX2 (by decide) (List.mem_of_getElem? (i := 1) rfl) rfl dX2_append_1 ?_
  refine dp_alen C (t0 := 2) (dp_mS ‹_› (by decide)) 10 (dp_xta ‹_›) rfl rfl dX2_append_4 ?_
  refine dp_aload_n C dX2_append_5 rfl ?_
  refine dp_iconst C dX2_append_6 ?_
  refine dp_cVi C (c_X2_targetsIn C.2.2.1 l ‹_› ⟨by omega, by omega⟩ hv) gX2_append_X2_targetsIn rfl (dp_mS ‹_› (by decide)) (dp_xst ‹_›) rfl yyX2_targetsIn rfl ⟨Nat.le_of_ble_eq_true rfl, Nat.le_of_ble_eq_true rfl⟩ rfl (Nat.le_of_ble_eq_true rfl) rfl ⟨Nat.zero_le _, Nat.zero_le _⟩ dX2_append_7 (fun x7 M7 h7 => ?_)
  obtain ⟨rfl, rfl⟩ := h7
  rw [hn]
  refine dp_isub C dX2_append_10 ?_
  refine dp_istore C dX2_append_11 (Nat.le_of_ble_eq_true rfl) ?_
  dsimp only [List.set]
  refine dp_iload C dX2_append_13 rfl ?_
  refine dp_aload_n C dX2_append_15 rfl ?_
  refine dp_getf C (k := 7) (dp_mS ‹_› (by decide)) (dp_xst ‹_›) rfl hX2 (by decide) (List.mem_of_getElem? (i := 1) rfl) rfl dX2_append_16 ?_
  refine dp_alen C (t0 := 2) (dp_mS ‹_› (by decide)) 10 (dp_xta ‹_›) rfl rfl dX2_append_19 ?_
  refine dp_icmp_lt (tgt := 25) C dX2_append_20 (by decide) ⟨by omega, by omega⟩ ⟨by omega, by omega⟩ (fun c20 => ?_) (fun c20 => ?_)
  · skip
    refine dp_aload_n C dX2_append_25 rfl ?_
    refine dp_getf C (k := 7) (dp_mS ‹_› (by decide)) (dp_xst ‹_›) rfl hX2 (by decide) (List.mem_of_getElem? (i := 1) rfl) rfl dX2_append_26 ?_
    refine dp_iload C dX2_append_29 rfl ?_
    refine dp_aald_t C ‹_› ⟨by omega, by omega⟩ (show (10 - (10 - (n : Int))).toNat = n by omega) dX2_append_31 ?_
    refine dp_astore C dX2_append_32 (Nat.le_of_ble_eq_true rfl) ?_
    dsimp only [List.set]
    refine dp_aload C dX2_append_34 rfl ?_
    refine dp_iload_n C dX2_append_36 rfl ?_
    refine dp_putT C ‹_› ‹_› (k := 0) hX3 (by decide) (List.mem_of_getElem? (i := 2) rfl) rfl (tyX3_ok _ (by decide)) rfl rfl dX2_append_37 ?_
    refine dp_aload C dX2_append_40 rfl ?_
    refine dp_iload_n C dX2_append_42 rfl ?_
    refine dp_putT C ‹_› ‹_› (k := 1) hX3 (by decide) (List.mem_of_getElem? (i := 3) rfl) rfl (tyX3_ok _ (by decide)) rfl rfl dX2_append_43 ?_
    refine dp_aload C dX2_append_46 rfl ?_
    refine dp_iload_n C dX2_append_48 rfl ?_
    refine dp_putT C ‹_› ‹_› (k := 2) hX3 (by decide) (List.mem_of_getElem? (i := 4) rfl) rfl (tyX3_ok _ (by decide)) rfl rfl dX2_append_49 ?_
    refine dp_aload C dX2_append_52 rfl ?_
    refine dp_iload C dX2_append_54 rfl ?_
    refine dp_putT C ‹_› ‹_› (k := 3) hX3 (by decide) (List.mem_of_getElem? (i := 5) rfl) rfl (tyX3_ok _ (by decide)) rfl rfl dX2_append_56 ?_
    refine dp_aload C dX2_append_59 rfl ?_
    refine dp_iload C dX2_append_61 rfl ?_
    refine dp_putT C ‹_› ‹_› (k := 4) hX3 (by decide) (List.mem_of_getElem? (i := 6) rfl) rfl (tyX3_ok _ (by decide)) rfl rfl dX2_append_63 ?_
    refine dp_aload C dX2_append_66 rfl ?_
    refine dp_iload C dX2_append_68 rfl ?_
    refine dp_putT C ‹_› ‹_› (k := 5) hX3 (by decide) (List.mem_of_getElem? (i := 7) rfl) rfl (tyX3_ok _ (by decide)) rfl rfl dX2_append_70 ?_
    refine dp_aload C dX2_append_73 rfl ?_
    refine dp_iconst C dX2_append_75 ?_
    refine dp_putT C ‹_› ‹_› (k := 6) hX3 (by decide) (List.mem_of_getElem? (i := 8) rfl) rfl (tyX3_ok _ (by decide)) rfl rfl dX2_append_76 ?_
    refine dp_aload C dX2_append_79 rfl ?_
    refine dp_iconst C dX2_append_81 ?_
    refine dp_putT C ‹_› ‹_› (k := 11) hX3 (by decide) (List.mem_of_getElem? (i := 9) rfl) rfl (tyX3_ok _ (by decide)) rfl rfl dX2_append_82 ?_
    refine dp_iload C dX2_append_85 rfl ?_
    refine dp_iret C hret dX2_append_87 ?_
    first | exact ⟨by omega, rfl⟩ | (exfalso; omega)
  · skip
    refine dp_iconst C dX2_append_23 ?_
    refine dp_iret C hret dX2_append_24 ?_
    first | exact ⟨by omega, rfl⟩ | (exfalso; omega)
set_option maxHeartbeats 4000000 in
set_option maxRecDepth 100000 in
theorem c_X3_copyFromS {E : dp_E} (hE : dp_OK E) (l : Launch) {M : dp_M} {r t t2 : Nat} {V Y : dp_V} (hr : r < 7) (hne : t2 ≠ t) (ht : t < 10) (ht2 : t2 < 10) (hz : V (t2 + 6) 13 = 0 ∨ V (t2 + 6) 13 = 1) : dp_met E l yX3_copyFrom wsX3_copyFrom 0 0 [.ref (eAd E r (t + 6)), .ref (eAd E r (t2 + 6))] (dS M r V Y) (dp_qv E (fun M1 => M1 = dS M r (uc V (t + 6) (V (t2 + 6))) Y)) := by
  refine dp_of (cc := cX3_copyFrom) (nL := 2) (own := RX3) (ret := none) (by decide +kernel) rfl rfl hE (by simp [Value.category]) (Nat.le_of_ble_eq_true rfl) ?_
  intro p e s m below meth co C hret
  show dp_G _ _ _ _ _ _ _ _ _ _ _ _ _ _ _ _ _ [some (.ref (eAd E r (t + 6))), some (.ref (eAd E r (t2 + 6)))] _
  have hX3 : ∀ w ∈ u_ws RX3 TX3 14, w ∈ wsX3_copyFrom := fun w h => List.mem_cons_of_mem _ (List.mem_append_right _ (h))
  refine dp_aload_n C dX3_copyFrom_0 rfl ?_
  refine dp_aload_n C dX3_copyFrom_1 rfl ?_
  refine dp_getf C (k := 0) (dp_mS ‹_› (dp_cT ‹t2 < 10›)) (dp_xtg ‹_› ‹t2 < 10›) rfl hX3 (by decide) (List.mem_of_getElem? (i := 1) rfl) rfl dX3_copyFrom_2 ?_
  try simp only [u2_ne (show t2 + 6 ≠ t + 6 by omega)]
  refine dp_putT C ‹_› ‹_› (k := 0) hX3 (by decide) (List.mem_of_getElem? (i := 1) rfl) rfl (tyX3_ok _ (by decide)) rfl rfl dX3_copyFrom_5 ?_
  refine dp_aload_n C dX3_copyFrom_8 rfl ?_
  refine dp_aload_n C dX3_copyFrom_9 rfl ?_
  refine dp_getf C (k := 1) (dp_mS ‹_› (dp_cT ‹t2 < 10›)) (dp_xtg ‹_› ‹t2 < 10›) rfl hX3 (by decide) (List.mem_of_getElem? (i := 2) rfl) rfl dX3_copyFrom_10 ?_
  try simp only [u2_ne (show t2 + 6 ≠ t + 6 by omega)]
  refine dp_putT C ‹_› ‹_› (k := 1) hX3 (by decide) (List.mem_of_getElem? (i := 2) rfl) rfl (tyX3_ok _ (by decide)) rfl rfl dX3_copyFrom_13 ?_
  refine dp_aload_n C dX3_copyFrom_16 rfl ?_
  refine dp_aload_n C dX3_copyFrom_17 rfl ?_
  refine dp_getf C (k := 2) (dp_mS ‹_› (dp_cT ‹t2 < 10›)) (dp_xtg ‹_› ‹t2 < 10›) rfl hX3 (by decide) (List.mem_of_getElem? (i := 3) rfl) rfl dX3_copyFrom_18 ?_
  try simp only [u2_ne (show t2 + 6 ≠ t + 6 by omega)]
  refine dp_putT C ‹_› ‹_› (k := 2) hX3 (by decide) (List.mem_of_getElem? (i := 3) rfl) rfl (tyX3_ok _ (by decide)) rfl rfl dX3_copyFrom_21 ?_
  refine dp_aload_n C dX3_copyFrom_24 rfl ?_
  refine dp_aload_n C dX3_copyFrom_25 rfl ?_
  refine dp_getf C (k := 3) (dp_mS ‹_› (dp_cT ‹t2 < 10›)) (dp_xtg ‹_› ‹t2 < 10›) rfl hX3 (by decide) (List.mem_of_getElem? (i := 4) rfl) rfl dX3_copyFrom_26 ?_
  try simp only [u2_ne (show t2 + 6 ≠ t + 6 by omega)]
  refine dp_putT C ‹_› ‹_› (k := 3) hX3 (by decide) (List.mem_of_getElem? (i := 4) rfl) rfl (tyX3_ok _ (by decide)) rfl rfl dX3_copyFrom_29 ?_
  refine dp_aload_n C dX3_copyFrom_32 rfl ?_
  refine dp_aload_n C dX3_copyFrom_33 rfl ?_
  refine dp_getf C (k := 4) (dp_mS ‹_› (dp_cT ‹t2 < 10›)) (dp_xtg ‹_› ‹t2 < 10›) rfl hX3 (by decide) (List.mem_of_getElem? (i := 5) rfl) rfl dX3_copyFrom_34 ?_
  try simp only [u2_ne (show t2 + 6 ≠ t + 6 by omega)]
  refine dp_putT C ‹_› ‹_› (k := 4) hX3 (by decide) (List.mem_of_getElem? (i := 5) rfl) rfl (tyX3_ok _ (by decide)) rfl rfl dX3_copyFrom_37 ?_
  refine dp_aload_n C dX3_copyFrom_40 rfl ?_
  refine dp_aload_n C dX3_copyFrom_41 rfl ?_
  refine dp_getf C (k := 5) (dp_mS ‹_› (dp_cT ‹t2 < 10›)) (dp_xtg ‹_› ‹t2 < 10›) rfl hX3 (by decide) (List.mem_of_getElem? (i := 6) rfl) rfl dX3_copyFrom_42 ?_
  try simp only [u2_ne (show t2 + 6 ≠ t + 6 by omega)]
  refine dp_putT C ‹_› ‹_› (k := 5) hX3 (by decide) (List.mem_of_getElem? (i := 6) rfl) rfl (tyX3_ok _ (by decide)) rfl rfl dX3_copyFrom_45 ?_
  refine dp_aload_n C dX3_copyFrom_48 rfl ?_
  refine dp_aload_n C dX3_copyFrom_49 rfl ?_
  refine dp_getf C (k := 6) (dp_mS ‹_› (dp_cT ‹t2 < 10›)) (dp_xtg ‹_› ‹t2 < 10›) rfl hX3 (by decide) (List.mem_of_getElem? (i := 7) rfl) rfl dX3_copyFrom_50 ?_
  try simp only [u2_ne (show t2 + 6 ≠ t + 6 by omega)]
  refine dp_putT C ‹_› ‹_› (k := 6) hX3 (by decide) (List.mem_of_getElem? (i := 7) rfl) rfl (tyX3_ok _ (by decide)) rfl rfl dX3_copyFrom_53 ?_
  refine dp_aload_n C dX3_copyFrom_56 rfl ?_
  refine dp_aload_n C dX3_copyFrom_57 rfl ?_
  refine dp_getf C (k := 7) (dp_mS ‹_› (dp_cT ‹t2 < 10›)) (dp_xtg ‹_› ‹t2 < 10›) rfl hX3 (by decide) (List.mem_of_getElem? (i := 8) rfl) rfl dX3_copyFrom_58 ?_
  try simp only [u2_ne (show t2 + 6 ≠ t + 6 by omega)]
  refine dp_putT C ‹_› ‹_› (k := 7) hX3 (by decide) (List.mem_of_getElem? (i := 8) rfl) rfl (tyX3_ok _ (by decide)) rfl rfl dX3_copyFrom_61 ?_
  refine dp_aload_n C dX3_copyFrom_64 rfl ?_
  refine dp_aload_n C dX3_copyFrom_65 rfl ?_
  refine dp_getf C (k := 8) (dp_mS ‹_› (dp_cT ‹t2 < 10›)) (dp_xtg ‹_› ‹t2 < 10›) rfl hX3 (by decide) (List.mem_of_getElem? (i := 9) rfl) rfl dX3_copyFrom_66 ?_
  try simp only [u2_ne (show t2 + 6 ≠ t + 6 by omega)]
  refine dp_putT C ‹_› ‹_› (k := 8) hX3 (by decide) (List.mem_of_getElem? (i := 9) rfl) rfl (tyX3_ok _ (by decide)) rfl rfl dX3_copyFrom_69 ?_
  refine dp_aload_n C dX3_copyFrom_72 rfl ?_
  refine dp_aload_n C dX3_copyFrom_73 rfl ?_
  refine dp_getf C (k := 9) (dp_mS ‹_› (dp_cT ‹t2 < 10›)) (dp_xtg ‹_› ‹t2 < 10›) rfl hX3 (by decide) (List.mem_of_getElem? (i := 10) rfl) rfl dX3_copyFrom_74 ?_
  try simp only [u2_ne (show t2 + 6 ≠ t + 6 by omega)]
  refine dp_putT C ‹_› ‹_› (k := 9) hX3 (by decide) (List.mem_of_getElem? (i := 10) rfl) rfl (tyX3_ok _ (by decide)) rfl rfl dX3_copyFrom_77 ?_
  refine dp_aload_n C dX3_copyFrom_80 rfl ?_
  refine dp_aload_n C dX3_copyFrom_81 rfl ?_
  refine dp_getf C (k := 10) (dp_mS ‹_› (dp_cT ‹t2 < 10›)) (dp_xtg ‹_› ‹t2 < 10›) rfl hX3 (by decide) (List.mem_of_getElem? (i := 11) rfl) rfl dX3_copyFrom_82 ?_
  try simp only [u2_ne (show t2 + 6 ≠ t + 6 by omega)]
  refine dp_putT C ‹_› ‹_› (k := 10) hX3 (by decide) (List.mem_of_getElem? (i := 11) rfl) rfl (tyX3_ok _ (by decide)) rfl rfl dX3_copyFrom_85 ?_
  refine dp_aload_n C dX3_copyFrom_88 rfl ?_
  refine dp_aload_n C dX3_copyFrom_89 rfl ?_
  refine dp_getf C (k := 11) (dp_mS ‹_› (dp_cT ‹t2 < 10›)) (dp_xtg ‹_› ‹t2 < 10›) rfl hX3 (by decide) (List.mem_of_getElem? (i := 12) rfl) rfl dX3_copyFrom_90 ?_
  try simp only [u2_ne (show t2 + 6 ≠ t + 6 by omega)]
  refine dp_putT C ‹_› ‹_› (k := 11) hX3 (by decide) (List.mem_of_getElem? (i := 12) rfl) rfl (tyX3_ok _ (by decide)) rfl rfl dX3_copyFrom_93 ?_
  refine dp_aload_n C dX3_copyFrom_96 rfl ?_
  refine dp_aload_n C dX3_copyFrom_97 rfl ?_
  refine dp_getf C (k := 12) (dp_mS ‹_› (dp_cT ‹t2 < 10›)) (dp_xtg ‹_› ‹t2 < 10›) rfl hX3 (by decide) (List.mem_of_getElem? (i := 13) rfl) rfl dX3_copyFrom_98 ?_
  try simp only [u2_ne (show t2 + 6 ≠ t + 6 by omega)]
  refine dp_putT C ‹_› ‹_› (k := 12) hX3 (by decide) (List.mem_of_getElem? (i := 13) rfl) rfl (tyX3_ok _ (by decide)) rfl rfl dX3_copyFrom_101 ?_
  refine dp_aload_n C dX3_copyFrom_104 rfl ?_
  refine dp_aload_n C dX3_copyFrom_105 rfl ?_
  refine dp_getf C (k := 13) (dp_mS ‹_› (dp_cT ‹t2 < 10›)) (dp_xtg ‹_› ‹t2 < 10›) rfl hX3 (by decide) (List.mem_of_getElem? (i := 14) rfl) rfl dX3_copyFrom_106 ?_
  try simp only [u2_ne (show t2 + 6 ≠ t + 6 by omega)]
  refine dp_putT C ‹_› ‹_› (k := 13) hX3 (by decide) (List.mem_of_getElem? (i := 14) rfl) rfl (tyX3_ok _ (by decide)) (by rcases hz with h | h <;> rw [h] <;> rfl) (by rcases hz with h | h <;> rw [h] <;> rfl) dX3_copyFrom_109 ?_
  refine dp_cv (M' := dS M r (uc V (t + 6) (V (t2 + 6))) Y) ?_ ?_
  · simp only [u2_uc, uc_uc, uc_same]
    exact dp_cvT ‹_› ‹_› (fun k9 hk => by unfold u1; rcases (by omega : k9 = 0 ∨ k9 = 1 ∨ k9 = 2 ∨ k9 = 3 ∨ k9 = 4 ∨ k9 = 5 ∨ k9 = 6 ∨ k9 = 7 ∨ k9 = 8 ∨ k9 = 9 ∨ k9 = 10 ∨ k9 = 11 ∨ k9 = 12 ∨ k9 = 13) with rfl | rfl | rfl | rfl | rfl | rfl | rfl | rfl | rfl | rfl | rfl | rfl | rfl | rfl <;> rfl)
  refine dp_vret C hret dX3_copyFrom_112 ?_
  rfl
def rmG : Nat → Nat → dp_V → dp_V
  | _, 0, V => V
  | k, n + 1, V => rmG (k + 1) n (uc V (k + 6) (V (k + 1 + 6)))
/-- the target t removed, the later ones moved down -/
def rmV (V : dp_V) (t : Nat) : dp_V := u2 (rmG t (9 - t) V) 15 6 4
theorem rmG_13 : ∀ {n k : Nat} {V : dp_V}, (∀ t, t < 10 → V (t + 6) 13 = 0 ∨ V (t + 6) 13 = 1) → k + n ≤ 9 → ∀ t, t < 10 → rmG k n V (t + 6) 13 = 0 ∨ rmG k n V (t + 6) 13 = 1 := by
  intro n
  induction n with
  | zero => intro k V h _; exact h
  | succ n ih =>
    intro k V h hk
    unfold rmG
    refine ih (fun t ht => ?_) (by omega)
    by_cases e : t = k
    · subst e
      rw [uc_same]
      exact h (t + 1) (by omega)
    · rw [uc_ne (by omega)]
      exact h t ht
theorem rmG_iv : ∀ {n k : Nat} {V : dp_V}, ivC V → k + n ≤ 9 → ivC (rmG k n V) := by
  intro n
  induction n with
  | zero => intro k V h _; exact h
  | succ n ih =>
    intro k V h hk
    unfold rmG
    refine ih (ivC_mk (ivS_of h.1 (by rw [uc_ne (by omega)]) (uc_ne (by omega)) (uc_ne (by omega)) (uc_ne (by omega)) (uc_ne (by omega))) (fun t ht => ?_)) (by omega)
    by_cases e : t = k
    · subst e
      rw [uc_same]
      exact ⟨h.2.1 (t + 1) (by omega), h.2.2 (t + 1) (by omega)⟩
    · rw [uc_ne (by omega)]
      exact ⟨h.2.1 t ht, h.2.2 t ht⟩
theorem rmV_iv {V : dp_V} {t : Nat} (h : ivC V) (ht : t < 10) : ivC (rmV V t) := by
  have a := rmG_iv (n := 9 - t) (k := t) h (by omega)
  unfold rmV
  refine ivC_uT (t := 9) a (Or.inl (u1_same _ _ _)) ?_
  rw [u1_ne (by decide)]
  exact a.2.2 9 (by omega)
theorem yyX2_remove : yX2_remove.cls = RX2 ∧ yX2_remove.cls ≠ "java/lang/invoke/MethodHandle" ∧ yX2_remove.cls ≠ "java/lang/invoke/VarHandle" ∧ (parseMethodDescriptor yX2_remove.desc).map (fun d => d.parameters.length) = some 1 := by decide +kernel
set_option maxHeartbeats 4000000 in
set_option maxRecDepth 100000 in
theorem c_X2_remove {E : dp_E} (hE : dp_OK E) (l : Launch) {M : dp_M} {r : Nat} {V Y : dp_V} (hr : r < 7) {x : Int} {t0 : Nat} (hx : x = t0) (ht0 : t0 < 10) (hv : ivC V) : dp_met E l yX2_remove wsX2_remove 1 21 [.ref (eAd E r 0), .int (dp_I x)] (dS M r V Y) (dp_qv E (fun M1 => M1 = dS M r (rmV V t0) Y)) := by
  refine dp_of (cc := cX2_remove) (nL := 3) (own := RX2) (ret := none) (by decide +kernel) rfl rfl hE (by simp [Value.category]) (Nat.le_of_ble_eq_true rfl) ?_
  intro p e s m below meth co C hret
  show dp_G _ _ _ _ _ _ _ _ _ _ _ _ _ _ _ _ _ [some (.ref (eAd E r 0)), some (.int (dp_I x)), none] _
  have hX2 : ∀ w ∈ u_ws RX2 TX2 11, w ∈ wsX2_remove := fun w h => List.mem_cons_of_mem _ (List.mem_append_left _ (List.mem_append_right _ (h)))
  have hX3 : ∀ w ∈ u_ws RX3 TX3 14, w ∈ wsX2_remove := fun w h => List.mem_cons_of_mem _ (List.mem_append_right _ (h))
  have J6 : ∀ (n k : Nat) (V' : dp_V) (ki : Int), k + n = 9 → ki = k → (∀ t, t < 10 → V' (t + 6) 13 = 0 ∨ V' (t + 6) 13 = 1) → rmG k n V' = rmG t0 (9 - t0) V → dp_G E (dp_A E) p l e (dp_rm 1 21) s m [.ref (eAd E r 0), .int (dp_I x)].toArray below meth co 0 0 (MQ below (dp_qv E (fun M1 => M1 = dS M r (rmV V t0) Y)) [.ref (eAd E r 0), .int (dp_I x)].toArray s 0 0 (dp_A E)) (dS M r V' Y) 6 [some (.ref (eAd E r 0)), some (.int (dp_I x)), some (.int (dp_I ki))] [] := by
    refine dp_ind (fun n ih => ?_)
    intro k V' ki hkn hki hz hf
    refine dp_iload_n C dX2_remove_6 rfl ?_
    refine dp_aload_n C dX2_remove_7 rfl ?_
    refine dp_getf C (k := 7) (dp_mS ‹_› (by decide)) (dp_xst ‹_›) rfl hX2 (by decide) (List.mem_of_getElem? (i := 5) rfl) rfl dX2_remove_8 ?_
    refine dp_alen C (t0 := 2) (dp_mS ‹_› (by decide)) 10 (dp_xta ‹_›) rfl rfl dX2_remove_11 ?_
    refine dp_iconst C dX2_remove_12 ?_
    refine dp_isub C dX2_remove_13 ?_
    refine dp_icmp_ge (tgt := 40) C dX2_remove_14 (by decide) ⟨by omega, by omega⟩ ⟨by omega, by omega⟩ (fun c14 => ?_) (fun c14 => ?_)
    · skip
      obtain rfl : n = 0 := by omega
      refine dp_aload_n C dX2_remove_40 rfl ?_
      refine dp_getf C (k := 7) (dp_mS ‹_› (by decide)) (dp_xst ‹_›) rfl hX2 (by decide) (List.mem_of_getElem? (i := 5) rfl) rfl dX2_remove_41 ?_
      refine dp_aload_n C dX2_remove_44 rfl ?_
      refine dp_getf C (k := 7) (dp_mS ‹_› (by decide)) (dp_xst ‹_›) rfl hX2 (by decide) (List.mem_of_getElem? (i := 5) rfl) rfl dX2_remove_45 ?_
      refine dp_alen C (t0 := 2) (dp_mS ‹_› (by decide)) 10 (dp_xta ‹_›) rfl rfl dX2_remove_48 ?_
      refine dp_iconst C dX2_remove_49 ?_
      refine dp_isub C dX2_remove_50 ?_
      refine dp_aald_t C ‹_› ⟨by omega, by omega⟩ (show ((10 : Int) - 1).toNat = 9 from rfl) dX2_remove_51 ?_
      refine dp_iconst C dX2_remove_52 ?_
      refine dp_putT C ‹_› (show 9 < 10 by decide) (k := 6) hX3 (by decide) (List.mem_of_getElem? (i := 6) rfl) rfl (tyX3_ok _ (by decide)) rfl rfl dX2_remove_53 ?_
      refine dp_vret C hret dX2_remove_56 ?_
      rw [show V' = rmG t0 (9 - t0) V from hf]
      rfl
    · skip
      obtain ⟨n, rfl⟩ : ∃ n', n = n' + 1 := ⟨n - 1, by omega⟩
      rw [show rmG k (n + 1) V' = rmG (k + 1) n (uc V' (k + 6) (V' (k + 1 + 6))) from rfl] at hf
      have ht : k < 10 := by omega
      have ht1 : k + 1 < 10 := by omega
      refine dp_aload_n C dX2_remove_17 rfl ?_
      refine dp_getf C (k := 7) (dp_mS ‹_› (by decide)) (dp_xst ‹_›) rfl hX2 (by decide) (List.mem_of_getElem? (i := 5) rfl) rfl dX2_remove_18 ?_
      refine dp_iload_n C dX2_remove_21 rfl ?_
      refine dp_aald_t C ‹_› ⟨by omega, by omega⟩ (show ki.toNat = k by omega) dX2_remove_22 ?_
      refine dp_aload_n C dX2_remove_23 rfl ?_
      refine dp_getf C (k := 7) (dp_mS ‹_› (by decide)) (dp_xst ‹_›) rfl hX2 (by decide) (List.mem_of_getElem? (i := 5) rfl) rfl dX2_remove_24 ?_
      refine dp_iload_n C dX2_remove_27 rfl ?_
      refine dp_iconst C dX2_remove_28 ?_
      refine dp_iadd C dX2_remove_29 ?_
      refine dp_aald_t C ‹_› ⟨by omega, by omega⟩ (show (ki + 1).toNat = k + 1 by omega) dX2_remove_30 ?_
      refine dp_cVv C (c_X3_copyFromS C.2.2.1 l ‹_› (by omega) ‹k < 10› ‹k + 1 < 10› (hz (k + 1) ht1)) gX2_remove_X3_copyFrom rfl (dp_mS ‹_› (dp_cT ht)) (dp_xtg ‹_› ht) rfl yyX3_copyFrom rfl ⟨Nat.le_of_ble_eq_true rfl, Nat.le_of_ble_eq_true rfl⟩ rfl (Nat.le_of_ble_eq_true rfl) rfl ⟨Nat.zero_le _, Nat.zero_le _⟩ dX2_remove_31 (fun M31 h31 => ?_)
      obtain rfl := h31
      refine dp_iinc C dX2_remove_34 rfl ?_
      dsimp only [List.set]
      refine dp_goto (tgt := 6) C dX2_remove_37 (by decide) ?_
      exact ih n (by omega) (k + 1) _ _ (by omega) (by omega) (rmG_13 (n := 1) (k := k) hz (by omega)) hf
  refine dp_iload_n C dX2_remove_0 rfl ?_
  refine dp_iconst C dX2_remove_1 ?_
  refine dp_mmax C ⟨by omega, by omega⟩ ⟨by omega, by omega⟩ (List.mem_of_getElem? (i := 1) rfl) (List.mem_of_getElem? (i := 2) rfl) (List.mem_of_getElem? (i := 3) rfl) (List.mem_of_getElem? (i := 4) rfl) (Nat.le_of_ble_eq_true rfl) (Nat.le_of_ble_eq_true rfl) (Nat.le_of_ble_eq_true rfl) rfl ⟨Nat.zero_le _, Nat.zero_le _⟩ dX2_remove_2 ?_
  refine dp_istore_n C dX2_remove_5 (Nat.le_of_ble_eq_true rfl) ?_
  dsimp only [List.set]
  exact J6 (9 - t0) t0 _ _ (by omega) (by split <;> omega) hv.2.2 rfl
theorem yyX2_letPass : yX2_letPass.cls = RX2 ∧ yX2_letPass.cls ≠ "java/lang/invoke/MethodHandle" ∧ yX2_letPass.cls ≠ "java/lang/invoke/VarHandle" ∧ (parseMethodDescriptor yX2_letPass.desc).map (fun d => d.parameters.length) = some 1 := by decide +kernel
set_option maxHeartbeats 4000000 in
set_option maxRecDepth 100000 in
theorem c_X2_letPass {E : dp_E} (hE : dp_OK E) (l : Launch) {M : dp_M} {r : Nat} {V Y : dp_V} (hr : r < 7) {kk : Nat} (hv : ivC V) (hk : kk ≤ 2000) (hk2 : V 0 0 + kk ≤ 43200) : dp_met E l yX2_letPass wsX2_letPass 6 128 [.ref (eAd E r 0), .int (dp_I (kk : Int))] (dS M r V Y) (dp_qv E (fun M1 => ∃ Y', M1 = dS M r (lpV V kk) Y')) := by
  refine dp_of (cc := cX2_letPass) (nL := 7) (own := RX2) (ret := none) (by decide +kernel) rfl rfl hE (by simp [Value.category]) (Nat.le_of_ble_eq_true rfl) ?_
  intro p e s m below meth co C hret
  show dp_G _ _ _ _ _ _ _ _ _ _ _ _ _ _ _ _ _ [some (.ref (eAd E r 0)), some (.int (dp_I (kk : Int))), none, none, none, none, none] _
  have hX2 : ∀ w ∈ u_ws RX2 TX2 11, w ∈ wsX2_letPass := fun w h => List.mem_cons_of_mem _ (List.mem_append_left _ (List.mem_append_left _ (List.mem_append_left _ (List.mem_append_right _ (h)))))
  have h0 := hv.1.1
  have J60 : ∀ (n : Nat) (V' V2 Y' : dp_V) (mi wk : Int) (o : Option Value), (∀ j9, j9 < n + 1 → ∀ (V' Y' : dp_V) (mi wk : Int) (o : Option Value), mi + (j9 : Nat) = V 0 0 + kk + 1 → V 0 0 ≤ mi → 0 ≤ wk ∧ wk ≤ 50000 → ivC V' → lpG (V 0 0) j9 mi V' wk = lpG (V 0 0) (kk + 1) (V 0 0) V (V 0 0) → dp_G E (dp_A E) p l e (dp_rm 6 128) s m [.ref (eAd E r 0), .int (dp_I (kk : Int))].toArray below meth co 0 0 (MQ below (dp_qv E (fun M1 => ∃ Y', M1 = dS M r (lpV V kk) Y')) [.ref (eAd E r 0), .int (dp_I (kk : Int))].toArray s 0 0 (dp_A E)) (dS M r V' Y') 15 [some (.ref (eAd E r 0)), some (.int (dp_I (kk : Int))), some (.int (dp_I (V 0 0))), some (.int (dp_I (V 0 0 + kk))), some (.int (dp_I wk)), some (.int (dp_I mi)), o] []) → mi + (n + 1 : Nat) = V 0 0 + kk + 1 → V 0 0 ≤ mi → ivC V' → V2 = m2V (V 0 0) mi V' → lpG (V 0 0) n (mi + 1) (mnV (V 0 0) mi V') (neF (mnV (V 0 0) mi V')) = lpG (V 0 0) (kk + 1) (V 0 0) V (V 0 0) → dp_G E (dp_A E) p l e (dp_rm 6 128) s m [.ref (eAd E r 0), .int (dp_I (kk : Int))].toArray below meth co 0 0 (MQ below (dp_qv E (fun M1 => ∃ Y', M1 = dS M r (lpV V kk) Y')) [.ref (eAd E r 0), .int (dp_I (kk : Int))].toArray s 0 0 (dp_A E)) (dS M r V2 Y') 60 [some (.ref (eAd E r 0)), some (.int (dp_I (kk : Int))), some (.int (dp_I (V 0 0))), some (.int (dp_I (V 0 0 + kk))), some (.int (dp_I wk)), some (.int (dp_I mi)), o] [] := by
    intro n V' V2 Y' mi wk o ih hmn hmi hv' hV2 hf
    have h0 := hv.1.1
    obtain ⟨i2, e2⟩ := m2V_iv (first := V 0 0) hv' (show 0 ≤ mi ∧ mi ≤ 43200 by omega)
    rw [← hV2] at i2
    obtain ⟨iE, eE⟩ := enV_iv i2
    have hb := @bsF_sp (enV V2)
    have hN : ivC (m4V V2) := (m4V_iv i2).1
    have eN : mnV (V 0 0) mi V' = m4V V2 := by
      rw [hV2]
      rfl
    rw [eN] at hf
    refine dp_aload_n C dX2_letPass_60 rfl ?_
    refine dp_cVv C (c_X2_endWhatIsOver C.2.2.1 l ‹_› i2) gX2_letPass_X2_endWhatIsOver rfl (dp_mS ‹_› (by decide)) (dp_xst ‹_›) rfl yyX2_endWhatIsOver rfl ⟨Nat.le_of_ble_eq_true rfl, Nat.le_of_ble_eq_true rfl⟩ rfl (Nat.le_of_ble_eq_true rfl) rfl ⟨Nat.zero_le _, Nat.zero_le _⟩ dX2_letPass_61 (fun M61 h61 => ?_)
    obtain rfl := h61
    refine dp_aload_n C dX2_letPass_64 rfl ?_
    refine dp_cVi C (c_X2_bestToBegin C.2.2.1 l ‹_› iE) gX2_letPass_X2_bestToBegin rfl (dp_mS ‹_› (by decide)) (dp_xst ‹_›) rfl yyX2_bestToBegin rfl ⟨Nat.le_of_ble_eq_true rfl, Nat.le_of_ble_eq_true rfl⟩ rfl (Nat.le_of_ble_eq_true rfl) rfl ⟨Nat.zero_le _, Nat.zero_le _⟩ dX2_letPass_65 (fun x65 M65 h65 => ?_)
    obtain ⟨rfl, Y3, rfl⟩ := h65
    refine dp_istore C dX2_letPass_68 (Nat.le_of_ble_eq_true rfl) ?_
    dsimp only [List.set]
    refine dp_iload C dX2_letPass_70 rfl ?_
    refine dp_iconst C dX2_letPass_72 ?_
    refine dp_icmp_eq (tgt := 87) C dX2_letPass_73 (by decide) ⟨by omega, by omega⟩ ⟨by omega, by omega⟩ (fun c73 => ?_) (fun c73 => ?_)
    · skip
      have e4 : m4V V2 = enV V2 := by
        unfold m4V
        rw [if_pos c73]
      rw [← e4]
      refine dp_aload_n C dX2_letPass_87 rfl ?_
      refine dp_cVi C (c_X2_nextEvent C.2.2.1 l ‹_› hN) gX2_letPass_X2_nextEvent rfl (dp_mS ‹_› (by decide)) (dp_xst ‹_›) rfl yyX2_nextEvent rfl ⟨Nat.le_of_ble_eq_true rfl, Nat.le_of_ble_eq_true rfl⟩ rfl (Nat.le_of_ble_eq_true rfl) rfl ⟨Nat.zero_le _, Nat.zero_le _⟩ dX2_letPass_88 (fun x88 M88 h88 => ?_)
      obtain ⟨rfl, rfl⟩ := h88
      refine dp_istore C dX2_letPass_91 (Nat.le_of_ble_eq_true rfl) ?_
      dsimp only [List.set]
      refine dp_iinc C dX2_letPass_93 rfl ?_
      dsimp only [List.set]
      refine dp_goto (tgt := 15) C dX2_letPass_96 (by decide) ?_
      exact ih n (by omega) _ _ _ _ _ (by omega) (by omega) (neF_bd hN.1.1) hN hf
    · skip
      obtain ⟨hb0, hb1, hb2⟩ := hb.resolve_left c73
      have ht : (bsF (enV V2)).toNat < 10 := by omega
      refine dp_aload_n C dX2_letPass_76 rfl ?_
      refine dp_aload_n C dX2_letPass_77 rfl ?_
      refine dp_getf C (k := 7) (dp_mS ‹_› (by decide)) (dp_xst ‹_›) rfl hX2 (by decide) (List.mem_of_getElem? (i := 2) rfl) rfl dX2_letPass_78 ?_
      refine dp_iload C dX2_letPass_81 rfl ?_
      refine dp_aald_t C ‹_› ⟨by omega, by omega⟩ rfl dX2_letPass_83 ?_
      refine dp_cVv C (c_X2_begin C.2.2.1 l ‹_› ht iE hb2) gX2_letPass_X2_begin rfl (dp_mS ‹_› (by decide)) (dp_xst ‹_›) rfl yyX2_begin rfl ⟨Nat.le_of_ble_eq_true rfl, Nat.le_of_ble_eq_true rfl⟩ rfl (Nat.le_of_ble_eq_true rfl) rfl ⟨Nat.zero_le _, Nat.zero_le _⟩ dX2_letPass_84 (fun M84 h84 => ?_)
      obtain ⟨Y9, rfl⟩ := h84
      have e4 : m4V V2 = beV (enV V2) (bsF (enV V2)).toNat := by
        unfold m4V
        rw [if_neg c73]
      rw [← e4]
      refine dp_aload_n C dX2_letPass_87 rfl ?_
      refine dp_cVi C (c_X2_nextEvent C.2.2.1 l ‹_› hN) gX2_letPass_X2_nextEvent rfl (dp_mS ‹_› (by decide)) (dp_xst ‹_›) rfl yyX2_nextEvent rfl ⟨Nat.le_of_ble_eq_true rfl, Nat.le_of_ble_eq_true rfl⟩ rfl (Nat.le_of_ble_eq_true rfl) rfl ⟨Nat.zero_le _, Nat.zero_le _⟩ dX2_letPass_88 (fun x88 M88 h88 => ?_)
      obtain ⟨rfl, rfl⟩ := h88
      refine dp_istore C dX2_letPass_91 (Nat.le_of_ble_eq_true rfl) ?_
      dsimp only [List.set]
      refine dp_iinc C dX2_letPass_93 rfl ?_
      dsimp only [List.set]
      refine dp_goto (tgt := 15) C dX2_letPass_96 (by decide) ?_
      exact ih n (by omega) _ _ _ _ _ (by omega) (by omega) (neF_bd hN.1.1) hN hf
  have J15 : ∀ (n : Nat) (V' Y' : dp_V) (mi wk : Int) (o : Option Value), mi + n = V 0 0 + kk + 1 → V 0 0 ≤ mi → 0 ≤ wk ∧ wk ≤ 50000 → ivC V' → lpG (V 0 0) n mi V' wk = lpG (V 0 0) (kk + 1) (V 0 0) V (V 0 0) → dp_G E (dp_A E) p l e (dp_rm 6 128) s m [.ref (eAd E r 0), .int (dp_I (kk : Int))].toArray below meth co 0 0 (MQ below (dp_qv E (fun M1 => ∃ Y', M1 = dS M r (lpV V kk) Y')) [.ref (eAd E r 0), .int (dp_I (kk : Int))].toArray s 0 0 (dp_A E)) (dS M r V' Y') 15 [some (.ref (eAd E r 0)), some (.int (dp_I (kk : Int))), some (.int (dp_I (V 0 0))), some (.int (dp_I (V 0 0 + kk))), some (.int (dp_I wk)), some (.int (dp_I mi)), o] [] := by
    refine dp_ind (fun n ih => ?_)
    intro V' Y' mi wk o hmn hmi hwk hv' hf
    refine dp_iload C dX2_letPass_15 rfl ?_
    refine dp_iload_n C dX2_letPass_17 rfl ?_
    refine dp_icmp_gt (tgt := 99) C dX2_letPass_18 (by decide) ⟨by omega, by omega⟩ ⟨by omega, by omega⟩ (fun c18 => ?_) (fun c18 => ?_)
    · skip
      obtain rfl : n = 0 := by omega
      refine dp_aload_n C dX2_letPass_99 rfl ?_
      refine dp_iload_n C dX2_letPass_100 rfl ?_
      refine dp_putS C ‹_› (k := 0) hX2 (by decide) (List.mem_of_getElem? (i := 1) rfl) rfl (tyX2_ok _ (by decide)) rfl rfl dX2_letPass_101 ?_
      refine dp_vret C hret dX2_letPass_104 ?_
      exact ⟨Y', by rw [show V' = lpG (V 0 0) (kk + 1) (V 0 0) V (V 0 0) from hf]; rfl⟩
    · skip
      obtain ⟨n, rfl⟩ : ∃ n', n = n' + 1 := ⟨n - 1, by omega⟩
      rw [show lpG (V 0 0) (n + 1) mi V' wk = (if mi < wk then lpG (V 0 0) n (mi + 1) V' wk else lpG (V 0 0) n (mi + 1) (mnV (V 0 0) mi V') (neF (mnV (V 0 0) mi V'))) from rfl] at hf
      refine dp_iload C dX2_letPass_21 rfl ?_
      refine dp_iload C dX2_letPass_23 rfl ?_
      refine dp_icmp_lt (tgt := 93) C dX2_letPass_25 (by decide) ⟨by omega, by omega⟩ ⟨by omega, by omega⟩ (fun c25 => ?_) (fun c25 => ?_)
      · skip
        rw [if_pos c25] at hf
        refine dp_iinc C dX2_letPass_93 rfl ?_
        dsimp only [List.set]
        refine dp_goto (tgt := 15) C dX2_letPass_96 (by decide) ?_
        first | exact ih n (by omega) _ _ _ _ _ (by omega) (by omega) hwk hv' hf | exact ih n (by omega) _ _ _ _ _ (by omega) (by omega) (neF_bd hN.1.1) hN hf
      · skip
        rw [if_neg c25] at hf
        have i1 := ivC_00 hv' (show 0 ≤ mi ∧ mi ≤ 43200 by omega)
        have k1 := @kdF_bd (u2 V' 0 0 mi)
        refine dp_aload_n C dX2_letPass_28 rfl ?_
        refine dp_iload C dX2_letPass_29 rfl ?_
        refine dp_putS C ‹_› (k := 0) hX2 (by decide) (List.mem_of_getElem? (i := 1) rfl) rfl (tyX2_ok _ (by decide)) rfl rfl dX2_letPass_31 ?_
        refine dp_iload C dX2_letPass_34 rfl ?_
        refine dp_iload_n C dX2_letPass_36 rfl ?_
        refine dp_icmp_le (tgt := 60) C dX2_letPass_37 (by decide) ⟨by omega, by omega⟩ ⟨by omega, by omega⟩ (fun c37 => ?_) (fun c37 => ?_)
        · skip
          exact J60 n V' _ _ _ _ _ ih (by omega) (by omega) hv' (by unfold m2V; first | (rw [if_neg (by assumption)]; done) | (rw [if_pos (by assumption), if_neg (by assumption)]; done) | (rw [if_pos (by assumption), if_pos (by assumption), if_neg (by assumption)]; done) | (rw [if_pos (by assumption), if_pos (by assumption), if_pos (by assumption)])) hf
        · skip
          refine dp_iload C dX2_letPass_40 rfl ?_
          refine dp_sipush C dX2_letPass_42 (by decide) ?_
          refine dp_irem C ⟨by omega, by omega, by omega, by omega⟩ dX2_letPass_45 ?_
          refine dp_if_ne (tgt := 60) C dX2_letPass_46 (by decide) ⟨by omega, by omega⟩ (fun c46 => ?_) (fun c46 => ?_)
          · skip
            exact J60 n V' _ _ _ _ _ ih (by omega) (by omega) hv' (by unfold m2V; first | (rw [if_neg (by assumption)]; done) | (rw [if_pos (by assumption), if_neg (by assumption)]; done) | (rw [if_pos (by assumption), if_pos (by assumption), if_neg (by assumption)]; done) | (rw [if_pos (by assumption), if_pos (by assumption), if_pos (by assumption)])) hf
          · skip
            refine dp_aload_n C dX2_letPass_49 rfl ?_
            refine dp_cVi C (c_X2_kindOfDay C.2.2.1 l ‹_› i1.1) gX2_letPass_X2_kindOfDay rfl (dp_mS ‹_› (by decide)) (dp_xst ‹_›) rfl yyX2_kindOfDay rfl ⟨Nat.le_of_ble_eq_true rfl, Nat.le_of_ble_eq_true rfl⟩ rfl (Nat.le_of_ble_eq_true rfl) rfl ⟨Nat.zero_le _, Nat.zero_le _⟩ dX2_letPass_50 (fun x50 M50 h50 => ?_)
            obtain ⟨rfl, rfl⟩ := h50
            refine dp_if_ne (tgt := 60) C dX2_letPass_53 (by decide) ⟨by omega, by omega⟩ (fun c53 => ?_) (fun c53 => ?_)
            · skip
              exact J60 n V' _ _ _ _ _ ih (by omega) (by omega) hv' (by unfold m2V; first | (rw [if_neg (by assumption)]; done) | (rw [if_pos (by assumption), if_neg (by assumption)]; done) | (rw [if_pos (by assumption), if_pos (by assumption), if_neg (by assumption)]; done) | (rw [if_pos (by assumption), if_pos (by assumption), if_pos (by assumption)])) hf
            · skip
              refine dp_aload_n C dX2_letPass_56 rfl ?_
              refine dp_cVv C (c_X2_beginHold C.2.2.1 l ‹_› i1) gX2_letPass_X2_beginHold rfl (dp_mS ‹_› (by decide)) (dp_xst ‹_›) rfl yyX2_beginHold rfl ⟨Nat.le_of_ble_eq_true rfl, Nat.le_of_ble_eq_true rfl⟩ rfl (Nat.le_of_ble_eq_true rfl) rfl ⟨Nat.zero_le _, Nat.zero_le _⟩ dX2_letPass_57 (fun M57 h57 => ?_)
              obtain rfl := h57
              exact J60 n V' _ _ _ _ _ ih (by omega) (by omega) hv' (by unfold m2V; first | (rw [if_neg (by assumption)]; done) | (rw [if_pos (by assumption), if_neg (by assumption)]; done) | (rw [if_pos (by assumption), if_pos (by assumption), if_neg (by assumption)]; done) | (rw [if_pos (by assumption), if_pos (by assumption), if_pos (by assumption)])) hf
  refine dp_aload_n C dX2_letPass_0 rfl ?_
  refine dp_getf C (k := 0) (dp_mS ‹_› (by decide)) (dp_xst ‹_›) rfl hX2 (by decide) (List.mem_of_getElem? (i := 1) rfl) rfl dX2_letPass_1 ?_
  refine dp_istore_n C dX2_letPass_4 (Nat.le_of_ble_eq_true rfl) ?_
  dsimp only [List.set]
  refine dp_iload_n C dX2_letPass_5 rfl ?_
  refine dp_iload_n C dX2_letPass_6 rfl ?_
  refine dp_iadd C dX2_letPass_7 ?_
  refine dp_istore_n C dX2_letPass_8 (Nat.le_of_ble_eq_true rfl) ?_
  dsimp only [List.set]
  refine dp_iload_n C dX2_letPass_9 rfl ?_
  refine dp_istore C dX2_letPass_10 (Nat.le_of_ble_eq_true rfl) ?_
  dsimp only [List.set]
  refine dp_iload_n C dX2_letPass_12 rfl ?_
  refine dp_istore C dX2_letPass_13 (Nat.le_of_ble_eq_true rfl) ?_
  dsimp only [List.set]
  exact J15 (kk + 1) _ _ _ _ _ (by omega) (by omega) (by omega) hv rfl
