theorem yyX2_hasTarget : yX2_hasTarget.cls = RX2 ∧ yX2_hasTarget.cls ≠ "java/lang/invoke/MethodHandle" ∧ yX2_hasTarget.cls ≠ "java/lang/invoke/VarHandle" ∧ (parseMethodDescriptor yX2_hasTarget.desc).map (fun d => d.parameters.length) = some 1 := by decide +kernel
set_option maxHeartbeats 4000000 in
set_option maxRecDepth 100000 in
theorem c_X2_hasTarget {E : dp_E} (hE : dp_OK E) (l : Launch) {M : dp_M} {r : Nat} {V Y : dp_V} (hr : r < 7) {x : Int} (hx : dp_R x) (hv : ivC V) : dp_met E l yX2_hasTarget wsX2_hasTarget 0 0 [.ref (eAd E r 0), .int (dp_I x)] (dS M r V Y) (dp_qi E (fun y M1 => y = dp_b ((0 ≤ x ∧ x < 10) ∧ ¬ V (x.toNat + 6) 6 = 4) ∧ M1 = dS M r V Y)) := by
  refine dp_of (cc := cX2_hasTarget) (nL := 2) (own := RX2) (ret := some (.boolean)) (by decide +kernel) rfl rfl hE (by simp [Value.category]) (Nat.le_of_ble_eq_true rfl) ?_
  intro p e s m below meth co C hret
  show dp_G _ _ _ _ _ _ _ _ _ _ _ _ _ _ _ _ _ [some (.ref (eAd E r 0)), some (.int (dp_I x))] _
  have hX2 : ∀ w ∈ u_ws RX2 TX2 11, w ∈ wsX2_hasTarget := fun w h => List.mem_cons_of_mem _ (List.mem_append_left _ (List.mem_append_right _ (h)))
  have hX3 : ∀ w ∈ u_ws RX3 TX3 14, w ∈ wsX2_hasTarget := fun w h => List.mem_cons_of_mem _ (List.mem_append_right _ (h))
  unfold dp_R at hx
  refine dp_iload_n C dX2_hasTarget_0 rfl ?_
  refine dp_if_lt (tgt := 30) C dX2_hasTarget_1 (by decide) ⟨by omega, by omega⟩ (fun c1 => ?_) (fun c1 => ?_)
  · skip
    refine dp_iconst C dX2_hasTarget_30 ?_
    refine dp_zret C hret (by first | decide | exact dp_nb) dX2_hasTarget_31 ?_
    refine ⟨?_, rfl⟩
    first | exact (dp_b_t ⟨⟨by omega, by omega⟩, by assumption⟩).symm | exact (dp_b_f (fun q => by first | exact absurd (by assumption) q.2 | omega)).symm
  · skip
    refine dp_iload_n C dX2_hasTarget_4 rfl ?_
    refine dp_aload_n C dX2_hasTarget_5 rfl ?_
    refine dp_getf C (k := 7) (dp_mS ‹_› (by decide)) (dp_xst ‹_›) rfl hX2 (by decide) (List.mem_of_getElem? (i := 1) rfl) rfl dX2_hasTarget_6 ?_
    refine dp_alen C (t0 := 2) (dp_mS ‹_› (by decide)) 10 (dp_xta ‹_›) rfl rfl dX2_hasTarget_9 ?_
    refine dp_icmp_ge (tgt := 30) C dX2_hasTarget_10 (by decide) ⟨by omega, by omega⟩ ⟨by omega, by omega⟩ (fun c10 => ?_) (fun c10 => ?_)
    · skip
      refine dp_iconst C dX2_hasTarget_30 ?_
      refine dp_zret C hret (by first | decide | exact dp_nb) dX2_hasTarget_31 ?_
      refine ⟨?_, rfl⟩
      first | exact (dp_b_t ⟨⟨by omega, by omega⟩, by assumption⟩).symm | exact (dp_b_f (fun q => by first | exact absurd (by assumption) q.2 | omega)).symm
    · skip
      refine dp_aload_n C dX2_hasTarget_13 rfl ?_
      refine dp_getf C (k := 7) (dp_mS ‹_› (by decide)) (dp_xst ‹_›) rfl hX2 (by decide) (List.mem_of_getElem? (i := 1) rfl) rfl dX2_hasTarget_14 ?_
      refine dp_iload_n C dX2_hasTarget_17 rfl ?_
      refine dp_aald_t C ‹_› ⟨by omega, by omega⟩ rfl dX2_hasTarget_18 ?_
      have ht : x.toNat < 10 := by omega
      have hst := hv.st ht
      refine dp_getf C (k := 6) (dp_mS ‹_› (dp_cT ht)) (dp_xtg ‹_› ht) rfl hX3 (by decide) (List.mem_of_getElem? (i := 2) rfl) rfl dX2_hasTarget_19 ?_
      refine dp_iconst C dX2_hasTarget_22 ?_
      refine dp_icmp_eq (tgt := 30) C dX2_hasTarget_23 (by decide) ⟨by omega, by omega⟩ ⟨by omega, by omega⟩ (fun c23 => ?_) (fun c23 => ?_)
      · skip
        refine dp_iconst C dX2_hasTarget_30 ?_
        refine dp_zret C hret (by first | decide | exact dp_nb) dX2_hasTarget_31 ?_
        refine ⟨?_, rfl⟩
        first | exact (dp_b_t ⟨⟨by omega, by omega⟩, by assumption⟩).symm | exact (dp_b_f (fun q => by first | exact absurd (by assumption) q.2 | omega)).symm
      · skip
        refine dp_iconst C dX2_hasTarget_26 ?_
        refine dp_goto (tgt := 31) C dX2_hasTarget_27 (by decide) ?_
        refine dp_zret C hret (by first | decide | exact dp_nb) dX2_hasTarget_31 ?_
        refine ⟨?_, rfl⟩
        first | exact (dp_b_t ⟨⟨by omega, by omega⟩, by assumption⟩).symm | exact (dp_b_f (fun q => by first | exact absurd (by assumption) q.2 | omega)).symm
theorem yyX2_targetsIn : yX2_targetsIn.cls = RX2 ∧ yX2_targetsIn.cls ≠ "java/lang/invoke/MethodHandle" ∧ yX2_targetsIn.cls ≠ "java/lang/invoke/VarHandle" ∧ (parseMethodDescriptor yX2_targetsIn.desc).map (fun d => d.parameters.length) = some 1 := by decide +kernel
set_option maxHeartbeats 4000000 in
set_option maxRecDepth 100000 in
theorem c_X2_targetsIn {E : dp_E} (hE : dp_OK E) (l : Launch) {M : dp_M} {r : Nat} {V Y : dp_V} (hr : r < 7) {x : Int} (hx : dp_R x) (hv : ivC V) : dp_met E l yX2_targetsIn wsX2_targetsIn 0 0 [.ref (eAd E r 0), .int (dp_I x)] (dS M r V Y) (dp_qi E (fun y M1 => y = cnF V x ∧ M1 = dS M r V Y)) := by
  refine dp_of (cc := cX2_targetsIn) (nL := 7) (own := RX2) (ret := some (.int)) (by decide +kernel) rfl rfl hE (by simp [Value.category]) (Nat.le_of_ble_eq_true rfl) ?_
  intro p e s m below meth co C hret
  show dp_G _ _ _ _ _ _ _ _ _ _ _ _ _ _ _ _ _ [some (.ref (eAd E r 0)), some (.int (dp_I x)), none, none, none, none, none] _
  have hX2 : ∀ w ∈ u_ws RX2 TX2 11, w ∈ wsX2_targetsIn := fun w h => List.mem_cons_of_mem _ (List.mem_append_left _ (List.mem_append_right _ (h)))
  have hX3 : ∀ w ∈ u_ws RX3 TX3 14, w ∈ wsX2_targetsIn := fun w h => List.mem_cons_of_mem _ (List.mem_append_right _ (h))
  unfold dp_R at hx
  have J14 : ∀ (n k : Nat) (f ki : Int) (o : Option Value), k + n = 10 → ki = k → 0 ≤ f → f ≤ k → f + cnG V x k n = cnF V x → dp_G E (dp_A E) p l e (dp_rm 0 0) s m [.ref (eAd E r 0), .int (dp_I x)].toArray below meth co 0 0 (MQ below (dp_qi E (fun y M1 => y = cnF V x ∧ M1 = dS M r V Y)) [.ref (eAd E r 0), .int (dp_I x)].toArray s 0 0 (dp_A E)) (dS M r V Y) 14 [some (.ref (eAd E r 0)), some (.int (dp_I x)), some (.int (dp_I f)), some (.ref (eAd E r 5)), some (.int (dp_I 10)), some (.int (dp_I ki)), o] [] := by
    refine dp_ind (fun n ih => ?_)
    intro k f ki o hkn hki hf0 hf1 hf
    refine dp_iload C dX2_targetsIn_14 rfl ?_
    refine dp_iload C dX2_targetsIn_16 rfl ?_
    refine dp_icmp_ge (tgt := 45) C dX2_targetsIn_18 (by decide) ⟨by omega, by omega⟩ ⟨by omega, by omega⟩ (fun c18 => ?_) (fun c18 => ?_)
    · skip
      obtain rfl : n = 0 := by omega
      refine dp_iload_n C dX2_targetsIn_45 rfl ?_
      refine dp_iret C hret dX2_targetsIn_46 ?_
      exact ⟨by rw [← hf]; show f = f + 0; omega, rfl⟩
    · skip
      obtain ⟨n, rfl⟩ : ∃ n', n = n' + 1 := ⟨n - 1, by omega⟩
      unfold cnG at hf
      have ht : k < 10 := by omega
      have hst := hv.st ht
      refine dp_aload_n C dX2_targetsIn_21 rfl ?_
      refine dp_iload C dX2_targetsIn_22 rfl ?_
      refine dp_aald_t C ‹_› ⟨by omega, by omega⟩ (show ki.toNat = k by omega) dX2_targetsIn_24 ?_
      refine dp_astore C dX2_targetsIn_25 (Nat.le_of_ble_eq_true rfl) ?_
      dsimp only [List.set]
      refine dp_aload C dX2_targetsIn_27 rfl ?_
      refine dp_getf C (k := 6) (dp_mS ‹_› (dp_cT ‹_›)) (dp_xtg ‹_› ‹_›) rfl hX3 (by decide) (List.mem_of_getElem? (i := 2) rfl) rfl dX2_targetsIn_29 ?_
      refine dp_iload_n C dX2_targetsIn_32 rfl ?_
      refine dp_icmp_ne (tgt := 39) C dX2_targetsIn_33 (by decide) ⟨by omega, by omega⟩ ⟨by omega, by omega⟩ (fun c33 => ?_) (fun c33 => ?_)
      · skip
        rw [if_neg c33] at hf
        refine dp_iinc C dX2_targetsIn_39 rfl ?_
        dsimp only [List.set]
        refine dp_goto (tgt := 14) C dX2_targetsIn_42 (by decide) ?_
        exact ih n (by omega) (k + 1) _ _ _ (by omega) (by omega) (by omega) (by omega) (by omega)
      · skip
        rw [if_pos c33] at hf
        refine dp_iinc C dX2_targetsIn_36 rfl ?_
        dsimp only [List.set]
        refine dp_iinc C dX2_targetsIn_39 rfl ?_
        dsimp only [List.set]
        refine dp_goto (tgt := 14) C dX2_targetsIn_42 (by decide) ?_
        exact ih n (by omega) (k + 1) _ _ _ (by omega) (by omega) (by omega) (by omega) (by omega)
  refine dp_iconst C dX2_targetsIn_0 ?_
  refine dp_istore_n C dX2_targetsIn_1 (Nat.le_of_ble_eq_true rfl) ?_
  dsimp only [List.set]
  refine dp_aload_n C dX2_targetsIn_2 rfl ?_
  refine dp_getf C (k := 7) (dp_mS ‹_› (by decide)) (dp_xst ‹_›) rfl hX2 (by decide) (List.mem_of_getElem? (i := 1) rfl) rfl dX2_targetsIn_3 ?_
  refine dp_astore_n C dX2_targetsIn_6 (Nat.le_of_ble_eq_true rfl) ?_
  dsimp only [List.set]
  refine dp_aload_n C dX2_targetsIn_7 rfl ?_
  refine dp_alen C (t0 := 2) (dp_mS ‹_› (by decide)) 10 (dp_xta ‹_›) rfl rfl dX2_targetsIn_8 ?_
  refine dp_istore C dX2_targetsIn_9 (Nat.le_of_ble_eq_true rfl) ?_
  dsimp only [List.set]
  refine dp_iconst C dX2_targetsIn_11 ?_
  refine dp_istore C dX2_targetsIn_12 (Nat.le_of_ble_eq_true rfl) ?_
  dsimp only [List.set]
  exact J14 10 0 0 0 _ (by omega) rfl (by omega) (by omega) (by show 0 + cnG V x 0 10 = _; rw [Int.zero_add]; rfl)
theorem yyX2_numberUnderWay : yX2_numberUnderWay.cls = RX2 ∧ yX2_numberUnderWay.cls ≠ "java/lang/invoke/MethodHandle" ∧ yX2_numberUnderWay.cls ≠ "java/lang/invoke/VarHandle" ∧ (parseMethodDescriptor yX2_numberUnderWay.desc).map (fun d => d.parameters.length) = some 0 := by decide +kernel
set_option maxHeartbeats 4000000 in
set_option maxRecDepth 100000 in
theorem c_X2_numberUnderWay {E : dp_E} (hE : dp_OK E) (l : Launch) {M : dp_M} {r : Nat} {V Y : dp_V} (hr : r < 7) (hv : ivC V) : dp_met E l yX2_numberUnderWay wsX2_numberUnderWay 0 0 [.ref (eAd E r 0)] (dS M r V Y) (dp_qi E (fun y M1 => y = uwF V ∧ M1 = dS M r V Y)) := by
  refine dp_of (cc := cX2_numberUnderWay) (nL := 2) (own := RX2) (ret := some (.int)) (by decide +kernel) rfl rfl hE (by simp [Value.category]) (Nat.le_of_ble_eq_true rfl) ?_
  intro p e s m below meth co C hret
  show dp_G _ _ _ _ _ _ _ _ _ _ _ _ _ _ _ _ _ [some (.ref (eAd E r 0)), none] _
  have hX2 : ∀ w ∈ u_ws RX2 TX2 11, w ∈ wsX2_numberUnderWay := fun w h => List.mem_cons_of_mem _ (List.mem_append_left _ (List.mem_append_right _ (h)))
  have hX3 : ∀ w ∈ u_ws RX3 TX3 14, w ∈ wsX2_numberUnderWay := fun w h => List.mem_cons_of_mem _ (List.mem_append_right _ (h))
  have J2 : ∀ (n k : Nat) (ki : Int), k + n = 10 → ki = k → uwG V k n = uwF V → dp_G E (dp_A E) p l e (dp_rm 0 0) s m [.ref (eAd E r 0)].toArray below meth co 0 0 (MQ below (dp_qi E (fun y M1 => y = uwF V ∧ M1 = dS M r V Y)) [.ref (eAd E r 0)].toArray s 0 0 (dp_A E)) (dS M r V Y) 2 [some (.ref (eAd E r 0)), some (.int (dp_I ki))] [] := by
    refine dp_ind (fun n ih => ?_)
    intro k ki hkn hki hf
    refine dp_iload_n C dX2_numberUnderWay_2 rfl ?_
    refine dp_aload_n C dX2_numberUnderWay_3 rfl ?_
    refine dp_getf C (k := 7) (dp_mS ‹_› (by decide)) (dp_xst ‹_›) rfl hX2 (by decide) (List.mem_of_getElem? (i := 1) rfl) rfl dX2_numberUnderWay_4 ?_
    refine dp_alen C (t0 := 2) (dp_mS ‹_› (by decide)) 10 (dp_xta ‹_›) rfl rfl dX2_numberUnderWay_7 ?_
    refine dp_icmp_ge (tgt := 32) C dX2_numberUnderWay_8 (by decide) ⟨by omega, by omega⟩ ⟨by omega, by omega⟩ (fun c8 => ?_) (fun c8 => ?_)
    · skip
      obtain rfl : n = 0 := by omega
      refine dp_iconst C dX2_numberUnderWay_32 ?_
      refine dp_iret C hret dX2_numberUnderWay_33 ?_
      exact ⟨by rw [← hf]; rfl, rfl⟩
    · skip
      obtain ⟨n, rfl⟩ : ∃ n', n = n' + 1 := ⟨n - 1, by omega⟩
      unfold uwG at hf
      have ht : k < 10 := by omega
      have hst := hv.st ht
      refine dp_aload_n C dX2_numberUnderWay_11 rfl ?_
      refine dp_getf C (k := 7) (dp_mS ‹_› (by decide)) (dp_xst ‹_›) rfl hX2 (by decide) (List.mem_of_getElem? (i := 1) rfl) rfl dX2_numberUnderWay_12 ?_
      refine dp_iload_n C dX2_numberUnderWay_15 rfl ?_
      refine dp_aald_t C ‹_› ⟨by omega, by omega⟩ (show ki.toNat = k by omega) dX2_numberUnderWay_16 ?_
      refine dp_getf C (k := 6) (dp_mS ‹_› (dp_cT ‹_›)) (dp_xtg ‹_› ‹_›) rfl hX3 (by decide) (List.mem_of_getElem? (i := 2) rfl) rfl dX2_numberUnderWay_17 ?_
      refine dp_iconst C dX2_numberUnderWay_20 ?_
      refine dp_icmp_ne (tgt := 26) C dX2_numberUnderWay_21 (by decide) ⟨by omega, by omega⟩ ⟨by omega, by omega⟩ (fun c21 => ?_) (fun c21 => ?_)
      · skip
        rw [if_neg c21] at hf
        refine dp_iinc C dX2_numberUnderWay_26 rfl ?_
        dsimp only [List.set]
        refine dp_goto (tgt := 2) C dX2_numberUnderWay_29 (by decide) ?_
        exact ih n (by omega) (k + 1) _ (by omega) (by omega) hf
      · skip
        rw [if_pos c21] at hf
        refine dp_iload_n C dX2_numberUnderWay_24 rfl ?_
        refine dp_iret C hret dX2_numberUnderWay_25 ?_
        exact ⟨by omega, rfl⟩
  refine dp_iconst C dX2_numberUnderWay_0 ?_
  refine dp_istore_n C dX2_numberUnderWay_1 (Nat.le_of_ble_eq_true rfl) ?_
  dsimp only [List.set]
  exact J2 10 0 0 (by omega) rfl rfl
theorem yyX2_minutesUntilDone : yX2_minutesUntilDone.cls = RX2 ∧ yX2_minutesUntilDone.cls ≠ "java/lang/invoke/MethodHandle" ∧ yX2_minutesUntilDone.cls ≠ "java/lang/invoke/VarHandle" ∧ (parseMethodDescriptor yX2_minutesUntilDone.desc).map (fun d => d.parameters.length) = some 0 := by decide +kernel
set_option maxHeartbeats 4000000 in
set_option maxRecDepth 100000 in
theorem c_X2_minutesUntilDone {E : dp_E} (hE : dp_OK E) (l : Launch) {M : dp_M} {r : Nat} {V Y : dp_V} (hr : r < 7) (hv : ivC V) : dp_met E l yX2_minutesUntilDone wsX2_minutesUntilDone 0 0 [.ref (eAd E r 0)] (dS M r V Y) (dp_qi E (fun y M1 => y = muG V 0 10 ∧ M1 = dS M r V Y)) := by
  refine dp_of (cc := cX2_minutesUntilDone) (nL := 5) (own := RX2) (ret := some (.int)) (by decide +kernel) rfl rfl hE (by simp [Value.category]) (Nat.le_of_ble_eq_true rfl) ?_
  intro p e s m below meth co C hret
  show dp_G _ _ _ _ _ _ _ _ _ _ _ _ _ _ _ _ _ [some (.ref (eAd E r 0)), none, none, none, none] _
  have hX2 : ∀ w ∈ u_ws RX2 TX2 11, w ∈ wsX2_minutesUntilDone := fun w h => List.mem_cons_of_mem _ (List.mem_append_left _ (List.mem_append_right _ (h)))
  have hX3 : ∀ w ∈ u_ws RX3 TX3 14, w ∈ wsX2_minutesUntilDone := fun w h => List.mem_cons_of_mem _ (List.mem_append_right _ (h))
  have J10 : ∀ (n k : Nat) (ki : Int) (o : Option Value), k + n = 10 → ki = k → muG V k n = muG V 0 10 → dp_G E (dp_A E) p l e (dp_rm 0 0) s m [.ref (eAd E r 0)].toArray below meth co 0 0 (MQ below (dp_qi E (fun y M1 => y = muG V 0 10 ∧ M1 = dS M r V Y)) [.ref (eAd E r 0)].toArray s 0 0 (dp_A E)) (dS M r V Y) 10 [some (.ref (eAd E r 0)), some (.ref (eAd E r 5)), some (.int (dp_I 10)), some (.int (dp_I ki)), o] [] := by
    refine dp_ind (fun n ih => ?_)
    intro k ki o hkn hki hf
    refine dp_iload_n C dX2_minutesUntilDone_10 rfl ?_
    refine dp_iload_n C dX2_minutesUntilDone_11 rfl ?_
    refine dp_icmp_ge (tgt := 46) C dX2_minutesUntilDone_12 (by decide) ⟨by omega, by omega⟩ ⟨by omega, by omega⟩ (fun c12 => ?_) (fun c12 => ?_)
    · skip
      obtain rfl : n = 0 := by omega
      refine dp_ldc C (-100004) (List.mem_of_getElem? (i := 5) rfl) rfl dX2_minutesUntilDone_46 ?_
      refine dp_iret C hret dX2_minutesUntilDone_48 ?_
      exact ⟨by rw [← hf]; rfl, rfl⟩
    · skip
      obtain ⟨n, rfl⟩ : ∃ n', n = n' + 1 := ⟨n - 1, by omega⟩
      unfold muG at hf
      have ht : k < 10 := by omega
      have hst := hv.st ht
      refine dp_aload_n C dX2_minutesUntilDone_15 rfl ?_
      refine dp_iload_n C dX2_minutesUntilDone_16 rfl ?_
      refine dp_aald_t C ‹_› ⟨by omega, by omega⟩ (show ki.toNat = k by omega) dX2_minutesUntilDone_17 ?_
      refine dp_astore C dX2_minutesUntilDone_18 (Nat.le_of_ble_eq_true rfl) ?_
      dsimp only [List.set]
      refine dp_aload C dX2_minutesUntilDone_20 rfl ?_
      refine dp_getf C (k := 6) (dp_mS ‹_› (dp_cT ‹_›)) (dp_xtg ‹_› ‹_›) rfl hX3 (by decide) (List.mem_of_getElem? (i := 2) rfl) rfl dX2_minutesUntilDone_22 ?_
      refine dp_iconst C dX2_minutesUntilDone_25 ?_
      refine dp_icmp_ne (tgt := 40) C dX2_minutesUntilDone_26 (by decide) ⟨by omega, by omega⟩ ⟨by omega, by omega⟩ (fun c26 => ?_) (fun c26 => ?_)
      · skip
        rw [if_neg c26] at hf
        refine dp_iinc C dX2_minutesUntilDone_40 rfl ?_
        dsimp only [List.set]
        refine dp_goto (tgt := 10) C dX2_minutesUntilDone_43 (by decide) ?_
        exact ih n (by omega) (k + 1) _ _ (by omega) (by omega) hf
      · skip
        rw [if_pos c26] at hf
        refine dp_aload C dX2_minutesUntilDone_29 rfl ?_
        refine dp_getf C (k := 9) (dp_mS ‹_› (dp_cT ‹_›)) (dp_xtg ‹_› ‹_›) rfl hX3 (by decide) (List.mem_of_getElem? (i := 3) rfl) rfl dX2_minutesUntilDone_31 ?_
        refine dp_aload_n C dX2_minutesUntilDone_34 rfl ?_
        refine dp_getf C (k := 0) (dp_mS ‹_› (by decide)) (dp_xst ‹_›) rfl hX2 (by decide) (List.mem_of_getElem? (i := 4) rfl) rfl dX2_minutesUntilDone_35 ?_
        refine dp_isub C dX2_minutesUntilDone_38 ?_
        refine dp_iret C hret dX2_minutesUntilDone_39 ?_
        exact ⟨hf, rfl⟩
  refine dp_aload_n C dX2_minutesUntilDone_0 rfl ?_
  refine dp_getf C (k := 7) (dp_mS ‹_› (by decide)) (dp_xst ‹_›) rfl hX2 (by decide) (List.mem_of_getElem? (i := 1) rfl) rfl dX2_minutesUntilDone_1 ?_
  refine dp_astore_n C dX2_minutesUntilDone_4 (Nat.le_of_ble_eq_true rfl) ?_
  dsimp only [List.set]
  refine dp_aload_n C dX2_minutesUntilDone_5 rfl ?_
  refine dp_alen C (t0 := 2) (dp_mS ‹_› (by decide)) 10 (dp_xta ‹_›) rfl rfl dX2_minutesUntilDone_6 ?_
  refine dp_istore_n C dX2_minutesUntilDone_7 (Nat.le_of_ble_eq_true rfl) ?_
  dsimp only [List.set]
  refine dp_iconst C dX2_minutesUntilDone_8 ?_
  refine dp_istore_n C dX2_minutesUntilDone_9 (Nat.le_of_ble_eq_true rfl) ?_
  dsimp only [List.set]
  exact J10 10 0 0 _ (by omega) rfl rfl
theorem yyX2_reasonAgainst : yX2_reasonAgainst.cls = RX2 ∧ yX2_reasonAgainst.cls ≠ "java/lang/invoke/MethodHandle" ∧ yX2_reasonAgainst.cls ≠ "java/lang/invoke/VarHandle" ∧ (parseMethodDescriptor yX2_reasonAgainst.desc).map (fun d => d.parameters.length) = some 1 := by decide +kernel
set_option maxHeartbeats 4000000 in
set_option maxRecDepth 100000 in
theorem c_X2_reasonAgainst {E : dp_E} (hE : dp_OK E) (l : Launch) {M : dp_M} {r t : Nat} {V Y : dp_V} (hr : r < 7) (ht : t < 10) (hv : ivC V) : dp_met E l yX2_reasonAgainst wsX2_reasonAgainst 3 67 [.ref (eAd E r 0), .ref (eAd E r (t + 6))] (dS M r V Y) (dp_qi E (fun y M1 => y = rsF V t ∧ ∃ Y', M1 = dS M r V Y')) := by
  refine dp_of (cc := cX2_reasonAgainst) (nL := 4) (own := RX2) (ret := some (.int)) (by decide +kernel) rfl rfl hE (by simp [Value.category]) (Nat.le_of_ble_eq_true rfl) ?_
  intro p e s m below meth co C hret
  show dp_G _ _ _ _ _ _ _ _ _ _ _ _ _ _ _ _ _ [some (.ref (eAd E r 0)), some (.ref (eAd E r (t + 6))), none, none] _
  have hX2 : ∀ w ∈ u_ws RX2 TX2 11, w ∈ wsX2_reasonAgainst := fun w h => List.mem_cons_of_mem _ (List.mem_append_left _ (List.mem_append_left _ (List.mem_append_right _ (h))))
  have hX3 : ∀ w ∈ u_ws RX3 TX3 14, w ∈ wsX2_reasonAgainst := fun w h => List.mem_cons_of_mem _ (List.mem_append_left _ (List.mem_append_left _ (List.mem_append_left _ (List.mem_append_right _ (h)))))
  have hX5 : ∀ w ∈ u_ws RX5 TX5 7, w ∈ wsX2_reasonAgainst := fun w h => List.mem_cons_of_mem _ (List.mem_append_left _ (List.mem_append_right _ (h)))
  have hst := hv.st ht
  have hu := @uwF_bd V
  have hk := @kdF_bd V
  have h0 := hv.1.1
  have h1 := hv.1.2.1
  refine dp_aload_n C dX2_reasonAgainst_0 rfl ?_
  refine dp_getf C (k := 6) (dp_mS ‹_› (dp_cT ‹_›)) (dp_xtg ‹_› ‹_›) rfl hX3 (by decide) (List.mem_of_getElem? (i := 1) rfl) rfl dX2_reasonAgainst_1 ?_
  refine dp_if_eq (tgt := 9) C dX2_reasonAgainst_4 (by decide) ⟨by omega, by omega⟩ (fun c4 => ?_) (fun c4 => ?_)
  · skip
    have hT : ivT (V (t + 6)) := (hv.2.1 t ht).resolve_left (by omega)
    unfold ivT at hT
    refine dp_aload_n C dX2_reasonAgainst_9 rfl ?_
    refine dp_cVi C (c_X2_numberUnderWay C.2.2.1 l ‹_› hv) gX2_reasonAgainst_X2_numberUnderWay rfl (dp_mS ‹_› (by decide)) (dp_xst ‹_›) rfl yyX2_numberUnderWay rfl ⟨Nat.le_of_ble_eq_true rfl, Nat.le_of_ble_eq_true rfl⟩ rfl (Nat.le_of_ble_eq_true rfl) rfl ⟨Nat.zero_le _, Nat.zero_le _⟩ dX2_reasonAgainst_10 (fun x10 M10 h10 => ?_)
    obtain ⟨rfl, rfl⟩ := h10
    refine dp_iconst C dX2_reasonAgainst_13 ?_
    refine dp_icmp_eq (tgt := 19) C dX2_reasonAgainst_14 (by decide) ⟨by omega, by omega⟩ ⟨by omega, by omega⟩ (fun c14 => ?_) (fun c14 => ?_)
    · skip
      refine dp_aload_n C dX2_reasonAgainst_19 rfl ?_
      refine dp_cVi C (c_X2_kindOfDay C.2.2.1 l ‹_› hv.1) gX2_reasonAgainst_X2_kindOfDay rfl (dp_mS ‹_› (by decide)) (dp_xst ‹_›) rfl yyX2_kindOfDay rfl ⟨Nat.le_of_ble_eq_true rfl, Nat.le_of_ble_eq_true rfl⟩ rfl (Nat.le_of_ble_eq_true rfl) rfl ⟨Nat.zero_le _, Nat.zero_le _⟩ dX2_reasonAgainst_20 (fun x20 M20 h20 => ?_)
      obtain ⟨rfl, rfl⟩ := h20
      refine dp_if_ne (tgt := 28) C dX2_reasonAgainst_23 (by decide) ⟨by omega, by omega⟩ (fun c23 => ?_) (fun c23 => ?_)
      · skip
        refine dp_aload_n C dX2_reasonAgainst_28 rfl ?_
        refine dp_getf C (k := 0) (dp_mS ‹_› (by decide)) (dp_xst ‹_›) rfl hX2 (by decide) (List.mem_of_getElem? (i := 2) rfl) rfl dX2_reasonAgainst_29 ?_
        refine dp_aload_n C dX2_reasonAgainst_32 rfl ?_
        refine dp_getf C (k := 2) (dp_mS ‹_› (dp_cT ‹_›)) (dp_xtg ‹_› ‹_›) rfl hX3 (by decide) (List.mem_of_getElem? (i := 3) rfl) rfl dX2_reasonAgainst_33 ?_
        refine dp_icmp_ge (tgt := 41) C dX2_reasonAgainst_36 (by decide) ⟨by omega, by omega⟩ ⟨by omega, by omega⟩ (fun c36 => ?_) (fun c36 => ?_)
        · skip
          refine dp_aload_n C dX2_reasonAgainst_41 rfl ?_
          refine dp_aload_n C dX2_reasonAgainst_42 rfl ?_
          refine dp_getf C (k := 1) (dp_mS ‹_› (dp_cT ‹_›)) (dp_xtg ‹_› ‹_›) rfl hX3 (by decide) (List.mem_of_getElem? (i := 4) rfl) rfl dX2_reasonAgainst_43 ?_
          refine dp_cVr C (c_X2_wayRise C.2.2.1 l ‹_› hv.1 (by omega)) gX2_reasonAgainst_X2_wayRise rfl (dp_mS ‹_› (by decide)) (dp_xst ‹_›) rfl yyX2_wayRise rfl ⟨Nat.le_of_ble_eq_true rfl, Nat.le_of_ble_eq_true rfl⟩ rfl (Nat.le_of_ble_eq_true rfl) rfl ⟨Nat.zero_le _, Nat.zero_le _⟩ dX2_reasonAgainst_46 (fun r46 q46 M46 h46 => ?_)
          obtain ⟨rfl, rfl, Y1, rfl, hY1, hW1⟩ := h46
          have p6 := hW1.2.2.2.2.2.2
          have b6 := @wyP_bd 4 (V 4) (V (t + 6) 1) (V 1 0)
          refine dp_astore_n C dX2_reasonAgainst_49 (Nat.le_of_ble_eq_true rfl) ?_
          dsimp only [List.set]
          refine dp_aload_n C dX2_reasonAgainst_50 rfl ?_
          refine dp_getf C (k := 6) (dp_mS ‹_› (dp_cW (Or.inr (Or.inr rfl)))) (dp_xwy ‹_› (Or.inr (Or.inr rfl))) rfl hX5 (by decide) (List.mem_of_getElem? (i := 5) rfl) rfl dX2_reasonAgainst_51 ?_
          rw [p6]
          refine dp_if_ne (tgt := 59) C dX2_reasonAgainst_54 (by decide) ⟨by omega, by omega⟩ (fun c54 => ?_) (fun c54 => ?_)
          · skip
            refine dp_aload_n C dX2_reasonAgainst_59 rfl ?_
            refine dp_aload_n C dX2_reasonAgainst_60 rfl ?_
            refine dp_getf C (k := 0) (dp_mS ‹_› (dp_cT ‹_›)) (dp_xtg ‹_› ‹_›) rfl hX3 (by decide) (List.mem_of_getElem? (i := 6) rfl) rfl dX2_reasonAgainst_61 ?_
            refine dp_cVr C (c_X2_wayAround C.2.2.1 l ‹_› hv.1 (by omega)) gX2_reasonAgainst_X2_wayAround rfl (dp_mS ‹_› (by decide)) (dp_xst ‹_›) rfl yyX2_wayAround rfl ⟨Nat.le_of_ble_eq_true rfl, Nat.le_of_ble_eq_true rfl⟩ rfl (Nat.le_of_ble_eq_true rfl) rfl ⟨Nat.zero_le _, Nat.zero_le _⟩ dX2_reasonAgainst_64 (fun r64 q64 M64 h64 => ?_)
            obtain ⟨rfl, Y2, rfl, h18, hc1, hW2⟩ := h64
            have q6 := hW2.2.2.2.2.2.2
            have c6 := @wyP_bd 3 (V 3) (apF V (V (t + 6) 0)) (V 1 0)
            have ha := @apF_bd V (V (t + 6) 0) (by omega)
            have hc9 : q64 = 16 ∨ q64 = 17 ∨ q64 = 18 := by omega
            have w1 := wyM_bd hv.1.2.2.2.1 (show -40000 ≤ apF V (V (t + 6) 0) ∧ apF V (V (t + 6) 0) ≤ 40000 by omega) (show 0 ≤ V 1 0 ∧ V 1 0 ≤ 500 by omega)
            have w2 := wyM_bd hv.1.2.2.2.2 (show -40000 ≤ V (t + 6) 1 ∧ V (t + 6) 1 ≤ 40000 by omega) (show 0 ≤ V 1 0 ∧ V 1 0 ≤ 500 by omega)
            have htm := @tmF_bd V (apF V (V (t + 6) 0)) (V (t + 6) 1) hv.1 (by omega) (by omega)
            refine dp_astore_n C dX2_reasonAgainst_67 (Nat.le_of_ble_eq_true rfl) ?_
            dsimp only [List.set]
            refine dp_aload_n C dX2_reasonAgainst_68 rfl ?_
            refine dp_getf C (k := 6) (dp_mS ‹_› (dp_cW ‹_›)) (dp_xwy ‹_› ‹_›) rfl hX5 (by decide) (List.mem_of_getElem? (i := 5) rfl) rfl dX2_reasonAgainst_69 ?_
            rw [q6]
            refine dp_if_ne (tgt := 78) C dX2_reasonAgainst_72 (by decide) ⟨by omega, by omega⟩ (fun c72 => ?_) (fun c72 => ?_)
            · skip
              refine dp_aload_n C dX2_reasonAgainst_78 rfl ?_
              refine dp_getf C (k := 0) (dp_mS ‹_› (by decide)) (dp_xst ‹_›) rfl hX2 (by decide) (List.mem_of_getElem? (i := 2) rfl) rfl dX2_reasonAgainst_79 ?_
              refine dp_aload_n C dX2_reasonAgainst_82 rfl ?_
              refine dp_getf C (k := 4) (dp_mS ‹_› (dp_cW ‹_›)) (dp_xwy ‹_› ‹_›) rfl hX5 (by decide) (List.mem_of_getElem? (i := 7) rfl) rfl dX2_reasonAgainst_83 ?_
              rw [hW2.2.2.2.2.1]
              refine dp_aload_n C dX2_reasonAgainst_86 rfl ?_
              refine dp_getf C (k := 4) (dp_mS ‹_› (dp_cW (Or.inr (Or.inr rfl)))) (dp_xwy ‹_› (Or.inr (Or.inr rfl))) rfl hX5 (by decide) (List.mem_of_getElem? (i := 7) rfl) rfl dX2_reasonAgainst_87 ?_
              rw [h18, hW1.2.2.2.2.1]
              refine dp_mmax C ⟨by omega, by omega⟩ ⟨by omega, by omega⟩ (List.mem_of_getElem? (i := 8) rfl) (List.mem_of_getElem? (i := 9) rfl) (List.mem_of_getElem? (i := 10) rfl) (List.mem_of_getElem? (i := 11) rfl) (Nat.le_of_ble_eq_true rfl) (Nat.le_of_ble_eq_true rfl) (Nat.le_of_ble_eq_true rfl) rfl ⟨Nat.zero_le _, Nat.zero_le _⟩ dX2_reasonAgainst_90 ?_
              show dp_G _ _ _ _ _ _ _ _ _ _ _ _ _ _ _ _ _ _ (.int (dp_I (tmF V (apF V (V (t + 6) 0)) (V (t + 6) 1))) :: _)
              refine dp_iadd C dX2_reasonAgainst_93 ?_
              refine dp_aload_n C dX2_reasonAgainst_94 rfl ?_
              refine dp_getf C (k := 4) (dp_mS ‹_› (dp_cT ‹_›)) (dp_xtg ‹_› ‹_›) rfl hX3 (by decide) (List.mem_of_getElem? (i := 12) rfl) rfl dX2_reasonAgainst_95 ?_
              refine dp_iadd C dX2_reasonAgainst_98 ?_
              refine dp_aload_n C dX2_reasonAgainst_99 rfl ?_
              refine dp_getf C (k := 3) (dp_mS ‹_› (dp_cT ‹_›)) (dp_xtg ‹_› ‹_›) rfl hX3 (by decide) (List.mem_of_getElem? (i := 13) rfl) rfl dX2_reasonAgainst_100 ?_
              refine dp_icmp_le (tgt := 111) C dX2_reasonAgainst_103 (by decide) ⟨by omega, by omega⟩ ⟨by omega, by omega⟩ (fun c103 => ?_) (fun c103 => ?_)
              · skip
                refine dp_iconst C dX2_reasonAgainst_111 ?_
                refine dp_iret C hret dX2_reasonAgainst_112 ?_
                refine ⟨?_, _, rfl⟩
                unfold rsF
                repeat (first | rw [if_neg (by omega)] | rw [if_pos (by omega)])
              · skip
                refine dp_bipush C dX2_reasonAgainst_106 (by decide) ?_
                refine dp_goto (tgt := 112) C dX2_reasonAgainst_108 (by decide) ?_
                refine dp_iret C hret dX2_reasonAgainst_112 ?_
                refine ⟨?_, _, rfl⟩
                unfold rsF
                repeat (first | rw [if_neg (by omega)] | rw [if_pos (by omega)])
            · skip
              refine dp_bipush C dX2_reasonAgainst_75 (by decide) ?_
              refine dp_iret C hret dX2_reasonAgainst_77 ?_
              refine ⟨?_, _, rfl⟩
              unfold rsF
              repeat (first | rw [if_neg (by omega)] | rw [if_pos (by omega)])
          · skip
            refine dp_iconst C dX2_reasonAgainst_57 ?_
            refine dp_iret C hret dX2_reasonAgainst_58 ?_
            refine ⟨?_, _, rfl⟩
            unfold rsF
            repeat (first | rw [if_neg (by omega)] | rw [if_pos (by omega)])
        · skip
          refine dp_iconst C dX2_reasonAgainst_39 ?_
          refine dp_iret C hret dX2_reasonAgainst_40 ?_
          refine ⟨?_, _, rfl⟩
          unfold rsF
          repeat (first | rw [if_neg (by omega)] | rw [if_pos (by omega)])
      · skip
        refine dp_iconst C dX2_reasonAgainst_26 ?_
        refine dp_iret C hret dX2_reasonAgainst_27 ?_
        refine ⟨?_, _, rfl⟩
        unfold rsF
        repeat (first | rw [if_neg (by omega)] | rw [if_pos (by omega)])
    · skip
      refine dp_iconst C dX2_reasonAgainst_17 ?_
      refine dp_iret C hret dX2_reasonAgainst_18 ?_
      refine ⟨?_, _, rfl⟩
      unfold rsF
      repeat (first | rw [if_neg (by omega)] | rw [if_pos (by omega)])
  · skip
    refine dp_iconst C dX2_reasonAgainst_7 ?_
    refine dp_iret C hret dX2_reasonAgainst_8 ?_
    refine ⟨?_, _, rfl⟩
    unfold rsF
    repeat (first | rw [if_neg (by omega)] | rw [if_pos (by omega)])
theorem yyX2_bestToBegin : yX2_bestToBegin.cls = RX2 ∧ yX2_bestToBegin.cls ≠ "java/lang/invoke/MethodHandle" ∧ yX2_bestToBegin.cls ≠ "java/lang/invoke/VarHandle" ∧ (parseMethodDescriptor yX2_bestToBegin.desc).map (fun d => d.parameters.length) = some 0 := by decide +kernel
set_option maxHeartbeats 4000000 in
set_option maxRecDepth 100000 in
theorem c_X2_bestToBegin {E : dp_E} (hE : dp_OK E) (l : Launch) {M : dp_M} {r : Nat} {V Y : dp_V} (hr : r < 7) (hv : ivC V) : dp_met E l yX2_bestToBegin wsX2_bestToBegin 4 90 [.ref (eAd E r 0)] (dS M r V Y) (dp_qi E (fun y M1 => y = bsF V ∧ ∃ Y', M1 = dS M r V Y')) := by
  refine dp_of (cc := cX2_bestToBegin) (nL := 3) (own := RX2) (ret := some (.int)) (by decide +kernel) rfl rfl hE (by simp [Value.category]) (Nat.le_of_ble_eq_true rfl) ?_
  intro p e s m below meth co C hret
  show dp_G _ _ _ _ _ _ _ _ _ _ _ _ _ _ _ _ _ [some (.ref (eAd E r 0)), none, none] _
  have hX2 : ∀ w ∈ u_ws RX2 TX2 11, w ∈ wsX2_bestToBegin := fun w h => List.mem_cons_of_mem _ (List.mem_append_left _ (List.mem_append_left _ (List.mem_append_left _ (List.mem_append_right _ (h)))))
  have J4 : ∀ (n k : Nat) (b ki : Int) (Y' : dp_V), k + n = 10 → ki = k → (b = -1 ∨ (0 ≤ b ∧ b < 10 ∧ rsF V b.toNat = 0)) → bsG V k n b = bsF V → dp_G E (dp_A E) p l e (dp_rm 4 90) s m [.ref (eAd E r 0)].toArray below meth co 0 0 (MQ below (dp_qi E (fun y M1 => y = bsF V ∧ ∃ Y', M1 = dS M r V Y')) [.ref (eAd E r 0)].toArray s 0 0 (dp_A E)) (dS M r V Y') 4 [some (.ref (eAd E r 0)), some (.int (dp_I b)), some (.int (dp_I ki))] [] := by
    refine dp_ind (fun n ih => ?_)
    intro k b ki Y' hkn hki hb hf
    refine dp_iload_n C dX2_bestToBegin_4 rfl ?_
    refine dp_aload_n C dX2_bestToBegin_5 rfl ?_
    refine dp_getf C (k := 7) (dp_mS ‹_› (by decide)) (dp_xst ‹_›) rfl hX2 (by decide) (List.mem_of_getElem? (i := 1) rfl) rfl dX2_bestToBegin_6 ?_
    refine dp_alen C (t0 := 2) (dp_mS ‹_› (by decide)) 10 (dp_xta ‹_›) rfl rfl dX2_bestToBegin_9 ?_
    refine dp_icmp_ge (tgt := 57) C dX2_bestToBegin_10 (by decide) ⟨by omega, by omega⟩ ⟨by omega, by omega⟩ (fun c10 => ?_) (fun c10 => ?_)
    · skip
      obtain rfl : n = 0 := by omega
      refine dp_iload_n C dX2_bestToBegin_57 rfl ?_
      refine dp_iret C hret dX2_bestToBegin_58 ?_
      exact ⟨hf, _, rfl⟩
    · skip
      obtain ⟨n, rfl⟩ : ∃ n', n = n' + 1 := ⟨n - 1, by omega⟩
      unfold bsG at hf
      have ht : k < 10 := by omega
      refine dp_aload_n C dX2_bestToBegin_13 rfl ?_
      refine dp_aload_n C dX2_bestToBegin_14 rfl ?_
      refine dp_getf C (k := 7) (dp_mS ‹_› (by decide)) (dp_xst ‹_›) rfl hX2 (by decide) (List.mem_of_getElem? (i := 1) rfl) rfl dX2_bestToBegin_15 ?_
      refine dp_iload_n C dX2_bestToBegin_18 rfl ?_
      refine dp_aald_t C ‹_› ⟨by omega, by omega⟩ (show ki.toNat = k by omega) dX2_bestToBegin_19 ?_
      refine dp_cVi C (c_X2_reasonAgainst C.2.2.1 l ‹_› ‹_› hv) gX2_bestToBegin_X2_reasonAgainst rfl (dp_mS ‹_› (by decide)) (dp_xst ‹_›) rfl yyX2_reasonAgainst rfl ⟨Nat.le_of_ble_eq_true rfl, Nat.le_of_ble_eq_true rfl⟩ rfl (Nat.le_of_ble_eq_true rfl) rfl ⟨Nat.zero_le _, Nat.zero_le _⟩ dX2_bestToBegin_20 (fun x20 M20 h20 => ?_)
      obtain ⟨rfl, Y1, rfl⟩ := h20
      refine dp_if_ne (tgt := 51) C dX2_bestToBegin_23 (by decide) (by have := @rsF_bd V k; exact ⟨by omega, by omega⟩) (fun c23 => ?_) (fun c23 => ?_)
      · skip
        rw [if_neg c23] at hf
        refine dp_iinc C dX2_bestToBegin_51 rfl ?_
        dsimp only [List.set]
        refine dp_goto (tgt := 4) C dX2_bestToBegin_54 (by decide) ?_
        first | (exact ih n (by omega) (k + 1) _ _ _ (by omega) (by omega) (Or.inr ⟨by omega, by omega, by rw [show ki.toNat = k by omega]; assumption⟩) (by rw [hki]; exact hf)) | (exact ih n (by omega) (k + 1) _ _ _ (by omega) (by omega) hb hf)
      · skip
        rw [if_pos c23] at hf
        refine dp_iload_n C dX2_bestToBegin_26 rfl ?_
        refine dp_iconst C dX2_bestToBegin_27 ?_
        refine dp_icmp_eq (tgt := 49) C dX2_bestToBegin_28 (by decide) ⟨by omega, by omega⟩ ⟨by omega, by omega⟩ (fun c28 => ?_) (fun c28 => ?_)
        · skip
          rw [if_pos c28] at hf
          refine dp_iload_n C dX2_bestToBegin_49 rfl ?_
          refine dp_istore_n C dX2_bestToBegin_50 (Nat.le_of_ble_eq_true rfl) ?_
          dsimp only [List.set]
          refine dp_iinc C dX2_bestToBegin_51 rfl ?_
          dsimp only [List.set]
          refine dp_goto (tgt := 4) C dX2_bestToBegin_54 (by decide) ?_
          first | (exact ih n (by omega) (k + 1) _ _ _ (by omega) (by omega) (Or.inr ⟨by omega, by omega, by rw [show ki.toNat = k by omega]; assumption⟩) (by rw [hki]; exact hf)) | (exact ih n (by omega) (k + 1) _ _ _ (by omega) (by omega) hb hf)
        · skip
          rw [if_neg c28] at hf
          obtain ⟨hb0, hb1, hb2⟩ := hb.resolve_left c28
          have ht2 : b.toNat < 10 := by omega
          refine dp_aload_n C dX2_bestToBegin_31 rfl ?_
          refine dp_getf C (k := 7) (dp_mS ‹_› (by decide)) (dp_xst ‹_›) rfl hX2 (by decide) (List.mem_of_getElem? (i := 1) rfl) rfl dX2_bestToBegin_32 ?_
          refine dp_iload_n C dX2_bestToBegin_35 rfl ?_
          refine dp_aald_t C ‹_› ⟨by omega, by omega⟩ (show ki.toNat = k by omega) dX2_bestToBegin_36 ?_
          refine dp_aload_n C dX2_bestToBegin_37 rfl ?_
          refine dp_getf C (k := 7) (dp_mS ‹_› (by decide)) (dp_xst ‹_›) rfl hX2 (by decide) (List.mem_of_getElem? (i := 1) rfl) rfl dX2_bestToBegin_38 ?_
          refine dp_iload_n C dX2_bestToBegin_41 rfl ?_
          refine dp_aald_t C ‹_› ⟨by omega, by omega⟩ (show b.toNat = b.toNat from rfl) dX2_bestToBegin_42 ?_
          refine dp_cVi C (c_X3_isBetterThan C.2.2.1 l ‹_› ‹_› ‹_› ((hv.2.1 k ht).resolve_left (by have := rsF_0 c23; omega)) ((hv.2.1 _ ht2).resolve_left (by have := rsF_0 hb2; omega))) gX2_bestToBegin_X3_isBetterThan rfl (dp_mS ‹_› (dp_cT ht)) (dp_xtg ‹_› ht) rfl yyX3_isBetterThan rfl ⟨Nat.le_of_ble_eq_true rfl, Nat.le_of_ble_eq_true rfl⟩ rfl (Nat.le_of_ble_eq_true rfl) rfl ⟨Nat.zero_le _, Nat.zero_le _⟩ dX2_bestToBegin_43 (fun x43 M43 h43 => ?_)
          obtain ⟨rfl, rfl⟩ := h43
          refine dp_if_eq (tgt := 51) C dX2_bestToBegin_46 (by decide) (by have := @btF_bd (V (k + 6)) (V (b.toNat + 6)); exact ⟨by omega, by omega⟩) (fun c46 => ?_) (fun c46 => ?_)
          · skip
            rw [if_pos c46] at hf
            refine dp_iinc C dX2_bestToBegin_51 rfl ?_
            dsimp only [List.set]
            refine dp_goto (tgt := 4) C dX2_bestToBegin_54 (by decide) ?_
            first | (exact ih n (by omega) (k + 1) _ _ _ (by omega) (by omega) (Or.inr ⟨by omega, by omega, by rw [show ki.toNat = k by omega]; assumption⟩) (by rw [hki]; exact hf)) | (exact ih n (by omega) (k + 1) _ _ _ (by omega) (by omega) hb hf)
          · skip
            rw [if_neg c46] at hf
            refine dp_iload_n C dX2_bestToBegin_49 rfl ?_
            refine dp_istore_n C dX2_bestToBegin_50 (Nat.le_of_ble_eq_true rfl) ?_
            dsimp only [List.set]
            refine dp_iinc C dX2_bestToBegin_51 rfl ?_
            dsimp only [List.set]
            refine dp_goto (tgt := 4) C dX2_bestToBegin_54 (by decide) ?_
            first | (exact ih n (by omega) (k + 1) _ _ _ (by omega) (by omega) (Or.inr ⟨by omega, by omega, by rw [show ki.toNat = k by omega]; assumption⟩) (by rw [hki]; exact hf)) | (exact ih n (by omega) (k + 1) _ _ _ (by omega) (by omega) hb hf)
  refine dp_iconst C dX2_bestToBegin_0 ?_
  refine dp_istore_n C dX2_bestToBegin_1 (Nat.le_of_ble_eq_true rfl) ?_
  dsimp only [List.set]
  refine dp_iconst C dX2_bestToBegin_2 ?_
  refine dp_istore_n C dX2_bestToBegin_3 (Nat.le_of_ble_eq_true rfl) ?_
  dsimp only [List.set]
  exact J4 10 0 _ 0 _ (by omega) rfl (Or.inl rfl) rfl
