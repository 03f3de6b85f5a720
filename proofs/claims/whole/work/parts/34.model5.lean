theorem scr.rs {X X' : dp_V} (h : scr X X') : scr (rsX X) (rsX X') := by
  have e : X' 0 0 = X 0 0 := h.2 0 (by decide) (by decide) (by decide)
  unfold rsX
  refine ⟨fun c hc => ?_, fun k a b c => ?_⟩
  · rw [u2_ne hc, u2_ne hc]
    exact h.1 c hc
  · rw [u2_same, u2_same, e]
    unfold u1
    split
    · rfl
    · exact h.2 k a b c
theorem scr.rw {M : dp_M} {V X X' : dp_V} (h : scr X X') : rnW M V X' = rnW M V X := by
  have e : X' 0 0 = X 0 0 := h.2 0 (by decide) (by decide) (by decide)
  unfold rnW
  rw [e]
theorem ch_eq {V : dp_V} {c j : Nat} {x : Int} (hj : j < 3) (hi : ivA c (V c)) (h0 : j = 0 → 0 ≤ x) : u2 (u2 V c j x) c 4 (if u2 V c j x c 0 < u2 V c j x c 4 then u2 V c j x c 0 else u2 V c j x c 4) = chV V c (j : Int) x := by
  unfold ivA at hi
  rcases (by omega : j = 0 ∨ j = 1 ∨ j = 2) with q | q | q <;> subst q
  · show _ = u2 (u2 V c 0 x) c 4 (mn (V c 4) x)
    have e : (if u2 V c 0 x c 0 < u2 V c 0 x c 4 then u2 V c 0 x c 0 else u2 V c 0 x c 4) = mn (V c 4) x := by
      simp (decide := true) only [u2_ap, reduceIte]
      rfl
    rw [e]
  · show _ = u2 V c 1 x
    simp (decide := true) only [u2_ap, reduceIte]
    rw [if_neg (by omega)]
    funext c' k
    simp only [u2_ap]
    by_cases a : c' = c
    · subst a
      by_cases b : k = 4
      · subst b; simp
      · simp [b]
    · simp [a]
  · show _ = u2 V c 2 x
    simp (decide := true) only [u2_ap, reduceIte]
    rw [if_neg (by omega)]
    funext c' k
    simp only [u2_ap]
    by_cases a : c' = c
    · subst a
      by_cases b : k = 4
      · subst b; simp
      · simp [b]
    · simp [a]
/-- the row of numbers holds the same -/
theorem dp_cvf {E : dp_E} {M : dp_M} {V V' X : dp_V} {H : Heap} (h : ∀ i, i < 193 → dp_fl V i = dp_fl V' i) (hW : dp_W E (dN M V X) H) : dp_W E (dN M V' X) H := by
  refine hW.eqv (fun r c hm => ?_)
  by_cases e : (r, c) = (8, 1)
  · cases e
    rw [dp_xms, dp_xms]
    exact Or.inr (fun H q => dp_at_ints h q)
  · exact Or.inl (dp_frM r c hm e).symm
theorem dp_xas {E : dp_E} {M : dp_M} {V X : dp_V} : dp_x E (dN M V X) 8 3 = dp_ints (eI E) 193 (dp_fl (M 10)) := by
  show dp_ints (eI E) 193 (dp_fl (dN M V X 10)) = _
  rw [dN_ne (by decide) (by decide)]
theorem dp_frA {E : dp_E} {M : dp_M} {V X Z : dp_V} : ∀ r' c', (r', c') ∈ dp_ps → (r', c') ≠ (8, 3) → dp_x E (dN (dR M 10 Z) V X) r' c' = dp_x E (dN M V X) r' c' := by
  intro r' c' hm hne
  by_cases e : r' = 8
  · subst e
    have hl : c' < 6 := by
      rcases dp_mem.mp hm with ⟨a, -⟩ | ⟨a, -⟩ | ⟨-, b⟩
      · omega
      · omega
      · exact b
    have hc : c' ≠ 3 := fun q => hne (by rw [q])
    rw [dp_x_M, dp_x_M]
    unfold dp_xM
    have e40 : ∀ j, dN (dR M 10 Z) V X (40 + j) = dN M V X (40 + j) := fun j => by rw [dN_ne (by omega) (by omega), dN_ne (by omega) (by omega), dR_ne (by omega)]
    rw [dN_X, dN_X, dN_V, dN_V]
    simp only [e40]
    rcases (by omega : c' = 0 ∨ c' = 1 ∨ c' = 2 ∨ c' = 4 ∨ c' = 5) with rfl | rfl | rfl | rfl | rfl <;> rfl
  · refine dp_frX hm (fun q => ?_) (fun q => ?_) (fun q => absurd q e)
    · exact ⟨dN_lt (dR_ne (by omega)), dN_lt (dR_ne (by omega))⟩
    · exact dN_lt (dR_ne (by omega))
theorem dp_cva {E : dp_E} {M : dp_M} {V X Z Z' : dp_V} {H : Heap} (h : ∀ i, i < 193 → dp_fl Z i = dp_fl Z' i) (hW : dp_W E (dN (dR M 10 Z) V X) H) : dp_W E (dN (dR M 10 Z') V X) H := by
  refine hW.eqv (fun r c hm => ?_)
  by_cases e : (r, c) = (8, 3)
  · cases e
    rw [dp_xas, dp_xas, dR_same, dR_same]
    exact Or.inr (fun H q => dp_at_ints h q)
  · refine Or.inl ?_
    rw [dp_frA r c hm e, dp_frA r c hm e]
theorem dR_id {M : dp_M} {r : Nat} : dR M r (M r) = M := by
  funext r'
  unfold dR
  split
  · rename_i h; rw [h]
  · rfl
def unM (M : dp_M) (X : dp_V) : dp_M := dN M (M (40 + (X 0 0 - 1).toNat)) (u2 X 0 0 (X 0 0 - 1))
theorem yyX7_copies : yX7_copies.cls = RX7 ∧ yX7_copies.cls ≠ "java/lang/invoke/MethodHandle" ∧ yX7_copies.cls ≠ "java/lang/invoke/VarHandle" ∧ (parseMethodDescriptor yX7_copies.desc).map (fun d => d.parameters.length) = some 2 := by decide +kernel
set_option maxHeartbeats 4000000 in
set_option maxRecDepth 100000 in
theorem c_X7_copies {E : dp_E} (hE : dp_OK E) (l : Launch) {M : dp_M} {V X : dp_V} : dp_met E l yX7_copies wsX7_copies 0 0 [.ref (eAd E 8 0), .ref (eAd E 8 3), .ref (eAd E 8 1)] (dN M V X) (dp_qv E (fun M1 => M1 = dN (dR M 10 V) V X)) := by
  refine dp_of (cc := cX7_copies) (nL := 4) (own := RX7) (ret := none) (by decide +kernel) rfl rfl hE (by simp [Value.category]) (Nat.le_of_ble_eq_true rfl) ?_
  intro p e s m below meth co C hret
  show dp_G _ _ _ _ _ _ _ _ _ _ _ _ _ _ _ _ _ [some (.ref (eAd E 8 0)), some (.ref (eAd E 8 3)), some (.ref (eAd E 8 1)), none] _
  have J2 : ∀ (n k : Nat) (ki : Int) (Z : dp_V), k + n = 193 → ki = k → (∀ i, i < 193 → dp_fl Z i = (if i < k then dp_fl V i else dp_fl (M 10) i)) → dp_G E (dp_A E) p l e (dp_rm 0 0) s m [.ref (eAd E 8 0), .ref (eAd E 8 3), .ref (eAd E 8 1)].toArray below meth co 0 0 (MQ below (dp_qv E (fun M1 => M1 = dN (dR M 10 V) V X)) [.ref (eAd E 8 0), .ref (eAd E 8 3), .ref (eAd E 8 1)].toArray s 0 0 (dp_A E)) (dN (dR M 10 Z) V X) 2 [some (.ref (eAd E 8 0)), some (.ref (eAd E 8 3)), some (.ref (eAd E 8 1)), some (.int (dp_I ki))] [] := by
    refine dp_ind (fun n ih => ?_)
    intro k ki Z hkn hki hh
    refine dp_iload_n C dX7_copies_2 rfl ?_
    refine dp_sipush C dX7_copies_3 (by decide) ?_
    refine dp_icmp_ge (tgt := 21) C dX7_copies_6 (by decide) ⟨by omega, by omega⟩ ⟨by omega, by omega⟩ (fun c6 => ?_) (fun c6 => ?_)
    · skip
      obtain rfl : n = 0 := by omega
      refine dp_cv (M' := dN (dR M 10 V) V X) (fun H hW => dp_cva (fun i hi => by rw [hh i hi, if_pos (by omega)]) hW) ?_
      refine dp_vret C hret dX7_copies_21 ?_
      rfl
    · skip
      obtain ⟨n, rfl⟩ : ∃ n', n = n' + 1 := ⟨n - 1, by omega⟩
      refine dp_aload_n C dX7_copies_9 rfl ?_
      refine dp_iload_n C dX7_copies_10 rfl ?_
      refine dp_aload_n C dX7_copies_11 rfl ?_
      refine dp_iload_n C dX7_copies_12 rfl ?_
      refine dp_ald_ms C (j := k) ⟨by omega, by omega⟩ (show ki.toNat = k by omega) (c9 := (dp_ce k)) (k9 := (dp_sl k)) rfl rfl dX7_copies_13 ?_
      refine dp_iast (M' := dN (dR M 10 (u2 Z (dp_ce k) (dp_sl k) (V (dp_ce k) (dp_sl k)))) V X) C (dp_mM (by decide)) (by rw [dp_xas, dR_same]) ⟨by omega, by omega⟩ (by decide) (by rw [dp_xas, dR_same, dp_fl_put, show ki.toNat = k by omega]) (fun r' c' hm hne => by rw [dp_frA r' c' hm hne, dp_frA r' c' hm hne]) dX7_copies_14 ?_
      refine dp_iinc C dX7_copies_15 rfl ?_
      dsimp only [List.set]
      refine dp_goto (tgt := 2) C dX7_copies_18 (by decide) ?_
      exact ih n (by omega) (k + 1) _ _ (by omega) (by omega) (fun i hi => by
        rw [dp_fl_put]
        unfold u1
        by_cases e : i = k
        · rw [if_pos e, if_pos (by omega), e]; rfl
        · rw [if_neg e, hh i hi]
          by_cases e2 : i < k
          · rw [if_pos e2, if_pos (by omega)]
          · rw [if_neg e2, if_neg (by omega)])
  refine dp_cv (M' := dN (dR M 10 (M 10)) V X) (fun H hW => by rw [dR_id]; exact hW) ?_
  refine dp_iconst C dX7_copies_0 ?_
  refine dp_istore_n C dX7_copies_1 (Nat.le_of_ble_eq_true rfl) ?_
  dsimp only [List.set]
  exact J2 193 0 _ _ (by omega) rfl (fun i hi => by rw [if_neg (by omega)])
set_option maxHeartbeats 4000000 in
set_option maxRecDepth 100000 in
theorem c_X7_copiesB {E : dp_E} (hE : dp_OK E) (l : Launch) {M : dp_M} {V X : dp_V} : dp_met E l yX7_copies wsX7_copies 0 0 [.ref (eAd E 8 0), .ref (eAd E 8 1), .ref (eAd E 8 3)] (dN M V X) (dp_qv E (fun M1 => M1 = dN M (M 10) X)) := by
  refine dp_of (cc := cX7_copies) (nL := 4) (own := RX7) (ret := none) (by decide +kernel) rfl rfl hE (by simp [Value.category]) (Nat.le_of_ble_eq_true rfl) ?_
  intro p e s m below meth co C hret
  show dp_G _ _ _ _ _ _ _ _ _ _ _ _ _ _ _ _ _ [some (.ref (eAd E 8 0)), some (.ref (eAd E 8 1)), some (.ref (eAd E 8 3)), none] _
  have J2 : ∀ (n k : Nat) (ki : Int) (V' : dp_V), k + n = 193 → ki = k → (∀ i, i < 193 → dp_fl V' i = (if i < k then dp_fl (M 10) i else dp_fl V i)) → dp_G E (dp_A E) p l e (dp_rm 0 0) s m [.ref (eAd E 8 0), .ref (eAd E 8 1), .ref (eAd E 8 3)].toArray below meth co 0 0 (MQ below (dp_qv E (fun M1 => M1 = dN M (M 10) X)) [.ref (eAd E 8 0), .ref (eAd E 8 1), .ref (eAd E 8 3)].toArray s 0 0 (dp_A E)) (dN M V' X) 2 [some (.ref (eAd E 8 0)), some (.ref (eAd E 8 1)), some (.ref (eAd E 8 3)), some (.int (dp_I ki))] [] := by
    refine dp_ind (fun n ih => ?_)
    intro k ki V' hkn hki hh
    refine dp_iload_n C dX7_copies_2 rfl ?_
    refine dp_sipush C dX7_copies_3 (by decide) ?_
    refine dp_icmp_ge (tgt := 21) C dX7_copies_6 (by decide) ⟨by omega, by omega⟩ ⟨by omega, by omega⟩ (fun c6 => ?_) (fun c6 => ?_)
    · skip
      obtain rfl : n = 0 := by omega
      refine dp_cv (M' := dN M (M 10) X) (fun H hW => dp_cvf (fun i hi => by rw [hh i hi, if_pos (by omega)]) hW) ?_
      refine dp_vret C hret dX7_copies_21 ?_
      rfl
    · skip
      obtain ⟨n, rfl⟩ : ∃ n', n = n' + 1 := ⟨n - 1, by omega⟩
      refine dp_aload_n C dX7_copies_9 rfl ?_
      refine dp_iload_n C dX7_copies_10 rfl ?_
      refine dp_aload_n C dX7_copies_11 rfl ?_
      refine dp_iload_n C dX7_copies_12 rfl ?_
      refine dp_iald (j := k) C (dp_mM (by decide)) dp_xas ⟨by omega, by omega⟩ (by decide) (show ki.toNat = k by omega) dX7_copies_13 ?_
      refine dp_ast_ms C (j := k) ⟨by omega, by omega⟩ (show ki.toNat = k by omega) (c9 := (dp_ce k)) (k9 := (dp_sl k)) rfl rfl dX7_copies_14 ?_
      refine dp_iinc C dX7_copies_15 rfl ?_
      dsimp only [List.set]
      refine dp_goto (tgt := 2) C dX7_copies_18 (by decide) ?_
      exact ih n (by omega) (k + 1) _ _ (by omega) (by omega) (fun i hi => by
        rw [dp_fl_put]
        unfold u1
        by_cases e : i = k
        · rw [if_pos e, if_pos (by omega), e]
        · rw [if_neg e, hh i hi]
          by_cases e2 : i < k
          · rw [if_pos e2, if_pos (by omega)]
          · rw [if_neg e2, if_neg (by omega)])
  refine dp_iconst C dX7_copies_0 ?_
  refine dp_istore_n C dX7_copies_1 (Nat.le_of_ble_eq_true rfl) ?_
  dsimp only [List.set]
  exact J2 193 0 _ _ (by omega) rfl (fun i hi => by rw [if_neg (by omega)])
theorem yyX7_undo : yX7_undo.cls = RX7 ∧ yX7_undo.cls ≠ "java/lang/invoke/MethodHandle" ∧ yX7_undo.cls ≠ "java/lang/invoke/VarHandle" ∧ (parseMethodDescriptor yX7_undo.desc).map (fun d => d.parameters.length) = some 0 := by decide +kernel
set_option maxHeartbeats 4000000 in
set_option maxRecDepth 100000 in
theorem c_X7_undo {E : dp_E} (hE : dp_OK E) (l : Launch) {M : dp_M} {V X : dp_V} (hs : 0 ≤ X 0 0 ∧ X 0 0 ≤ 5) : dp_met E l yX7_undo wsX7_undo 0 0 [.ref (eAd E 8 0)] (dN M V X) (dp_qi E (fun y M1 => y = (if X 0 0 = 0 then -100002 else X 0 0 - 1) ∧ M1 = (if X 0 0 = 0 then dN M V X else unM M X))) := by
  refine dp_of (cc := cX7_undo) (nL := 2) (own := RX7) (ret := some (.int)) (by decide +kernel) rfl rfl hE (by simp [Value.category]) (Nat.le_of_ble_eq_true rfl) ?_
  intro p e s m below meth co C hret
  show dp_G _ _ _ _ _ _ _ _ _ _ _ _ _ _ _ _ _ [some (.ref (eAd E 8 0)), none] _
  have hX7 : ∀ w ∈ u_ws RX7 TX7 12, w ∈ wsX7_undo := fun w h => List.mem_cons_of_mem _ (List.mem_append_right _ (h))
  have J22 : ∀ (n k : Nat) (ki : Int) (V' : dp_V), k + n = 193 → ki = k → 1 ≤ X 0 0 → (∀ i, i < 193 → dp_fl V' i = (if i < k then dp_fl (M (40 + (X 0 0 - 1).toNat)) i else dp_fl V i)) → dp_G E (dp_A E) p l e (dp_rm 0 0) s m [.ref (eAd E 8 0)].toArray below meth co 0 0 (MQ below (dp_qi E (fun y M1 => y = (if X 0 0 = 0 then -100002 else X 0 0 - 1) ∧ M1 = (if X 0 0 = 0 then dN M V X else unM M X))) [.ref (eAd E 8 0)].toArray s 0 0 (dp_A E)) (dN M V' (u2 X 0 0 (X 0 0 - 1))) 22 [some (.ref (eAd E 8 0)), some (.int (dp_I ki))] [] := by
    refine dp_ind (fun n ih => ?_)
    intro k ki V' hkn hki hs1 hh
    refine dp_iload_n C dX7_undo_22 rfl ?_
    refine dp_sipush C dX7_undo_23 (by decide) ?_
    refine dp_icmp_ge (tgt := 56) C dX7_undo_26 (by decide) ⟨by omega, by omega⟩ ⟨by omega, by omega⟩ (fun c26 => ?_) (fun c26 => ?_)
    · skip
      obtain rfl : n = 0 := by omega
      refine dp_aload_n C dX7_undo_56 rfl ?_
      refine dp_getf C (k := 3) (dp_mM (by decide)) dp_xmo rfl hX7 (by decide) (List.mem_of_getElem? (i := 1) rfl) rfl dX7_undo_57 ?_
      rw [u2_same, u1_same]
      refine dp_cv (M' := dN M (M (40 + (X 0 0 - 1).toNat)) (u2 X 0 0 (X 0 0 - 1))) (fun H hW => dp_cvf (fun i hi => by rw [hh i hi, if_pos (by omega)]) hW) ?_
      refine dp_iret C hret dX7_undo_60 ?_
      first | exact ⟨by rw [if_pos (by assumption)], by rw [if_pos (by assumption)]⟩ | exact ⟨by rw [if_neg (by omega)], by rw [if_neg (by omega)]; rfl⟩
    · skip
      obtain ⟨n, rfl⟩ : ∃ n', n = n' + 1 := ⟨n - 1, by omega⟩
      refine dp_aload_n C dX7_undo_29 rfl ?_
      refine dp_getf C (k := 0) (dp_mM (by decide)) dp_xmo rfl hX7 (by decide) (List.mem_of_getElem? (i := 3) rfl) rfl dX7_undo_30 ?_
      refine dp_iload_n C dX7_undo_33 rfl ?_
      refine dp_aload_n C dX7_undo_34 rfl ?_
      refine dp_getf C (k := 1) (dp_mM (by decide)) dp_xmo rfl hX7 (by decide) (List.mem_of_getElem? (i := 4) rfl) rfl dX7_undo_35 ?_
      refine dp_sipush C dX7_undo_38 (by decide) ?_
      refine dp_aload_n C dX7_undo_41 rfl ?_
      refine dp_getf C (k := 3) (dp_mM (by decide)) dp_xmo rfl hX7 (by decide) (List.mem_of_getElem? (i := 1) rfl) rfl dX7_undo_42 ?_
      rw [u2_same, u1_same]
      refine dp_imul C dX7_undo_45 ?_
      refine dp_iload_n C dX7_undo_46 rfl ?_
      refine dp_iadd C dX7_undo_47 ?_
      refine dp_iald (j := (193 * (X 0 0 - 1) + ki).toNat) C (dp_mM (by decide)) dp_xwa ⟨by omega, by omega⟩ (by decide) rfl dX7_undo_48 ?_
      refine dp_ast_ms C (j := k) ⟨by omega, by omega⟩ (show ki.toNat = k by omega) (c9 := (dp_ce k)) (k9 := (dp_sl k)) rfl rfl dX7_undo_49 ?_
      refine dp_iinc C dX7_undo_50 rfl ?_
      dsimp only [List.set]
      refine dp_goto (tgt := 22) C dX7_undo_53 (by decide) ?_
      exact ih n (by omega) (k + 1) _ _ (by omega) (by omega) hs1 (fun i hi => by
        rw [dp_fl_put]
        unfold u1
        by_cases e : i = k
        · rw [if_pos e, if_pos (by omega), e]
          unfold waF
          rw [dN_ne (by omega) (by omega), show (193 * (X 0 0 - 1) + ki).toNat / 193 = (X 0 0 - 1).toNat by omega, show (193 * (X 0 0 - 1) + ki).toNat % 193 = k by omega]
        · rw [if_neg e, hh i hi]
          by_cases e2 : i < k
          · rw [if_pos e2, if_pos (by omega)]
          · rw [if_neg e2, if_neg (by omega)])
  refine dp_aload_n C dX7_undo_0 rfl ?_
  refine dp_getf C (k := 3) (dp_mM (by decide)) dp_xmo rfl hX7 (by decide) (List.mem_of_getElem? (i := 1) rfl) rfl dX7_undo_1 ?_
  refine dp_if_ne (tgt := 10) C dX7_undo_4 (by decide) ⟨by omega, by omega⟩ (fun c4 => ?_) (fun c4 => ?_)
  · skip
    have hs1 : 1 ≤ X 0 0 := by omega
    refine dp_aload_n C dX7_undo_10 rfl ?_
    refine dp_dup C dX7_undo_11 rfl ?_
    refine dp_getf C (k := 3) (dp_mM (by decide)) dp_xmo rfl hX7 (by decide) (List.mem_of_getElem? (i := 1) rfl) rfl dX7_undo_12 ?_
    refine dp_iconst C dX7_undo_15 ?_
    refine dp_isub C dX7_undo_16 ?_
    refine dp_putM C  (k := 0) hX7 (by decide) (List.mem_of_getElem? (i := 1) rfl) rfl (tyX7_ok _ (by decide)) rfl rfl dX7_undo_17 ?_
    refine dp_iconst C dX7_undo_20 ?_
    refine dp_istore_n C dX7_undo_21 (Nat.le_of_ble_eq_true rfl) ?_
    dsimp only [List.set]
    exact J22 193 0 _ _ (by omega) rfl hs1 (fun i hi => by rw [if_neg (by omega)])
  · skip
    refine dp_ldc C (-100002) (List.mem_of_getElem? (i := 2) rfl) rfl dX7_undo_7 ?_
    refine dp_iret C hret dX7_undo_9 ?_
    first | exact ⟨by rw [if_pos (by assumption)], by rw [if_pos (by assumption)]⟩ | exact ⟨by rw [if_neg (by omega)], by rw [if_neg (by omega)]; rfl⟩
