theorem yyX0_change : yX0_change.cls = RX0 ∧ yX0_change.cls ≠ "java/lang/invoke/MethodHandle" ∧ yX0_change.cls ≠ "java/lang/invoke/VarHandle" ∧ (parseMethodDescriptor yX0_change.desc).map (fun d => d.parameters.length) = some 2 := by decide +kernel
set_option maxHeartbeats 4000000 in
set_option maxRecDepth 100000 in
theorem c_X0_change {E : dp_E} (hE : dp_OK E) (l : Launch) {M : dp_M} {r c : Nat} {V Y : dp_V} (hr : r < 7) (hc : c = 3 ∨ c = 4) {k x : Int} (hi : ivA c (V c)) (hk : dp_R k) (hx : -100000 ≤ x ∧ x ≤ 100000) : dp_met E l yX0_change wsX0_change 2 41 [.ref (eAd E r c), .int (dp_I k), .int (dp_I x)] (dS M r V Y) (dp_qi E (fun y M1 => y = axT c (V c) k ∧ M1 = dS M r (chV V c k x) Y)) := by
  refine dp_of (cc := cX0_change) (nL := 4) (own := RX0) (ret := some (.int)) (by decide +kernel) rfl rfl hE (by simp [Value.category]) (Nat.le_of_ble_eq_true rfl) ?_
  intro p e s m below meth co C hret
  show dp_G _ _ _ _ _ _ _ _ _ _ _ _ _ _ _ _ _ [some (.ref (eAd E r c)), some (.int (dp_I k)), some (.int (dp_I x)), none] _
  have hX0 : ∀ w ∈ u_ws RX0 TX0 10, w ∈ wsX0_change := fun w h => List.mem_cons_of_mem _ (List.mem_append_right _ (h))
  unfold ivA at hi
  unfold dp_R at hk
  refine dp_aload_n C dX0_change_0 rfl ?_
  refine dp_iload_n C dX0_change_1 rfl ?_
  refine dp_cVi C (c_X0_tell C.2.2.1 l ‹_› ‹_› hk) gX0_change_X0_tell rfl (dp_mS ‹_› (dp_cA ‹_›)) (dp_xax ‹_› ‹_›) rfl yyX0_tell rfl ⟨Nat.le_of_ble_eq_true rfl, Nat.le_of_ble_eq_true rfl⟩ rfl (Nat.le_of_ble_eq_true rfl) rfl ⟨Nat.zero_le _, Nat.zero_le _⟩ dX0_change_2 (fun x2 M2 h2 => ?_)
  obtain ⟨rfl, rfl⟩ := h2
  refine dp_istore_n C dX0_change_5 (Nat.le_of_ble_eq_true rfl) ?_
  dsimp only [List.set]
  refine dp_iload_n C dX0_change_6 rfl ?_
  refine dp_table (td := 71) C [32, 55, 63] dX0_change_7 (by decide) (by decide) (by decide) ⟨by omega, by omega⟩ (fun c7 => ?_) ?_
  · skip
    refine dp_iload_n C dX0_change_71 rfl ?_
    refine dp_iret C hret dX0_change_72 ?_
    refine ⟨rfl, ?_⟩
    unfold chV
    first | (rw [if_pos (show k = 0 by omega)]; rfl) | (rw [if_neg (show ¬ k = 0 by omega), if_pos (show k = 1 by omega)]; done) | (rw [if_neg (show ¬ k = 0 by omega), if_neg (show ¬ k = 1 by omega), if_pos (show k = 2 by omega)]; done) | (rw [if_neg (show ¬ k = 0 by omega), if_neg (show ¬ k = 1 by omega), if_neg (show ¬ k = 2 by omega)])
  · simp only [dp_sw]
    refine ⟨fun c7 => ?_, fun c7 => ?_, fun c7 => ?_, trivial⟩
    · skip
      refine dp_aload_n C dX0_change_32 rfl ?_
      refine dp_iload_n C dX0_change_33 rfl ?_
      refine dp_putA C ‹_› ‹_› (k := 0) hX0 (by decide) (List.mem_of_getElem? (i := 1) rfl) rfl (tyX0_ok _ (by decide)) rfl rfl dX0_change_34 ?_
      refine dp_aload_n C dX0_change_37 rfl ?_
      refine dp_aload_n C dX0_change_38 rfl ?_
      refine dp_getf C (k := 7) (dp_mS ‹_› (dp_cA ‹_›)) (dp_xax ‹_› ‹_›) rfl hX0 (by decide) (List.mem_of_getElem? (i := 2) rfl) rfl dX0_change_39 ?_
      simp (decide := true) only [u2_ap, reduceIte]
      refine dp_aload_n C dX0_change_42 rfl ?_
      refine dp_getf C (k := 3) (dp_mS ‹_› (dp_cA ‹_›)) (dp_xax ‹_› ‹_›) rfl hX0 (by decide) (List.mem_of_getElem? (i := 1) rfl) rfl dX0_change_43 ?_
      simp (decide := true) only [u2_ap, reduceIte]
      refine dp_mmin C ⟨by omega, by omega⟩ ⟨by omega, by omega⟩ (List.mem_of_getElem? (i := 3) rfl) (List.mem_of_getElem? (i := 4) rfl) (List.mem_of_getElem? (i := 5) rfl) (List.mem_of_getElem? (i := 6) rfl) (Nat.le_of_ble_eq_true rfl) (Nat.le_of_ble_eq_true rfl) (Nat.le_of_ble_eq_true rfl) rfl ⟨Nat.zero_le _, Nat.zero_le _⟩ dX0_change_46 ?_
      refine dp_putA C ‹_› ‹_› (k := 4) hX0 (by decide) (List.mem_of_getElem? (i := 2) rfl) rfl (tyX0_ok _ (by decide)) rfl rfl dX0_change_49 ?_
      refine dp_goto (tgt := 71) C dX0_change_52 (by decide) ?_
      refine dp_iload_n C dX0_change_71 rfl ?_
      refine dp_iret C hret dX0_change_72 ?_
      refine ⟨rfl, ?_⟩
      unfold chV
      first | (rw [if_pos (show k = 0 by omega)]; rfl) | (rw [if_neg (show ¬ k = 0 by omega), if_pos (show k = 1 by omega)]; done) | (rw [if_neg (show ¬ k = 0 by omega), if_neg (show ¬ k = 1 by omega), if_pos (show k = 2 by omega)]; done) | (rw [if_neg (show ¬ k = 0 by omega), if_neg (show ¬ k = 1 by omega), if_neg (show ¬ k = 2 by omega)])
    · skip
      refine dp_aload_n C dX0_change_55 rfl ?_
      refine dp_iload_n C dX0_change_56 rfl ?_
      refine dp_putA C ‹_› ‹_› (k := 1) hX0 (by decide) (List.mem_of_getElem? (i := 7) rfl) rfl (tyX0_ok _ (by decide)) rfl rfl dX0_change_57 ?_
      refine dp_goto (tgt := 71) C dX0_change_60 (by decide) ?_
      refine dp_iload_n C dX0_change_71 rfl ?_
      refine dp_iret C hret dX0_change_72 ?_
      refine ⟨rfl, ?_⟩
      unfold chV
      first | (rw [if_pos (show k = 0 by omega)]; rfl) | (rw [if_neg (show ¬ k = 0 by omega), if_pos (show k = 1 by omega)]; done) | (rw [if_neg (show ¬ k = 0 by omega), if_neg (show ¬ k = 1 by omega), if_pos (show k = 2 by omega)]; done) | (rw [if_neg (show ¬ k = 0 by omega), if_neg (show ¬ k = 1 by omega), if_neg (show ¬ k = 2 by omega)])
    · skip
      refine dp_aload_n C dX0_change_63 rfl ?_
      refine dp_iload_n C dX0_change_64 rfl ?_
      refine dp_putA C ‹_› ‹_› (k := 2) hX0 (by decide) (List.mem_of_getElem? (i := 8) rfl) rfl (tyX0_ok _ (by decide)) rfl rfl dX0_change_65 ?_
      refine dp_goto (tgt := 71) C dX0_change_68 (by decide) ?_
      refine dp_iload_n C dX0_change_71 rfl ?_
      refine dp_iret C hret dX0_change_72 ?_
      refine ⟨rfl, ?_⟩
      unfold chV
      first | (rw [if_pos (show k = 0 by omega)]; rfl) | (rw [if_neg (show ¬ k = 0 by omega), if_pos (show k = 1 by omega)]; done) | (rw [if_neg (show ¬ k = 0 by omega), if_neg (show ¬ k = 1 by omega), if_pos (show k = 2 by omega)]; done) | (rw [if_neg (show ¬ k = 0 by omega), if_neg (show ¬ k = 1 by omega), if_neg (show ¬ k = 2 by omega)])
theorem yyX0_follow : yX0_follow.cls = RX0 ∧ yX0_follow.cls ≠ "java/lang/invoke/MethodHandle" ∧ yX0_follow.cls ≠ "java/lang/invoke/VarHandle" ∧ (parseMethodDescriptor yX0_follow.desc).map (fun d => d.parameters.length) = some 1 := by decide +kernel
set_option maxHeartbeats 4000000 in
set_option maxRecDepth 100000 in
theorem c_X0_follow {E : dp_E} (hE : dp_OK E) (l : Launch) {M : dp_M} {r c w : Nat} {V Y : dp_V} (hr : r < 7) (hc : c = 3 ∨ c = 4) (hw : w = 16 ∨ w = 17 ∨ w = 18) (hi : ivA c (V c)) (h1 : axL c ≤ Y w 1 ∧ Y w 1 ≤ axH c) (h2 : axL c ≤ Y w 2 ∧ Y w 2 ≤ axH c) : dp_met E l yX0_follow wsX0_follow 2 43 [.ref (eAd E r c), .ref (eAd E r w)] (dS M r V Y) (dp_qv E (fun M1 => M1 = dS M r (mvV (mvV V c (Y w 1)) c (Y w 2)) Y)) := by
  refine dp_of (cc := cX0_follow) (nL := 2) (own := RX0) (ret := none) (by decide +kernel) rfl rfl hE (by simp [Value.category]) (Nat.le_of_ble_eq_true rfl) ?_
  intro p e s m below meth co C hret
  show dp_G _ _ _ _ _ _ _ _ _ _ _ _ _ _ _ _ _ [some (.ref (eAd E r c)), some (.ref (eAd E r w))] _
  have hX5 : ∀ w ∈ u_ws RX5 TX5 7, w ∈ wsX0_follow := fun w h => List.mem_cons_of_mem _ (List.mem_append_left _ (List.mem_append_right _ (h)))
  have hb := @ax_bd c
  have hi2 := mvV_iv hi h1
  refine dp_aload_n C dX0_follow_0 rfl ?_
  refine dp_aload_n C dX0_follow_1 rfl ?_
  refine dp_getf C (k := 1) (dp_mS ‹_› (dp_cW ‹_›)) (dp_xwy ‹_› ‹_›) rfl hX5 (by decide) (List.mem_of_getElem? (i := 1) rfl) rfl dX0_follow_2 ?_
  refine dp_cVv C (c_X0_moveTo C.2.2.1 l ‹_› ‹_› hi ⟨by omega, by omega⟩) gX0_follow_X0_moveTo rfl (dp_mS ‹_› (dp_cA ‹_›)) (dp_xax ‹_› ‹_›) rfl yyX0_moveTo rfl ⟨Nat.le_of_ble_eq_true rfl, Nat.le_of_ble_eq_true rfl⟩ rfl (Nat.le_of_ble_eq_true rfl) rfl ⟨Nat.zero_le _, Nat.zero_le _⟩ dX0_follow_5 (fun M5 h5 => ?_)
  obtain rfl := h5
  refine dp_aload_n C dX0_follow_8 rfl ?_
  refine dp_aload_n C dX0_follow_9 rfl ?_
  refine dp_getf C (k := 2) (dp_mS ‹_› (dp_cW ‹_›)) (dp_xwy ‹_› ‹_›) rfl hX5 (by decide) (List.mem_of_getElem? (i := 2) rfl) rfl dX0_follow_10 ?_
  refine dp_cVv C (c_X0_moveTo C.2.2.1 l ‹_› ‹_› hi2 ⟨by omega, by omega⟩) gX0_follow_X0_moveTo rfl (dp_mS ‹_› (dp_cA ‹_›)) (dp_xax ‹_› ‹_›) rfl yyX0_moveTo rfl ⟨Nat.le_of_ble_eq_true rfl, Nat.le_of_ble_eq_true rfl⟩ rfl (Nat.le_of_ble_eq_true rfl) rfl ⟨Nat.zero_le _, Nat.zero_le _⟩ dX0_follow_13 (fun M13 h13 => ?_)
  obtain rfl := h13
  refine dp_vret C hret dX0_follow_16 ?_
  rfl
theorem dp_xA0 {E : dp_E} {V Y : dp_V} {r c : Nat} (hc : c = 3 ∨ c = 4) : dp_xS E V Y r c = .inr (0, dp_fA c (V c)) := by
  rcases hc with rfl | rfl <;> rfl
theorem dp_xT0 {E : dp_E} {V Y : dp_V} {r t : Nat} (ht : t < 10) : dp_xS E V Y r (t + 6) = .inr (3, dp_f14 (V (t + 6))) := if_pos ht
/-- two memories of which the cells hold the same -/
theorem dp_cv {E : dp_E} {A : Nat → Prop} {p : Program} {l : Launch} {e : Env} {R : Room} {s : State} {m : MethodId} {args : Array Value} {below : List Frame} {meth : Method} {co : Code} {ce sl : Nat} {Q : State → Prop} {M M' : dp_M} {pc : Nat} {L : List (Option Value)} {st : List Value} (h : ∀ H, dp_W E M H → dp_W E M' H) (k : dp_G E A p l e R s m args below meth co ce sl Q M' pc L st) : dp_G E A p l e R s m args below meth co ce sl Q M pc L st := fun H locs ls hW hS hL => k H locs ls (h H hW) hS hL
/-- a state's region for another that holds the same -/
theorem dp_W.st {E : dp_E} {M : dp_M} {V V' Y : dp_V} {r : Nat} {H : Heap} (hr : r < 7) (h : ∀ c, c < 19 → ∀ H : Heap, va_at E.1 vwCl (eAd E r c, dp_xS E V Y r c) H → va_at E.1 vwCl (eAd E r c, dp_xS E V' Y r c) H) (hW : dp_W E (dS M r V Y) H) : dp_W E (dS M r V' Y) H := by
  refine hW.eqv (fun r' c hm => ?_)
  by_cases e : r' = r
  · subst e
    refine Or.inr (fun H => ?_)
    rw [dp_x_S hr, dp_x_S hr, dS_V, dS_V, dS_Y, dS_Y]
    rcases dp_mem.mp hm with ⟨-, a⟩ | ⟨a, -⟩ | ⟨a, -⟩
    · exact h c a H
    · omega
    · omega
  · refine Or.inl (dp_frX hm (fun h => ?_) (fun h => ?_) (fun h => ?_))
    · rw [dS_ne e (by omega), dS_ne e (by omega), dS_ne (by omega) (by omega), dS_ne (by omega) (by omega)]
      exact ⟨rfl, rfl⟩
    · subst h
      rw [dS_ne e (by omega), dS_ne e (by omega)]
    · subst h
      refine ⟨by rw [dS_ne (by omega) (by omega), dS_ne (by omega) (by omega)], by rw [dS_ne (by omega) (by omega), dS_ne (by omega) (by omega)]⟩
theorem dp_xS_uc {E : dp_E} {V Y : dp_V} {r c c' : Nat} {f : Nat → Int} (h : c' ≠ c) : dp_xS E (uc V c f) Y r c' = dp_xS E V Y r c' := by
  unfold dp_xS
  split <;> simp [uc, h]
theorem dp_f7_eq {f g : Nat → Int} (h : ∀ k, k < 7 → f k = g k) : dp_f7 f = dp_f7 g := by
  unfold dp_f7
  rw [h 0 (by omega), h 1 (by omega), h 2 (by omega), h 3 (by omega), h 4 (by omega), h 5 (by omega), h 6 (by omega)]
theorem dp_f14_eq {f g : Nat → Int} (h : ∀ k, k < 14 → f k = g k) : dp_f14 f = dp_f14 g := by
  unfold dp_f14
  rw [h 0 (by omega), h 1 (by omega), h 2 (by omega), h 3 (by omega), h 4 (by omega), h 5 (by omega), h 6 (by omega), h 7 (by omega), h 8 (by omega), h 9 (by omega), h 10 (by omega), h 11 (by omega), h 12 (by omega), h 13 (by omega)]
theorem dp_cvA {E : dp_E} {M : dp_M} {V Y : dp_V} {r c : Nat} {f g : Nat → Int} (hr : r < 7) (hc : c = 3 ∨ c = 4) (h : ∀ k, k < 7 → f k = g k) : ∀ H, dp_W E (dS M r (uc V c f) Y) H → dp_W E (dS M r (uc V c g) Y) H := fun H => dp_W.st hr (fun c' _ H => by
  by_cases e : c' = c
  · subst e
    rw [dp_xA0 hc, dp_xA0 hc, uc_same, uc_same]
    unfold dp_fA
    rw [dp_f7_eq h]
    exact id
  · rw [dp_xS_uc e, dp_xS_uc e]
    exact id)
theorem dp_cvT {E : dp_E} {M : dp_M} {V Y : dp_V} {r t : Nat} {f g : Nat → Int} (hr : r < 7) (ht : t < 10) (h : ∀ k, k < 14 → f k = g k) : ∀ H, dp_W E (dS M r (uc V (t + 6) f) Y) H → dp_W E (dS M r (uc V (t + 6) g) Y) H := fun H => dp_W.st hr (fun c' _ H => by
  by_cases e : c' = t + 6
  · subst e
    rw [dp_xT0 ht, dp_xT0 ht, uc_same, uc_same, dp_f14_eq h]
    exact id
  · rw [dp_xS_uc e, dp_xS_uc e]
    exact id)
theorem yyX0_copyFrom : yX0_copyFrom.cls = RX0 ∧ yX0_copyFrom.cls ≠ "java/lang/invoke/MethodHandle" ∧ yX0_copyFrom.cls ≠ "java/lang/invoke/VarHandle" ∧ (parseMethodDescriptor yX0_copyFrom.desc).map (fun d => d.parameters.length) = some 1 := by decide +kernel
set_option maxHeartbeats 4000000 in
set_option maxRecDepth 100000 in
theorem c_X0_copyFrom {E : dp_E} (hE : dp_OK E) (l : Launch) {M : dp_M} {r r2 c : Nat} {V Y : dp_V} (hr : r < 7) (hr2 : r2 < 7) (hne : r2 ≠ r) (hc : c = 3 ∨ c = 4) : dp_met E l yX0_copyFrom wsX0_copyFrom 0 0 [.ref (eAd E r c), .ref (eAd E r2 c)] (dS M r V Y) (dp_qv E (fun M1 => M1 = dS M r (uc V c (M r2 c)) Y)) := by
  refine dp_of (cc := cX0_copyFrom) (nL := 2) (own := RX0) (ret := none) (by decide +kernel) rfl rfl hE (by simp [Value.category]) (Nat.le_of_ble_eq_true rfl) ?_
  intro p e s m below meth co C hret
  show dp_G _ _ _ _ _ _ _ _ _ _ _ _ _ _ _ _ _ [some (.ref (eAd E r c)), some (.ref (eAd E r2 c))] _
  have hX0 : ∀ w ∈ u_ws RX0 TX0 10, w ∈ wsX0_copyFrom := fun w h => List.mem_cons_of_mem _ (List.mem_append_right _ (h))
  refine dp_aload_n C dX0_copyFrom_0 rfl ?_
  refine dp_aload_n C dX0_copyFrom_1 rfl ?_
  refine dp_getf C (k := 3) (dp_mS ‹r2 < 7› (dp_cA ‹_›)) (by rw [dp_x_S ‹_›, dS_ne (by omega) (by omega)]; exact dp_xA0 ‹_›) rfl hX0 (by decide) (List.mem_of_getElem? (i := 1) rfl) rfl dX0_copyFrom_2 ?_
  refine dp_putA C ‹_› ‹_› (k := 0) hX0 (by decide) (List.mem_of_getElem? (i := 1) rfl) rfl (tyX0_ok _ (by decide)) rfl rfl dX0_copyFrom_5 ?_
  refine dp_aload_n C dX0_copyFrom_8 rfl ?_
  refine dp_aload_n C dX0_copyFrom_9 rfl ?_
  refine dp_getf C (k := 4) (dp_mS ‹r2 < 7› (dp_cA ‹_›)) (by rw [dp_x_S ‹_›, dS_ne (by omega) (by omega)]; exact dp_xA0 ‹_›) rfl hX0 (by decide) (List.mem_of_getElem? (i := 2) rfl) rfl dX0_copyFrom_10 ?_
  refine dp_putA C ‹_› ‹_› (k := 1) hX0 (by decide) (List.mem_of_getElem? (i := 2) rfl) rfl (tyX0_ok _ (by decide)) rfl rfl dX0_copyFrom_13 ?_
  refine dp_aload_n C dX0_copyFrom_16 rfl ?_
  refine dp_aload_n C dX0_copyFrom_17 rfl ?_
  refine dp_getf C (k := 5) (dp_mS ‹r2 < 7› (dp_cA ‹_›)) (by rw [dp_x_S ‹_›, dS_ne (by omega) (by omega)]; exact dp_xA0 ‹_›) rfl hX0 (by decide) (List.mem_of_getElem? (i := 3) rfl) rfl dX0_copyFrom_18 ?_
  refine dp_putA C ‹_› ‹_› (k := 2) hX0 (by decide) (List.mem_of_getElem? (i := 3) rfl) rfl (tyX0_ok _ (by decide)) rfl rfl dX0_copyFrom_21 ?_
  refine dp_aload_n C dX0_copyFrom_24 rfl ?_
  refine dp_aload_n C dX0_copyFrom_25 rfl ?_
  refine dp_getf C (k := 6) (dp_mS ‹r2 < 7› (dp_cA ‹_›)) (by rw [dp_x_S ‹_›, dS_ne (by omega) (by omega)]; exact dp_xA0 ‹_›) rfl hX0 (by decide) (List.mem_of_getElem? (i := 4) rfl) rfl dX0_copyFrom_26 ?_
  refine dp_putA C ‹_› ‹_› (k := 3) hX0 (by decide) (List.mem_of_getElem? (i := 4) rfl) rfl (tyX0_ok _ (by decide)) rfl rfl dX0_copyFrom_29 ?_
  refine dp_aload_n C dX0_copyFrom_32 rfl ?_
  refine dp_aload_n C dX0_copyFrom_33 rfl ?_
  refine dp_getf C (k := 7) (dp_mS ‹r2 < 7› (dp_cA ‹_›)) (by rw [dp_x_S ‹_›, dS_ne (by omega) (by omega)]; exact dp_xA0 ‹_›) rfl hX0 (by decide) (List.mem_of_getElem? (i := 5) rfl) rfl dX0_copyFrom_34 ?_
  refine dp_putA C ‹_› ‹_› (k := 4) hX0 (by decide) (List.mem_of_getElem? (i := 5) rfl) rfl (tyX0_ok _ (by decide)) rfl rfl dX0_copyFrom_37 ?_
  refine dp_aload_n C dX0_copyFrom_40 rfl ?_
  refine dp_aload_n C dX0_copyFrom_41 rfl ?_
  refine dp_getf C (k := 8) (dp_mS ‹r2 < 7› (dp_cA ‹_›)) (by rw [dp_x_S ‹_›, dS_ne (by omega) (by omega)]; exact dp_xA0 ‹_›) rfl hX0 (by decide) (List.mem_of_getElem? (i := 6) rfl) rfl dX0_copyFrom_42 ?_
  refine dp_putA C ‹_› ‹_› (k := 5) hX0 (by decide) (List.mem_of_getElem? (i := 6) rfl) rfl (tyX0_ok _ (by decide)) rfl rfl dX0_copyFrom_45 ?_
  refine dp_aload_n C dX0_copyFrom_48 rfl ?_
  refine dp_aload_n C dX0_copyFrom_49 rfl ?_
  refine dp_getf C (k := 9) (dp_mS ‹r2 < 7› (dp_cA ‹_›)) (by rw [dp_x_S ‹_›, dS_ne (by omega) (by omega)]; exact dp_xA0 ‹_›) rfl hX0 (by decide) (List.mem_of_getElem? (i := 7) rfl) rfl dX0_copyFrom_50 ?_
  refine dp_putA C ‹_› ‹_› (k := 6) hX0 (by decide) (List.mem_of_getElem? (i := 7) rfl) rfl (tyX0_ok _ (by decide)) rfl rfl dX0_copyFrom_53 ?_
  refine dp_cv (M' := dS M r (uc V c (M r2 c)) Y) ?_ ?_
  · simp only [u2_uc, uc_uc, uc_same]
    exact dp_cvA ‹_› ‹_› (fun k hk => by unfold u1; rcases (by omega : k = 0 ∨ k = 1 ∨ k = 2 ∨ k = 3 ∨ k = 4 ∨ k = 5 ∨ k = 6) with rfl | rfl | rfl | rfl | rfl | rfl | rfl <;> rfl)
  refine dp_vret C hret dX0_copyFrom_56 ?_
  rfl
theorem yyX3_ifBegun : yX3_ifBegun.cls = RX3 ∧ yX3_ifBegun.cls ≠ "java/lang/invoke/MethodHandle" ∧ yX3_ifBegun.cls ≠ "java/lang/invoke/VarHandle" ∧ (parseMethodDescriptor yX3_ifBegun.desc).map (fun d => d.parameters.length) = some 1 := by decide +kernel
set_option maxHeartbeats 4000000 in
set_option maxRecDepth 100000 in
theorem c_X3_ifBegun {E : dp_E} (hE : dp_OK E) (l : Launch) {M : dp_M} {r t : Nat} {V Y : dp_V} (hr : r < 7) (ht : t < 10) {x : Int} (hs : 0 ≤ V (t + 6) 6 ∧ V (t + 6) 6 ≤ 4) : dp_met E l yX3_ifBegun wsX3_ifBegun 0 0 [.ref (eAd E r (t + 6)), .int (dp_I x)] (dS M r V Y) (dp_qi E (fun y M1 => y = ibF (V (t + 6) 6) x ∧ M1 = dS M r V Y)) := by
  refine dp_of (cc := cX3_ifBegun) (nL := 2) (own := RX3) (ret := some (.int)) (by decide +kernel) rfl rfl hE (by simp [Value.category]) (Nat.le_of_ble_eq_true rfl) ?_
  intro p e s m below meth co C hret
  show dp_G _ _ _ _ _ _ _ _ _ _ _ _ _ _ _ _ _ [some (.ref (eAd E r (t + 6))), some (.int (dp_I x))] _
  have hX3 : ∀ w ∈ u_ws RX3 TX3 14, w ∈ wsX3_ifBegun := fun w h => List.mem_cons_of_mem _ (List.mem_append_right _ (h))
  refine dp_aload_n C dX3_ifBegun_0 rfl ?_
  refine dp_getf C (k := 6) (dp_mS ‹_› (dp_cT ‹_›)) (dp_xtg ‹_› ‹_›) rfl hX3 (by decide) (List.mem_of_getElem? (i := 1) rfl) rfl dX3_ifBegun_1 ?_
  refine dp_iconst C dX3_ifBegun_4 ?_
  refine dp_icmp_eq (tgt := 16) C dX3_ifBegun_5 (by decide) ⟨by omega, by omega⟩ ⟨by omega, by omega⟩ (fun c5 => ?_) (fun c5 => ?_)
  · skip
    refine dp_iload_n C dX3_ifBegun_16 rfl ?_
    refine dp_goto (tgt := 22) C dX3_ifBegun_17 (by decide) ?_
    refine dp_iret C hret dX3_ifBegun_22 ?_
    refine ⟨?_, rfl⟩
    unfold ibF
    repeat (first | rw [if_neg (by omega)] | rw [if_pos (by omega)])
  · skip
    refine dp_aload_n C dX3_ifBegun_8 rfl ?_
    refine dp_getf C (k := 6) (dp_mS ‹_› (dp_cT ‹_›)) (dp_xtg ‹_› ‹_›) rfl hX3 (by decide) (List.mem_of_getElem? (i := 1) rfl) rfl dX3_ifBegun_9 ?_
    refine dp_iconst C dX3_ifBegun_12 ?_
    refine dp_icmp_ne (tgt := 20) C dX3_ifBegun_13 (by decide) ⟨by omega, by omega⟩ ⟨by omega, by omega⟩ (fun c13 => ?_) (fun c13 => ?_)
    · skip
      refine dp_ldc C (-100004) (List.mem_of_getElem? (i := 2) rfl) rfl dX3_ifBegun_20 ?_
      refine dp_iret C hret dX3_ifBegun_22 ?_
      refine ⟨?_, rfl⟩
      unfold ibF
      repeat (first | rw [if_neg (by omega)] | rw [if_pos (by omega)])
    · skip
      refine dp_iload_n C dX3_ifBegun_16 rfl ?_
      refine dp_goto (tgt := 22) C dX3_ifBegun_17 (by decide) ?_
      refine dp_iret C hret dX3_ifBegun_22 ?_
      refine ⟨?_, rfl⟩
      unfold ibF
      repeat (first | rw [if_neg (by omega)] | rw [if_pos (by omega)])
theorem yyX3_tell : yX3_tell.cls = RX3 ∧ yX3_tell.cls ≠ "java/lang/invoke/MethodHandle" ∧ yX3_tell.cls ≠ "java/lang/invoke/VarHandle" ∧ (parseMethodDescriptor yX3_tell.desc).map (fun d => d.parameters.length) = some 1 := by decide +kernel
set_option maxHeartbeats 4000000 in
set_option maxRecDepth 100000 in
theorem c_X3_tell {E : dp_E} (hE : dp_OK E) (l : Launch) {M : dp_M} {r t : Nat} {V Y : dp_V} (hr : r < 7) (ht : t < 10) {x : Int} (hs : 0 ≤ V (t + 6) 6 ∧ V (t + 6) 6 ≤ 4) (hx : dp_R x) : dp_met E l yX3_tell wsX3_tell 1 21 [.ref (eAd E r (t + 6)), .int (dp_I x)] (dS M r V Y) (dp_qi E (fun y M1 => y = tgT (V (t + 6)) x ∧ M1 = dS M r V Y)) := by
  refine dp_of (cc := cX3_tell) (nL := 2) (own := RX3) (ret := some (.int)) (by decide +kernel) rfl rfl hE (by simp [Value.category]) (Nat.le_of_ble_eq_true rfl) ?_
  intro p e s m below meth co C hret
  show dp_G _ _ _ _ _ _ _ _ _ _ _ _ _ _ _ _ _ [some (.ref (eAd E r (t + 6))), some (.int (dp_I x))] _
  have hX3 : ∀ w ∈ u_ws RX3 TX3 14, w ∈ wsX3_tell := fun w h => List.mem_cons_of_mem _ (List.mem_append_right _ (h))
  unfold dp_R at hx
  refine dp_iload_n C dX3_tell_0 rfl ?_
  refine dp_table (td := 162) C [68, 73, 78, 83, 88, 93, 98, 103, 112, 121, 130, 148, 153] dX3_tell_1 (by decide) (by decide) (by decide) ⟨by omega, by omega⟩ (fun c1 => ?_) ?_
  · skip
    refine dp_ldc C (-100001) (List.mem_of_getElem? (i := 15) rfl) rfl dX3_tell_162 ?_
    refine dp_iret C hret dX3_tell_164 ?_
    refine ⟨?_, rfl⟩
    unfold tgT
    repeat (first | rw [if_neg (by omega)] | rw [if_pos (by omega)])
  · simp only [dp_sw]
    refine ⟨fun c1 => ?_, fun c1 => ?_, fun c1 => ?_, fun c1 => ?_, fun c1 => ?_, fun c1 => ?_, fun c1 => ?_, fun c1 => ?_, fun c1 => ?_, fun c1 => ?_, fun c1 => ?_, fun c1 => ?_, fun c1 => ?_, trivial⟩
    · skip
      refine dp_aload_n C dX3_tell_68 rfl ?_
      refine dp_getf C (k := 0) (dp_mS ‹_› (dp_cT ‹_›)) (dp_xtg ‹_› ‹_›) rfl hX3 (by decide) (List.mem_of_getElem? (i := 1) rfl) rfl dX3_tell_69 ?_
      refine dp_iret C hret dX3_tell_72 ?_
      refine ⟨?_, rfl⟩
      unfold tgT
      repeat (first | rw [if_neg (by omega)] | rw [if_pos (by omega)])
    · skip
      refine dp_aload_n C dX3_tell_73 rfl ?_
      refine dp_getf C (k := 1) (dp_mS ‹_› (dp_cT ‹_›)) (dp_xtg ‹_› ‹_›) rfl hX3 (by decide) (List.mem_of_getElem? (i := 2) rfl) rfl dX3_tell_74 ?_
      refine dp_iret C hret dX3_tell_77 ?_
      refine ⟨?_, rfl⟩
      unfold tgT
      repeat (first | rw [if_neg (by omega)] | rw [if_pos (by omega)])
    · skip
      refine dp_aload_n C dX3_tell_78 rfl ?_
      refine dp_getf C (k := 2) (dp_mS ‹_› (dp_cT ‹_›)) (dp_xtg ‹_› ‹_›) rfl hX3 (by decide) (List.mem_of_getElem? (i := 3) rfl) rfl dX3_tell_79 ?_
      refine dp_iret C hret dX3_tell_82 ?_
      refine ⟨?_, rfl⟩
      unfold tgT
      repeat (first | rw [if_neg (by omega)] | rw [if_pos (by omega)])
    · skip
      refine dp_aload_n C dX3_tell_83 rfl ?_
      refine dp_getf C (k := 3) (dp_mS ‹_› (dp_cT ‹_›)) (dp_xtg ‹_› ‹_›) rfl hX3 (by decide) (List.mem_of_getElem? (i := 4) rfl) rfl dX3_tell_84 ?_
      refine dp_iret C hret dX3_tell_87 ?_
      refine ⟨?_, rfl⟩
      unfold tgT
      repeat (first | rw [if_neg (by omega)] | rw [if_pos (by omega)])
    · skip
      refine dp_aload_n C dX3_tell_88 rfl ?_
      refine dp_getf C (k := 4) (dp_mS ‹_› (dp_cT ‹_›)) (dp_xtg ‹_› ‹_›) rfl hX3 (by decide) (List.mem_of_getElem? (i := 5) rfl) rfl dX3_tell_89 ?_
      refine dp_iret C hret dX3_tell_92 ?_
      refine ⟨?_, rfl⟩
      unfold tgT
      repeat (first | rw [if_neg (by omega)] | rw [if_pos (by omega)])
    · skip
      refine dp_aload_n C dX3_tell_93 rfl ?_
      refine dp_getf C (k := 5) (dp_mS ‹_› (dp_cT ‹_›)) (dp_xtg ‹_› ‹_›) rfl hX3 (by decide) (List.mem_of_getElem? (i := 6) rfl) rfl dX3_tell_94 ?_
      refine dp_iret C hret dX3_tell_97 ?_
      refine ⟨?_, rfl⟩
      unfold tgT
      repeat (first | rw [if_neg (by omega)] | rw [if_pos (by omega)])
    · skip
      refine dp_aload_n C dX3_tell_98 rfl ?_
      refine dp_getf C (k := 6) (dp_mS ‹_› (dp_cT ‹_›)) (dp_xtg ‹_› ‹_›) rfl hX3 (by decide) (List.mem_of_getElem? (i := 7) rfl) rfl dX3_tell_99 ?_
      refine dp_iret C hret dX3_tell_102 ?_
      refine ⟨?_, rfl⟩
      unfold tgT
      repeat (first | rw [if_neg (by omega)] | rw [if_pos (by omega)])
    · skip
      refine dp_aload_n C dX3_tell_103 rfl ?_
      refine dp_aload_n C dX3_tell_104 rfl ?_
      refine dp_getf C (k := 7) (dp_mS ‹_› (dp_cT ‹_›)) (dp_xtg ‹_› ‹_›) rfl hX3 (by decide) (List.mem_of_getElem? (i := 8) rfl) rfl dX3_tell_105 ?_
      refine dp_cVi C (c_X3_ifBegun C.2.2.1 l ‹_› ‹_› ‹_›) gX3_tell_X3_ifBegun rfl (dp_mS ‹_› (dp_cT ‹_›)) (dp_xtg ‹_› ‹_›) rfl yyX3_ifBegun rfl ⟨Nat.le_of_ble_eq_true rfl, Nat.le_of_ble_eq_true rfl⟩ rfl (Nat.le_of_ble_eq_true rfl) rfl ⟨Nat.zero_le _, Nat.zero_le _⟩ dX3_tell_108 (fun x108 M108 h108 => ?_)
      obtain ⟨rfl, rfl⟩ := h108
      refine dp_iret C hret dX3_tell_111 ?_
      refine ⟨?_, rfl⟩
      unfold tgT
      repeat (first | rw [if_neg (by omega)] | rw [if_pos (by omega)])
    · skip
      refine dp_aload_n C dX3_tell_112 rfl ?_
      refine dp_aload_n C dX3_tell_113 rfl ?_
      refine dp_getf C (k := 8) (dp_mS ‹_› (dp_cT ‹_›)) (dp_xtg ‹_› ‹_›) rfl hX3 (by decide) (List.mem_of_getElem? (i := 9) rfl) rfl dX3_tell_114 ?_
      refine dp_cVi C (c_X3_ifBegun C.2.2.1 l ‹_› ‹_› ‹_›) gX3_tell_X3_ifBegun rfl (dp_mS ‹_› (dp_cT ‹_›)) (dp_xtg ‹_› ‹_›) rfl yyX3_ifBegun rfl ⟨Nat.le_of_ble_eq_true rfl, Nat.le_of_ble_eq_true rfl⟩ rfl (Nat.le_of_ble_eq_true rfl) rfl ⟨Nat.zero_le _, Nat.zero_le _⟩ dX3_tell_117 (fun x117 M117 h117 => ?_)
      obtain ⟨rfl, rfl⟩ := h117
      refine dp_iret C hret dX3_tell_120 ?_
      refine ⟨?_, rfl⟩
      unfold tgT
      repeat (first | rw [if_neg (by omega)] | rw [if_pos (by omega)])
    · skip
      refine dp_aload_n C dX3_tell_121 rfl ?_
      refine dp_aload_n C dX3_tell_122 rfl ?_
      refine dp_getf C (k := 9) (dp_mS ‹_› (dp_cT ‹_›)) (dp_xtg ‹_› ‹_›) rfl hX3 (by decide) (List.mem_of_getElem? (i := 10) rfl) rfl dX3_tell_123 ?_
      refine dp_cVi C (c_X3_ifBegun C.2.2.1 l ‹_› ‹_› ‹_›) gX3_tell_X3_ifBegun rfl (dp_mS ‹_› (dp_cT ‹_›)) (dp_xtg ‹_› ‹_›) rfl yyX3_ifBegun rfl ⟨Nat.le_of_ble_eq_true rfl, Nat.le_of_ble_eq_true rfl⟩ rfl (Nat.le_of_ble_eq_true rfl) rfl ⟨Nat.zero_le _, Nat.zero_le _⟩ dX3_tell_126 (fun x126 M126 h126 => ?_)
      obtain ⟨rfl, rfl⟩ := h126
      refine dp_iret C hret dX3_tell_129 ?_
      refine ⟨?_, rfl⟩
      unfold tgT
      repeat (first | rw [if_neg (by omega)] | rw [if_pos (by omega)])
    · skip
      refine dp_aload_n C dX3_tell_130 rfl ?_
      refine dp_getf C (k := 6) (dp_mS ‹_› (dp_cT ‹_›)) (dp_xtg ‹_› ‹_›) rfl hX3 (by decide) (List.mem_of_getElem? (i := 7) rfl) rfl dX3_tell_131 ?_
      refine dp_iconst C dX3_tell_134 ?_
      refine dp_icmp_ne (tgt := 145) C dX3_tell_135 (by decide) ⟨by omega, by omega⟩ ⟨by omega, by omega⟩ (fun c135 => ?_) (fun c135 => ?_)
      · skip
        refine dp_ldc C (-100004) (List.mem_of_getElem? (i := 12) rfl) rfl dX3_tell_145 ?_
        refine dp_iret C hret dX3_tell_147 ?_
        refine ⟨?_, rfl⟩
        unfold tgT
        repeat (first | rw [if_neg (by omega)] | rw [if_pos (by omega)])
      · skip
        refine dp_aload_n C dX3_tell_138 rfl ?_
        refine dp_getf C (k := 10) (dp_mS ‹_› (dp_cT ‹_›)) (dp_xtg ‹_› ‹_›) rfl hX3 (by decide) (List.mem_of_getElem? (i := 11) rfl) rfl dX3_tell_139 ?_
        refine dp_goto (tgt := 147) C dX3_tell_142 (by decide) ?_
        refine dp_iret C hret dX3_tell_147 ?_
        refine ⟨?_, rfl⟩
        unfold tgT
        repeat (first | rw [if_neg (by omega)] | rw [if_pos (by omega)])
    · skip
      refine dp_aload_n C dX3_tell_148 rfl ?_
      refine dp_getf C (k := 11) (dp_mS ‹_› (dp_cT ‹_›)) (dp_xtg ‹_› ‹_›) rfl hX3 (by decide) (List.mem_of_getElem? (i := 13) rfl) rfl dX3_tell_149 ?_
      refine dp_iret C hret dX3_tell_152 ?_
      refine ⟨?_, rfl⟩
      unfold tgT
      repeat (first | rw [if_neg (by omega)] | rw [if_pos (by omega)])
    · skip
      refine dp_aload_n C dX3_tell_153 rfl ?_
      refine dp_aload_n C dX3_tell_154 rfl ?_
      refine dp_getf C (k := 12) (dp_mS ‹_› (dp_cT ‹_›)) (dp_xtg ‹_› ‹_›) rfl hX3 (by decide) (List.mem_of_getElem? (i := 14) rfl) rfl dX3_tell_155 ?_
      refine dp_cVi C (c_X3_ifBegun C.2.2.1 l ‹_› ‹_› ‹_›) gX3_tell_X3_ifBegun rfl (dp_mS ‹_› (dp_cT ‹_›)) (dp_xtg ‹_› ‹_›) rfl yyX3_ifBegun rfl ⟨Nat.le_of_ble_eq_true rfl, Nat.le_of_ble_eq_true rfl⟩ rfl (Nat.le_of_ble_eq_true rfl) rfl ⟨Nat.zero_le _, Nat.zero_le _⟩ dX3_tell_158 (fun x158 M158 h158 => ?_)
      obtain ⟨rfl, rfl⟩ := h158
      refine dp_iret C hret dX3_tell_161 ?_
      refine ⟨?_, rfl⟩
      unfold tgT
      repeat (first | rw [if_neg (by omega)] | rw [if_pos (by omega)])
theorem yyX3_isBetterThan : yX3_isBetterThan.cls = RX3 ∧ yX3_isBetterThan.cls ≠ "java/lang/invoke/MethodHandle" ∧ yX3_isBetterThan.cls ≠ "java/lang/invoke/VarHandle" ∧ (parseMethodDescriptor yX3_isBetterThan.desc).map (fun d => d.parameters.length) = some 1 := by decide +kernel
set_option maxHeartbeats 4000000 in
set_option maxRecDepth 100000 in
theorem c_X3_isBetterThan {E : dp_E} (hE : dp_OK E) (l : Launch) {M : dp_M} {r t t2 : Nat} {V Y : dp_V} (hr : r < 7) (ht : t < 10) (ht2 : t2 < 10) (hi : ivT (V (t + 6))) (hi2 : ivT (V (t2 + 6))) : dp_met E l yX3_isBetterThan wsX3_isBetterThan 0 0 [.ref (eAd E r (t + 6)), .ref (eAd E r (t2 + 6))] (dS M r V Y) (dp_qi E (fun y M1 => y = btF (V (t + 6)) (V (t2 + 6)) ∧ M1 = dS M r V Y)) := by
  refine dp_of (cc := cX3_isBetterThan) (nL := 2) (own := RX3) (ret := some (.boolean)) (by decide +kernel) rfl rfl hE (by simp [Value.category]) (Nat.le_of_ble_eq_true rfl) ?_
  intro p e s m below meth co C hret
  show dp_G _ _ _ _ _ _ _ _ _ _ _ _ _ _ _ _ _ [some (.ref (eAd E r (t + 6))), some (.ref (eAd E r (t2 + 6)))] _
  have hX3 : ∀ w ∈ u_ws RX3 TX3 14, w ∈ wsX3_isBetterThan := fun w h => List.mem_cons_of_mem _ (List.mem_append_right _ (h))
  unfold ivT at hi hi2
  refine dp_aload_n C dX3_isBetterThan_0 rfl ?_
  refine dp_getf C (k := 5) (dp_mS ‹_› (dp_cT ‹_›)) (dp_xtg ‹_› ‹_›) rfl hX3 (by decide) (List.mem_of_getElem? (i := 1) rfl) rfl dX3_isBetterThan_1 ?_
  refine dp_aload_n C dX3_isBetterThan_4 rfl ?_
  refine dp_getf C (k := 5) (dp_mS ‹_› (dp_cT ‹_›)) (dp_xtg ‹_› ‹_›) rfl hX3 (by decide) (List.mem_of_getElem? (i := 1) rfl) rfl dX3_isBetterThan_5 ?_
  refine dp_icmp_eq (tgt := 28) C dX3_isBetterThan_8 (by decide) ⟨by omega, by omega⟩ ⟨by omega, by omega⟩ (fun c8 => ?_) (fun c8 => ?_)
  · skip
    refine dp_aload_n C dX3_isBetterThan_28 rfl ?_
    refine dp_getf C (k := 3) (dp_mS ‹_› (dp_cT ‹_›)) (dp_xtg ‹_› ‹_›) rfl hX3 (by decide) (List.mem_of_getElem? (i := 2) rfl) rfl dX3_isBetterThan_29 ?_
    refine dp_aload_n C dX3_isBetterThan_32 rfl ?_
    refine dp_getf C (k := 3) (dp_mS ‹_› (dp_cT ‹_›)) (dp_xtg ‹_› ‹_›) rfl hX3 (by decide) (List.mem_of_getElem? (i := 2) rfl) rfl dX3_isBetterThan_33 ?_
    refine dp_icmp_ge (tgt := 43) C dX3_isBetterThan_36 (by decide) ⟨by omega, by omega⟩ ⟨by omega, by omega⟩ (fun c36 => ?_) (fun c36 => ?_)
    · skip
      refine dp_iconst C dX3_isBetterThan_43 ?_
      refine dp_zret C hret (by first | decide | exact dp_nb) dX3_isBetterThan_44 ?_
      refine ⟨?_, rfl⟩
      unfold btF dp_b
      repeat (first | rw [if_neg (by omega)] | rw [if_pos (by omega)])
    · skip
      refine dp_iconst C dX3_isBetterThan_39 ?_
      refine dp_goto (tgt := 44) C dX3_isBetterThan_40 (by decide) ?_
      refine dp_zret C hret (by first | decide | exact dp_nb) dX3_isBetterThan_44 ?_
      refine ⟨?_, rfl⟩
      unfold btF dp_b
      repeat (first | rw [if_neg (by omega)] | rw [if_pos (by omega)])
  · skip
    refine dp_aload_n C dX3_isBetterThan_11 rfl ?_
    refine dp_getf C (k := 5) (dp_mS ‹_› (dp_cT ‹_›)) (dp_xtg ‹_› ‹_›) rfl hX3 (by decide) (List.mem_of_getElem? (i := 1) rfl) rfl dX3_isBetterThan_12 ?_
    refine dp_aload_n C dX3_isBetterThan_15 rfl ?_
    refine dp_getf C (k := 5) (dp_mS ‹_› (dp_cT ‹_›)) (dp_xtg ‹_› ‹_›) rfl hX3 (by decide) (List.mem_of_getElem? (i := 1) rfl) rfl dX3_isBetterThan_16 ?_
    refine dp_icmp_le (tgt := 26) C dX3_isBetterThan_19 (by decide) ⟨by omega, by omega⟩ ⟨by omega, by omega⟩ (fun c19 => ?_) (fun c19 => ?_)
    · skip
      refine dp_iconst C dX3_isBetterThan_26 ?_
      refine dp_zret C hret (by first | decide | exact dp_nb) dX3_isBetterThan_27 ?_
      refine ⟨?_, rfl⟩
      unfold btF dp_b
      repeat (first | rw [if_neg (by omega)] | rw [if_pos (by omega)])
    · skip
      refine dp_iconst C dX3_isBetterThan_22 ?_
      refine dp_goto (tgt := 27) C dX3_isBetterThan_23 (by decide) ?_
      refine dp_zret C hret (by first | decide | exact dp_nb) dX3_isBetterThan_27 ?_
      refine ⟨?_, rfl⟩
      unfold btF dp_b
      repeat (first | rw [if_neg (by omega)] | rw [if_pos (by omega)])
theorem dp_xtgO {E : dp_E} {M : dp_M} {V Y : dp_V} {r r2 t : Nat} (hr2 : r2 < 7) (ht : t < 10) {W : dp_V} (hW : dS M r V Y r2 = W) : dp_x E (dS M r V Y) r2 (t + 6) = .inr (3, dp_f14 (W (t + 6))) := by
  rw [dp_x_S hr2, hW]
  exact dp_xT0 ht
theorem yyX3_copyFrom : yX3_copyFrom.cls = RX3 ∧ yX3_copyFrom.cls ≠ "java/lang/invoke/MethodHandle" ∧ yX3_copyFrom.cls ≠ "java/lang/invoke/VarHandle" ∧ (parseMethodDescriptor yX3_copyFrom.desc).map (fun d => d.parameters.length) = some 1 := by decide +kernel
set_option maxHeartbeats 4000000 in
set_option maxRecDepth 100000 in
theorem c_X3_copyFrom {E : dp_E} (hE : dp_OK E) (l : Launch) {M : dp_M} {r r2 t t2 : Nat} {V Y : dp_V} (hr : r < 7) (hr2 : r2 < 7) (hne : r2 ≠ r) (ht : t < 10) (ht2 : t2 < 10) (hz : M r2 (t2 + 6) 13 = 0 ∨ M r2 (t2 + 6) 13 = 1) : dp_met E l yX3_copyFrom wsX3_copyFrom 0 0 [.ref (eAd E r (t + 6)), .ref (eAd E r2 (t2 + 6))] (dS M r V Y) (dp_qv E (fun M1 => M1 = dS M r (uc V (t + 6) (M r2 (t2 + 6))) Y)) := by
  refine dp_of (cc := cX3_copyFrom) (nL := 2) (own := RX3) (ret := none) (by decide +kernel) rfl rfl hE (by simp [Value.category]) (Nat.le_of_ble_eq_true rfl) ?_
  intro p e s m below meth co C hret
  show dp_G _ _ _ _ _ _ _ _ _ _ _ _ _ _ _ _ _ [some (.ref (eAd E r (t + 6))), some (.ref (eAd E r2 (t2 + 6)))] _
  have hX3 : ∀ w ∈ u_ws RX3 TX3 14, w ∈ wsX3_copyFrom := fun w h => List.mem_cons_of_mem _ (List.mem_append_right _ (h))
  refine dp_aload_n C dX3_copyFrom_0 rfl ?_
  refine dp_aload_n C dX3_copyFrom_1 rfl ?_
  refine dp_getf C (k := 0) (dp_mS ‹r2 < 7› (dp_cT ‹t2 < 10›)) (dp_xtgO ‹r2 < 7› ‹t2 < 10› (dS_ne (by omega) (by omega))) rfl hX3 (by decide) (List.mem_of_getElem? (i := 1) rfl) rfl dX3_copyFrom_2 ?_
  refine dp_putT C ‹_› ‹_› (k := 0) hX3 (by decide) (List.mem_of_getElem? (i := 1) rfl) rfl (tyX3_ok _ (by decide)) rfl rfl dX3_copyFrom_5 ?_
  refine dp_aload_n C dX3_copyFrom_8 rfl ?_
  refine dp_aload_n C dX3_copyFrom_9 rfl ?_
  refine dp_getf C (k := 1) (dp_mS ‹r2 < 7› (dp_cT ‹t2 < 10›)) (dp_xtgO ‹r2 < 7› ‹t2 < 10› (dS_ne (by omega) (by omega))) rfl hX3 (by decide) (List.mem_of_getElem? (i := 2) rfl) rfl dX3_copyFrom_10 ?_
  refine dp_putT C ‹_› ‹_› (k := 1) hX3 (by decide) (List.mem_of_getElem? (i := 2) rfl) rfl (tyX3_ok _ (by decide)) rfl rfl dX3_copyFrom_13 ?_
  refine dp_aload_n C dX3_copyFrom_16 rfl ?_
  refine dp_aload_n C dX3_copyFrom_17 rfl ?_
  refine dp_getf C (k := 2) (dp_mS ‹r2 < 7› (dp_cT ‹t2 < 10›)) (dp_xtgO ‹r2 < 7› ‹t2 < 10› (dS_ne (by omega) (by omega))) rfl hX3 (by decide) (List.mem_of_getElem? (i := 3) rfl) rfl dX3_copyFrom_18 ?_
  refine dp_putT C ‹_› ‹_› (k := 2) hX3 (by decide) (List.mem_of_getElem? (i := 3) rfl) rfl (tyX3_ok _ (by decide)) rfl rfl dX3_copyFrom_21 ?_
  refine dp_aload_n C dX3_copyFrom_24 rfl ?_
  refine dp_aload_n C dX3_copyFrom_25 rfl ?_
  refine dp_getf C (k := 3) (dp_mS ‹r2 < 7› (dp_cT ‹t2 < 10›)) (dp_xtgO ‹r2 < 7› ‹t2 < 10› (dS_ne (by omega) (by omega))) rfl hX3 (by decide) (List.mem_of_getElem? (i := 4) rfl) rfl dX3_copyFrom_26 ?_
  refine dp_putT C ‹_› ‹_› (k := 3) hX3 (by decide) (List.mem_of_getElem? (i := 4) rfl) rfl (tyX3_ok _ (by decide)) rfl rfl dX3_copyFrom_29 ?_
  refine dp_aload_n C dX3_copyFrom_32 rfl ?_
  refine dp_aload_n C dX3_copyFrom_33 rfl ?_
  refine dp_getf C (k := 4) (dp_mS ‹r2 < 7› (dp_cT ‹t2 < 10›)) (dp_xtgO ‹r2 < 7› ‹t2 < 10› (dS_ne (by omega) (by omega))) rfl hX3 (by decide) (List.mem_of_getElem? (i := 5) rfl) rfl dX3_copyFrom_34 ?_
  refine dp_putT C ‹_› ‹_› (k := 4) hX3 (by decide) (List.mem_of_getElem? (i := 5) rfl) rfl (tyX3_ok _ (by decide)) rfl rfl dX3_copyFrom_37 ?_
  refine dp_aload_n C dX3_copyFrom_40 rfl ?_
  refine dp_aload_n C dX3_copyFrom_41 rfl ?_
  refine dp_getf C (k := 5) (dp_mS ‹r2 < 7› (dp_cT ‹t2 < 10›)) (dp_xtgO ‹r2 < 7› ‹t2 < 10› (dS_ne (by omega) (by omega))) rfl hX3 (by decide) (List.mem_of_getElem? (i := 6) rfl) rfl dX3_copyFrom_42 ?_
  refine dp_putT C ‹_› ‹_› (k := 5) hX3 (by decide) (List.mem_of_getElem? (i := 6) rfl) rfl (tyX3_ok _ (by decide)) rfl rfl dX3_copyFrom_45 ?_
  refine dp_aload_n C dX3_copyFrom_48 rfl ?_
  refine dp_aload_n C dX3_copyFrom_49 rfl ?_
  refine dp_getf C (k := 6) (dp_mS ‹r2 < 7› (dp_cT ‹t2 < 10›)) (dp_xtgO ‹r2 < 7› ‹t2 < 10› (dS_ne (by omega) (by omega))) rfl hX3 (by decide) (List.mem_of_getElem? (i := 7) rfl) rfl dX3_copyFrom_50 ?_
  refine dp_putT C ‹_› ‹_› (k := 6) hX3 (by decide) (List.mem_of_getElem? (i := 7) rfl) rfl (tyX3_ok _ (by decide)) rfl rfl dX3_copyFrom_53 ?_
  refine dp_aload_n C dX3_copyFrom_56 rfl ?_
  refine dp_aload_n C dX3_copyFrom_57 rfl ?_
  refine dp_getf C (k := 7) (dp_mS ‹r2 < 7› (dp_cT ‹t2 < 10›)) (dp_xtgO ‹r2 < 7› ‹t2 < 10› (dS_ne (by omega) (by omega))) rfl hX3 (by decide) (List.mem_of_getElem? (i := 8) rfl) rfl dX3_copyFrom_58 ?_
  refine dp_putT C ‹_› ‹_› (k := 7) hX3 (by decide) (List.mem_of_getElem? (i := 8) rfl) rfl (tyX3_ok _ (by decide)) rfl rfl dX3_copyFrom_61 ?_
  refine dp_aload_n C dX3_copyFrom_64 rfl ?_
  refine dp_aload_n C dX3_copyFrom_65 rfl ?_
  refine dp_getf C (k := 8) (dp_mS ‹r2 < 7› (dp_cT ‹t2 < 10›)) (dp_xtgO ‹r2 < 7› ‹t2 < 10› (dS_ne (by omega) (by omega))) rfl hX3 (by decide) (List.mem_of_getElem? (i := 9) rfl) rfl dX3_copyFrom_66 ?_
  refine dp_putT C ‹_› ‹_› (k := 8) hX3 (by decide) (List.mem_of_getElem? (i := 9) rfl) rfl (tyX3_ok _ (by decide)) rfl rfl dX3_copyFrom_69 ?_
  refine dp_aload_n C dX3_copyFrom_72 rfl ?_
  refine dp_aload_n C dX3_copyFrom_73 rfl ?_
  refine dp_getf C (k := 9) (dp_mS ‹r2 < 7› (dp_cT ‹t2 < 10›)) (dp_xtgO ‹r2 < 7› ‹t2 < 10› (dS_ne (by omega) (by omega))) rfl hX3 (by decide) (List.mem_of_getElem? (i := 10) rfl) rfl dX3_copyFrom_74 ?_
  refine dp_putT C ‹_› ‹_› (k := 9) hX3 (by decide) (List.mem_of_getElem? (i := 10) rfl) rfl (tyX3_ok _ (by decide)) rfl rfl dX3_copyFrom_77 ?_
  refine dp_aload_n C dX3_copyFrom_80 rfl ?_
  refine dp_aload_n C dX3_copyFrom_81 rfl ?_
  refine dp_getf C (k := 10) (dp_mS ‹r2 < 7› (dp_cT ‹t2 < 10›)) (dp_xtgO ‹r2 < 7› ‹t2 < 10› (dS_ne (by omega) (by omega))) rfl hX3 (by decide) (List.mem_of_getElem? (i := 11) rfl) rfl dX3_copyFrom_82 ?_
  refine dp_putT C ‹_› ‹_› (k := 10) hX3 (by decide) (List.mem_of_getElem? (i := 11) rfl) rfl (tyX3_ok _ (by decide)) rfl rfl dX3_copyFrom_85 ?_
  refine dp_aload_n C dX3_copyFrom_88 rfl ?_
  refine dp_aload_n C dX3_copyFrom_89 rfl ?_
  refine dp_getf C (k := 11) (dp_mS ‹r2 < 7› (dp_cT ‹t2 < 10›)) (dp_xtgO ‹r2 < 7› ‹t2 < 10› (dS_ne (by omega) (by omega))) rfl hX3 (by decide) (List.mem_of_getElem? (i := 12) rfl) rfl dX3_copyFrom_90 ?_
  refine dp_putT C ‹_› ‹_› (k := 11) hX3 (by decide) (List.mem_of_getElem? (i := 12) rfl) rfl (tyX3_ok _ (by decide)) rfl rfl dX3_copyFrom_93 ?_
  refine dp_aload_n C dX3_copyFrom_96 rfl ?_
  refine dp_aload_n C dX3_copyFrom_97 rfl ?_
  refine dp_getf C (k := 12) (dp_mS ‹r2 < 7› (dp_cT ‹t2 < 10›)) (dp_xtgO ‹r2 < 7› ‹t2 < 10› (dS_ne (by omega) (by omega))) rfl hX3 (by decide) (List.mem_of_getElem? (i := 13) rfl) rfl dX3_copyFrom_98 ?_
  refine dp_putT C ‹_› ‹_› (k := 12) hX3 (by decide) (List.mem_of_getElem? (i := 13) rfl) rfl (tyX3_ok _ (by decide)) rfl rfl dX3_copyFrom_101 ?_
  refine dp_aload_n C dX3_copyFrom_104 rfl ?_
  refine dp_aload_n C dX3_copyFrom_105 rfl ?_
  refine dp_getf C (k := 13) (dp_mS ‹r2 < 7› (dp_cT ‹t2 < 10›)) (dp_xtgO ‹r2 < 7› ‹t2 < 10› (dS_ne (by omega) (by omega))) rfl hX3 (by decide) (List.mem_of_getElem? (i := 14) rfl) rfl dX3_copyFrom_106 ?_
  refine dp_putT C ‹_› ‹_› (k := 13) hX3 (by decide) (List.mem_of_getElem? (i := 14) rfl) rfl (tyX3_ok _ (by decide)) (by rcases hz with h | h <;> rw [h] <;> rfl) (by rcases hz with h | h <;> rw [h] <;> rfl) dX3_copyFrom_109 ?_
  refine dp_cv (M' := dS M r (uc V (t + 6) (M r2 (t2 + 6))) Y) ?_ ?_
  · simp only [u2_uc, uc_uc, uc_same]
    exact dp_cvT ‹_› ‹_› (fun k hk => by unfold u1; rcases (by omega : k = 0 ∨ k = 1 ∨ k = 2 ∨ k = 3 ∨ k = 4 ∨ k = 5 ∨ k = 6 ∨ k = 7 ∨ k = 8 ∨ k = 9 ∨ k = 10 ∨ k = 11 ∨ k = 12 ∨ k = 13) with rfl | rfl | rfl | rfl | rfl | rfl | rfl | rfl | rfl | rfl | rfl | rfl | rfl | rfl <;> rfl)
  refine dp_vret C hret dX3_copyFrom_112 ?_
  rfl
