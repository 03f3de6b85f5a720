/-- what looking through the text leaves -/
def txF (X X' : dp_V) : Prop := (∀ c, c ≠ 0 → c ≠ 5 → X' c = X c) ∧ ∀ k, k ≠ 5 → k ≠ 6 → X' 0 k = X 0 k
theorem txF.rf {X : dp_V} : txF X X := ⟨fun _ _ _ => rfl, fun _ _ _ => rfl⟩
theorem txF.trM {X Y Z : dp_V} (h : txF X Y) (h2 : txM Y Z) : txF X Z := ⟨fun c a b => (h2.1 c a b).trans (h.1 c a b), fun k a b => (h2.2 k a).trans (h.2 k a b)⟩
theorem txF.u5 {X Y : dp_V} {x : Int} (h : txF X Y) : txF X (u2 Y 0 5 x) := ⟨fun c a b => (u2_ne a).trans (h.1 c a b), fun j a b => by rw [u2_same, u1_ne a]; exact h.2 j a b⟩
theorem txF.u6 {X Y : dp_V} {x : Int} (h : txF X Y) : txF X (u2 Y 0 6 x) := ⟨fun c a b => (u2_ne a).trans (h.1 c a b), fun j a b => by rw [u2_same, u1_ne b]; exact h.2 j a b⟩
theorem txF.sg {X X' : dp_V} (h : txF X X') : sgF (mT X') = sgF (mT X) := by
  funext i
  have e3 : ∀ Z : dp_V, mT Z 3 0 = Z 0 1 := fun _ => rfl
  have e4 : ∀ Z : dp_V, mT Z 4 = Z 4 := fun _ => rfl
  unfold sgF
  rw [e3, e3, e4, e4, h.2 1 (by decide) (by decide), h.1 4 (by decide) (by decide)]
theorem txF.ok {X X' : dp_V} (h : txF X X') (hT : tOK (mT X)) : tOK (mT X') := by
  have e3 : ∀ Z : dp_V, mT Z 3 0 = Z 0 1 := fun _ => rfl
  have e4 : ∀ Z : dp_V, mT Z 4 = Z 4 := fun _ => rfl
  unfold tOK at hT ⊢
  rw [e3, e4] at *
  rw [h.2 1 (by decide) (by decide), h.1 4 (by decide) (by decide)]
  exact hT
theorem nuv_tx {X T : dp_V} {s : Int} {i : Nat} (h : sgF X = sgF T) : nuv X s i = nuv T s i := by
  unfold nuv
  rw [rtA_tx h, rtA_tx h, rpG_tx h, rpG_tx h, h]
theorem iru_tx {X T : dp_V} {s : Int} (h : sgF X = sgF T) : iru X s = iru T s := by
  unfold iru
  rw [nuv_tx h, nuv_tx h, nuv_tx h, nuv_tx h, nuv_tx h, nuv_tx h]
theorem rdR_le {T : dp_V} {s : Int} (h : ¬ rdR T s = -1) : rdR T s ≤ T 3 0 := by
  unfold rdR at h ⊢
  split at h
  · rename_i g
    rw [if_pos g]
    have := sgF_at (X := T) (i := rdA T s) (by omega)
    omega
  · exact absurd rfl h
theorem rsT_bd {T : dp_V} {room : Int} {m : Nat} : dp_R (rsT T room m) := by
  unfold rsT dp_R
  repeat' split
  all_goals omega
theorem rsT_3 {T : dp_V} {room : Int} {m : Nat} : 0 ≤ rsT T room m := by
  unfold rsT
  repeat' split
  all_goals omega
theorem rsT_z {T : dp_V} {room : Int} {m : Nat} (h : rsT T room m = 0) : ¬ rdR T (posT T m) = -1 ∧ ¬ iru T (posT T m) = 0 ∧ (m : Int) < room := by
  unfold rsT at h
  (repeat' split at h) <;> first | (exfalso; omega) | exact ⟨by assumption, by assumption, by assumption⟩
theorem posT_bd {T : dp_V} : ∀ {m : Nat}, -1 ≤ posT T m ∧ posT T m ≤ 100 := by
  intro m
  cases m with
  | zero => exact ⟨by show (-1 : Int) ≤ 0; decide, by show (0 : Int) ≤ 100; decide⟩
  | succ m =>
    show -1 ≤ rdR T (posT T m) ∧ rdR T (posT T m) ≤ 100
    have := @rdR_bd T (posT T m)
    omega
theorem yyX7_faultAt : yX7_faultAt.cls = RX7 ∧ yX7_faultAt.cls ≠ "java/lang/invoke/MethodHandle" ∧ yX7_faultAt.cls ≠ "java/lang/invoke/VarHandle" ∧ (parseMethodDescriptor yX7_faultAt.desc).map (fun d => d.parameters.length) = some 0 := by decide +kernel
set_option maxHeartbeats 4000000 in
set_option maxRecDepth 100000 in
theorem c_X7_faultAt {E : dp_E} (hE : dp_OK E) (l : Launch) {M : dp_M} {V X : dp_V} {N : Nat} (hm : ivM V N) (hT : tOK (mT X)) : dp_met E l yX7_faultAt wsX7_faultAt 4 91 [.ref (eAd E 8 0)] (dN M V X) (dp_qi E (fun y M1 => ∃ (mm : Nat) (r : Int) (X' : dp_V), SC (mT X) (10 - (N : Int)) mm r ∧ y = (if r = 0 then -100004 else posT (mT X) mm) ∧ M1 = dN M V X' ∧ txF X X' ∧ (¬ r = 0 → X' 0 6 = r))) := by
  refine dp_of (cc := cX7_faultAt) (nL := 3) (own := RX7) (ret := some (.int)) (by decide +kernel) rfl rfl hE (by simp [Value.category]) (Nat.le_of_ble_eq_true rfl) ?_
  intro p e s m below meth co C hret
  show dp_G _ _ _ _ _ _ _ _ _ _ _ _ _ _ _ _ _ [some (.ref (eAd E 8 0)), none, none] _
  have hX7 : ∀ w ∈ u_ws RX7 TX7 12, w ∈ wsX7_faultAt := fun w h => List.mem_cons_of_mem _ (List.mem_append_right _ (h))
  obtain ⟨hN, h10, hv, hTT⟩ := hm
  have hT0 : 0 ≤ X 0 1 ∧ X 0 1 ≤ 100 := ⟨hT.1, hT.2.1⟩
  have J16 : ∀ (n mm : Nat) (rl : Int) (X' : dp_V) (o : Option Value), X 0 1 ≤ posT (mT X) mm + n → rl = 10 - (N : Int) - mm → 0 ≤ rl → X' 0 5 = posT (mT X) mm → (0 ≤ posT (mT X) mm ∧ posT (mT X) mm ≤ X 0 1) → txF X X' → (∀ i, i < mm → posT (mT X) i < X 0 1 ∧ rsT (mT X) (10 - (N : Int)) i = 0) → dp_G E (dp_A E) p l e (dp_rm 4 91) s m [.ref (eAd E 8 0)].toArray below meth co 0 0 (MQ below (dp_qi E (fun y M1 => ∃ (mm : Nat) (r : Int) (X' : dp_V), SC (mT X) (10 - (N : Int)) mm r ∧ y = (if r = 0 then -100004 else posT (mT X) mm) ∧ M1 = dN M V X' ∧ txF X X' ∧ (¬ r = 0 → X' 0 6 = r))) [.ref (eAd E 8 0)].toArray s 0 0 (dp_A E)) (dN M V X') 16 [some (.ref (eAd E 8 0)), some (.int (dp_I rl)), o] [] := by
    refine dp_ind (fun n ih => ?_)
    intro mm rl X' o hn hrl hrl0 h5 hpb htx hall
    have e1 : X' 0 1 = X 0 1 := htx.2 1 (by decide) (by decide)
    refine dp_aload_n C dX7_faultAt_16 rfl ?_
    refine dp_getf C (k := 9) (dp_mM (by decide)) dp_xmo rfl hX7 (by decide) (List.mem_of_getElem? (i := 2) rfl) rfl dX7_faultAt_17 ?_
    refine dp_aload_n C dX7_faultAt_20 rfl ?_
    refine dp_getf C (k := 5) (dp_mM (by decide)) dp_xmo rfl hX7 (by decide) (List.mem_of_getElem? (i := 3) rfl) rfl dX7_faultAt_21 ?_
    refine dp_icmp_ge (tgt := 56) C dX7_faultAt_24 (by decide) ⟨by omega, by omega⟩ ⟨by omega, by omega⟩ (fun c24 => ?_) (fun c24 => ?_)
    · skip
      have hend : X 0 1 ≤ posT (mT X) mm := by omega
      refine dp_ldc C (-100004) (List.mem_of_getElem? (i := 5) rfl) rfl dX7_faultAt_56 ?_
      refine dp_iret C hret dX7_faultAt_58 ?_
      exact ⟨mm, 0, X', ⟨hall, Or.inl ⟨rfl, hend⟩⟩, by rw [if_pos rfl], rfl, htx, fun q => absurd rfl q⟩
    · skip
      obtain ⟨n, rfl⟩ : ∃ n', n = n' + 1 := ⟨n - 1, by omega⟩
      refine dp_aload_n C dX7_faultAt_27 rfl ?_
      refine dp_getf C (k := 9) (dp_mM (by decide)) dp_xmo rfl hX7 (by decide) (List.mem_of_getElem? (i := 2) rfl) rfl dX7_faultAt_28 ?_
      refine dp_istore_n C dX7_faultAt_31 (Nat.le_of_ble_eq_true rfl) ?_
      dsimp only [List.set]
      refine dp_aload_n C dX7_faultAt_32 rfl ?_
      refine dp_aload_n C dX7_faultAt_33 rfl ?_
      refine dp_iload_n C dX7_faultAt_34 rfl ?_
      refine dp_cVi C (c_X7_reason C.2.2.1 l (htx.ok hT) (by omega) (rm := rl) (by omega)) gX7_faultAt_X7_reason rfl (dp_mM (by decide)) dp_xmo rfl yyX7_reason rfl ⟨Nat.le_of_ble_eq_true rfl, Nat.le_of_ble_eq_true rfl⟩ rfl (Nat.le_of_ble_eq_true rfl) rfl ⟨Nat.zero_le _, Nat.zero_le _⟩ dX7_faultAt_35 (fun x35 M35 h35 => ?_)
      obtain ⟨rfl, X1, rfl, hx1, hy1⟩ := h35
      have hk : (if rdR (mT X') (X' 0 5) = -1 then (1 : Int) else if iru (mT X') (X' 0 5) = 0 then 2 else if rl = 0 then 3 else 0) = rsT (mT X) (10 - (N : Int)) mm := by
        rw [rdR_tx htx.sg, iru_tx htx.sg, h5]
        unfold rsT
        (repeat' split) <;> first | rfl | omega | contradiction
      rw [hk]
      rw [rdR_tx htx.sg, h5] at hy1
      have hk3 := @rsT_3 (mT X) (10 - (N : Int)) mm
      refine dp_putM C  (k := 6) hX7 (by decide) (List.mem_of_getElem? (i := 4) rfl) rfl (tyX7_ok _ (by decide)) rfl rfl dX7_faultAt_38 ?_
      refine dp_aload_n C dX7_faultAt_41 rfl ?_
      refine dp_getf C (k := 11) (dp_mM (by decide)) dp_xmo rfl hX7 (by decide) (List.mem_of_getElem? (i := 4) rfl) rfl dX7_faultAt_42 ?_
      rw [u2_same, u1_same]
      refine dp_if_le (tgt := 50) C dX7_faultAt_45 (by decide) rsT_bd (fun c45 => ?_) (fun c45 => ?_)
      · skip
        have z0 : rsT (mT X) (10 - (N : Int)) mm = 0 := by omega
        obtain ⟨z1, z2, z3⟩ := rsT_z z0
        have z4 := rdR_lt z1
        have z5 : rdR (mT X) (posT (mT X) mm) ≤ X 0 1 := rdR_le z1
        refine dp_iinc C dX7_faultAt_50 rfl ?_
        dsimp only [List.set]
        refine dp_goto (tgt := 16) C dX7_faultAt_53 (by decide) ?_
        refine ih n (by omega) (mm + 1) _ _ _ (by show X 0 1 ≤ rdR (mT X) (posT (mT X) mm) + n; omega) (by omega) (by omega) (by rw [u2_same, u1_ne (by decide)]; exact (hy1 z1).1) ⟨by show 0 ≤ rdR (mT X) (posT (mT X) mm); omega, by show rdR (mT X) (posT (mT X) mm) ≤ X 0 1; exact z5⟩ (htx.trM hx1).u6 (fun i hi => ?_)
        by_cases e : i = mm
        · subst e
          exact ⟨by omega, z0⟩
        · exact hall i (by omega)
      · skip
        refine dp_iload_n C dX7_faultAt_48 rfl ?_
        refine dp_iret C hret dX7_faultAt_49 ?_
        exact ⟨mm, rsT (mT X) (10 - (N : Int)) mm, _, ⟨hall, Or.inr ⟨by show posT (mT X) mm < X 0 1; omega, rfl, by omega⟩⟩, by rw [if_neg (by omega), h5], rfl, (htx.trM hx1).u6, fun _ => by rw [u2_same, u1_same]⟩
  refine dp_bipush C dX7_faultAt_0 (by decide) ?_
  refine dp_aload_n C dX7_faultAt_2 rfl ?_
  refine dp_getf C (k := 0) (dp_mM (by decide)) dp_xmo rfl hX7 (by decide) (List.mem_of_getElem? (i := 1) rfl) rfl dX7_faultAt_3 ?_
  refine dp_bipush C dX7_faultAt_6 (by decide) ?_
  refine dp_ald_ms C (j := 7) ⟨by omega, by omega⟩ rfl (c9 := 0) (k9 := 3) rfl rfl dX7_faultAt_8 ?_
  rw [hN]
  refine dp_isub C dX7_faultAt_9 ?_
  refine dp_istore_n C dX7_faultAt_10 (Nat.le_of_ble_eq_true rfl) ?_
  dsimp only [List.set]
  refine dp_aload_n C dX7_faultAt_11 rfl ?_
  refine dp_iconst C dX7_faultAt_12 ?_
  refine dp_putM C  (k := 5) hX7 (by decide) (List.mem_of_getElem? (i := 2) rfl) rfl (tyX7_ok _ (by decide)) rfl rfl dX7_faultAt_13 ?_
  exact J16 (X 0 1).toNat 0 (10 - (N : Int)) (u2 X 0 5 0) _ (by show X 0 1 ≤ 0 + ((X 0 1).toNat : Int); omega) (by omega) (by omega) (by rw [u2_same, u1_same]; rfl) ⟨by show (0 : Int) ≤ 0; decide, by show (0 : Int) ≤ X 0 1; omega⟩ txF.rf.u5 (fun i hi => absurd hi (by omega))
theorem yyX7_fault : yX7_fault.cls = RX7 ∧ yX7_fault.cls ≠ "java/lang/invoke/MethodHandle" ∧ yX7_fault.cls ≠ "java/lang/invoke/VarHandle" ∧ (parseMethodDescriptor yX7_fault.desc).map (fun d => d.parameters.length) = some 1 := by decide +kernel
set_option maxHeartbeats 4000000 in
set_option maxRecDepth 100000 in
theorem c_X7_fault {E : dp_E} (hE : dp_OK E) (l : Launch) {M : dp_M} {V X : dp_V} {N : Nat} (hm : ivM V N) (hT : tOK (mT X)) {k : Int} (hk : dp_R k) : dp_met E l yX7_fault wsX7_fault 5 113 [.ref (eAd E 8 0), .int (dp_I k)] (dN M V X) (dp_qi E (fun y M1 => (¬ (0 ≤ k ∧ k ≤ 1) ∧ y = -100001 ∧ M1 = dN M V X) ∨ ((0 ≤ k ∧ k ≤ 1) ∧ ∃ (mm : Nat) (r : Int) (X' : dp_V), SC (mT X) (10 - (N : Int)) mm r ∧ y = (if r = 0 then -100004 else if k = 0 then posT (mT X) mm else r) ∧ M1 = dN M V X' ∧ txF X X'))) := by
  refine dp_of (cc := cX7_fault) (nL := 3) (own := RX7) (ret := some (.int)) (by decide +kernel) rfl rfl hE (by simp [Value.category]) (Nat.le_of_ble_eq_true rfl) ?_
  intro p e s m below meth co C hret
  show dp_G _ _ _ _ _ _ _ _ _ _ _ _ _ _ _ _ _ [some (.ref (eAd E 8 0)), some (.int (dp_I k)), none] _
  have hX7 : ∀ w ∈ u_ws RX7 TX7 12, w ∈ wsX7_fault := fun w h => List.mem_cons_of_mem _ (List.mem_append_right _ (h))
  unfold dp_R at hk
  refine dp_iload_n C dX7_fault_0 rfl ?_
  refine dp_iconst C dX7_fault_1 ?_
  refine dp_iconst C dX7_fault_2 ?_
  refine dp_cSi C (c_X7_in C.2.2.1 l ⟨by omega, by omega⟩ ⟨by omega, by omega⟩ ⟨by omega, by omega⟩) gX7_fault_X7_in rfl yyX7_in rfl ⟨Nat.le_of_ble_eq_true rfl, Nat.le_of_ble_eq_true rfl⟩ rfl (Nat.le_of_ble_eq_true rfl) rfl ⟨Nat.zero_le _, Nat.zero_le _⟩ dX7_fault_3 (fun x3 M3 h3 => ?_)
  obtain ⟨rfl, rfl⟩ := h3
  refine dp_ifz_ne (tgt := 12) C dX7_fault_6 (by decide) (fun c6 => ?_) (fun c6 => ?_)
  · skip
    refine dp_aload_n C dX7_fault_12 rfl ?_
    refine dp_cVi C (c_X7_faultAt C.2.2.1 l hm hT) gX7_fault_X7_faultAt rfl (dp_mM (by decide)) dp_xmo rfl yyX7_faultAt rfl ⟨Nat.le_of_ble_eq_true rfl, Nat.le_of_ble_eq_true rfl⟩ rfl (Nat.le_of_ble_eq_true rfl) rfl ⟨Nat.zero_le _, Nat.zero_le _⟩ dX7_fault_13 (fun x13 M13 h13 => ?_)
    obtain ⟨mm, r, X1, hsc, rfl, rfl, hx1, h6⟩ := h13
    have hpb := @posT_bd (mT X) mm
    have hyb : dp_R (if r = 0 then -100004 else posT (mT X) mm) := by unfold dp_R; split <;> omega
    refine dp_istore_n C dX7_fault_16 (Nat.le_of_ble_eq_true rfl) ?_
    dsimp only [List.set]
    refine dp_iload_n C dX7_fault_17 rfl ?_
    refine dp_ldc C (-100004) (List.mem_of_getElem? (i := 2) rfl) rfl dX7_fault_18 ?_
    refine dp_icmp_eq (tgt := 27) C dX7_fault_20 (by decide) hyb ⟨by omega, by omega⟩ (fun c20 => ?_) (fun c20 => ?_)
    · skip
      refine dp_iload_n C dX7_fault_27 rfl ?_
      refine dp_goto (tgt := 35) C dX7_fault_28 (by decide) ?_
      refine dp_iret C hret dX7_fault_35 ?_
      refine Or.inr ⟨by assumption, mm, r, X1, hsc, ?_, rfl, hx1⟩
      by_cases hr : r = 0
      · first | (rw [if_pos hr, if_pos hr]; done) | (exfalso; rw [if_pos hr] at c20; exact c20 rfl)
      · rw [if_neg hr] at c20
        first | (rw [if_neg hr, if_neg hr, if_pos (by omega)]; done) | (rw [if_neg hr, if_neg (by omega)]; done) | (exfalso; omega)
    · skip
      refine dp_iload_n C dX7_fault_23 rfl ?_
      refine dp_if_ne (tgt := 31) C dX7_fault_24 (by decide) ⟨by omega, by omega⟩ (fun c24 => ?_) (fun c24 => ?_)
      · skip
        refine dp_aload_n C dX7_fault_31 rfl ?_
        refine dp_getf C (k := 11) (dp_mM (by decide)) dp_xmo rfl hX7 (by decide) (List.mem_of_getElem? (i := 3) rfl) rfl dX7_fault_32 ?_
        rw [h6 (fun q => by rw [if_pos q] at c20; exact c20 rfl)]
        refine dp_iret C hret dX7_fault_35 ?_
        refine Or.inr ⟨by assumption, mm, r, X1, hsc, ?_, rfl, hx1⟩
        by_cases hr : r = 0
        · first | (rw [if_pos hr, if_pos hr]; done) | (exfalso; rw [if_pos hr] at c20; exact c20 rfl)
        · rw [if_neg hr] at c20
          first | (rw [if_neg hr, if_neg hr, if_pos (by omega)]; done) | (rw [if_neg hr, if_neg (by omega)]; done) | (exfalso; omega)
      · skip
        refine dp_iload_n C dX7_fault_27 rfl ?_
        refine dp_goto (tgt := 35) C dX7_fault_28 (by decide) ?_
        refine dp_iret C hret dX7_fault_35 ?_
        refine Or.inr ⟨by assumption, mm, r, X1, hsc, ?_, rfl, hx1⟩
        by_cases hr : r = 0
        · first | (rw [if_pos hr, if_pos hr]; done) | (exfalso; rw [if_pos hr] at c20; exact c20 rfl)
        · rw [if_neg hr] at c20
          first | (rw [if_neg hr, if_neg hr, if_pos (by omega)]; done) | (rw [if_neg hr, if_neg (by omega)]; done) | (exfalso; omega)
  · skip
    refine dp_ldc C (-100001) (List.mem_of_getElem? (i := 1) rfl) rfl dX7_fault_9 ?_
    refine dp_iret C hret dX7_fault_11 ?_
    exact Or.inl ⟨by assumption, rfl, rfl⟩
