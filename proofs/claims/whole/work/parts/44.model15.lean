/-- the first i targets of the text added -/
def emV (V T : dp_V) (N : Nat) : Nat → dp_V
  | 0 => V
  | i + 1 => adV (emV V T N i) (N + i) (nuv T (posT T i) 0) (nuv T (posT T i) 1) (nuv T (posT T i) 2) (nuv T (posT T i) 3) (nuv T (posT T i) 4) (nuv T (posT T i) 5)
theorem emV_03 {V T : dp_V} {N : Nat} (hN : V 0 3 = N) : ∀ i : Nat, emV V T N i 0 3 = ((N + i : Nat) : Int) := by
  intro i
  induction i with
  | zero => exact hN
  | succ i ih =>
    show adV (emV V T N i) (N + i) _ _ _ _ _ _ 0 3 = _
    unfold adV
    rw [u2_same, u1_same, ih]
    omega
theorem txF.rS {X X' : dp_V} (h : txF X X') : txF (rsX X) (rsX X') := by
  have e : X' 0 0 = X 0 0 := h.2 0 (by decide) (by decide)
  unfold rsX
  refine ⟨fun c a b => ?_, fun k a b => ?_⟩
  · rw [u2_ne a, u2_ne a]
    exact h.1 c a b
  · rw [u2_same, u2_same, e]
    unfold u1
    split
    · rfl
    · exact h.2 k a b
theorem txF.rw {M : dp_M} {V X X' : dp_V} (h : txF X X') : rnW M V X' = rnW M V X := by
  have e : X' 0 0 = X 0 0 := h.2 0 (by decide) (by decide)
  unfold rnW
  rw [e]
theorem txF_r {X : dp_V} : txF X (rsX X) → True := fun _ => trivial
theorem txF.tr {X Y Z : dp_V} (h : txF X Y) (h2 : txF Y Z) : txF X Z := ⟨fun c a b => (h2.1 c a b).trans (h.1 c a b), fun k a b => (h2.2 k a b).trans (h.2 k a b)⟩
theorem mT_rs {X : dp_V} : sgF (mT (rsX X)) = sgF (mT X) := by
  funext i
  have e3 : ∀ Z : dp_V, mT Z 3 0 = Z 0 1 := fun _ => rfl
  have e4 : ∀ Z : dp_V, mT Z 4 = Z 4 := fun _ => rfl
  have a : rsX X 0 1 = X 0 1 := by unfold rsX; rw [u2_same, u1_ne (by decide)]
  have b : rsX X 4 = X 4 := by unfold rsX; rw [u2_ne (by decide)]
  unfold sgF
  rw [e3, e3, e4, e4, a, b]
theorem tOK_e {X X' : dp_V} (h : sgF (mT X') = sgF (mT X)) (h1 : X' 0 1 = X 0 1) (h4 : X' 4 = rsX X 4) (hT : tOK (mT X)) : tOK (mT X') := by
  have e3 : ∀ Z : dp_V, mT Z 3 0 = Z 0 1 := fun _ => rfl
  have e4 : ∀ Z : dp_V, mT Z 4 = Z 4 := fun _ => rfl
  have b : rsX X 4 = X 4 := by unfold rsX; rw [u2_ne (by decide)]
  unfold tOK at hT ⊢
  rw [e3, e4] at *
  rw [h1, h4, b]
  exact hT
theorem yyX7_enter : yX7_enter.cls = RX7 ∧ yX7_enter.cls ≠ "java/lang/invoke/MethodHandle" ∧ yX7_enter.cls ≠ "java/lang/invoke/VarHandle" ∧ (parseMethodDescriptor yX7_enter.desc).map (fun d => d.parameters.length) = some 0 := by decide +kernel
set_option maxHeartbeats 4000000 in
set_option maxRecDepth 100000 in
theorem c_X7_enter {E : dp_E} (hE : dp_OK E) (l : Launch) {M : dp_M} {V X : dp_V} {N : Nat} (hm : ivM V N) (hs : 0 ≤ X 0 0 ∧ X 0 0 ≤ 5) (hT : tOK (mT X)) : dp_met E l yX7_enter wsX7_enter 5 113 [.ref (eAd E 8 0)] (dN M V X) (dp_qi E (fun y M1 => ∃ (mm : Nat) (r : Int) (X' : dp_V), SC (mT X) (10 - (N : Int)) mm r ∧ ((¬ r = 0 ∧ y = -100002 ∧ M1 = dN M V X' ∧ txF X X') ∨ (r = 0 ∧ y = mm ∧ M1 = dN (rnW M V X) (emV V (mT X) N mm) X' ∧ txF (rsX X) X')))) := by
  refine dp_of (cc := cX7_enter) (nL := 3) (own := RX7) (ret := some (.int)) (by decide +kernel) rfl rfl hE (by simp [Value.category]) (Nat.le_of_ble_eq_true rfl) ?_
  intro p e s m below meth co C hret
  show dp_G _ _ _ _ _ _ _ _ _ _ _ _ _ _ _ _ _ [some (.ref (eAd E 8 0)), none, none] _
  have hX7 : ∀ w ∈ u_ws RX7 TX7 12, w ∈ wsX7_enter := fun w h => List.mem_cons_of_mem _ (List.mem_append_right _ (h))
  have hN := hm.1
  have h10 := hm.2.1
  have hT0 : 0 ≤ X 0 1 ∧ X 0 1 ≤ 100 := ⟨hT.1, hT.2.1⟩
  have J23 : ∀ (mm : Nat), ∀ (n i : Nat) (ci : Int) (X' : dp_V) (o : Option Value), i + n = mm → ci = i → (∀ j, j < mm → posT (mT X) j < X 0 1 ∧ rsT (mT X) (10 - (N : Int)) j = 0) → X 0 1 ≤ posT (mT X) mm → X' 0 5 = posT (mT X) i → (0 ≤ posT (mT X) i ∧ posT (mT X) i ≤ X 0 1) → txF (rsX X) X' → dp_G E (dp_A E) p l e (dp_rm 5 113) s m [.ref (eAd E 8 0)].toArray below meth co 0 0 (MQ below (dp_qi E (fun y M1 => ∃ (mm : Nat) (r : Int) (X' : dp_V), SC (mT X) (10 - (N : Int)) mm r ∧ ((¬ r = 0 ∧ y = -100002 ∧ M1 = dN M V X' ∧ txF X X') ∨ (r = 0 ∧ y = mm ∧ M1 = dN (rnW M V X) (emV V (mT X) N mm) X' ∧ txF (rsX X) X')))) [.ref (eAd E 8 0)].toArray s 0 0 (dp_A E)) (dN (rnW M V X) (emV V (mT X) N i) X') 23 [some (.ref (eAd E 8 0)), some (.int (dp_I ci)), o] [] := by
    intro mm
    refine dp_ind (fun n ih => ?_)
    intro i ci X' o hin hci hall hend h5 hpb htx
    have e1 : X' 0 1 = X 0 1 := (htx.2 1 (by decide) (by decide)).trans (by unfold rsX; rw [u2_same, u1_ne (by decide)])
    have esg : sgF (mT X') = sgF (mT X) := htx.sg.trans mT_rs
    refine dp_aload_n C dX7_enter_23 rfl ?_
    refine dp_getf C (k := 9) (dp_mM (by decide)) dp_xmo rfl hX7 (by decide) (List.mem_of_getElem? (i := 3) rfl) rfl dX7_enter_24 ?_
    refine dp_aload_n C dX7_enter_27 rfl ?_
    refine dp_getf C (k := 5) (dp_mM (by decide)) dp_xmo rfl hX7 (by decide) (List.mem_of_getElem? (i := 4) rfl) rfl dX7_enter_28 ?_
    refine dp_icmp_ge (tgt := 96) C dX7_enter_31 (by decide) ⟨by omega, by omega⟩ ⟨by omega, by omega⟩ (fun c31 => ?_) (fun c31 => ?_)
    · skip
      obtain rfl : n = 0 := by
        by_cases q : i < mm
        · have := (hall i q).1
          omega
        · omega
      refine dp_iload_n C dX7_enter_96 rfl ?_
      refine dp_iret C hret dX7_enter_97 ?_
      obtain rfl : i = mm := by omega
      exact ⟨i, 0, X', ⟨hall, Or.inl ⟨rfl, hend⟩⟩, Or.inr ⟨rfl, hci, rfl, htx⟩⟩
    · skip
      have hn1 : 1 ≤ n := by
        by_cases q : n = 0
        · have q3 : i = mm := by omega
          rw [q3] at h5
          omega
        · omega
      obtain ⟨n, rfl⟩ : ∃ n', n = n' + 1 := ⟨n - 1, by omega⟩
      have hi : i < mm := by omega
      obtain ⟨z8, z9⟩ := hall i hi
      obtain ⟨z1, z2, z3⟩ := rsT_z z9
      have z4 := rdR_lt z1
      have z5 : rdR (mT X) (posT (mT X) i) ≤ X 0 1 := rdR_le z1
      refine dp_aload_n C dX7_enter_34 rfl ?_
      refine dp_bipush C dX7_enter_35 (by decide) ?_
      refine dp_cVi C (c_X7_reason C.2.2.1 l (show tOK (mT X') from tOK_e esg e1 (htx.1 4 (by decide) (by decide)) hT) (by omega) (rm := 10) (by decide)) gX7_enter_X7_reason rfl (dp_mM (by decide)) dp_xmo rfl yyX7_reason rfl ⟨Nat.le_of_ble_eq_true rfl, Nat.le_of_ble_eq_true rfl⟩ rfl (Nat.le_of_ble_eq_true rfl) rfl ⟨Nat.zero_le _, Nat.zero_le _⟩ dX7_enter_37 (fun x37 M37 h37 => ?_)
      obtain ⟨rfl, X1, rfl, hx1, hy1⟩ := h37
      have hk : (if rdR (mT X') (X' 0 5) = -1 then (1 : Int) else if iru (mT X') (X' 0 5) = 0 then 2 else if (10 : Int) = 0 then 3 else 0) = 0 := by
        rw [rdR_tx esg, iru_tx esg, h5, if_neg z1, if_neg z2]
        rfl
      rw [hk]
      rw [rdR_tx esg, h5] at hy1
      have hnu : ∀ j, j < 6 → X1 5 j = nuv (mT X) (posT (mT X) i) j := fun j hj => by rw [(hy1 z1).2 j hj, nuv_tx esg]
      refine dp_istore_n C dX7_enter_40 (Nat.le_of_ble_eq_true rfl) ?_
      dsimp only [List.set]
      refine dp_aload_n C dX7_enter_41 rfl ?_
      refine dp_aload_n C dX7_enter_42 rfl ?_
      refine dp_getf C (k := 10) (dp_mM (by decide)) dp_xmo rfl hX7 (by decide) (List.mem_of_getElem? (i := 5) rfl) rfl dX7_enter_43 ?_
      refine dp_iconst C dX7_enter_46 ?_
      refine dp_ald_mp C (j := 0) ⟨by omega, by omega⟩ rfl dX7_enter_47 ?_
      rw [hnu 0 (by decide)]
      refine dp_aload_n C dX7_enter_48 rfl ?_
      refine dp_getf C (k := 10) (dp_mM (by decide)) dp_xmo rfl hX7 (by decide) (List.mem_of_getElem? (i := 5) rfl) rfl dX7_enter_49 ?_
      refine dp_iconst C dX7_enter_52 ?_
      refine dp_ald_mp C (j := 1) ⟨by omega, by omega⟩ rfl dX7_enter_53 ?_
      rw [hnu 1 (by decide)]
      refine dp_aload_n C dX7_enter_54 rfl ?_
      refine dp_getf C (k := 10) (dp_mM (by decide)) dp_xmo rfl hX7 (by decide) (List.mem_of_getElem? (i := 5) rfl) rfl dX7_enter_55 ?_
      refine dp_iconst C dX7_enter_58 ?_
      refine dp_ald_mp C (j := 2) ⟨by omega, by omega⟩ rfl dX7_enter_59 ?_
      rw [hnu 2 (by decide)]
      refine dp_aload_n C dX7_enter_60 rfl ?_
      refine dp_getf C (k := 10) (dp_mM (by decide)) dp_xmo rfl hX7 (by decide) (List.mem_of_getElem? (i := 5) rfl) rfl dX7_enter_61 ?_
      refine dp_iconst C dX7_enter_64 ?_
      refine dp_ald_mp C (j := 3) ⟨by omega, by omega⟩ rfl dX7_enter_65 ?_
      rw [hnu 3 (by decide)]
      refine dp_aload_n C dX7_enter_66 rfl ?_
      refine dp_getf C (k := 10) (dp_mM (by decide)) dp_xmo rfl hX7 (by decide) (List.mem_of_getElem? (i := 5) rfl) rfl dX7_enter_67 ?_
      refine dp_iconst C dX7_enter_70 ?_
      refine dp_ald_mp C (j := 4) ⟨by omega, by omega⟩ rfl dX7_enter_71 ?_
      rw [hnu 4 (by decide)]
      refine dp_aload_n C dX7_enter_72 rfl ?_
      refine dp_getf C (k := 10) (dp_mM (by decide)) dp_xmo rfl hX7 (by decide) (List.mem_of_getElem? (i := 5) rfl) rfl dX7_enter_73 ?_
      refine dp_iconst C dX7_enter_76 ?_
      refine dp_ald_mp C (j := 5) ⟨by omega, by omega⟩ rfl dX7_enter_77 ?_
      rw [hnu 5 (by decide)]
      refine dp_cVv C (c_X7_adds C.2.2.1 l (emV_03 hN i) (by omega)) gX7_enter_X7_adds rfl (dp_mM (by decide)) dp_xmo rfl yyX7_adds rfl ⟨Nat.le_of_ble_eq_true rfl, Nat.le_of_ble_eq_true rfl⟩ rfl (Nat.le_of_ble_eq_true rfl) rfl ⟨Nat.zero_le _, Nat.zero_le _⟩ dX7_enter_78 (fun M78 h78 => ?_)
      obtain rfl := h78
      refine dp_iload_n C dX7_enter_81 rfl ?_
      refine dp_iload_n C dX7_enter_82 rfl ?_
      refine dp_if_ne (tgt := 90) C dX7_enter_83 (by decide) ⟨by omega, by omega⟩ (fun c83 => ?_) (fun c83 => ?_)
      · skip
        exact absurd rfl c83
      · skip
        refine dp_iconst C dX7_enter_86 ?_
        refine dp_goto (tgt := 91) C dX7_enter_87 (by decide) ?_
        refine dp_iadd C dX7_enter_91 ?_
        refine dp_istore_n C dX7_enter_92 (Nat.le_of_ble_eq_true rfl) ?_
        dsimp only [List.set]
        refine dp_goto (tgt := 23) C dX7_enter_93 (by decide) ?_
        exact ih n (by omega) (i + 1) _ _ _ (by omega) (by omega) hall hend (hy1 z1).1 ⟨by show 0 ≤ rdR (mT X) (posT (mT X) i); omega, by show rdR (mT X) (posT (mT X) i) ≤ X 0 1; exact z5⟩ (htx.trM hx1)
  refine dp_aload_n C dX7_enter_0 rfl ?_
  refine dp_cVi C (c_X7_faultAt C.2.2.1 l hm hT) gX7_enter_X7_faultAt rfl (dp_mM (by decide)) dp_xmo rfl yyX7_faultAt rfl ⟨Nat.le_of_ble_eq_true rfl, Nat.le_of_ble_eq_true rfl⟩ rfl (Nat.le_of_ble_eq_true rfl) rfl ⟨Nat.zero_le _, Nat.zero_le _⟩ dX7_enter_1 (fun x1 M1 h1 => ?_)
  obtain ⟨mm, r, X1, hsc, rfl, rfl, hx1, h6⟩ := h1
  have hpb := @posT_bd (mT X) mm
  have hyb : dp_R (if r = 0 then -100004 else posT (mT X) mm) := by unfold dp_R; split <;> omega
  have hX10 : 0 ≤ X1 0 0 ∧ X1 0 0 ≤ 5 := by rw [hx1.2 0 (by decide) (by decide)]; exact hs
  refine dp_ldc C (-100004) (List.mem_of_getElem? (i := 1) rfl) rfl dX7_enter_4 ?_
  refine dp_icmp_eq (tgt := 12) C dX7_enter_6 (by decide) hyb ⟨by omega, by omega⟩ (fun c6 => ?_) (fun c6 => ?_)
  · skip
    have hr : r = 0 := Decidable.byContradiction (fun q => by rw [if_neg q] at c6; omega)
    subst hr
    have hend : X 0 1 ≤ posT (mT X) mm := by
      rcases hsc.2 with ⟨_, q⟩ | ⟨_, _, q⟩
      · exact q
      · exact absurd rfl q
    refine dp_aload_n C dX7_enter_12 rfl ?_
    refine dp_cVv C (c_X7_records C.2.2.1 l hX10) gX7_enter_X7_records rfl (dp_mM (by decide)) dp_xmo rfl yyX7_records rfl ⟨Nat.le_of_ble_eq_true rfl, Nat.le_of_ble_eq_true rfl⟩ rfl (Nat.le_of_ble_eq_true rfl) rfl ⟨Nat.zero_le _, Nat.zero_le _⟩ dX7_enter_13 (fun M13 h13 => ?_)
    obtain rfl := h13
    unfold rnM
    rw [hx1.rw]
    refine dp_aload_n C dX7_enter_16 rfl ?_
    refine dp_iconst C dX7_enter_17 ?_
    refine dp_putM C  (k := 5) hX7 (by decide) (List.mem_of_getElem? (i := 3) rfl) rfl (tyX7_ok _ (by decide)) rfl rfl dX7_enter_18 ?_
    refine dp_iconst C dX7_enter_21 ?_
    refine dp_istore_n C dX7_enter_22 (Nat.le_of_ble_eq_true rfl) ?_
    dsimp only [List.set]
    exact J23 mm mm 0 0 (u2 (rsX X1) 0 5 0) _ (by omega) rfl hsc.1 hend (by rw [u2_same, u1_same]; rfl) ⟨by show (0 : Int) ≤ 0; decide, by show (0 : Int) ≤ X 0 1; omega⟩ hx1.rS.u5
  · skip
    refine dp_ldc C (-100002) (List.mem_of_getElem? (i := 2) rfl) rfl dX7_enter_9 ?_
    refine dp_iret C hret dX7_enter_11 ?_
    exact ⟨mm, r, X1, hsc, Or.inl ⟨fun q => by rw [if_pos q] at c6; exact c6 rfl, rfl, rfl, hx1⟩⟩
