theorem yyX6_enter : yX6_enter.cls = RX6 ∧ yX6_enter.cls ≠ "java/lang/invoke/MethodHandle" ∧ yX6_enter.cls ≠ "java/lang/invoke/VarHandle" ∧ (parseMethodDescriptor yX6_enter.desc).map (fun d => d.parameters.length) = some 0 := by decide +kernel
set_option maxHeartbeats 4000000 in
set_option maxRecDepth 100000 in
theorem c_X6_enter {E : dp_E} (hE : dp_OK E) (l : Launch) {M : dp_M} {V Y X : dp_V} {nn : Nat} (hv : ivC V) (hH : hOK X) (hct : ctO V nn) (hT : tOK X) (hN : nOK X) : dp_met E l yX6_enter wsX6_enter 4 93 [.ref (eAd E 7 0)] (dS (dR M 7 X) 0 V Y) (dp_qi E (fun y M1 => ∃ X', nOK X' ∧ ((¬ ckX X (10 - (nn : Int)) 3 3 = 0 ∧ y = -100002 ∧ X' = ckX X (10 - (nn : Int)) ∧ M1 = dS (dR M 7 X') 0 V Y) ∨ (∃ mm : Nat, ckX X (10 - (nn : Int)) 3 3 = 0 ∧ SC X (10 - (nn : Int)) mm 0 ∧ y = mm ∧ (∀ c, c ≠ 5 → X' c = rcX1 (ckX X (10 - (nn : Int))) c) ∧ M1 = dS (dR (dR M (rcJ X) V) 7 X') 0 (etV V X nn mm) Y)))) := by
  refine dp_of (cc := cX6_enter) (nL := 4) (own := RX6) (ret := some (.int)) (by decide +kernel) rfl rfl hE (by simp [Value.category]) (Nat.le_of_ble_eq_true rfl) ?_
  intro p e s m below meth co C hret
  show dp_G _ _ _ _ _ _ _ _ _ _ _ _ _ _ _ _ _ [some (.ref (eAd E 7 0)), none, none, none] _
  have hX4 : ∀ w ∈ u_ws RX4 TX4 6, w ∈ wsX6_enter := fun w h => List.mem_cons_of_mem _ (List.mem_append_left _ (List.mem_append_left _ (List.mem_append_left _ (List.mem_append_left _ (List.mem_append_right _ (h))))))
  have hX6 : ∀ w ∈ u_ws RX6 TX6 4, w ∈ wsX6_enter := fun w h => List.mem_cons_of_mem _ (List.mem_append_left _ (List.mem_append_left _ (List.mem_append_left _ (List.mem_append_left _ (List.mem_append_left _ (List.mem_append_right _ (h)))))))
  have h07 : 0 < 7 := by decide
  have hn10 := hct.1
  have hcn := hct.cn
  obtain ⟨mm, hm31, hSC, -⟩ := ckX_sc (X := X) (room := 10 - (nn : Int)) hT
  obtain ⟨hNk, e30, ek⟩ := ckX_S (X := X) (room := 10 - (nn : Int)) hN
  have e44 : ckX X (10 - (nn : Int)) 4 = X 4 := ek 4 (by decide) (by decide)
  have hgood := hSC.1
  have h33 := @ckX_33 X (10 - (nn : Int))
  have eJ : rcJ (ckX X (10 - (nn : Int))) = rcJ X := by
    have q1 : ckX X (10 - (nn : Int)) 1 = X 1 := ek 1 (by decide) (by decide)
    have q2 : ckX X (10 - (nn : Int)) 2 = X 2 := ek 2 (by decide) (by decide)
    unfold rcJ rcX drX
    rw [q1, q2]
    split
    · rw [q1, q2]
    · simp (decide := true) only [u2, u1, uc, reduceIte]
  have hHk : hOK (ckX X (10 - (nn : Int))) := by
    unfold hOK at hH ⊢
    rw [ek 1 (by decide) (by decide), ek 2 (by decide) (by decide)]
    exact hH
  have hJ := rcJ_ok hHk
  rw [eJ] at hJ
  have hRc : ∀ c, c ≠ 1 → c ≠ 2 → rcX1 (ckX X (10 - (nn : Int))) c = ckX X (10 - (nn : Int)) c := fun c h1 h2 => by
    unfold rcX1
    rw [u2_ne h1]
    unfold rcX drX
    split
    · rfl
    · rw [u2_ne h1, uc_ne h2]
  have hR3 : rcX1 (ckX X (10 - (nn : Int))) 3 = ckX X (10 - (nn : Int)) 3 := hRc 3 (by decide) (by decide)
  have hR4 : rcX1 (ckX X (10 - (nn : Int))) 4 = ckX X (10 - (nn : Int)) 4 := hRc 4 (by decide) (by decide)
  have hNc : nOK (rcX1 (ckX X (10 - (nn : Int)))) := fun i hi => by
    rw [hRc 5 (by decide) (by decide)]
    exact hNk i hi
  have hmm : nn + mm ≤ 10 := by
    rcases Nat.eq_zero_or_pos mm with z | z
    · omega
    · have := (rsT_0 (hgood (mm - 1) (by omega)).2).2.2
      omega
  have J51 : ckX X (10 - (nn : Int)) 3 3 = 0 → ∀ (n9 k : Nat) (X2 : dp_V) (ki : Int), k + n9 = mm → ki = k → (∀ c, c ≠ 5 → X2 c = rcX1 (ckX X (10 - (nn : Int))) c) → nOK X2 → dp_G E (dp_A E) p l e (dp_rm 4 93) s m [.ref (eAd E 7 0)].toArray below meth co 0 0 (MQ below (dp_qi E (fun y M1 => ∃ X', nOK X' ∧ ((¬ ckX X (10 - (nn : Int)) 3 3 = 0 ∧ y = -100002 ∧ X' = ckX X (10 - (nn : Int)) ∧ M1 = dS (dR M 7 X') 0 V Y) ∨ (∃ mm : Nat, ckX X (10 - (nn : Int)) 3 3 = 0 ∧ SC X (10 - (nn : Int)) mm 0 ∧ y = mm ∧ (∀ c, c ≠ 5 → X' c = rcX1 (ckX X (10 - (nn : Int))) c) ∧ M1 = dS (dR (dR M (rcJ X) V) 7 X') 0 (etV V X nn mm) Y)))) [.ref (eAd E 7 0)].toArray s 0 0 (dp_A E)) (dS (dR (dR M (rcJ X) V) 7 X2) 0 (etV V X nn k) Y) 51 [some (.ref (eAd E 7 0)), some (.ref (eAd E 7 5)), some (.int (dp_I (posT X k))), some (.int (dp_I ki))] [] := by
    intro hz
    have hSC0 : SC X (10 - (nn : Int)) mm 0 := by
      rw [hz] at hSC
      exact hSC
    refine dp_ind (fun n9 ih => ?_)
    intro k X2 ki hkn hki hX2 hN2
    obtain ⟨iE, cE⟩ := etV_iv (T := X) (room := 10 - (nn : Int)) hv hct (m := k) (by omega) (fun i hi => (hgood i (by omega)).2)
    have e30 : X2 3 0 = X 3 0 := by rw [hX2 3 (by decide), hR3, e30]
    have e31 : X2 3 1 = mm := by rw [hX2 3 (by decide), hR3, hm31]
    have e4 : X2 4 = X 4 := by rw [hX2 4 (by decide), hR4, e44]
    have hg2 : sgF X2 = sgF X := sgF_tx e30 e4
    have hT2 : tOK X2 := by
      unfold tOK at hT ⊢
      rw [e30, e4]
      exact hT
    refine dp_iload_n C dX6_enter_51 rfl ?_
    refine dp_aload_n C dX6_enter_52 rfl ?_
    refine dp_getf C (k := 3) (dp_mC (by decide)) dp_xdp rfl hX6 (by decide) (List.mem_of_getElem? (i := 1) rfl) rfl dX6_enter_53 ?_
    refine dp_c7 ?_
    refine dp_getf C (k := 3) (dp_mC (by decide)) dp_xtx rfl hX4 (by decide) (List.mem_of_getElem? (i := 7) rfl) rfl dX6_enter_56 ?_
    rw [e31]
    refine dp_c0 ?_
    refine dp_icmp_ge (tgt := 103) C dX6_enter_59 (by decide) ⟨by omega, by omega⟩ ⟨by omega, by omega⟩ (fun c59 => ?_) (fun c59 => ?_)
    · skip
      obtain rfl : n9 = 0 := by omega
      obtain rfl : k = mm := by omega
      refine dp_aload_n C dX6_enter_103 rfl ?_
      refine dp_getf C (k := 3) (dp_mC (by decide)) dp_xdp rfl hX6 (by decide) (List.mem_of_getElem? (i := 1) rfl) rfl dX6_enter_104 ?_
      refine dp_c7 ?_
      refine dp_getf C (k := 3) (dp_mC (by decide)) dp_xtx rfl hX4 (by decide) (List.mem_of_getElem? (i := 7) rfl) rfl dX6_enter_107 ?_
      rw [e31]
      refine dp_c0 ?_
      refine dp_iret C hret dX6_enter_110 ?_
      exact ⟨X2, hN2, Or.inr ⟨k, hz, hSC0, rfl, hX2, rfl⟩⟩
    · skip
      obtain ⟨n9, rfl⟩ : ∃ n', n9 = n' + 1 := ⟨n9 - 1, by omega⟩
      obtain ⟨hg0, hg1⟩ := hgood k (by omega)
      obtain ⟨hr1, hr2, hr3⟩ := rsT_0 hg1
      have hp0 := posT_ge (T := X) (room := 10 - (nn : Int)) (m := k) (fun i hi => (hgood i (by omega)).2)
      have hlen := hT.2.1
      refine dp_aload_n C dX6_enter_62 rfl ?_
      refine dp_getf C (k := 3) (dp_mC (by decide)) dp_xdp rfl hX6 (by decide) (List.mem_of_getElem? (i := 1) rfl) rfl dX6_enter_63 ?_
      refine dp_iload_n C dX6_enter_66 rfl ?_
      refine dp_c7 ?_
      refine dp_cVi C (c_X4_readTarget C.2.2.1 l hT2 (by omega)) gX6_enter_X4_readTarget rfl (dp_mC (by decide)) dp_xtx rfl yyX4_readTarget rfl ⟨Nat.le_of_ble_eq_true rfl, Nat.le_of_ble_eq_true rfl⟩ rfl (Nat.le_of_ble_eq_true rfl) rfl ⟨Nat.zero_le _, Nat.zero_le _⟩ dX6_enter_67 (fun x67 M67 h67 => ?_)
      obtain ⟨rfl, rfl⟩ := h67
      rw [rdR_tx hg2, rdX_tx hg2, show rdR X (posT X k) = posT X (k + 1) from rfl]
      have hN3 : nOK (rdX X X2 (posT X k)) := rdX_n hN2
      have hX3 : ∀ c, c ≠ 5 → rdX X X2 (posT X k) c = rcX1 (ckX X (10 - (nn : Int))) c := fun c hc => by rw [rdX_c hc]; exact hX2 c hc
      refine dp_c0 ?_
      refine dp_istore_n C dX6_enter_70 (Nat.le_of_ble_eq_true rfl) ?_
      dsimp only [List.set]
      refine dp_aload_n C dX6_enter_71 rfl ?_
      refine dp_getf C (k := 0) (dp_mC (by decide)) dp_xdp rfl hX6 (by decide) (List.mem_of_getElem? (i := 2) rfl) rfl dX6_enter_72 ?_
      refine dp_aload_n C dX6_enter_75 rfl ?_
      refine dp_iconst C dX6_enter_76 ?_
      refine dp_c7 ?_
      refine dp_ald_nu C (j := 0) ⟨by omega, by omega⟩ rfl dX6_enter_77 ?_
      refine dp_c0 ?_
      refine dp_aload_n C dX6_enter_78 rfl ?_
      refine dp_iconst C dX6_enter_79 ?_
      refine dp_c7 ?_
      refine dp_ald_nu C (j := 1) ⟨by omega, by omega⟩ rfl dX6_enter_80 ?_
      refine dp_c0 ?_
      refine dp_aload_n C dX6_enter_81 rfl ?_
      refine dp_iconst C dX6_enter_82 ?_
      refine dp_c7 ?_
      refine dp_ald_nu C (j := 2) ⟨by omega, by omega⟩ rfl dX6_enter_83 ?_
      refine dp_c0 ?_
      refine dp_aload_n C dX6_enter_84 rfl ?_
      refine dp_iconst C dX6_enter_85 ?_
      refine dp_c7 ?_
      refine dp_ald_nu C (j := 3) ⟨by omega, by omega⟩ rfl dX6_enter_86 ?_
      refine dp_c0 ?_
      refine dp_aload_n C dX6_enter_87 rfl ?_
      refine dp_iconst C dX6_enter_88 ?_
      refine dp_c7 ?_
      refine dp_ald_nu C (j := 4) ⟨by omega, by omega⟩ rfl dX6_enter_89 ?_
      refine dp_c0 ?_
      refine dp_aload_n C dX6_enter_90 rfl ?_
      refine dp_iconst C dX6_enter_91 ?_
      refine dp_c7 ?_
      refine dp_ald_nu C (j := 5) ⟨by omega, by omega⟩ rfl dX6_enter_92 ?_
      refine dp_c0 ?_
      refine dp_cVi C (c_X2_append C.2.2.1 l h07 iE (by rw [cE.cn]) (by omega)) gX6_enter_X2_append rfl (dp_mS ‹_› (by decide)) (dp_xst ‹_›) rfl yyX2_append rfl ⟨Nat.le_of_ble_eq_true rfl, Nat.le_of_ble_eq_true rfl⟩ rfl (Nat.le_of_ble_eq_true rfl) rfl ⟨Nat.zero_le _, Nat.zero_le _⟩ dX6_enter_93 (fun x93 M93 h93 => ?_)
      obtain ⟨rfl, rfl⟩ := h93
      rw [rdX_nu hr1 (show 0 < 6 by decide), rdX_nu hr1 (show 1 < 6 by decide), rdX_nu hr1 (show 2 < 6 by decide), rdX_nu hr1 (show 3 < 6 by decide), rdX_nu hr1 (show 4 < 6 by decide), rdX_nu hr1 (show 5 < 6 by decide)]
      refine dp_pop C dX6_enter_96 rfl ?_
      refine dp_iinc C dX6_enter_97 rfl ?_
      dsimp only [List.set]
      refine dp_goto (tgt := 51) C dX6_enter_100 (by decide) ?_
      exact ih n9 (by omega) (k + 1) _ _ (by omega) (by omega) hX3 hN3
  refine dp_aload_n C dX6_enter_0 rfl ?_
  refine dp_getf C (k := 3) (dp_mC (by decide)) dp_xdp rfl hX6 (by decide) (List.mem_of_getElem? (i := 1) rfl) rfl dX6_enter_1 ?_
  refine dp_aload_n C dX6_enter_4 rfl ?_
  refine dp_getf C (k := 0) (dp_mC (by decide)) dp_xdp rfl hX6 (by decide) (List.mem_of_getElem? (i := 2) rfl) rfl dX6_enter_5 ?_
  refine dp_iconst C dX6_enter_8 ?_
  refine dp_cVi C (c_X2_targetsIn C.2.2.1 l h07 ⟨by omega, by omega⟩ hv) gX6_enter_X2_targetsIn rfl (dp_mS ‹_› (by decide)) (dp_xst ‹_›) rfl yyX2_targetsIn rfl ⟨Nat.le_of_ble_eq_true rfl, Nat.le_of_ble_eq_true rfl⟩ rfl (Nat.le_of_ble_eq_true rfl) rfl ⟨Nat.zero_le _, Nat.zero_le _⟩ dX6_enter_9 (fun x9 M9 h9 => ?_)
  obtain ⟨rfl, rfl⟩ := h9
  rw [hcn]
  refine dp_c7 ?_
  refine dp_cVv C (c_X4_check C.2.2.1 l hT hN (by omega)) gX6_enter_X4_check rfl (dp_mC (by decide)) dp_xtx rfl yyX4_check rfl ⟨Nat.le_of_ble_eq_true rfl, Nat.le_of_ble_eq_true rfl⟩ rfl (Nat.le_of_ble_eq_true rfl) rfl ⟨Nat.zero_le _, Nat.zero_le _⟩ dX6_enter_12 (fun M12 h12 => ?_)
  obtain rfl := h12
  refine dp_c0 ?_
  refine dp_aload_n C dX6_enter_15 rfl ?_
  refine dp_getf C (k := 3) (dp_mC (by decide)) dp_xdp rfl hX6 (by decide) (List.mem_of_getElem? (i := 1) rfl) rfl dX6_enter_16 ?_
  refine dp_c7 ?_
  refine dp_getf C (k := 5) (dp_mC (by decide)) dp_xtx rfl hX4 (by decide) (List.mem_of_getElem? (i := 3) rfl) rfl dX6_enter_19 ?_
  refine dp_c0 ?_
  refine dp_if_eq (tgt := 28) C dX6_enter_22 (by decide) ⟨by omega, by omega⟩ (fun c22 => ?_) (fun c22 => ?_)
  · skip
    refine dp_aload_n C dX6_enter_28 rfl ?_
    refine dp_getf C (k := 2) (dp_mC (by decide)) dp_xdp rfl hX6 (by decide) (List.mem_of_getElem? (i := 5) rfl) rfl dX6_enter_29 ?_
    refine dp_aload_n C dX6_enter_32 rfl ?_
    refine dp_getf C (k := 0) (dp_mC (by decide)) dp_xdp rfl hX6 (by decide) (List.mem_of_getElem? (i := 2) rfl) rfl dX6_enter_33 ?_
    refine dp_c7 ?_
    refine dp_cVv C (c_X1_record C.2.2.1 l hHk (by rw [dS_V]; exact hv.2.2)) gX6_enter_X1_record rfl (dp_mC (by decide)) dp_xhi rfl yyX1_record rfl ⟨Nat.le_of_ble_eq_true rfl, Nat.le_of_ble_eq_true rfl⟩ rfl (Nat.le_of_ble_eq_true rfl) rfl ⟨Nat.zero_le _, Nat.zero_le _⟩ dX6_enter_36 (fun M36 h36 => ?_)
    obtain rfl := h36
    rw [rc_c (by rw [eJ]; exact hJ), eJ]
    refine dp_c0 ?_
    refine dp_aload_n C dX6_enter_39 rfl ?_
    refine dp_getf C (k := 3) (dp_mC (by decide)) dp_xdp rfl hX6 (by decide) (List.mem_of_getElem? (i := 1) rfl) rfl dX6_enter_40 ?_
    refine dp_c7 ?_
    refine dp_getf C (k := 2) (dp_mC (by decide)) dp_xtx rfl hX4 (by decide) (List.mem_of_getElem? (i := 6) rfl) rfl dX6_enter_43 ?_
    refine dp_c0 ?_
    refine dp_astore_n C dX6_enter_46 (Nat.le_of_ble_eq_true rfl) ?_
    dsimp only [List.set]
    refine dp_iconst C dX6_enter_47 ?_
    refine dp_istore_n C dX6_enter_48 (Nat.le_of_ble_eq_true rfl) ?_
    dsimp only [List.set]
    refine dp_iconst C dX6_enter_49 ?_
    refine dp_istore_n C dX6_enter_50 (Nat.le_of_ble_eq_true rfl) ?_
    dsimp only [List.set]
    exact J51 (by assumption) mm 0 _ 0 (by omega) rfl (fun c _ => rfl) hNc
  · skip
    refine dp_ldc C (-100002) (List.mem_of_getElem? (i := 4) rfl) rfl dX6_enter_25 ?_
    refine dp_iret C hret dX6_enter_27 ?_
    exact ⟨_, hNk, Or.inl ⟨by assumption, rfl, rfl, rfl⟩⟩
