theorem dp_frU {E : dp_E} {M : dp_M} {V Y : dp_V} {r c : Nat} {f : Nat → Int} (hr : r < 7) : ∀ r' c', (r', c') ∈ dp_ps E → (r', c') ≠ (r, c) → dp_x E (dS M r (uc V c f) Y) r' c' = dp_x E (dS M r V Y) r' c' := by
  intro r' c' hm hne
  by_cases e : r' = r
  · subst e
    rw [dp_x_S hr, dp_x_S hr, dS_V, dS_V, dS_Y, dS_Y, dp_xS_uc (fun q => hne (by rw [q]))]
  · refine dp_frX hm (fun h => ?_) (fun h => ?_) (fun h => ?_)
    · rw [dS_ne e (by omega), dS_ne e (by omega), dS_ne (by omega) (by omega), dS_ne (by omega) (by omega)]
      exact ⟨rfl, rfl⟩
    · subst h
      rw [dS_ne e (by omega), dS_ne e (by omega)]
    · subst h
      refine ⟨by rw [dS_ne (by omega) (by omega), dS_ne (by omega) (by omega)], by rw [dS_ne (by omega) (by omega), dS_ne (by omega) (by omega)]⟩
/-- the regions agree as far as their cells hold them -/
def stE (V W : dp_V) : Prop := (V 0 0 = W 0 0 ∧ V 0 1 = W 0 1 ∧ V 0 2 = W 0 2) ∧ V 1 = W 1 ∧ V 2 = W 2 ∧ V 3 = W 3 ∧ V 4 = W 4
theorem dp_cvS {E : dp_E} {M : dp_M} {V W Y : dp_V} {r : Nat} (hr : r < 7) (h : stE V W) (ht : ∀ t, t < 10 → V (t + 6) = W (t + 6)) : ∀ H, dp_W E (dS M r V Y) H → dp_W E (dS M r W Y) H := fun H => dp_W.st hr (fun c hc H => by
  have e : dp_xS E V Y r c = dp_xS E W Y r c := by
    obtain ⟨⟨a0, a1, a2⟩, b1, b2, b3, b4⟩ := h
    unfold dp_xS
    split
    · unfold dp_fS
      rw [a0, a1, a2]
    · rw [b1]
    · rw [b2]
    · rw [b3]
    · rw [b4]
    · rfl
    · next t =>
      split
      · next q => rw [ht t q]
      · rfl
  rw [e]
  exact id)
theorem yyX2_copyFrom : yX2_copyFrom.cls = RX2 ∧ yX2_copyFrom.cls ≠ "java/lang/invoke/MethodHandle" ∧ yX2_copyFrom.cls ≠ "java/lang/invoke/VarHandle" ∧ (parseMethodDescriptor yX2_copyFrom.desc).map (fun d => d.parameters.length) = some 1 := by decide +kernel
set_option maxHeartbeats 4000000 in
set_option maxRecDepth 100000 in
theorem c_X2_copyFrom {E : dp_E} (hE : dp_OK E) (l : Launch) {M : dp_M} {r r2 : Nat} {V Y : dp_V} (hr : r < 7) (hr2 : r2 < 7) (hne : r2 ≠ r) (hz : ∀ t, t < 10 → M r2 (t + 6) 13 = 0 ∨ M r2 (t + 6) 13 = 1) : dp_met E l yX2_copyFrom wsX2_copyFrom 1 21 [.ref (eAd E r 0), .ref (eAd E r2 0)] (dS M r V Y) (dp_qv E (fun M1 => M1 = dS M r (M r2) Y)) := by
  refine dp_of (cc := cX2_copyFrom) (nL := 3) (own := RX2) (ret := none) (by decide +kernel) rfl rfl hE (by simp [Value.category]) (Nat.le_of_ble_eq_true rfl) ?_
  intro p e s m below meth co C hret
  show dp_G _ _ _ _ _ _ _ _ _ _ _ _ _ _ _ _ _ [some (.ref (eAd E r 0)), some (.ref (eAd E r2 0)), none] _
  have hX2 : ∀ w ∈ u_ws RX2 TX2 11, w ∈ wsX2_copyFrom := fun w h => List.mem_cons_of_mem _ (List.mem_append_left _ (List.mem_append_left _ (List.mem_append_right _ (h))))
  have hx0 : ∀ V Y : dp_V, dp_x E (dS M r V Y) r2 0 = .inr (2, dp_fS E r2 (M r2 0)) := fun V Y => by rw [dp_x_S hr2, dS_ne (by omega) (by omega)]; rfl
  have hx1 : ∀ V Y : dp_V, dp_x E (dS M r V Y) r2 1 = dp_ints (eI E) 4 (M r2 1) := fun V Y => by rw [dp_x_S hr2, dS_ne (by omega) (by omega)]; rfl
  have hx2 : ∀ V Y : dp_V, dp_x E (dS M r V Y) r2 2 = dp_ints (eI E) 31 (M r2 2) := fun V Y => by rw [dp_x_S hr2, dS_ne (by omega) (by omega)]; rfl
  have hx5 : ∀ V Y : dp_V, dp_x E (dS M r V Y) r2 5 = dp_refs (eT E) 10 (fun t => eAd E r2 (t + 6)) := fun V Y => by rw [dp_x_S hr2]; rfl
  have J84 : ∀ (n k : Nat) (V' : dp_V) (ki : Int), k + n = 10 → ki = k → stE V' (M r2) → (∀ t, t < k → V' (t + 6) = M r2 (t + 6)) → dp_G E (dp_A E) p l e (dp_rm 1 21) s m [.ref (eAd E r 0), .ref (eAd E r2 0)].toArray below meth co 0 0 (MQ below (dp_qv E (fun M1 => M1 = dS M r (M r2) Y)) [.ref (eAd E r 0), .ref (eAd E r2 0)].toArray s 0 0 (dp_A E)) (dS M r V' Y) 84 [some (.ref (eAd E r 0)), some (.ref (eAd E r2 0)), some (.int (dp_I ki))] [] := by
    refine dp_ind (fun n ih => ?_)
    intro k V' ki hkn hki he hf
    refine dp_iload_n C dX2_copyFrom_84 rfl ?_
    refine dp_aload_n C dX2_copyFrom_85 rfl ?_
    refine dp_getf C (k := 7) (dp_mS ‹_› (by decide)) (dp_xst ‹_›) rfl hX2 (by decide) (List.mem_of_getElem? (i := 12) rfl) rfl dX2_copyFrom_86 ?_
    refine dp_alen C (t0 := 2) (dp_mS ‹_› (by decide)) 10 (dp_xta ‹_›) rfl rfl dX2_copyFrom_89 ?_
    refine dp_icmp_ge (tgt := 114) C dX2_copyFrom_90 (by decide) ⟨by omega, by omega⟩ ⟨by omega, by omega⟩ (fun c90 => ?_) (fun c90 => ?_)
    · skip
      obtain rfl : n = 0 := by omega
      refine dp_cv (M' := dS M r (M r2) Y) (dp_cvS ‹r < 7› he (fun t ht => hf t (by omega))) ?_
      refine dp_vret C hret dX2_copyFrom_114 ?_
      rfl
    · skip
      obtain ⟨n, rfl⟩ : ∃ n', n = n' + 1 := ⟨n - 1, by omega⟩
      have ht : k < 10 := by omega
      refine dp_aload_n C dX2_copyFrom_93 rfl ?_
      refine dp_getf C (k := 7) (dp_mS ‹_› (by decide)) (dp_xst ‹_›) rfl hX2 (by decide) (List.mem_of_getElem? (i := 12) rfl) rfl dX2_copyFrom_94 ?_
      refine dp_iload_n C dX2_copyFrom_97 rfl ?_
      refine dp_aald_t C ‹_› ⟨by omega, by omega⟩ (show ki.toNat = k by omega) dX2_copyFrom_98 ?_
      refine dp_aload_n C dX2_copyFrom_99 rfl ?_
      refine dp_getf C (k := 7) (dp_mS ‹r2 < 7› (by decide)) (hx0 _ _) rfl hX2 (by decide) (List.mem_of_getElem? (i := 12) rfl) rfl dX2_copyFrom_100 ?_
      refine dp_iload_n C dX2_copyFrom_103 rfl ?_
      refine dp_aald C (t0 := 2) (Cn := "DishPointer$Target") (f := fun t => eAd E r2 (t + 6)) (dp_mS ‹r2 < 7› (by decide)) (hx5 _ _) rfl ⟨by omega, by omega⟩ (by decide) dX2_copyFrom_104 ?_
      rw [show ki.toNat = k by omega]
      refine dp_cVv C (c_X3_copyFrom C.2.2.1 l ‹r < 7› ‹r2 < 7› hne ht ht (hz k ht)) gX2_copyFrom_X3_copyFrom rfl (dp_mS ‹_› (dp_cT ‹_›)) (dp_xtg ‹_› ‹_›) rfl yyX3_copyFrom rfl ⟨Nat.le_of_ble_eq_true rfl, Nat.le_of_ble_eq_true rfl⟩ rfl (Nat.le_of_ble_eq_true rfl) rfl ⟨Nat.zero_le _, Nat.zero_le _⟩ dX2_copyFrom_105 (fun M105 h105 => ?_)
      obtain rfl := h105
      refine dp_iinc C dX2_copyFrom_108 rfl ?_
      dsimp only [List.set]
      refine dp_goto (tgt := 84) C dX2_copyFrom_111 (by decide) ?_
      refine ih n (by omega) (k + 1) _ _ (by omega) (by omega) ?_ (fun t htk => ?_)
      · obtain ⟨⟨a0, a1, a2⟩, b1, b2, b3, b4⟩ := he
        exact ⟨⟨by rw [uc_ne (by omega)]; exact a0, by rw [uc_ne (by omega)]; exact a1, by rw [uc_ne (by omega)]; exact a2⟩, by rw [uc_ne (by omega)]; exact b1, by rw [uc_ne (by omega)]; exact b2, by rw [uc_ne (by omega)]; exact b3, by rw [uc_ne (by omega)]; exact b4⟩
      · by_cases e : t = k
        · subst e
          rw [uc_same]
        · rw [uc_ne (by omega)]
          exact hf t (by omega)
  refine dp_aload_n C dX2_copyFrom_0 rfl ?_
  refine dp_aload_n C dX2_copyFrom_1 rfl ?_
  refine dp_getf C (k := 0) (dp_mS ‹r2 < 7› (by decide)) (hx0 _ _) rfl hX2 (by decide) (List.mem_of_getElem? (i := 1) rfl) rfl dX2_copyFrom_2 ?_
  refine dp_putS C ‹_› (k := 0) hX2 (by decide) (List.mem_of_getElem? (i := 1) rfl) rfl (tyX2_ok _ (by decide)) rfl rfl dX2_copyFrom_5 ?_
  refine dp_aload_n C dX2_copyFrom_8 rfl ?_
  refine dp_aload_n C dX2_copyFrom_9 rfl ?_
  refine dp_getf C (k := 1) (dp_mS ‹r2 < 7› (by decide)) (hx0 _ _) rfl hX2 (by decide) (List.mem_of_getElem? (i := 2) rfl) rfl dX2_copyFrom_10 ?_
  refine dp_putS C ‹_› (k := 1) hX2 (by decide) (List.mem_of_getElem? (i := 2) rfl) rfl (tyX2_ok _ (by decide)) rfl rfl dX2_copyFrom_13 ?_
  refine dp_aload_n C dX2_copyFrom_16 rfl ?_
  refine dp_aload_n C dX2_copyFrom_17 rfl ?_
  refine dp_getf C (k := 2) (dp_mS ‹r2 < 7› (by decide)) (hx0 _ _) rfl hX2 (by decide) (List.mem_of_getElem? (i := 3) rfl) rfl dX2_copyFrom_18 ?_
  refine dp_putS C ‹_› (k := 2) hX2 (by decide) (List.mem_of_getElem? (i := 3) rfl) rfl (tyX2_ok _ (by decide)) rfl rfl dX2_copyFrom_21 ?_
  refine dp_aload_n C dX2_copyFrom_24 rfl ?_
  refine dp_getf C (k := 3) (dp_mS ‹r2 < 7› (by decide)) (hx0 _ _) rfl hX2 (by decide) (List.mem_of_getElem? (i := 4) rfl) rfl dX2_copyFrom_25 ?_
  refine dp_iconst C dX2_copyFrom_28 ?_
  refine dp_aload_n C dX2_copyFrom_29 rfl ?_
  refine dp_getf C (k := 3) (dp_mS ‹_› (by decide)) (dp_xst ‹_›) rfl hX2 (by decide) (List.mem_of_getElem? (i := 4) rfl) rfl dX2_copyFrom_30 ?_
  refine dp_iconst C dX2_copyFrom_33 ?_
  refine dp_aload_n C dX2_copyFrom_34 rfl ?_
  refine dp_getf C (k := 3) (dp_mS ‹_› (by decide)) (dp_xst ‹_›) rfl hX2 (by decide) (List.mem_of_getElem? (i := 4) rfl) rfl dX2_copyFrom_35 ?_
  refine dp_alen C (t0 := 0) (dp_mS ‹_› (by decide)) 4 (dp_xse ‹_›) rfl rfl dX2_copyFrom_38 ?_
  refine dp_copyi C (n := 4) (f := M r2 1) (M' := dS M r (uc _ 1 (M r2 1)) Y) (List.mem_of_getElem? (i := 5) rfl) (List.mem_of_getElem? (i := 6) rfl) (List.mem_of_getElem? (i := 7) rfl) (List.mem_of_getElem? (i := 8) rfl) (dp_mS ‹r2 < 7› (by decide)) (hx1 _ _) (dp_mS ‹r < 7› (by decide)) (dp_xse ‹_›) (by rw [dp_xse ‹_›, uc_same]) (dp_frU ‹_›) rfl (by decide) (Nat.le_of_ble_eq_true rfl) (Nat.le_of_ble_eq_true rfl) rfl dX2_copyFrom_39 ?_
  refine dp_aload_n C dX2_copyFrom_42 rfl ?_
  refine dp_getf C (k := 4) (dp_mS ‹r2 < 7› (by decide)) (hx0 _ _) rfl hX2 (by decide) (List.mem_of_getElem? (i := 9) rfl) rfl dX2_copyFrom_43 ?_
  refine dp_iconst C dX2_copyFrom_46 ?_
  refine dp_aload_n C dX2_copyFrom_47 rfl ?_
  refine dp_getf C (k := 4) (dp_mS ‹_› (by decide)) (dp_xst ‹_›) rfl hX2 (by decide) (List.mem_of_getElem? (i := 9) rfl) rfl dX2_copyFrom_48 ?_
  refine dp_iconst C dX2_copyFrom_51 ?_
  refine dp_aload_n C dX2_copyFrom_52 rfl ?_
  refine dp_getf C (k := 4) (dp_mS ‹_› (by decide)) (dp_xst ‹_›) rfl hX2 (by decide) (List.mem_of_getElem? (i := 9) rfl) rfl dX2_copyFrom_53 ?_
  refine dp_alen C (t0 := 0) (dp_mS ‹_› (by decide)) 31 (dp_xgu ‹_›) rfl rfl dX2_copyFrom_56 ?_
  refine dp_copyi C (n := 31) (f := M r2 2) (M' := dS M r (uc _ 2 (M r2 2)) Y) (List.mem_of_getElem? (i := 5) rfl) (List.mem_of_getElem? (i := 6) rfl) (List.mem_of_getElem? (i := 7) rfl) (List.mem_of_getElem? (i := 8) rfl) (dp_mS ‹r2 < 7› (by decide)) (hx2 _ _) (dp_mS ‹r < 7› (by decide)) (dp_xgu ‹_›) (by rw [dp_xgu ‹_›, uc_same]) (dp_frU ‹_›) rfl (by decide) (Nat.le_of_ble_eq_true rfl) (Nat.le_of_ble_eq_true rfl) rfl dX2_copyFrom_57 ?_
  refine dp_aload_n C dX2_copyFrom_60 rfl ?_
  refine dp_getf C (k := 5) (dp_mS ‹_› (by decide)) (dp_xst ‹_›) rfl hX2 (by decide) (List.mem_of_getElem? (i := 10) rfl) rfl dX2_copyFrom_61 ?_
  refine dp_aload_n C dX2_copyFrom_64 rfl ?_
  refine dp_getf C (k := 5) (dp_mS ‹r2 < 7› (by decide)) (hx0 _ _) rfl hX2 (by decide) (List.mem_of_getElem? (i := 10) rfl) rfl dX2_copyFrom_65 ?_
  refine dp_cVv C (c_X0_copyFrom C.2.2.1 l ‹r < 7› ‹r2 < 7› hne (Or.inl rfl)) gX2_copyFrom_X0_copyFrom rfl (dp_mS ‹_› (dp_cA (Or.inl rfl))) (dp_xax ‹_› (Or.inl rfl)) rfl yyX0_copyFrom rfl ⟨Nat.le_of_ble_eq_true rfl, Nat.le_of_ble_eq_true rfl⟩ rfl (Nat.le_of_ble_eq_true rfl) rfl ⟨Nat.zero_le _, Nat.zero_le _⟩ dX2_copyFrom_68 (fun M68 h68 => ?_)
  obtain rfl := h68
  refine dp_aload_n C dX2_copyFrom_71 rfl ?_
  refine dp_getf C (k := 6) (dp_mS ‹_› (by decide)) (dp_xst ‹_›) rfl hX2 (by decide) (List.mem_of_getElem? (i := 11) rfl) rfl dX2_copyFrom_72 ?_
  refine dp_aload_n C dX2_copyFrom_75 rfl ?_
  refine dp_getf C (k := 6) (dp_mS ‹r2 < 7› (by decide)) (hx0 _ _) rfl hX2 (by decide) (List.mem_of_getElem? (i := 11) rfl) rfl dX2_copyFrom_76 ?_
  refine dp_cVv C (c_X0_copyFrom C.2.2.1 l ‹r < 7› ‹r2 < 7› hne (Or.inr rfl)) gX2_copyFrom_X0_copyFrom rfl (dp_mS ‹_› (dp_cA (Or.inr rfl))) (dp_xax ‹_› (Or.inr rfl)) rfl yyX0_copyFrom rfl ⟨Nat.le_of_ble_eq_true rfl, Nat.le_of_ble_eq_true rfl⟩ rfl (Nat.le_of_ble_eq_true rfl) rfl ⟨Nat.zero_le _, Nat.zero_le _⟩ dX2_copyFrom_79 (fun M79 h79 => ?_)
  obtain rfl := h79
  refine dp_iconst C dX2_copyFrom_82 ?_
  refine dp_istore_n C dX2_copyFrom_83 (Nat.le_of_ble_eq_true rfl) ?_
  dsimp only [List.set]
  refine J84 10 0 _ _ (by omega) rfl ⟨⟨?_, ?_, ?_⟩, ?_, ?_, ?_, ?_⟩ (fun t ht => absurd ht (by omega))
  · simp (decide := true) only [uc, u2, u1, reduceIte]
  · simp (decide := true) only [uc, u2, u1, reduceIte]
  · simp (decide := true) only [uc, u2, u1, reduceIte]
  · simp (decide := true) only [uc, reduceIte]
  · simp (decide := true) only [uc, reduceIte]
  · simp (decide := true) only [uc, reduceIte]
  · simp (decide := true) only [uc, reduceIte]
