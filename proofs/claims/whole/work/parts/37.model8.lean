theorem ivM_uT {V : dp_V} {N t k : Nat} {x : Int} (h : ivM V N) (ht : t < N) (h1 : ivT (u1 (V (t + 6)) k x)) : ivM (u2 V (t + 6) k x) N := by
  obtain ⟨hN, h10, hv, hT⟩ := h
  refine ⟨by rw [u2_ne (by omega)]; exact hN, h10, ivS_of hv (by rw [u2_ne (by omega)]) (u2_ne (by omega)) (u2_ne (by omega)) (u2_ne (by omega)) (u2_ne (by omega)), fun t' ht' => ?_⟩
  by_cases e : t' = t
  · subst e
    rw [u2_same]
    exact h1
  · rw [u2_ne (by omega)]
    exact hT t' ht'
theorem ivM_uS {V V' : dp_V} {N : Nat} (h : ivM V N) (hs : ivS V') (h3 : V' 0 3 = V 0 3) (ht : ∀ t, t < N → V' (t + 6) = V (t + 6)) : ivM V' N := ⟨by rw [h3]; exact h.1, h.2.1, hs, fun t q => by rw [ht t q]; exact h.2.2.2 t q⟩
theorem ivS_34 {V : dp_V} {x : Int} (h : ivS V) (hx : 0 ≤ x ∧ x ≤ V 3 0) : ivS (u2 V 3 4 x) := by
  obtain ⟨a, b, c, d, e⟩ := h
  refine ⟨by rw [u2_ne (by decide)]; exact a, by rw [u2_ne (by decide)]; exact b, by rw [u2_ne (by decide)]; exact c, ?_, by rw [u2_ne (by decide)]; exact e⟩
  unfold ivA at d ⊢
  simp (decide := true) only [u2_ap, reduceIte]
  omega
/-- a slew that is finished now is looked at -/
def puV (V : dp_V) (t : Nat) : dp_V := if V (t + 6) 8 = V 0 0 then (if V (t + 6) 13 = 0 then u2 (u2 V 3 4 (if kdF V = 1 then (if V 0 0 / 1440 % 2 = 0 then 0 else V 3 0) else V 3 4)) (t + 6) 13 1 else V) else V
theorem puV_iv {V : dp_V} {N t : Nat} (h : ivM V N) (ht : t < N) : ivM (puV V t) N ∧ puV V t 0 = V 0 ∧ ∀ k, k ≠ 13 → puV V t (t + 6) k = V (t + 6) k := by
  unfold puV
  split
  · split
    · have hA := h.2.2.1.2.2.2.1
      unfold ivA at hA
      have e6 : ∀ x, u2 V 3 4 x (t + 6) = V (t + 6) := fun x => u2_ne (by omega)
      refine ⟨ivM_uT (ivM_uS h (ivS_34 h.2.2.1 (by (repeat' split) <;> omega)) (by rw [u2_ne (by decide)]) (fun t' _ => u2_ne (by omega))) ht (by rw [e6]; exact ivT_13 (h.2.2.2 t ht) (by omega)), ?_, ?_⟩
      · rw [u2_ne (by omega), u2_ne (by omega)]
      · intro k hk
        rw [u2_same, u1_ne hk, e6]
    · exact ⟨h, rfl, fun _ _ => rfl⟩
  · exact ⟨h, rfl, fun _ _ => rfl⟩
/-- a target is begun -/
def b7M (V : dp_V) (t : Nat) : dp_V := u2 (u2 (u2 (u2 (u2 (u2 (slV V (apF V (V (t + 6) 0)) (V (t + 6) 1)) (t + 6) 6 1) (t + 6) 7 (V 0 0)) (t + 6) 8 (V 0 0 + tmF V (apF V (V (t + 6) 0)) (V (t + 6) 1))) (t + 6) 9 (V 0 0 + tmF V (apF V (V (t + 6) 0)) (V (t + 6) 1) + V (t + 6) 4)) (t + 6) 12 (apF V (V (t + 6) 0))) (t + 6) 13 0
def bgV (V : dp_V) (t : Nat) : dp_V := puV (b7M V t) t
/-- what holds where a target can be begun -/
def rsK (V : dp_V) (t : Nat) : Prop := V (t + 6) 6 = 0 ∧ ¬ wyP 4 (V 4) (V (t + 6) 1) (V 1 0) = 0 ∧ ¬ wyP 3 (V 3) (apF V (V (t + 6) 0)) (V 1 0) = 0 ∧ V 0 0 + tmF V (apF V (V (t + 6) 0)) (V (t + 6) 1) + V (t + 6) 4 ≤ V (t + 6) 3
theorem rsM_0 {V : dp_V} {N t : Nat} (h : rsM V N t = 0) : rsK V t ∧ uwG V 0 N = -1 ∧ ¬ kdF V = 0 ∧ V (t + 6) 2 ≤ V 0 0 := by
  unfold rsM at h
  unfold rsK
  (repeat' split at h) <;> first | omega | (refine ⟨⟨by assumption, by assumption, by assumption, by omega⟩, by assumption, by assumption, by omega⟩)
theorem b7M_ne {V : dp_V} {t c : Nat} (h : c ≠ t + 6) : b7M V t c = slV V (apF V (V (t + 6) 0)) (V (t + 6) 1) c := by
  unfold b7M
  rw [u2_ne h, u2_ne h, u2_ne h, u2_ne h, u2_ne h, u2_ne h]
theorem slV_03 {V : dp_V} {z el : Int} : slV V z el 0 3 = V 0 3 := by
  unfold slV
  rw [u2_same, u1_ne (by decide), foV_ne (by decide), foV_ne (by decide)]
theorem b7M_iv {V : dp_V} {N t : Nat} (h : ivM V N) (ht : t < N) (hr : rsK V t) : ivM (b7M V t) N ∧ b7M V t 0 0 = V 0 0 ∧ b7M V t (t + 6) 6 = 1 := by
  obtain ⟨hN, h10, hv, hT⟩ := h
  obtain ⟨r1, r2, r3, r4⟩ := hr
  have hst := hT t ht
  unfold ivT at hst
  have hap := @apF_bd V (V (t + 6) 0) (by omega)
  have htm := @tmF_bd V (apF V (V (t + 6) 0)) (V (t + 6) 1) hv (by omega) (by omega)
  have h0 := hv.1
  have es : slV V (apF V (V (t + 6) 0)) (V (t + 6) 1) (t + 6) = V (t + 6) := slV_ne (by omega) (by omega) (by omega)
  have hs := slV_iv hv r3 r2
  refine ⟨⟨by rw [b7M_ne (by omega), slV_03]; exact hN, h10, ivS_of hs (by rw [b7M_ne (by omega)]) (b7M_ne (by omega)) (b7M_ne (by omega)) (b7M_ne (by omega)) (b7M_ne (by omega)), fun t' ht' => ?_⟩, by rw [b7M_ne (by omega), slV_0], ?_⟩
  · by_cases e : t' = t
    · subst e
      have r9 : 1 ≤ V (t' + 6) 4 := hst.2.2.2.2.2.2.2.1
      unfold ivT b7M
      simp (decide := true) only [u2_ap, reduceIte, es, true_implies, r1]
      (repeat' apply And.intro) <;> first | trivial | omega
    · rw [b7M_ne (by omega), slV_ne (by omega) (by omega) (by omega)]
      exact hT t' ht'
  · unfold b7M
    simp (decide := true) only [u2_ap, reduceIte]
theorem bgV_iv {V : dp_V} {N t : Nat} (h : ivM V N) (ht : t < N) (hr : rsK V t) : ivM (bgV V t) N ∧ bgV V t 0 0 = V 0 0 := by
  obtain ⟨a, b, c⟩ := b7M_iv h ht hr
  obtain ⟨d, e, f⟩ := puV_iv a ht
  exact ⟨d, by unfold bgV; rw [e, b]⟩
theorem pfF_of {V : dp_V} {z : Int} (h : ¬ wyP 3 (V 3) (apF V z) (V 1 0) = 0) : pfF V z = apF V z := if_neg h
/-- a hold begins -/
def hd1 (V : dp_V) (N : Nat) : dp_V := if uwN V N = -100004 then V else u2 (u2 V ((uwN V N).toNat + 6) 6 0) ((uwN V N).toNat + 6) 11 (V ((uwN V N).toNat + 6) 11 + 1)
def hdM (V : dp_V) (N : Nat) : dp_V := u2 (mvV (hd1 V N) 4 9000) 0 2 (mvV (hd1 V N) 4 9000 0 2 + 1)
theorem yyX7_pushes : yX7_pushes.cls = RX7 ∧ yX7_pushes.cls ≠ "java/lang/invoke/MethodHandle" ∧ yX7_pushes.cls ≠ "java/lang/invoke/VarHandle" ∧ (parseMethodDescriptor yX7_pushes.desc).map (fun d => d.parameters.length) = some 1 := by decide +kernel
set_option maxHeartbeats 4000000 in
set_option maxRecDepth 100000 in
theorem c_X7_pushes {E : dp_E} (hE : dp_OK E) (l : Launch) {M : dp_M} {V X : dp_V} (hv : ivS V) {t : Nat} (ht10 : t < 10) (hT : ivT (V (t + 6))) (h6 : V (t + 6) 6 = 1) : dp_met E l yX7_pushes wsX7_pushes 3 60 [.ref (eAd E 8 0), .int (dp_I (t : Int))] (dN M V X) (dp_qv E (fun M1 => M1 = dN M (puV V t) X)) := by
  refine dp_of (cc := cX7_pushes) (nL := 3) (own := RX7) (ret := none) (by decide +kernel) rfl rfl hE (by simp [Value.category]) (Nat.le_of_ble_eq_true rfl) ?_
  intro p e s m below meth co C hret
  show dp_G _ _ _ _ _ _ _ _ _ _ _ _ _ _ _ _ _ [some (.ref (eAd E 8 0)), some (.int (dp_I (t : Int))), none] _
  have hX7 : ∀ w ∈ u_ws RX7 TX7 12, w ∈ wsX7_pushes := fun w h => List.mem_cons_of_mem _ (List.mem_append_right _ (h))
  have hst := hT
  unfold ivT at hst
  have h15 := hst.2.2.2.2.2.2.2.2.2.2.2.2.2 h6
  have h0 := hv.1
  have hk := @kdF_bd V
  refine dp_aload_n C dX7_pushes_0 rfl ?_
  refine dp_iload_n C dX7_pushes_1 rfl ?_
  refine dp_bipush C dX7_pushes_2 (by decide) ?_
  refine dp_cVi C (c_X7_of C.2.2.1 l (t := t) (k := 8) ht10 (by decide)) gX7_pushes_X7_of rfl (dp_mM (by decide)) dp_xmo rfl yyX7_of rfl ⟨Nat.le_of_ble_eq_true rfl, Nat.le_of_ble_eq_true rfl⟩ rfl (Nat.le_of_ble_eq_true rfl) rfl ⟨Nat.zero_le _, Nat.zero_le _⟩ dX7_pushes_4 (fun x4 M4 h4 => ?_)
  obtain ⟨rfl, rfl⟩ := h4
  refine dp_aload_n C dX7_pushes_7 rfl ?_
  refine dp_getf C (k := 0) (dp_mM (by decide)) dp_xmo rfl hX7 (by decide) (List.mem_of_getElem? (i := 1) rfl) rfl dX7_pushes_8 ?_
  refine dp_iconst C dX7_pushes_11 ?_
  refine dp_ald_ms C (j := 4) ⟨by omega, by omega⟩ rfl (c9 := 0) (k9 := 0) rfl rfl dX7_pushes_12 ?_
  refine dp_icmp_ne (tgt := 89) C dX7_pushes_13 (by decide) ⟨by omega, by omega⟩ ⟨by omega, by omega⟩ (fun c13 => ?_) (fun c13 => ?_)
  · skip
    refine dp_vret C hret dX7_pushes_89 ?_
    refine congrArg (fun q => dN M q X) ?_
    unfold puV
    (repeat' split) <;> first | rfl | (exfalso; omega)
  · skip
    refine dp_aload_n C dX7_pushes_16 rfl ?_
    refine dp_iload_n C dX7_pushes_17 rfl ?_
    refine dp_bipush C dX7_pushes_18 (by decide) ?_
    refine dp_cVi C (c_X7_of C.2.2.1 l (t := t) (k := 13) ht10 (by decide)) gX7_pushes_X7_of rfl (dp_mM (by decide)) dp_xmo rfl yyX7_of rfl ⟨Nat.le_of_ble_eq_true rfl, Nat.le_of_ble_eq_true rfl⟩ rfl (Nat.le_of_ble_eq_true rfl) rfl ⟨Nat.zero_le _, Nat.zero_le _⟩ dX7_pushes_20 (fun x20 M20 h20 => ?_)
    obtain ⟨rfl, rfl⟩ := h20
    refine dp_if_ne (tgt := 89) C dX7_pushes_23 (by decide) ⟨by omega, by omega⟩ (fun c23 => ?_) (fun c23 => ?_)
    · skip
      refine dp_vret C hret dX7_pushes_89 ?_
      refine congrArg (fun q => dN M q X) ?_
      unfold puV
      (repeat' split) <;> first | rfl | (exfalso; omega)
    · skip
      refine dp_aload_n C dX7_pushes_26 rfl ?_
      refine dp_cVi C (c_X7_kindOfDay C.2.2.1 l hv) gX7_pushes_X7_kindOfDay rfl (dp_mM (by decide)) dp_xmo rfl yyX7_kindOfDay rfl ⟨Nat.le_of_ble_eq_true rfl, Nat.le_of_ble_eq_true rfl⟩ rfl (Nat.le_of_ble_eq_true rfl) rfl ⟨Nat.zero_le _, Nat.zero_le _⟩ dX7_pushes_27 (fun x27 M27 h27 => ?_)
      obtain ⟨rfl, rfl⟩ := h27
      refine dp_iconst C dX7_pushes_30 ?_
      refine dp_icmp_ne (tgt := 38) C dX7_pushes_31 (by decide) ⟨by omega, by omega⟩ ⟨by omega, by omega⟩ (fun c31 => ?_) (fun c31 => ?_)
      · skip
        refine dp_iconst C dX7_pushes_38 ?_
        refine dp_istore_n C dX7_pushes_39 (Nat.le_of_ble_eq_true rfl) ?_
        dsimp only [List.set]
        refine dp_aload_n C dX7_pushes_40 rfl ?_
        refine dp_getf C (k := 0) (dp_mM (by decide)) dp_xmo rfl hX7 (by decide) (List.mem_of_getElem? (i := 1) rfl) rfl dX7_pushes_41 ?_
        refine dp_bipush C dX7_pushes_44 (by decide) ?_
        refine dp_iload_n C dX7_pushes_46 rfl ?_
        refine dp_if_ne (tgt := 60) C dX7_pushes_47 (by decide) ⟨by omega, by omega⟩ (fun c47 => ?_) (fun c47 => ?_)
        · skip
          refine dp_aload_n C dX7_pushes_60 rfl ?_
          refine dp_cVi C (c_X7_day C.2.2.1 l h0) gX7_pushes_X7_day rfl (dp_mM (by decide)) dp_xmo rfl yyX7_day rfl ⟨Nat.le_of_ble_eq_true rfl, Nat.le_of_ble_eq_true rfl⟩ rfl (Nat.le_of_ble_eq_true rfl) rfl ⟨Nat.zero_le _, Nat.zero_le _⟩ dX7_pushes_61 (fun x61 M61 h61 => ?_)
          obtain ⟨rfl, rfl⟩ := h61
          refine dp_iconst C dX7_pushes_64 ?_
          refine dp_irem C ⟨by omega, by omega, by omega, by omega⟩ dX7_pushes_65 ?_
          refine dp_if_ne (tgt := 73) C dX7_pushes_66 (by decide) ⟨by omega, by omega⟩ (fun c66 => ?_) (fun c66 => ?_)
          · skip
            refine dp_aload_n C dX7_pushes_73 rfl ?_
            refine dp_getf C (k := 0) (dp_mM (by decide)) dp_xmo rfl hX7 (by decide) (List.mem_of_getElem? (i := 1) rfl) rfl dX7_pushes_74 ?_
            refine dp_bipush C dX7_pushes_77 (by decide) ?_
            refine dp_ald_ms C (j := 39) ⟨by omega, by omega⟩ rfl (c9 := 3) (k9 := 0) rfl rfl dX7_pushes_79 ?_
            refine dp_ast_ms C (j := 43) ⟨by omega, by omega⟩ rfl (c9 := 3) (k9 := 4) rfl rfl dX7_pushes_80 ?_
            refine dp_aload_n C dX7_pushes_81 rfl ?_
            refine dp_iload_n C dX7_pushes_82 rfl ?_
            refine dp_bipush C dX7_pushes_83 (by decide) ?_
            refine dp_iconst C dX7_pushes_85 ?_
            refine dp_cVv C (c_X7_puts C.2.2.1 l (t := t) (k := 13) ht10 (by decide)) gX7_pushes_X7_puts rfl (dp_mM (by decide)) dp_xmo rfl yyX7_puts rfl ⟨Nat.le_of_ble_eq_true rfl, Nat.le_of_ble_eq_true rfl⟩ rfl (Nat.le_of_ble_eq_true rfl) rfl ⟨Nat.zero_le _, Nat.zero_le _⟩ dX7_pushes_86 (fun M86 h86 => ?_)
            obtain rfl := h86
            refine dp_vret C hret dX7_pushes_89 ?_
            refine congrArg (fun q => dN M q X) ?_
            unfold puV
            (repeat' split) <;> first | rfl | (exfalso; omega)
          · skip
            refine dp_iconst C dX7_pushes_69 ?_
            refine dp_goto (tgt := 80) C dX7_pushes_70 (by decide) ?_
            refine dp_ast_ms C (j := 43) ⟨by omega, by omega⟩ rfl (c9 := 3) (k9 := 4) rfl rfl dX7_pushes_80 ?_
            refine dp_aload_n C dX7_pushes_81 rfl ?_
            refine dp_iload_n C dX7_pushes_82 rfl ?_
            refine dp_bipush C dX7_pushes_83 (by decide) ?_
            refine dp_iconst C dX7_pushes_85 ?_
            refine dp_cVv C (c_X7_puts C.2.2.1 l (t := t) (k := 13) ht10 (by decide)) gX7_pushes_X7_puts rfl (dp_mM (by decide)) dp_xmo rfl yyX7_puts rfl ⟨Nat.le_of_ble_eq_true rfl, Nat.le_of_ble_eq_true rfl⟩ rfl (Nat.le_of_ble_eq_true rfl) rfl ⟨Nat.zero_le _, Nat.zero_le _⟩ dX7_pushes_86 (fun M86 h86 => ?_)
            obtain rfl := h86
            refine dp_vret C hret dX7_pushes_89 ?_
            refine congrArg (fun q => dN M q X) ?_
            unfold puV
            (repeat' split) <;> first | rfl | (exfalso; omega)
        · skip
          refine dp_aload_n C dX7_pushes_50 rfl ?_
          refine dp_getf C (k := 0) (dp_mM (by decide)) dp_xmo rfl hX7 (by decide) (List.mem_of_getElem? (i := 1) rfl) rfl dX7_pushes_51 ?_
          refine dp_bipush C dX7_pushes_54 (by decide) ?_
          refine dp_ald_ms C (j := 43) ⟨by omega, by omega⟩ rfl (c9 := 3) (k9 := 4) rfl rfl dX7_pushes_56 ?_
          refine dp_goto (tgt := 80) C dX7_pushes_57 (by decide) ?_
          refine dp_ast_ms C (j := 43) ⟨by omega, by omega⟩ rfl (c9 := 3) (k9 := 4) rfl rfl dX7_pushes_80 ?_
          refine dp_aload_n C dX7_pushes_81 rfl ?_
          refine dp_iload_n C dX7_pushes_82 rfl ?_
          refine dp_bipush C dX7_pushes_83 (by decide) ?_
          refine dp_iconst C dX7_pushes_85 ?_
          refine dp_cVv C (c_X7_puts C.2.2.1 l (t := t) (k := 13) ht10 (by decide)) gX7_pushes_X7_puts rfl (dp_mM (by decide)) dp_xmo rfl yyX7_puts rfl ⟨Nat.le_of_ble_eq_true rfl, Nat.le_of_ble_eq_true rfl⟩ rfl (Nat.le_of_ble_eq_true rfl) rfl ⟨Nat.zero_le _, Nat.zero_le _⟩ dX7_pushes_86 (fun M86 h86 => ?_)
          obtain rfl := h86
          refine dp_vret C hret dX7_pushes_89 ?_
          refine congrArg (fun q => dN M q X) ?_
          unfold puV
          (repeat' split) <;> first | rfl | (exfalso; omega)
      · skip
        refine dp_iconst C dX7_pushes_34 ?_
        refine dp_goto (tgt := 39) C dX7_pushes_35 (by decide) ?_
        refine dp_istore_n C dX7_pushes_39 (Nat.le_of_ble_eq_true rfl) ?_
        dsimp only [List.set]
        refine dp_aload_n C dX7_pushes_40 rfl ?_
        refine dp_getf C (k := 0) (dp_mM (by decide)) dp_xmo rfl hX7 (by decide) (List.mem_of_getElem? (i := 1) rfl) rfl dX7_pushes_41 ?_
        refine dp_bipush C dX7_pushes_44 (by decide) ?_
        refine dp_iload_n C dX7_pushes_46 rfl ?_
        refine dp_if_ne (tgt := 60) C dX7_pushes_47 (by decide) ⟨by omega, by omega⟩ (fun c47 => ?_) (fun c47 => ?_)
        · skip
          refine dp_aload_n C dX7_pushes_60 rfl ?_
          refine dp_cVi C (c_X7_day C.2.2.1 l h0) gX7_pushes_X7_day rfl (dp_mM (by decide)) dp_xmo rfl yyX7_day rfl ⟨Nat.le_of_ble_eq_true rfl, Nat.le_of_ble_eq_true rfl⟩ rfl (Nat.le_of_ble_eq_true rfl) rfl ⟨Nat.zero_le _, Nat.zero_le _⟩ dX7_pushes_61 (fun x61 M61 h61 => ?_)
          obtain ⟨rfl, rfl⟩ := h61
          refine dp_iconst C dX7_pushes_64 ?_
          refine dp_irem C ⟨by omega, by omega, by omega, by omega⟩ dX7_pushes_65 ?_
          refine dp_if_ne (tgt := 73) C dX7_pushes_66 (by decide) ⟨by omega, by omega⟩ (fun c66 => ?_) (fun c66 => ?_)
          · skip
            refine dp_aload_n C dX7_pushes_73 rfl ?_
            refine dp_getf C (k := 0) (dp_mM (by decide)) dp_xmo rfl hX7 (by decide) (List.mem_of_getElem? (i := 1) rfl) rfl dX7_pushes_74 ?_
            refine dp_bipush C dX7_pushes_77 (by decide) ?_
            refine dp_ald_ms C (j := 39) ⟨by omega, by omega⟩ rfl (c9 := 3) (k9 := 0) rfl rfl dX7_pushes_79 ?_
            refine dp_ast_ms C (j := 43) ⟨by omega, by omega⟩ rfl (c9 := 3) (k9 := 4) rfl rfl dX7_pushes_80 ?_
            refine dp_aload_n C dX7_pushes_81 rfl ?_
            refine dp_iload_n C dX7_pushes_82 rfl ?_
            refine dp_bipush C dX7_pushes_83 (by decide) ?_
            refine dp_iconst C dX7_pushes_85 ?_
            refine dp_cVv C (c_X7_puts C.2.2.1 l (t := t) (k := 13) ht10 (by decide)) gX7_pushes_X7_puts rfl (dp_mM (by decide)) dp_xmo rfl yyX7_puts rfl ⟨Nat.le_of_ble_eq_true rfl, Nat.le_of_ble_eq_true rfl⟩ rfl (Nat.le_of_ble_eq_true rfl) rfl ⟨Nat.zero_le _, Nat.zero_le _⟩ dX7_pushes_86 (fun M86 h86 => ?_)
            obtain rfl := h86
            refine dp_vret C hret dX7_pushes_89 ?_
            refine congrArg (fun q => dN M q X) ?_
            unfold puV
            (repeat' split) <;> first | rfl | (exfalso; omega)
          · skip
            refine dp_iconst C dX7_pushes_69 ?_
            refine dp_goto (tgt := 80) C dX7_pushes_70 (by decide) ?_
            refine dp_ast_ms C (j := 43) ⟨by omega, by omega⟩ rfl (c9 := 3) (k9 := 4) rfl rfl dX7_pushes_80 ?_
            refine dp_aload_n C dX7_pushes_81 rfl ?_
            refine dp_iload_n C dX7_pushes_82 rfl ?_
            refine dp_bipush C dX7_pushes_83 (by decide) ?_
            refine dp_iconst C dX7_pushes_85 ?_
            refine dp_cVv C (c_X7_puts C.2.2.1 l (t := t) (k := 13) ht10 (by decide)) gX7_pushes_X7_puts rfl (dp_mM (by decide)) dp_xmo rfl yyX7_puts rfl ⟨Nat.le_of_ble_eq_true rfl, Nat.le_of_ble_eq_true rfl⟩ rfl (Nat.le_of_ble_eq_true rfl) rfl ⟨Nat.zero_le _, Nat.zero_le _⟩ dX7_pushes_86 (fun M86 h86 => ?_)
            obtain rfl := h86
            refine dp_vret C hret dX7_pushes_89 ?_
            refine congrArg (fun q => dN M q X) ?_
            unfold puV
            (repeat' split) <;> first | rfl | (exfalso; omega)
        · skip
          refine dp_aload_n C dX7_pushes_50 rfl ?_
          refine dp_getf C (k := 0) (dp_mM (by decide)) dp_xmo rfl hX7 (by decide) (List.mem_of_getElem? (i := 1) rfl) rfl dX7_pushes_51 ?_
          refine dp_bipush C dX7_pushes_54 (by decide) ?_
          refine dp_ald_ms C (j := 43) ⟨by omega, by omega⟩ rfl (c9 := 3) (k9 := 4) rfl rfl dX7_pushes_56 ?_
          refine dp_goto (tgt := 80) C dX7_pushes_57 (by decide) ?_
          refine dp_ast_ms C (j := 43) ⟨by omega, by omega⟩ rfl (c9 := 3) (k9 := 4) rfl rfl dX7_pushes_80 ?_
          refine dp_aload_n C dX7_pushes_81 rfl ?_
          refine dp_iload_n C dX7_pushes_82 rfl ?_
          refine dp_bipush C dX7_pushes_83 (by decide) ?_
          refine dp_iconst C dX7_pushes_85 ?_
          refine dp_cVv C (c_X7_puts C.2.2.1 l (t := t) (k := 13) ht10 (by decide)) gX7_pushes_X7_puts rfl (dp_mM (by decide)) dp_xmo rfl yyX7_puts rfl ⟨Nat.le_of_ble_eq_true rfl, Nat.le_of_ble_eq_true rfl⟩ rfl (Nat.le_of_ble_eq_true rfl) rfl ⟨Nat.zero_le _, Nat.zero_le _⟩ dX7_pushes_86 (fun M86 h86 => ?_)
          obtain rfl := h86
          refine dp_vret C hret dX7_pushes_89 ?_
          refine congrArg (fun q => dN M q X) ?_
          unfold puV
          (repeat' split) <;> first | rfl | (exfalso; omega)
theorem yyX7_begins : yX7_begins.cls = RX7 ∧ yX7_begins.cls ≠ "java/lang/invoke/MethodHandle" ∧ yX7_begins.cls ≠ "java/lang/invoke/VarHandle" ∧ (parseMethodDescriptor yX7_begins.desc).map (fun d => d.parameters.length) = some 1 := by decide +kernel
set_option maxHeartbeats 4000000 in
set_option maxRecDepth 100000 in
theorem c_X7_begins {E : dp_E} (hE : dp_OK E) (l : Launch) {M : dp_M} {V X : dp_V} {N : Nat} (hm : ivM V N) {t : Nat} (ht : t < N) (hr : rsK V t) : dp_met E l yX7_begins wsX7_begins 6 142 [.ref (eAd E 8 0), .int (dp_I (t : Int))] (dN M V X) (dp_qv E (fun M1 => ∃ X', M1 = dN M (bgV V t) X' ∧ scr X X')) := by
  refine dp_of (cc := cX7_begins) (nL := 4) (own := RX7) (ret := none) (by decide +kernel) rfl rfl hE (by simp [Value.category]) (Nat.le_of_ble_eq_true rfl) ?_
  intro p e s m below meth co C hret
  show dp_G _ _ _ _ _ _ _ _ _ _ _ _ _ _ _ _ _ [some (.ref (eAd E 8 0)), some (.int (dp_I (t : Int))), none, none] _
  have hX7 : ∀ w ∈ u_ws RX7 TX7 12, w ∈ wsX7_begins := fun w h => List.mem_cons_of_mem _ (List.mem_append_right _ (h))
  have h7 := b7M_iv hm ht hr
  obtain ⟨hN, h10, hv, hT⟩ := hm
  have ht10 : t < 10 := by omega
  have hst := hT t ht
  unfold ivT at hst
  obtain ⟨r1, r2, r3, r4⟩ := hr
  have hap := @apF_bd V (V (t + 6) 0) (by omega)
  refine dp_aload_n C dX7_begins_0 rfl ?_
  refine dp_aload_n C dX7_begins_1 rfl ?_
  refine dp_iload_n C dX7_begins_2 rfl ?_
  refine dp_iconst C dX7_begins_3 ?_
  refine dp_cVi C (c_X7_of C.2.2.1 l (t := t) (k := 0) ht10 (by decide)) gX7_begins_X7_of rfl (dp_mM (by decide)) dp_xmo rfl yyX7_of rfl ⟨Nat.le_of_ble_eq_true rfl, Nat.le_of_ble_eq_true rfl⟩ rfl (Nat.le_of_ble_eq_true rfl) rfl ⟨Nat.zero_le _, Nat.zero_le _⟩ dX7_begins_4 (fun x4 M4 h4 => ?_)
  obtain ⟨rfl, rfl⟩ := h4
  refine dp_cVi C (c_X7_placeOf C.2.2.1 l hv (z := V (t + 6) 0) (by omega)) gX7_begins_X7_placeOf rfl (dp_mM (by decide)) dp_xmo rfl yyX7_placeOf rfl ⟨Nat.le_of_ble_eq_true rfl, Nat.le_of_ble_eq_true rfl⟩ rfl (Nat.le_of_ble_eq_true rfl) rfl ⟨Nat.zero_le _, Nat.zero_le _⟩ dX7_begins_7 (fun x7 M7 h7 => ?_)
  obtain ⟨rfl, X1, rfl, hs1⟩ := h7
  rw [pfF_of r3]
  refine dp_istore_n C dX7_begins_10 (Nat.le_of_ble_eq_true rfl) ?_
  dsimp only [List.set]
  refine dp_aload_n C dX7_begins_11 rfl ?_
  refine dp_iload_n C dX7_begins_12 rfl ?_
  refine dp_aload_n C dX7_begins_13 rfl ?_
  refine dp_iload_n C dX7_begins_14 rfl ?_
  refine dp_iconst C dX7_begins_15 ?_
  refine dp_cVi C (c_X7_of C.2.2.1 l (t := t) (k := 1) ht10 (by decide)) gX7_begins_X7_of rfl (dp_mM (by decide)) dp_xmo rfl yyX7_of rfl ⟨Nat.le_of_ble_eq_true rfl, Nat.le_of_ble_eq_true rfl⟩ rfl (Nat.le_of_ble_eq_true rfl) rfl ⟨Nat.zero_le _, Nat.zero_le _⟩ dX7_begins_16 (fun x16 M16 h16 => ?_)
  obtain ⟨rfl, rfl⟩ := h16
  refine dp_cVi C (c_X7_slews C.2.2.1 l hv (z := apF V (V (t + 6) 0)) (el := V (t + 6) 1) (by omega) (by omega) r3 r2) gX7_begins_X7_slews rfl (dp_mM (by decide)) dp_xmo rfl yyX7_slews rfl ⟨Nat.le_of_ble_eq_true rfl, Nat.le_of_ble_eq_true rfl⟩ rfl (Nat.le_of_ble_eq_true rfl) rfl ⟨Nat.zero_le _, Nat.zero_le _⟩ dX7_begins_19 (fun x19 M19 h19 => ?_)
  obtain ⟨rfl, X2, rfl, hs2⟩ := h19
  refine dp_istore_n C dX7_begins_22 (Nat.le_of_ble_eq_true rfl) ?_
  dsimp only [List.set]
  refine dp_aload_n C dX7_begins_23 rfl ?_
  refine dp_iload_n C dX7_begins_24 rfl ?_
  refine dp_bipush C dX7_begins_25 (by decide) ?_
  refine dp_iconst C dX7_begins_27 ?_
  refine dp_cVv C (c_X7_puts C.2.2.1 l (t := t) (k := 6) ht10 (by decide)) gX7_begins_X7_puts rfl (dp_mM (by decide)) dp_xmo rfl yyX7_puts rfl ⟨Nat.le_of_ble_eq_true rfl, Nat.le_of_ble_eq_true rfl⟩ rfl (Nat.le_of_ble_eq_true rfl) rfl ⟨Nat.zero_le _, Nat.zero_le _⟩ dX7_begins_28 (fun M28 h28 => ?_)
  obtain rfl := h28
  refine dp_aload_n C dX7_begins_31 rfl ?_
  refine dp_iload_n C dX7_begins_32 rfl ?_
  refine dp_bipush C dX7_begins_33 (by decide) ?_
  refine dp_aload_n C dX7_begins_35 rfl ?_
  refine dp_getf C (k := 0) (dp_mM (by decide)) dp_xmo rfl hX7 (by decide) (List.mem_of_getElem? (i := 1) rfl) rfl dX7_begins_36 ?_
  refine dp_iconst C dX7_begins_39 ?_
  refine dp_ald_ms C (j := 4) ⟨by omega, by omega⟩ rfl (c9 := 0) (k9 := 0) rfl rfl dX7_begins_40 ?_
  simp only [u2_ne (show 0 ≠ t + 6 by omega), slV_0]
  refine dp_cVv C (c_X7_puts C.2.2.1 l (t := t) (k := 7) ht10 (by decide)) gX7_begins_X7_puts rfl (dp_mM (by decide)) dp_xmo rfl yyX7_puts rfl ⟨Nat.le_of_ble_eq_true rfl, Nat.le_of_ble_eq_true rfl⟩ rfl (Nat.le_of_ble_eq_true rfl) rfl ⟨Nat.zero_le _, Nat.zero_le _⟩ dX7_begins_41 (fun M41 h41 => ?_)
  obtain rfl := h41
  refine dp_aload_n C dX7_begins_44 rfl ?_
  refine dp_iload_n C dX7_begins_45 rfl ?_
  refine dp_bipush C dX7_begins_46 (by decide) ?_
  refine dp_aload_n C dX7_begins_48 rfl ?_
  refine dp_getf C (k := 0) (dp_mM (by decide)) dp_xmo rfl hX7 (by decide) (List.mem_of_getElem? (i := 1) rfl) rfl dX7_begins_49 ?_
  refine dp_iconst C dX7_begins_52 ?_
  refine dp_ald_ms C (j := 4) ⟨by omega, by omega⟩ rfl (c9 := 0) (k9 := 0) rfl rfl dX7_begins_53 ?_
  simp only [u2_ne (show 0 ≠ t + 6 by omega), slV_0]
  refine dp_iload_n C dX7_begins_54 rfl ?_
  refine dp_iadd C dX7_begins_55 ?_
  refine dp_cVv C (c_X7_puts C.2.2.1 l (t := t) (k := 8) ht10 (by decide)) gX7_begins_X7_puts rfl (dp_mM (by decide)) dp_xmo rfl yyX7_puts rfl ⟨Nat.le_of_ble_eq_true rfl, Nat.le_of_ble_eq_true rfl⟩ rfl (Nat.le_of_ble_eq_true rfl) rfl ⟨Nat.zero_le _, Nat.zero_le _⟩ dX7_begins_56 (fun M56 h56 => ?_)
  obtain rfl := h56
  refine dp_aload_n C dX7_begins_59 rfl ?_
  refine dp_iload_n C dX7_begins_60 rfl ?_
  refine dp_bipush C dX7_begins_61 (by decide) ?_
  refine dp_aload_n C dX7_begins_63 rfl ?_
  refine dp_getf C (k := 0) (dp_mM (by decide)) dp_xmo rfl hX7 (by decide) (List.mem_of_getElem? (i := 1) rfl) rfl dX7_begins_64 ?_
  refine dp_iconst C dX7_begins_67 ?_
  refine dp_ald_ms C (j := 4) ⟨by omega, by omega⟩ rfl (c9 := 0) (k9 := 0) rfl rfl dX7_begins_68 ?_
  simp only [u2_ne (show 0 ≠ t + 6 by omega), slV_0]
  refine dp_iload_n C dX7_begins_69 rfl ?_
  refine dp_iadd C dX7_begins_70 ?_
  refine dp_aload_n C dX7_begins_71 rfl ?_
  refine dp_iload_n C dX7_begins_72 rfl ?_
  refine dp_iconst C dX7_begins_73 ?_
  refine dp_cVi C (c_X7_of C.2.2.1 l (t := t) (k := 4) ht10 (by decide)) gX7_begins_X7_of rfl (dp_mM (by decide)) dp_xmo rfl yyX7_of rfl ⟨Nat.le_of_ble_eq_true rfl, Nat.le_of_ble_eq_true rfl⟩ rfl (Nat.le_of_ble_eq_true rfl) rfl ⟨Nat.zero_le _, Nat.zero_le _⟩ dX7_begins_74 (fun x74 M74 h74 => ?_)
  obtain ⟨rfl, rfl⟩ := h74
  simp (decide := true) only [u2_ap, reduceIte, slV_ne (show t + 6 ≠ 0 by omega) (show t + 6 ≠ 3 by omega) (show t + 6 ≠ 4 by omega)]
  refine dp_iadd C dX7_begins_77 ?_
  refine dp_cVv C (c_X7_puts C.2.2.1 l (t := t) (k := 9) ht10 (by decide)) gX7_begins_X7_puts rfl (dp_mM (by decide)) dp_xmo rfl yyX7_puts rfl ⟨Nat.le_of_ble_eq_true rfl, Nat.le_of_ble_eq_true rfl⟩ rfl (Nat.le_of_ble_eq_true rfl) rfl ⟨Nat.zero_le _, Nat.zero_le _⟩ dX7_begins_78 (fun M78 h78 => ?_)
  obtain rfl := h78
  refine dp_aload_n C dX7_begins_81 rfl ?_
  refine dp_iload_n C dX7_begins_82 rfl ?_
  refine dp_bipush C dX7_begins_83 (by decide) ?_
  refine dp_iload_n C dX7_begins_85 rfl ?_
  refine dp_cVv C (c_X7_puts C.2.2.1 l (t := t) (k := 12) ht10 (by decide)) gX7_begins_X7_puts rfl (dp_mM (by decide)) dp_xmo rfl yyX7_puts rfl ⟨Nat.le_of_ble_eq_true rfl, Nat.le_of_ble_eq_true rfl⟩ rfl (Nat.le_of_ble_eq_true rfl) rfl ⟨Nat.zero_le _, Nat.zero_le _⟩ dX7_begins_86 (fun M86 h86 => ?_)
  obtain rfl := h86
  refine dp_aload_n C dX7_begins_89 rfl ?_
  refine dp_iload_n C dX7_begins_90 rfl ?_
  refine dp_bipush C dX7_begins_91 (by decide) ?_
  refine dp_iconst C dX7_begins_93 ?_
  refine dp_cVv C (c_X7_puts C.2.2.1 l (t := t) (k := 13) ht10 (by decide)) gX7_begins_X7_puts rfl (dp_mM (by decide)) dp_xmo rfl yyX7_puts rfl ⟨Nat.le_of_ble_eq_true rfl, Nat.le_of_ble_eq_true rfl⟩ rfl (Nat.le_of_ble_eq_true rfl) rfl ⟨Nat.zero_le _, Nat.zero_le _⟩ dX7_begins_94 (fun M94 h94 => ?_)
  obtain rfl := h94
  refine dp_aload_n C dX7_begins_97 rfl ?_
  refine dp_iload_n C dX7_begins_98 rfl ?_
  refine dp_cVv C (c_X7_pushes C.2.2.1 l (V := b7M V t) h7.1.2.2.1 ht10 (h7.1.2.2.2 t ht) h7.2.2) gX7_begins_X7_pushes rfl (dp_mM (by decide)) dp_xmo rfl yyX7_pushes rfl ⟨Nat.le_of_ble_eq_true rfl, Nat.le_of_ble_eq_true rfl⟩ rfl (Nat.le_of_ble_eq_true rfl) rfl ⟨Nat.zero_le _, Nat.zero_le _⟩ dX7_begins_99 (fun M99 h99 => ?_)
  obtain rfl := h99
  refine dp_vret C hret dX7_begins_102 ?_
  exact ⟨_, rfl, hs1.tr hs2⟩
theorem yyX7_holds : yX7_holds.cls = RX7 ∧ yX7_holds.cls ≠ "java/lang/invoke/MethodHandle" ∧ yX7_holds.cls ≠ "java/lang/invoke/VarHandle" ∧ (parseMethodDescriptor yX7_holds.desc).map (fun d => d.parameters.length) = some 0 := by decide +kernel
set_option maxHeartbeats 4000000 in
set_option maxRecDepth 100000 in
theorem c_X7_holds {E : dp_E} (hE : dp_OK E) (l : Launch) {M : dp_M} {V X : dp_V} {N : Nat} (hm : ivM V N) : dp_met E l yX7_holds wsX7_holds 2 43 [.ref (eAd E 8 0)] (dN M V X) (dp_qv E (fun M1 => M1 = dN M (hdM V N) X)) := by
  refine dp_of (cc := cX7_holds) (nL := 2) (own := RX7) (ret := none) (by decide +kernel) rfl rfl hE (by simp [Value.category]) (Nat.le_of_ble_eq_true rfl) ?_
  intro p e s m below meth co C hret
  show dp_G _ _ _ _ _ _ _ _ _ _ _ _ _ _ _ _ _ [some (.ref (eAd E 8 0)), none] _
  have hX7 : ∀ w ∈ u_ws RX7 TX7 12, w ∈ wsX7_holds := fun w h => List.mem_cons_of_mem _ (List.mem_append_right _ (h))
  have hm2 := hm
  obtain ⟨hN, h10, hv, hT⟩ := hm
  have hub := @uwN_bd V N h10
  have h15 : ivA (1 + 3) (V (1 + 3)) := hv.2.2.2.2
  refine dp_aload_n C dX7_holds_0 rfl ?_
  refine dp_cVi C (c_X7_underWay C.2.2.1 l hm2) gX7_holds_X7_underWay rfl (dp_mM (by decide)) dp_xmo rfl yyX7_underWay rfl ⟨Nat.le_of_ble_eq_true rfl, Nat.le_of_ble_eq_true rfl⟩ rfl (Nat.le_of_ble_eq_true rfl) rfl ⟨Nat.zero_le _, Nat.zero_le _⟩ dX7_holds_1 (fun x1 M1 h1 => ?_)
  obtain ⟨rfl, rfl⟩ := h1
  refine dp_istore_n C dX7_holds_4 (Nat.le_of_ble_eq_true rfl) ?_
  dsimp only [List.set]
  refine dp_iload_n C dX7_holds_5 rfl ?_
  refine dp_ldc C (-100004) (List.mem_of_getElem? (i := 1) rfl) rfl dX7_holds_6 ?_
  refine dp_icmp_eq (tgt := 35) C dX7_holds_8 (by decide) ⟨by omega, by omega⟩ ⟨by omega, by omega⟩ (fun c8 => ?_) (fun c8 => ?_)
  · skip
    refine dp_aload_n C dX7_holds_35 rfl ?_
    refine dp_iconst C dX7_holds_36 ?_
    refine dp_sipush C dX7_holds_37 (by decide) ?_
    refine dp_cVv C (c_X7_goes C.2.2.1 l (a := 1) (to := 9000) (by decide) (by first | exact h15 | (rw [e4]; exact h15)) (by decide)) gX7_holds_X7_goes rfl (dp_mM (by decide)) dp_xmo rfl yyX7_goes rfl ⟨Nat.le_of_ble_eq_true rfl, Nat.le_of_ble_eq_true rfl⟩ rfl (Nat.le_of_ble_eq_true rfl) rfl ⟨Nat.zero_le _, Nat.zero_le _⟩ dX7_holds_40 (fun M40 h40 => ?_)
    obtain rfl := h40
    rw [show (1 : Nat) + 3 = 4 from rfl]
    refine dp_aload_n C dX7_holds_43 rfl ?_
    refine dp_getf C (k := 0) (dp_mM (by decide)) dp_xmo rfl hX7 (by decide) (List.mem_of_getElem? (i := 2) rfl) rfl dX7_holds_44 ?_
    refine dp_bipush C dX7_holds_47 (by decide) ?_
    refine dp_dup2 C dX7_holds_49 rfl rfl ?_
    refine dp_ald_ms C (j := 6) ⟨by omega, by omega⟩ rfl (c9 := 0) (k9 := 2) rfl rfl dX7_holds_50 ?_
    refine dp_iconst C dX7_holds_51 ?_
    refine dp_iadd C dX7_holds_52 ?_
    refine dp_ast_ms C (j := 6) ⟨by omega, by omega⟩ rfl (c9 := 0) (k9 := 2) rfl rfl dX7_holds_53 ?_
    refine dp_vret C hret dX7_holds_54 ?_
    refine congrArg (fun q => dN M q X) ?_
    unfold hdM hd1
    first | (rw [if_pos (by assumption)]; done) | (rw [if_neg (by assumption), hu]; rfl)
  · skip
    obtain ⟨t, ht, hu, hu2, h6⟩ := uwN_t c8
    have ht10 : t < 10 := by omega
    rw [hu]
    have e4 : ∀ y, u2 (u2 V (t + 6) 6 0) (t + 6) 11 y (1 + 3) = V (1 + 3) := fun y => by rw [u2_ne (by omega), u2_ne (by omega)]
    refine dp_aload_n C dX7_holds_11 rfl ?_
    refine dp_iload_n C dX7_holds_12 rfl ?_
    refine dp_bipush C dX7_holds_13 (by decide) ?_
    refine dp_iconst C dX7_holds_15 ?_
    refine dp_cVv C (c_X7_puts C.2.2.1 l (t := t) (k := 6) ht10 (by decide)) gX7_holds_X7_puts rfl (dp_mM (by decide)) dp_xmo rfl yyX7_puts rfl ⟨Nat.le_of_ble_eq_true rfl, Nat.le_of_ble_eq_true rfl⟩ rfl (Nat.le_of_ble_eq_true rfl) rfl ⟨Nat.zero_le _, Nat.zero_le _⟩ dX7_holds_16 (fun M16 h16 => ?_)
    obtain rfl := h16
    refine dp_aload_n C dX7_holds_19 rfl ?_
    refine dp_iload_n C dX7_holds_20 rfl ?_
    refine dp_bipush C dX7_holds_21 (by decide) ?_
    refine dp_aload_n C dX7_holds_23 rfl ?_
    refine dp_iload_n C dX7_holds_24 rfl ?_
    refine dp_bipush C dX7_holds_25 (by decide) ?_
    refine dp_cVi C (c_X7_of C.2.2.1 l (t := t) (k := 11) ht10 (by decide)) gX7_holds_X7_of rfl (dp_mM (by decide)) dp_xmo rfl yyX7_of rfl ⟨Nat.le_of_ble_eq_true rfl, Nat.le_of_ble_eq_true rfl⟩ rfl (Nat.le_of_ble_eq_true rfl) rfl ⟨Nat.zero_le _, Nat.zero_le _⟩ dX7_holds_27 (fun x27 M27 h27 => ?_)
    obtain ⟨rfl, rfl⟩ := h27
    rw [u2_same, u1_ne (by decide)]
    refine dp_iconst C dX7_holds_30 ?_
    refine dp_iadd C dX7_holds_31 ?_
    refine dp_cVv C (c_X7_puts C.2.2.1 l (t := t) (k := 11) ht10 (by decide)) gX7_holds_X7_puts rfl (dp_mM (by decide)) dp_xmo rfl yyX7_puts rfl ⟨Nat.le_of_ble_eq_true rfl, Nat.le_of_ble_eq_true rfl⟩ rfl (Nat.le_of_ble_eq_true rfl) rfl ⟨Nat.zero_le _, Nat.zero_le _⟩ dX7_holds_32 (fun M32 h32 => ?_)
    obtain rfl := h32
    refine dp_aload_n C dX7_holds_35 rfl ?_
    refine dp_iconst C dX7_holds_36 ?_
    refine dp_sipush C dX7_holds_37 (by decide) ?_
    refine dp_cVv C (c_X7_goes C.2.2.1 l (a := 1) (to := 9000) (by decide) (by first | exact h15 | (rw [e4]; exact h15)) (by decide)) gX7_holds_X7_goes rfl (dp_mM (by decide)) dp_xmo rfl yyX7_goes rfl ⟨Nat.le_of_ble_eq_true rfl, Nat.le_of_ble_eq_true rfl⟩ rfl (Nat.le_of_ble_eq_true rfl) rfl ⟨Nat.zero_le _, Nat.zero_le _⟩ dX7_holds_40 (fun M40 h40 => ?_)
    obtain rfl := h40
    rw [show (1 : Nat) + 3 = 4 from rfl]
    refine dp_aload_n C dX7_holds_43 rfl ?_
    refine dp_getf C (k := 0) (dp_mM (by decide)) dp_xmo rfl hX7 (by decide) (List.mem_of_getElem? (i := 2) rfl) rfl dX7_holds_44 ?_
    refine dp_bipush C dX7_holds_47 (by decide) ?_
    refine dp_dup2 C dX7_holds_49 rfl rfl ?_
    refine dp_ald_ms C (j := 6) ⟨by omega, by omega⟩ rfl (c9 := 0) (k9 := 2) rfl rfl dX7_holds_50 ?_
    refine dp_iconst C dX7_holds_51 ?_
    refine dp_iadd C dX7_holds_52 ?_
    refine dp_ast_ms C (j := 6) ⟨by omega, by omega⟩ rfl (c9 := 0) (k9 := 2) rfl rfl dX7_holds_53 ?_
    refine dp_vret C hret dX7_holds_54 ?_
    refine congrArg (fun q => dN M q X) ?_
    unfold hdM hd1
    first | (rw [if_pos (by assumption)]; done) | (rw [if_neg (by assumption), hu]; rfl)
