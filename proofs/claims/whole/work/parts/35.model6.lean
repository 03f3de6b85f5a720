theorem tg_no {f : Nat → Int} {k : Int} (h : k < 0 ∨ 12 < k) : tgT f k = -100001 := by
  unfold tgT
  repeat (first | rw [if_neg (by omega)] | rw [if_pos (by omega)])
theorem tg_ye {f : Nat → Int} {j : Nat} (hj : j < 13) (h : j < 7 ∨ j = 11 ∨ f 6 = 2 ∨ (f 6 = 1 ∧ ¬ j = 10)) : tgT f (j : Int) = f j := by
  rcases (by omega : j = 0 ∨ j = 1 ∨ j = 2 ∨ j = 3 ∨ j = 4 ∨ j = 5 ∨ j = 6 ∨ j = 7 ∨ j = 8 ∨ j = 9 ∨ j = 10 ∨ j = 11 ∨ j = 12) with q | q | q | q | q | q | q | q | q | q | q | q | q <;> subst q
  all_goals try rfl
  all_goals first
    | (show ibF (f 6) _ = _; unfold ibF; by_cases a : f 6 = 1; · rw [if_pos a]
       · rw [if_neg a, if_pos (by omega)])
    | (show (if f 6 = 2 then f 10 else -100004) = f 10; rw [if_pos (by omega)])
theorem tg_nf {f : Nat → Int} {j : Nat} (hj : j < 13) (h : ¬ j < 7 ∧ ¬ j = 11 ∧ ¬ f 6 = 2 ∧ (¬ f 6 = 1 ∨ j = 10)) : tgT f (j : Int) = -100004 := by
  rcases (by omega : j = 7 ∨ j = 8 ∨ j = 9 ∨ j = 10 ∨ j = 12) with q | q | q | q | q <;> subst q
  all_goals first
    | (show ibF (f 6) _ = _; unfold ibF; rw [if_neg (by omega), if_neg (by omega)])
    | (show (if f 6 = 2 then f 10 else -100004) = -100004; rw [if_neg (by omega)])
theorem yyX7_set : yX7_set.cls = RX7 ∧ yX7_set.cls ≠ "java/lang/invoke/MethodHandle" ∧ yX7_set.cls ≠ "java/lang/invoke/VarHandle" ∧ (parseMethodDescriptor yX7_set.desc).map (fun d => d.parameters.length) = some 2 := by decide +kernel
set_option maxHeartbeats 4000000 in
set_option maxRecDepth 100000 in
theorem c_X7_set {E : dp_E} (hE : dp_OK E) (l : Launch) {M : dp_M} {V X : dp_V} {k x : Int} (hs : 0 ≤ X 0 0 ∧ X 0 0 ≤ 5) (hk : dp_R k) (hx : dp_R x) : dp_met E l yX7_set wsX7_set 1 22 [.ref (eAd E 8 0), .int (dp_I k), .int (dp_I x)] (dN M V X) (dp_qi E (fun y M1 => y = (if (0 ≤ k ∧ k ≤ 3) ∧ 0 ≤ x ∧ x ≤ dp_sm k.toNat then V 1 k.toNat else -100001) ∧ M1 = (if (0 ≤ k ∧ k ≤ 3) ∧ 0 ≤ x ∧ x ≤ dp_sm k.toNat then rnM M V X (u2 V 1 k.toNat x) else dN M V X))) := by
  refine dp_of (cc := cX7_set) (nL := 4) (own := RX7) (ret := some (.int)) (by decide +kernel) rfl rfl hE (by simp [Value.category]) (Nat.le_of_ble_eq_true rfl) ?_
  intro p e s m below meth co C hret
  show dp_G _ _ _ _ _ _ _ _ _ _ _ _ _ _ _ _ _ [some (.ref (eAd E 8 0)), some (.int (dp_I k)), some (.int (dp_I x)), none] _
  have hX7 : ∀ w ∈ u_ws RX7 TX7 12, w ∈ wsX7_set := fun w h => List.mem_cons_of_mem _ (List.mem_append_right _ (h))
  unfold dp_R at hk hx
  refine dp_iload_n C dX7_set_0 rfl ?_
  refine dp_iconst C dX7_set_1 ?_
  refine dp_iconst C dX7_set_2 ?_
  refine dp_cSi C (c_X7_in C.2.2.1 l ⟨by omega, by omega⟩ ⟨by omega, by omega⟩ ⟨by omega, by omega⟩) gX7_set_X7_in rfl yyX7_in rfl ⟨Nat.le_of_ble_eq_true rfl, Nat.le_of_ble_eq_true rfl⟩ rfl (Nat.le_of_ble_eq_true rfl) rfl ⟨Nat.zero_le _, Nat.zero_le _⟩ dX7_set_3 (fun x3 M3 h3 => ?_)
  obtain ⟨rfl, rfl⟩ := h3
  refine dp_ifz_eq (tgt := 21) C dX7_set_6 (by decide) (fun c6 => ?_) (fun c6 => ?_)
  · skip
    refine dp_ldc C (-100001) (List.mem_of_getElem? (i := 1) rfl) rfl dX7_set_21 ?_
    refine dp_iret C hret dX7_set_23 ?_
    first | exact ⟨by rw [if_pos ⟨by assumption, by assumption⟩], by rw [if_pos ⟨by assumption, by assumption⟩]⟩ | exact ⟨by rw [if_neg (fun q => absurd q.1 (by assumption))], by rw [if_neg (fun q => absurd q.1 (by assumption))]⟩ | exact ⟨by rw [if_neg (fun q => absurd q.2 (by assumption))], by rw [if_neg (fun q => absurd q.2 (by assumption))]⟩
  · skip
    have hsm : 0 ≤ dp_sm k.toNat ∧ dp_sm k.toNat ≤ 27000 := by
      rcases (by omega : k = 0 ∨ k = 1 ∨ k = 2 ∨ k = 3) with q | q | q | q <;> subst q <;> decide
    refine dp_iload_n C dX7_set_9 rfl ?_
    refine dp_iconst C dX7_set_10 ?_
    refine dp_iload_n C dX7_set_11 rfl ?_
    refine dp_cSi C (c_X7_mostOf C.2.2.1 l (by assumption)) gX7_set_X7_mostOf rfl yyX7_mostOf rfl ⟨Nat.le_of_ble_eq_true rfl, Nat.le_of_ble_eq_true rfl⟩ rfl (Nat.le_of_ble_eq_true rfl) rfl ⟨Nat.zero_le _, Nat.zero_le _⟩ dX7_set_12 (fun x12 M12 h12 => ?_)
    obtain ⟨rfl, rfl⟩ := h12
    refine dp_cSi C (c_X7_in C.2.2.1 l ⟨by omega, by omega⟩ ⟨by omega, by omega⟩ ⟨by omega, by omega⟩) gX7_set_X7_in rfl yyX7_in rfl ⟨Nat.le_of_ble_eq_true rfl, Nat.le_of_ble_eq_true rfl⟩ rfl (Nat.le_of_ble_eq_true rfl) rfl ⟨Nat.zero_le _, Nat.zero_le _⟩ dX7_set_15 (fun x15 M15 h15 => ?_)
    obtain ⟨rfl, rfl⟩ := h15
    refine dp_ifz_ne (tgt := 24) C dX7_set_18 (by decide) (fun c18 => ?_) (fun c18 => ?_)
    · skip
      refine dp_aload_n C dX7_set_24 rfl ?_
      refine dp_cVv C (c_X7_records C.2.2.1 l (by omega)) gX7_set_X7_records rfl (dp_mM (by decide)) dp_xmo rfl yyX7_records rfl ⟨Nat.le_of_ble_eq_true rfl, Nat.le_of_ble_eq_true rfl⟩ rfl (Nat.le_of_ble_eq_true rfl) rfl ⟨Nat.zero_le _, Nat.zero_le _⟩ dX7_set_25 (fun M25 h25 => ?_)
      obtain rfl := h25
      unfold rnM
      refine dp_aload_n C dX7_set_28 rfl ?_
      refine dp_getf C (k := 0) (dp_mM (by decide)) dp_xmo rfl hX7 (by decide) (List.mem_of_getElem? (i := 2) rfl) rfl dX7_set_29 ?_
      refine dp_iload_n C dX7_set_32 rfl ?_
      refine dp_ald_ms C (j := k.toNat) ⟨by omega, by omega⟩ rfl (c9 := 1) (k9 := k.toNat) (dp_ce1 (by omega)) (dp_sl1 (by omega)) dX7_set_33 ?_
      refine dp_istore_n C dX7_set_34 (Nat.le_of_ble_eq_true rfl) ?_
      dsimp only [List.set]
      refine dp_aload_n C dX7_set_35 rfl ?_
      refine dp_getf C (k := 0) (dp_mM (by decide)) dp_xmo rfl hX7 (by decide) (List.mem_of_getElem? (i := 2) rfl) rfl dX7_set_36 ?_
      refine dp_iload_n C dX7_set_39 rfl ?_
      refine dp_iload_n C dX7_set_40 rfl ?_
      refine dp_ast_ms C (j := k.toNat) ⟨by omega, by omega⟩ rfl (c9 := 1) (k9 := k.toNat) (dp_ce1 (by omega)) (dp_sl1 (by omega)) dX7_set_41 ?_
      refine dp_iload_n C dX7_set_42 rfl ?_
      refine dp_iret C hret dX7_set_43 ?_
      first | exact ⟨by rw [if_pos ⟨by assumption, by assumption⟩], by rw [if_pos ⟨by assumption, by assumption⟩]⟩ | exact ⟨by rw [if_neg (fun q => absurd q.1 (by assumption))], by rw [if_neg (fun q => absurd q.1 (by assumption))]⟩ | exact ⟨by rw [if_neg (fun q => absurd q.2 (by assumption))], by rw [if_neg (fun q => absurd q.2 (by assumption))]⟩
    · skip
      refine dp_ldc C (-100001) (List.mem_of_getElem? (i := 1) rfl) rfl dX7_set_21 ?_
      refine dp_iret C hret dX7_set_23 ?_
      first | exact ⟨by rw [if_pos ⟨by assumption, by assumption⟩], by rw [if_pos ⟨by assumption, by assumption⟩]⟩ | exact ⟨by rw [if_neg (fun q => absurd q.1 (by assumption))], by rw [if_neg (fun q => absurd q.1 (by assumption))]⟩ | exact ⟨by rw [if_neg (fun q => absurd q.2 (by assumption))], by rw [if_neg (fun q => absurd q.2 (by assumption))]⟩
theorem yyX7_setAxis : yX7_setAxis.cls = RX7 ∧ yX7_setAxis.cls ≠ "java/lang/invoke/MethodHandle" ∧ yX7_setAxis.cls ≠ "java/lang/invoke/VarHandle" ∧ (parseMethodDescriptor yX7_setAxis.desc).map (fun d => d.parameters.length) = some 3 := by decide +kernel
set_option maxHeartbeats 4000000 in
set_option maxRecDepth 100000 in
theorem c_X7_setAxis {E : dp_E} (hE : dp_OK E) (l : Launch) {M : dp_M} {V X : dp_V} {a k x : Int} (hv : ivS V) (hs : 0 ≤ X 0 0 ∧ X 0 0 ≤ 5) (ha : dp_R a) (hk : dp_R k) (hx : dp_R x) : dp_met E l yX7_setAxis wsX7_setAxis 2 43 [.ref (eAd E 8 0), .int (dp_I a), .int (dp_I k), .int (dp_I x)] (dN M V X) (dp_qi E (fun y M1 => y = (if (0 ≤ a ∧ a ≤ 1) ∧ (0 ≤ k ∧ k ≤ 2) ∧ dp_al k.toNat ≤ x ∧ x ≤ dp_am k.toNat then axT (axC a) (V (axC a)) k else -100001) ∧ M1 = (if (0 ≤ a ∧ a ≤ 1) ∧ (0 ≤ k ∧ k ≤ 2) ∧ dp_al k.toNat ≤ x ∧ x ≤ dp_am k.toNat then rnM M V X (chV V (axC a) k x) else dN M V X))) := by
  refine dp_of (cc := cX7_setAxis) (nL := 6) (own := RX7) (ret := some (.int)) (by decide +kernel) rfl rfl hE (by simp [Value.category]) (Nat.le_of_ble_eq_true rfl) ?_
  intro p e s m below meth co C hret
  show dp_G _ _ _ _ _ _ _ _ _ _ _ _ _ _ _ _ _ [some (.ref (eAd E 8 0)), some (.int (dp_I a)), some (.int (dp_I k)), some (.int (dp_I x)), none, none] _
  have hX7 : ∀ w ∈ u_ws RX7 TX7 12, w ∈ wsX7_setAxis := fun w h => List.mem_cons_of_mem _ (List.mem_append_right _ (h))
  unfold dp_R at ha hk hx
  refine dp_iload_n C dX7_setAxis_0 rfl ?_
  refine dp_iconst C dX7_setAxis_1 ?_
  refine dp_iconst C dX7_setAxis_2 ?_
  refine dp_cSi C (c_X7_in C.2.2.1 l ⟨by omega, by omega⟩ ⟨by omega, by omega⟩ ⟨by omega, by omega⟩) gX7_setAxis_X7_in rfl yyX7_in rfl ⟨Nat.le_of_ble_eq_true rfl, Nat.le_of_ble_eq_true rfl⟩ rfl (Nat.le_of_ble_eq_true rfl) rfl ⟨Nat.zero_le _, Nat.zero_le _⟩ dX7_setAxis_3 (fun x3 M3 h3 => ?_)
  obtain ⟨rfl, rfl⟩ := h3
  refine dp_ifz_eq (tgt := 17) C dX7_setAxis_6 (by decide) (fun c6 => ?_) (fun c6 => ?_)
  · skip
    refine dp_ldc C (-100001) (List.mem_of_getElem? (i := 1) rfl) rfl dX7_setAxis_17 ?_
    refine dp_iret C hret dX7_setAxis_19 ?_
    first | exact ⟨by rw [if_neg (fun q => absurd q.1 (by assumption))], by rw [if_neg (fun q => absurd q.1 (by assumption))]⟩ | exact ⟨by rw [if_neg (fun q => absurd q.2 (by assumption))], by rw [if_neg (fun q => absurd q.2 (by assumption))]⟩
  · skip
    refine dp_iload_n C dX7_setAxis_9 rfl ?_
    refine dp_iload_n C dX7_setAxis_10 rfl ?_
    refine dp_cSi C (c_X7_isOfAxis C.2.2.1 l ⟨by omega, by omega⟩ ⟨by omega, by omega⟩) gX7_setAxis_X7_isOfAxis rfl yyX7_isOfAxis rfl ⟨Nat.le_of_ble_eq_true rfl, Nat.le_of_ble_eq_true rfl⟩ rfl (Nat.le_of_ble_eq_true rfl) rfl ⟨Nat.zero_le _, Nat.zero_le _⟩ dX7_setAxis_11 (fun x11 M11 h11 => ?_)
    obtain ⟨rfl, rfl⟩ := h11
    refine dp_ifz_ne (tgt := 20) C dX7_setAxis_14 (by decide) (fun c14 => ?_) (fun c14 => ?_)
    · skip
      have hg := c14
      obtain ⟨b, rfl, hb⟩ : ∃ b : Nat, a = (b : Int) ∧ b < 2 := ⟨a.toNat, by omega, by omega⟩
      obtain ⟨j, rfl, hj⟩ : ∃ j : Nat, k = (j : Int) ∧ j < 3 := ⟨k.toNat, by omega, by omega⟩
      have hi : ivA (b + 3) (V (b + 3)) := by
        rcases (by omega : b = 0 ∨ b = 1) with q | q <;> subst q
        · exact hv.2.2.2.1
        · exact hv.2.2.2.2
      have hi2 := hi
      unfold ivA at hi2
      have hx0 : j = 0 → 0 ≤ x := fun q => by subst q; exact hg.2.1
      have hx1 : j = 0 → x ≤ 300 := fun q => by subst q; exact hg.2.2
      have r0 : dp_R (u2 V (b + 3) j x (b + 3) 0) := by
        unfold dp_R
        rw [u2_same]
        unfold u1
        split <;> omega
      have r4 : dp_R (u2 V (b + 3) j x (b + 3) 4) := by
        unfold dp_R
        rw [u2_same, u1_ne (by omega)]
        omega
      refine dp_aload_n C dX7_setAxis_20 rfl ?_
      refine dp_cVv C (c_X7_records C.2.2.1 l (by omega)) gX7_setAxis_X7_records rfl (dp_mM (by decide)) dp_xmo rfl yyX7_records rfl ⟨Nat.le_of_ble_eq_true rfl, Nat.le_of_ble_eq_true rfl⟩ rfl (Nat.le_of_ble_eq_true rfl) rfl ⟨Nat.zero_le _, Nat.zero_le _⟩ dX7_setAxis_21 (fun M21 h21 => ?_)
      obtain rfl := h21
      unfold rnM
      refine dp_bipush C dX7_setAxis_24 (by decide) ?_
      refine dp_bipush C dX7_setAxis_26 (by decide) ?_
      refine dp_iload_n C dX7_setAxis_28 rfl ?_
      refine dp_imul C dX7_setAxis_29 ?_
      refine dp_iadd C dX7_setAxis_30 ?_
      refine dp_istore C dX7_setAxis_31 (Nat.le_of_ble_eq_true rfl) ?_
      dsimp only [List.set]
      refine dp_aload_n C dX7_setAxis_33 rfl ?_
      refine dp_getf C (k := 0) (dp_mM (by decide)) dp_xmo rfl hX7 (by decide) (List.mem_of_getElem? (i := 2) rfl) rfl dX7_setAxis_34 ?_
      refine dp_iload C dX7_setAxis_37 rfl ?_
      refine dp_iload_n C dX7_setAxis_39 rfl ?_
      refine dp_iadd C dX7_setAxis_40 ?_
      refine dp_ald_ms C (j := 39 + 7 * b + j) ⟨by omega, by omega⟩ (by omega) (c9 := (b + 3)) (k9 := j) (dp_ceA (k := j) hb (by omega)) (dp_slA (k := j) hb (by omega)) dX7_setAxis_41 ?_
      refine dp_istore C dX7_setAxis_42 (Nat.le_of_ble_eq_true rfl) ?_
      dsimp only [List.set]
      refine dp_aload_n C dX7_setAxis_44 rfl ?_
      refine dp_getf C (k := 0) (dp_mM (by decide)) dp_xmo rfl hX7 (by decide) (List.mem_of_getElem? (i := 2) rfl) rfl dX7_setAxis_45 ?_
      refine dp_iload C dX7_setAxis_48 rfl ?_
      refine dp_iload_n C dX7_setAxis_50 rfl ?_
      refine dp_iadd C dX7_setAxis_51 ?_
      refine dp_iload_n C dX7_setAxis_52 rfl ?_
      refine dp_ast_ms C (j := 39 + 7 * b + j) ⟨by omega, by omega⟩ (by omega) (c9 := (b + 3)) (k9 := j) (dp_ceA (k := j) hb (by omega)) (dp_slA (k := j) hb (by omega)) dX7_setAxis_53 ?_
      refine dp_aload_n C dX7_setAxis_54 rfl ?_
      refine dp_getf C (k := 0) (dp_mM (by decide)) dp_xmo rfl hX7 (by decide) (List.mem_of_getElem? (i := 2) rfl) rfl dX7_setAxis_55 ?_
      refine dp_iload C dX7_setAxis_58 rfl ?_
      refine dp_iconst C dX7_setAxis_60 ?_
      refine dp_iadd C dX7_setAxis_61 ?_
      refine dp_aload_n C dX7_setAxis_62 rfl ?_
      refine dp_getf C (k := 0) (dp_mM (by decide)) dp_xmo rfl hX7 (by decide) (List.mem_of_getElem? (i := 2) rfl) rfl dX7_setAxis_63 ?_
      refine dp_iload C dX7_setAxis_66 rfl ?_
      refine dp_iconst C dX7_setAxis_68 ?_
      refine dp_iadd C dX7_setAxis_69 ?_
      refine dp_ald_ms C (j := 39 + 7 * b + 4) ⟨by omega, by omega⟩ (by omega) (c9 := (b + 3)) (k9 := 4) (dp_ceA (k := 4) hb (by omega)) (dp_slA (k := 4) hb (by omega)) dX7_setAxis_70 ?_
      refine dp_aload_n C dX7_setAxis_71 rfl ?_
      refine dp_getf C (k := 0) (dp_mM (by decide)) dp_xmo rfl hX7 (by decide) (List.mem_of_getElem? (i := 2) rfl) rfl dX7_setAxis_72 ?_
      refine dp_iload C dX7_setAxis_75 rfl ?_
      refine dp_iconst C dX7_setAxis_77 ?_
      refine dp_iadd C dX7_setAxis_78 ?_
      refine dp_ald_ms C (j := 39 + 7 * b + 0) ⟨by omega, by omega⟩ (by omega) (c9 := (b + 3)) (k9 := 0) (dp_ceA (k := 0) hb (by omega)) (dp_slA (k := 0) hb (by omega)) dX7_setAxis_79 ?_
      refine dp_icmp_le (tgt := 95) C dX7_setAxis_80 (by decide) r4 r0 (fun c80 => ?_) (fun c80 => ?_)
      · skip
        refine dp_aload_n C dX7_setAxis_95 rfl ?_
        refine dp_getf C (k := 0) (dp_mM (by decide)) dp_xmo rfl hX7 (by decide) (List.mem_of_getElem? (i := 2) rfl) rfl dX7_setAxis_96 ?_
        refine dp_iload C dX7_setAxis_99 rfl ?_
        refine dp_iconst C dX7_setAxis_101 ?_
        refine dp_iadd C dX7_setAxis_102 ?_
        refine dp_ald_ms C (j := 39 + 7 * b + 4) ⟨by omega, by omega⟩ (by omega) (c9 := (b + 3)) (k9 := 4) (dp_ceA (k := 4) hb (by omega)) (dp_slA (k := 4) hb (by omega)) dX7_setAxis_103 ?_
        refine dp_ast_ms C (j := 39 + 7 * b + 4) ⟨by omega, by omega⟩ (by omega) (c9 := (b + 3)) (k9 := 4) (dp_ceA (k := 4) hb (by omega)) (dp_slA (k := 4) hb (by omega)) dX7_setAxis_104 ?_
        refine dp_iload C dX7_setAxis_105 rfl ?_
        refine dp_iret C hret dX7_setAxis_107 ?_
        have ec := ch_eq (V := V) hj hi hx0
        rw [axC_n hb]
        first | rw [if_pos (by assumption)] at ec | rw [if_neg (by assumption)] at ec
        exact ⟨by rw [if_pos ⟨by assumption, hg⟩, axT_lo (by omega)], by rw [if_pos ⟨by assumption, hg⟩, ← ec]⟩
      · skip
        refine dp_aload_n C dX7_setAxis_83 rfl ?_
        refine dp_getf C (k := 0) (dp_mM (by decide)) dp_xmo rfl hX7 (by decide) (List.mem_of_getElem? (i := 2) rfl) rfl dX7_setAxis_84 ?_
        refine dp_iload C dX7_setAxis_87 rfl ?_
        refine dp_iconst C dX7_setAxis_89 ?_
        refine dp_iadd C dX7_setAxis_90 ?_
        refine dp_ald_ms C (j := 39 + 7 * b + 0) ⟨by omega, by omega⟩ (by omega) (c9 := (b + 3)) (k9 := 0) (dp_ceA (k := 0) hb (by omega)) (dp_slA (k := 0) hb (by omega)) dX7_setAxis_91 ?_
        refine dp_goto (tgt := 104) C dX7_setAxis_92 (by decide) ?_
        refine dp_ast_ms C (j := 39 + 7 * b + 4) ⟨by omega, by omega⟩ (by omega) (c9 := (b + 3)) (k9 := 4) (dp_ceA (k := 4) hb (by omega)) (dp_slA (k := 4) hb (by omega)) dX7_setAxis_104 ?_
        refine dp_iload C dX7_setAxis_105 rfl ?_
        refine dp_iret C hret dX7_setAxis_107 ?_
        have ec := ch_eq (V := V) hj hi hx0
        rw [axC_n hb]
        first | rw [if_pos (by assumption)] at ec | rw [if_neg (by assumption)] at ec
        exact ⟨by rw [if_pos ⟨by assumption, hg⟩, axT_lo (by omega)], by rw [if_pos ⟨by assumption, hg⟩, ← ec]⟩
    · skip
      refine dp_ldc C (-100001) (List.mem_of_getElem? (i := 1) rfl) rfl dX7_setAxis_17 ?_
      refine dp_iret C hret dX7_setAxis_19 ?_
      first | exact ⟨by rw [if_neg (fun q => absurd q.1 (by assumption))], by rw [if_neg (fun q => absurd q.1 (by assumption))]⟩ | exact ⟨by rw [if_neg (fun q => absurd q.2 (by assumption))], by rw [if_neg (fun q => absurd q.2 (by assumption))]⟩
theorem yyX7_gust : yX7_gust.cls = RX7 ∧ yX7_gust.cls ≠ "java/lang/invoke/MethodHandle" ∧ yX7_gust.cls ≠ "java/lang/invoke/VarHandle" ∧ (parseMethodDescriptor yX7_gust.desc).map (fun d => d.parameters.length) = some 2 := by decide +kernel
set_option maxHeartbeats 4000000 in
set_option maxRecDepth 100000 in
theorem c_X7_gust {E : dp_E} (hE : dp_OK E) (l : Launch) {M : dp_M} {V X : dp_V} {d g : Int} (hv : ivS V) (hs : 0 ≤ X 0 0 ∧ X 0 0 ≤ 5) (hd : dp_R d) (hg : dp_R g) : dp_met E l yX7_gust wsX7_gust 1 22 [.ref (eAd E 8 0), .int (dp_I d), .int (dp_I g)] (dN M V X) (dp_qi E (fun y M1 => y = (if (0 ≤ d ∧ d ≤ 29) ∧ 0 ≤ g ∧ g ≤ 99 then (if d * 1440 < V 0 0 then -100002 else V 2 d.toNat) else -100001) ∧ M1 = (if ((0 ≤ d ∧ d ≤ 29) ∧ 0 ≤ g ∧ g ≤ 99) ∧ ¬ d * 1440 < V 0 0 then rnM M V X (u2 V 2 d.toNat g) else dN M V X))) := by
  refine dp_of (cc := cX7_gust) (nL := 4) (own := RX7) (ret := some (.int)) (by decide +kernel) rfl rfl hE (by simp [Value.category]) (Nat.le_of_ble_eq_true rfl) ?_
  intro p e s m below meth co C hret
  show dp_G _ _ _ _ _ _ _ _ _ _ _ _ _ _ _ _ _ [some (.ref (eAd E 8 0)), some (.int (dp_I d)), some (.int (dp_I g)), none] _
  have hX7 : ∀ w ∈ u_ws RX7 TX7 12, w ∈ wsX7_gust := fun w h => List.mem_cons_of_mem _ (List.mem_append_right _ (h))
  unfold dp_R at hd hg
  have h0 := hv.1
  refine dp_iload_n C dX7_gust_0 rfl ?_
  refine dp_iconst C dX7_gust_1 ?_
  refine dp_bipush C dX7_gust_2 (by decide) ?_
  refine dp_cSi C (c_X7_in C.2.2.1 l ⟨by omega, by omega⟩ ⟨by omega, by omega⟩ ⟨by omega, by omega⟩) gX7_gust_X7_in rfl yyX7_in rfl ⟨Nat.le_of_ble_eq_true rfl, Nat.le_of_ble_eq_true rfl⟩ rfl (Nat.le_of_ble_eq_true rfl) rfl ⟨Nat.zero_le _, Nat.zero_le _⟩ dX7_gust_4 (fun x4 M4 h4 => ?_)
  obtain ⟨rfl, rfl⟩ := h4
  refine dp_ifz_eq (tgt := 20) C dX7_gust_7 (by decide) (fun c7 => ?_) (fun c7 => ?_)
  · skip
    refine dp_ldc C (-100001) (List.mem_of_getElem? (i := 1) rfl) rfl dX7_gust_20 ?_
    refine dp_iret C hret dX7_gust_22 ?_
    first | exact ⟨by rw [if_pos ⟨by assumption, by assumption⟩, if_neg (by omega)], by rw [if_pos ⟨⟨by assumption, by assumption⟩, by omega⟩]⟩ | exact ⟨by rw [if_pos ⟨by assumption, by assumption⟩, if_pos (by omega)], by rw [if_neg (fun q => absurd q.2 (by omega))]⟩ | exact ⟨by rw [if_neg (fun q => absurd q.1 (by assumption))], by rw [if_neg (fun q => absurd q.1.1 (by assumption))]⟩ | exact ⟨by rw [if_neg (fun q => absurd q.2 (by assumption))], by rw [if_neg (fun q => absurd q.1.2 (by assumption))]⟩
  · skip
    refine dp_iload_n C dX7_gust_10 rfl ?_
    refine dp_iconst C dX7_gust_11 ?_
    refine dp_bipush C dX7_gust_12 (by decide) ?_
    refine dp_cSi C (c_X7_in C.2.2.1 l ⟨by omega, by omega⟩ ⟨by omega, by omega⟩ ⟨by omega, by omega⟩) gX7_gust_X7_in rfl yyX7_in rfl ⟨Nat.le_of_ble_eq_true rfl, Nat.le_of_ble_eq_true rfl⟩ rfl (Nat.le_of_ble_eq_true rfl) rfl ⟨Nat.zero_le _, Nat.zero_le _⟩ dX7_gust_14 (fun x14 M14 h14 => ?_)
    obtain ⟨rfl, rfl⟩ := h14
    refine dp_ifz_ne (tgt := 23) C dX7_gust_17 (by decide) (fun c17 => ?_) (fun c17 => ?_)
    · skip
      refine dp_sipush C dX7_gust_23 (by decide) ?_
      refine dp_iload_n C dX7_gust_26 rfl ?_
      refine dp_imul C dX7_gust_27 ?_
      refine dp_aload_n C dX7_gust_28 rfl ?_
      refine dp_getf C (k := 0) (dp_mM (by decide)) dp_xmo rfl hX7 (by decide) (List.mem_of_getElem? (i := 2) rfl) rfl dX7_gust_29 ?_
      refine dp_iconst C dX7_gust_32 ?_
      refine dp_ald_ms C (j := 4) ⟨by omega, by omega⟩ rfl (c9 := 0) (k9 := 0) rfl rfl dX7_gust_33 ?_
      refine dp_icmp_ge (tgt := 40) C dX7_gust_34 (by decide) ⟨by omega, by omega⟩ ⟨by omega, by omega⟩ (fun c34 => ?_) (fun c34 => ?_)
      · skip
        refine dp_aload_n C dX7_gust_40 rfl ?_
        refine dp_cVv C (c_X7_records C.2.2.1 l (by omega)) gX7_gust_X7_records rfl (dp_mM (by decide)) dp_xmo rfl yyX7_records rfl ⟨Nat.le_of_ble_eq_true rfl, Nat.le_of_ble_eq_true rfl⟩ rfl (Nat.le_of_ble_eq_true rfl) rfl ⟨Nat.zero_le _, Nat.zero_le _⟩ dX7_gust_41 (fun M41 h41 => ?_)
        obtain rfl := h41
        unfold rnM
        refine dp_aload_n C dX7_gust_44 rfl ?_
        refine dp_getf C (k := 0) (dp_mM (by decide)) dp_xmo rfl hX7 (by decide) (List.mem_of_getElem? (i := 2) rfl) rfl dX7_gust_45 ?_
        refine dp_bipush C dX7_gust_48 (by decide) ?_
        refine dp_iload_n C dX7_gust_50 rfl ?_
        refine dp_iadd C dX7_gust_51 ?_
        refine dp_ald_ms C (j := 8 + d.toNat) ⟨by omega, by omega⟩ (by omega) (c9 := 2) (k9 := d.toNat) (dp_ceG (by omega)) (dp_slG (by omega)) dX7_gust_52 ?_
        refine dp_istore_n C dX7_gust_53 (Nat.le_of_ble_eq_true rfl) ?_
        dsimp only [List.set]
        refine dp_aload_n C dX7_gust_54 rfl ?_
        refine dp_getf C (k := 0) (dp_mM (by decide)) dp_xmo rfl hX7 (by decide) (List.mem_of_getElem? (i := 2) rfl) rfl dX7_gust_55 ?_
        refine dp_bipush C dX7_gust_58 (by decide) ?_
        refine dp_iload_n C dX7_gust_60 rfl ?_
        refine dp_iadd C dX7_gust_61 ?_
        refine dp_iload_n C dX7_gust_62 rfl ?_
        refine dp_ast_ms C (j := 8 + d.toNat) ⟨by omega, by omega⟩ (by omega) (c9 := 2) (k9 := d.toNat) (dp_ceG (by omega)) (dp_slG (by omega)) dX7_gust_63 ?_
        refine dp_iload_n C dX7_gust_64 rfl ?_
        refine dp_iret C hret dX7_gust_65 ?_
        first | exact ⟨by rw [if_pos ⟨by assumption, by assumption⟩, if_neg (by omega)], by rw [if_pos ⟨⟨by assumption, by assumption⟩, by omega⟩]⟩ | exact ⟨by rw [if_pos ⟨by assumption, by assumption⟩, if_pos (by omega)], by rw [if_neg (fun q => absurd q.2 (by omega))]⟩ | exact ⟨by rw [if_neg (fun q => absurd q.1 (by assumption))], by rw [if_neg (fun q => absurd q.1.1 (by assumption))]⟩ | exact ⟨by rw [if_neg (fun q => absurd q.2 (by assumption))], by rw [if_neg (fun q => absurd q.1.2 (by assumption))]⟩
      · skip
        refine dp_ldc C (-100002) (List.mem_of_getElem? (i := 3) rfl) rfl dX7_gust_37 ?_
        refine dp_iret C hret dX7_gust_39 ?_
        first | exact ⟨by rw [if_pos ⟨by assumption, by assumption⟩, if_neg (by omega)], by rw [if_pos ⟨⟨by assumption, by assumption⟩, by omega⟩]⟩ | exact ⟨by rw [if_pos ⟨by assumption, by assumption⟩, if_pos (by omega)], by rw [if_neg (fun q => absurd q.2 (by omega))]⟩ | exact ⟨by rw [if_neg (fun q => absurd q.1 (by assumption))], by rw [if_neg (fun q => absurd q.1.1 (by assumption))]⟩ | exact ⟨by rw [if_neg (fun q => absurd q.2 (by assumption))], by rw [if_neg (fun q => absurd q.1.2 (by assumption))]⟩
    · skip
      refine dp_ldc C (-100001) (List.mem_of_getElem? (i := 1) rfl) rfl dX7_gust_20 ?_
      refine dp_iret C hret dX7_gust_22 ?_
      first | exact ⟨by rw [if_pos ⟨by assumption, by assumption⟩, if_neg (by omega)], by rw [if_pos ⟨⟨by assumption, by assumption⟩, by omega⟩]⟩ | exact ⟨by rw [if_pos ⟨by assumption, by assumption⟩, if_pos (by omega)], by rw [if_neg (fun q => absurd q.2 (by omega))]⟩ | exact ⟨by rw [if_neg (fun q => absurd q.1 (by assumption))], by rw [if_neg (fun q => absurd q.1.1 (by assumption))]⟩ | exact ⟨by rw [if_neg (fun q => absurd q.2 (by assumption))], by rw [if_neg (fun q => absurd q.1.2 (by assumption))]⟩
theorem yyX7_why : yX7_why.cls = RX7 ∧ yX7_why.cls ≠ "java/lang/invoke/MethodHandle" ∧ yX7_why.cls ≠ "java/lang/invoke/VarHandle" ∧ (parseMethodDescriptor yX7_why.desc).map (fun d => d.parameters.length) = some 1 := by decide +kernel
set_option maxHeartbeats 4000000 in
set_option maxRecDepth 100000 in
theorem c_X7_why {E : dp_E} (hE : dp_OK E) (l : Launch) {M : dp_M} {V X : dp_V} {N : Nat} (hm : ivM V N) {x : Int} (hx : dp_R x) : dp_met E l yX7_why wsX7_why 7 166 [.ref (eAd E 8 0), .int (dp_I x)] (dN M V X) (dp_qi E (fun y M1 => y = (if 0 ≤ x ∧ x < N then rsM V N x.toNat else -100001) ∧ ∃ X', M1 = dN M V X' ∧ scr X X')) := by
  refine dp_of (cc := cX7_why) (nL := 2) (own := RX7) (ret := some (.int)) (by decide +kernel) rfl rfl hE (by simp [Value.category]) (Nat.le_of_ble_eq_true rfl) ?_
  intro p e s m below meth co C hret
  show dp_G _ _ _ _ _ _ _ _ _ _ _ _ _ _ _ _ _ [some (.ref (eAd E 8 0)), some (.int (dp_I x))] _
  have hm2 := hm
  obtain ⟨hN, h10, hv, hT⟩ := hm
  have hn : 0 ≤ V 0 3 ∧ V 0 3 ≤ 10 := by omega
  unfold dp_R at hx
  refine dp_aload_n C dX7_why_0 rfl ?_
  refine dp_iload_n C dX7_why_1 rfl ?_
  refine dp_cVi C (c_X7_isTarget C.2.2.1 l hn ⟨by omega, by omega⟩) gX7_why_X7_isTarget rfl (dp_mM (by decide)) dp_xmo rfl yyX7_isTarget rfl ⟨Nat.le_of_ble_eq_true rfl, Nat.le_of_ble_eq_true rfl⟩ rfl (Nat.le_of_ble_eq_true rfl) rfl ⟨Nat.zero_le _, Nat.zero_le _⟩ dX7_why_2 (fun x2 M2 h2 => ?_)
  obtain ⟨rfl, rfl⟩ := h2
  refine dp_ifz_eq (tgt := 16) C dX7_why_5 (by decide) (fun c5 => ?_) (fun c5 => ?_)
  · skip
    refine dp_ldc C (-100001) (List.mem_of_getElem? (i := 1) rfl) rfl dX7_why_16 ?_
    refine dp_iret C hret dX7_why_18 ?_
    first | exact ⟨by rw [if_pos (by omega), Int.toNat_natCast], _, rfl, hs1⟩ | exact ⟨by rw [if_neg (by omega)], _, rfl, scr.rf⟩
  · skip
    obtain ⟨t, rfl, ht⟩ : ∃ t : Nat, x = (t : Int) ∧ t < N := ⟨x.toNat, by omega, by omega⟩
    have ht10 : t < 10 := by omega
    have hst := hT t ht
    unfold ivT at hst
    refine dp_aload_n C dX7_why_8 rfl ?_
    refine dp_iload_n C dX7_why_9 rfl ?_
    refine dp_cVi C (c_X7_whyNot C.2.2.1 l hm2 ht) gX7_why_X7_whyNot rfl (dp_mM (by decide)) dp_xmo rfl yyX7_whyNot rfl ⟨Nat.le_of_ble_eq_true rfl, Nat.le_of_ble_eq_true rfl⟩ rfl (Nat.le_of_ble_eq_true rfl) rfl ⟨Nat.zero_le _, Nat.zero_le _⟩ dX7_why_10 (fun x10 M10 h10 => ?_)
    obtain ⟨rfl, X1, rfl, hs1⟩ := h10
    refine dp_goto (tgt := 18) C dX7_why_13 (by decide) ?_
    refine dp_iret C hret dX7_why_18 ?_
    first | exact ⟨by rw [if_pos (by omega), Int.toNat_natCast], _, rfl, hs1⟩ | exact ⟨by rw [if_neg (by omega)], _, rfl, scr.rf⟩
theorem yyX7_next : yX7_next.cls = RX7 ∧ yX7_next.cls ≠ "java/lang/invoke/MethodHandle" ∧ yX7_next.cls ≠ "java/lang/invoke/VarHandle" ∧ (parseMethodDescriptor yX7_next.desc).map (fun d => d.parameters.length) = some 0 := by decide +kernel
set_option maxHeartbeats 4000000 in
set_option maxRecDepth 100000 in
theorem c_X7_next {E : dp_E} (hE : dp_OK E) (l : Launch) {M : dp_M} {V X : dp_V} {N : Nat} (hm : ivM V N) : dp_met E l yX7_next wsX7_next 8 188 [.ref (eAd E 8 0)] (dN M V X) (dp_qi E (fun y M1 => y = ftF (bnM V N) ∧ ∃ X', M1 = dN M V X' ∧ scr X X')) := by
  refine dp_of (cc := cX7_next) (nL := 1) (own := RX7) (ret := some (.int)) (by decide +kernel) rfl rfl hE (by simp [Value.category]) (Nat.le_of_ble_eq_true rfl) ?_
  intro p e s m below meth co C hret
  show dp_G _ _ _ _ _ _ _ _ _ _ _ _ _ _ _ _ _ [some (.ref (eAd E 8 0))] _
  refine dp_aload_n C dX7_next_0 rfl ?_
  refine dp_cVi C (c_X7_nextOne C.2.2.1 l hm) gX7_next_X7_nextOne rfl (dp_mM (by decide)) dp_xmo rfl yyX7_nextOne rfl ⟨Nat.le_of_ble_eq_true rfl, Nat.le_of_ble_eq_true rfl⟩ rfl (Nat.le_of_ble_eq_true rfl) rfl ⟨Nat.zero_le _, Nat.zero_le _⟩ dX7_next_1 (fun x1 M1 h1 => ?_)
  obtain ⟨rfl, X1, rfl, hs1⟩ := h1
  refine dp_iret C hret dX7_next_4 ?_
  exact ⟨rfl, _, rfl, hs1⟩
theorem yyX7_target : yX7_target.cls = RX7 ∧ yX7_target.cls ≠ "java/lang/invoke/MethodHandle" ∧ yX7_target.cls ≠ "java/lang/invoke/VarHandle" ∧ (parseMethodDescriptor yX7_target.desc).map (fun d => d.parameters.length) = some 2 := by decide +kernel
set_option maxHeartbeats 4000000 in
set_option maxRecDepth 100000 in
theorem c_X7_target {E : dp_E} (hE : dp_OK E) (l : Launch) {M : dp_M} {V X : dp_V} {N : Nat} (hm : ivM V N) {x k : Int} (hx : dp_R x) (hk : dp_R k) : dp_met E l yX7_target wsX7_target 1 22 [.ref (eAd E 8 0), .int (dp_I x), .int (dp_I k)] (dN M V X) (dp_qi E (fun y M1 => y = (if 0 ≤ x ∧ x < N then tgT (V (x.toNat + 6)) k else -100001) ∧ M1 = dN M V X)) := by
  refine dp_of (cc := cX7_target) (nL := 5) (own := RX7) (ret := some (.int)) (by decide +kernel) rfl rfl hE (by simp [Value.category]) (Nat.le_of_ble_eq_true rfl) ?_
  intro p e s m below meth co C hret
  show dp_G _ _ _ _ _ _ _ _ _ _ _ _ _ _ _ _ _ [some (.ref (eAd E 8 0)), some (.int (dp_I x)), some (.int (dp_I k)), none, none] _
  have hm2 := hm
  obtain ⟨hN, h10, hv, hT⟩ := hm
  have hn : 0 ≤ V 0 3 ∧ V 0 3 ≤ 10 := by omega
  unfold dp_R at hx hk
  refine dp_aload_n C dX7_target_0 rfl ?_
  refine dp_iload_n C dX7_target_1 rfl ?_
  refine dp_cVi C (c_X7_isTarget C.2.2.1 l hn ⟨by omega, by omega⟩) gX7_target_X7_isTarget rfl (dp_mM (by decide)) dp_xmo rfl yyX7_isTarget rfl ⟨Nat.le_of_ble_eq_true rfl, Nat.le_of_ble_eq_true rfl⟩ rfl (Nat.le_of_ble_eq_true rfl) rfl ⟨Nat.zero_le _, Nat.zero_le _⟩ dX7_target_2 (fun x2 M2 h2 => ?_)
  obtain ⟨rfl, rfl⟩ := h2
  refine dp_ifz_eq (tgt := 18) C dX7_target_5 (by decide) (fun c5 => ?_) (fun c5 => ?_)
  · skip
    refine dp_ldc C (-100001) (List.mem_of_getElem? (i := 1) rfl) rfl dX7_target_18 ?_
    refine dp_iret C hret dX7_target_20 ?_
    first | exact ⟨by rw [if_neg (by omega)], rfl⟩ | exact ⟨by rw [if_pos (by omega), Int.toNat_natCast, tg_no (by omega)], rfl⟩
  · skip
    obtain ⟨t, rfl, ht⟩ : ∃ t : Nat, x = (t : Int) ∧ t < N := ⟨x.toNat, by omega, by omega⟩
    have ht10 : t < 10 := by omega
    have hst := hT t ht
    unfold ivT at hst
    refine dp_iload_n C dX7_target_8 rfl ?_
    refine dp_iconst C dX7_target_9 ?_
    refine dp_bipush C dX7_target_10 (by decide) ?_
    refine dp_cSi C (c_X7_in C.2.2.1 l ⟨by omega, by omega⟩ ⟨by omega, by omega⟩ ⟨by omega, by omega⟩) gX7_target_X7_in rfl yyX7_in rfl ⟨Nat.le_of_ble_eq_true rfl, Nat.le_of_ble_eq_true rfl⟩ rfl (Nat.le_of_ble_eq_true rfl) rfl ⟨Nat.zero_le _, Nat.zero_le _⟩ dX7_target_12 (fun x12 M12 h12 => ?_)
    obtain ⟨rfl, rfl⟩ := h12
    refine dp_ifz_ne (tgt := 21) C dX7_target_15 (by decide) (fun c15 => ?_) (fun c15 => ?_)
    · skip
      obtain ⟨j, rfl, hj⟩ : ∃ j : Nat, k = (j : Int) ∧ j < 13 := ⟨k.toNat, by omega, by omega⟩
      refine dp_aload_n C dX7_target_21 rfl ?_
      refine dp_iload_n C dX7_target_22 rfl ?_
      refine dp_bipush C dX7_target_23 (by decide) ?_
      refine dp_cVi C (c_X7_of C.2.2.1 l (t := t) (k := 6) ht10 (by omega)) gX7_target_X7_of rfl (dp_mM (by decide)) dp_xmo rfl yyX7_of rfl ⟨Nat.le_of_ble_eq_true rfl, Nat.le_of_ble_eq_true rfl⟩ rfl (Nat.le_of_ble_eq_true rfl) rfl ⟨Nat.zero_le _, Nat.zero_le _⟩ dX7_target_25 (fun x25 M25 h25 => ?_)
      obtain ⟨rfl, rfl⟩ := h25
      refine dp_istore_n C dX7_target_28 (Nat.le_of_ble_eq_true rfl) ?_
      dsimp only [List.set]
      refine dp_iload_n C dX7_target_29 rfl ?_
      refine dp_bipush C dX7_target_30 (by decide) ?_
      refine dp_icmp_lt (tgt := 57) C dX7_target_32 (by decide) ⟨by omega, by omega⟩ ⟨by omega, by omega⟩ (fun c32 => ?_) (fun c32 => ?_)
      · skip
        refine dp_iconst C dX7_target_57 ?_
        refine dp_goto (tgt := 62) C dX7_target_58 (by decide) ?_
        refine dp_istore C dX7_target_62 (Nat.le_of_ble_eq_true rfl) ?_
        dsimp only [List.set]
        refine dp_iload C dX7_target_64 rfl ?_
        refine dp_if_eq (tgt := 78) C dX7_target_66 (by decide) ⟨by omega, by omega⟩ (fun c66 => ?_) (fun c66 => ?_)
        · skip
          refine dp_ldc C (-100004) (List.mem_of_getElem? (i := 2) rfl) rfl dX7_target_78 ?_
          refine dp_iret C hret dX7_target_80 ?_
          refine ⟨?_, rfl⟩
          rw [if_pos (by omega), Int.toNat_natCast]
          first | exact (tg_ye (by omega) (by omega)).symm | exact (tg_nf (by omega) (by omega)).symm
        · skip
          refine dp_aload_n C dX7_target_69 rfl ?_
          refine dp_iload_n C dX7_target_70 rfl ?_
          refine dp_iload_n C dX7_target_71 rfl ?_
          refine dp_cVi C (c_X7_of C.2.2.1 l (t := t) (k := j) ht10 (by omega)) gX7_target_X7_of rfl (dp_mM (by decide)) dp_xmo rfl yyX7_of rfl ⟨Nat.le_of_ble_eq_true rfl, Nat.le_of_ble_eq_true rfl⟩ rfl (Nat.le_of_ble_eq_true rfl) rfl ⟨Nat.zero_le _, Nat.zero_le _⟩ dX7_target_72 (fun x72 M72 h72 => ?_)
          obtain ⟨rfl, rfl⟩ := h72
          refine dp_goto (tgt := 80) C dX7_target_75 (by decide) ?_
          refine dp_iret C hret dX7_target_80 ?_
          refine ⟨?_, rfl⟩
          rw [if_pos (by omega), Int.toNat_natCast]
          first | exact (tg_ye (by omega) (by omega)).symm | exact (tg_nf (by omega) (by omega)).symm
      · skip
        refine dp_iload_n C dX7_target_35 rfl ?_
        refine dp_bipush C dX7_target_36 (by decide) ?_
        refine dp_icmp_eq (tgt := 57) C dX7_target_38 (by decide) ⟨by omega, by omega⟩ ⟨by omega, by omega⟩ (fun c38 => ?_) (fun c38 => ?_)
        · skip
          refine dp_iconst C dX7_target_57 ?_
          refine dp_goto (tgt := 62) C dX7_target_58 (by decide) ?_
          refine dp_istore C dX7_target_62 (Nat.le_of_ble_eq_true rfl) ?_
          dsimp only [List.set]
          refine dp_iload C dX7_target_64 rfl ?_
          refine dp_if_eq (tgt := 78) C dX7_target_66 (by decide) ⟨by omega, by omega⟩ (fun c66 => ?_) (fun c66 => ?_)
          · skip
            refine dp_ldc C (-100004) (List.mem_of_getElem? (i := 2) rfl) rfl dX7_target_78 ?_
            refine dp_iret C hret dX7_target_80 ?_
            refine ⟨?_, rfl⟩
            rw [if_pos (by omega), Int.toNat_natCast]
            first | exact (tg_ye (by omega) (by omega)).symm | exact (tg_nf (by omega) (by omega)).symm
          · skip
            refine dp_aload_n C dX7_target_69 rfl ?_
            refine dp_iload_n C dX7_target_70 rfl ?_
            refine dp_iload_n C dX7_target_71 rfl ?_
            refine dp_cVi C (c_X7_of C.2.2.1 l (t := t) (k := j) ht10 (by omega)) gX7_target_X7_of rfl (dp_mM (by decide)) dp_xmo rfl yyX7_of rfl ⟨Nat.le_of_ble_eq_true rfl, Nat.le_of_ble_eq_true rfl⟩ rfl (Nat.le_of_ble_eq_true rfl) rfl ⟨Nat.zero_le _, Nat.zero_le _⟩ dX7_target_72 (fun x72 M72 h72 => ?_)
            obtain ⟨rfl, rfl⟩ := h72
            refine dp_goto (tgt := 80) C dX7_target_75 (by decide) ?_
            refine dp_iret C hret dX7_target_80 ?_
            refine ⟨?_, rfl⟩
            rw [if_pos (by omega), Int.toNat_natCast]
            first | exact (tg_ye (by omega) (by omega)).symm | exact (tg_nf (by omega) (by omega)).symm
        · skip
          refine dp_iload_n C dX7_target_41 rfl ?_
          refine dp_iconst C dX7_target_42 ?_
          refine dp_icmp_eq (tgt := 57) C dX7_target_43 (by decide) ⟨by omega, by omega⟩ ⟨by omega, by omega⟩ (fun c43 => ?_) (fun c43 => ?_)
          · skip
            refine dp_iconst C dX7_target_57 ?_
            refine dp_goto (tgt := 62) C dX7_target_58 (by decide) ?_
            refine dp_istore C dX7_target_62 (Nat.le_of_ble_eq_true rfl) ?_
            dsimp only [List.set]
            refine dp_iload C dX7_target_64 rfl ?_
            refine dp_if_eq (tgt := 78) C dX7_target_66 (by decide) ⟨by omega, by omega⟩ (fun c66 => ?_) (fun c66 => ?_)
            · skip
              refine dp_ldc C (-100004) (List.mem_of_getElem? (i := 2) rfl) rfl dX7_target_78 ?_
              refine dp_iret C hret dX7_target_80 ?_
              refine ⟨?_, rfl⟩
              rw [if_pos (by omega), Int.toNat_natCast]
              first | exact (tg_ye (by omega) (by omega)).symm | exact (tg_nf (by omega) (by omega)).symm
            · skip
              refine dp_aload_n C dX7_target_69 rfl ?_
              refine dp_iload_n C dX7_target_70 rfl ?_
              refine dp_iload_n C dX7_target_71 rfl ?_
              refine dp_cVi C (c_X7_of C.2.2.1 l (t := t) (k := j) ht10 (by omega)) gX7_target_X7_of rfl (dp_mM (by decide)) dp_xmo rfl yyX7_of rfl ⟨Nat.le_of_ble_eq_true rfl, Nat.le_of_ble_eq_true rfl⟩ rfl (Nat.le_of_ble_eq_true rfl) rfl ⟨Nat.zero_le _, Nat.zero_le _⟩ dX7_target_72 (fun x72 M72 h72 => ?_)
              obtain ⟨rfl, rfl⟩ := h72
              refine dp_goto (tgt := 80) C dX7_target_75 (by decide) ?_
              refine dp_iret C hret dX7_target_80 ?_
              refine ⟨?_, rfl⟩
              rw [if_pos (by omega), Int.toNat_natCast]
              first | exact (tg_ye (by omega) (by omega)).symm | exact (tg_nf (by omega) (by omega)).symm
          · skip
            refine dp_iload_n C dX7_target_46 rfl ?_
            refine dp_iconst C dX7_target_47 ?_
            refine dp_icmp_ne (tgt := 61) C dX7_target_48 (by decide) ⟨by omega, by omega⟩ ⟨by omega, by omega⟩ (fun c48 => ?_) (fun c48 => ?_)
            · skip
              refine dp_iconst C dX7_target_61 ?_
              refine dp_istore C dX7_target_62 (Nat.le_of_ble_eq_true rfl) ?_
              dsimp only [List.set]
              refine dp_iload C dX7_target_64 rfl ?_
              refine dp_if_eq (tgt := 78) C dX7_target_66 (by decide) ⟨by omega, by omega⟩ (fun c66 => ?_) (fun c66 => ?_)
              · skip
                refine dp_ldc C (-100004) (List.mem_of_getElem? (i := 2) rfl) rfl dX7_target_78 ?_
                refine dp_iret C hret dX7_target_80 ?_
                refine ⟨?_, rfl⟩
                rw [if_pos (by omega), Int.toNat_natCast]
                first | exact (tg_ye (by omega) (by omega)).symm | exact (tg_nf (by omega) (by omega)).symm
              · skip
                refine dp_aload_n C dX7_target_69 rfl ?_
                refine dp_iload_n C dX7_target_70 rfl ?_
                refine dp_iload_n C dX7_target_71 rfl ?_
                refine dp_cVi C (c_X7_of C.2.2.1 l (t := t) (k := j) ht10 (by omega)) gX7_target_X7_of rfl (dp_mM (by decide)) dp_xmo rfl yyX7_of rfl ⟨Nat.le_of_ble_eq_true rfl, Nat.le_of_ble_eq_true rfl⟩ rfl (Nat.le_of_ble_eq_true rfl) rfl ⟨Nat.zero_le _, Nat.zero_le _⟩ dX7_target_72 (fun x72 M72 h72 => ?_)
                obtain ⟨rfl, rfl⟩ := h72
                refine dp_goto (tgt := 80) C dX7_target_75 (by decide) ?_
                refine dp_iret C hret dX7_target_80 ?_
                refine ⟨?_, rfl⟩
                rw [if_pos (by omega), Int.toNat_natCast]
                first | exact (tg_ye (by omega) (by omega)).symm | exact (tg_nf (by omega) (by omega)).symm
            · skip
              refine dp_iload_n C dX7_target_51 rfl ?_
              refine dp_bipush C dX7_target_52 (by decide) ?_
              refine dp_icmp_eq (tgt := 61) C dX7_target_54 (by decide) ⟨by omega, by omega⟩ ⟨by omega, by omega⟩ (fun c54 => ?_) (fun c54 => ?_)
              · skip
                refine dp_iconst C dX7_target_61 ?_
                refine dp_istore C dX7_target_62 (Nat.le_of_ble_eq_true rfl) ?_
                dsimp only [List.set]
                refine dp_iload C dX7_target_64 rfl ?_
                refine dp_if_eq (tgt := 78) C dX7_target_66 (by decide) ⟨by omega, by omega⟩ (fun c66 => ?_) (fun c66 => ?_)
                · skip
                  refine dp_ldc C (-100004) (List.mem_of_getElem? (i := 2) rfl) rfl dX7_target_78 ?_
                  refine dp_iret C hret dX7_target_80 ?_
                  refine ⟨?_, rfl⟩
                  rw [if_pos (by omega), Int.toNat_natCast]
                  first | exact (tg_ye (by omega) (by omega)).symm | exact (tg_nf (by omega) (by omega)).symm
                · skip
                  refine dp_aload_n C dX7_target_69 rfl ?_
                  refine dp_iload_n C dX7_target_70 rfl ?_
                  refine dp_iload_n C dX7_target_71 rfl ?_
                  refine dp_cVi C (c_X7_of C.2.2.1 l (t := t) (k := j) ht10 (by omega)) gX7_target_X7_of rfl (dp_mM (by decide)) dp_xmo rfl yyX7_of rfl ⟨Nat.le_of_ble_eq_true rfl, Nat.le_of_ble_eq_true rfl⟩ rfl (Nat.le_of_ble_eq_true rfl) rfl ⟨Nat.zero_le _, Nat.zero_le _⟩ dX7_target_72 (fun x72 M72 h72 => ?_)
                  obtain ⟨rfl, rfl⟩ := h72
                  refine dp_goto (tgt := 80) C dX7_target_75 (by decide) ?_
                  refine dp_iret C hret dX7_target_80 ?_
                  refine ⟨?_, rfl⟩
                  rw [if_pos (by omega), Int.toNat_natCast]
                  first | exact (tg_ye (by omega) (by omega)).symm | exact (tg_nf (by omega) (by omega)).symm
              · skip
                refine dp_iconst C dX7_target_57 ?_
                refine dp_goto (tgt := 62) C dX7_target_58 (by decide) ?_
                refine dp_istore C dX7_target_62 (Nat.le_of_ble_eq_true rfl) ?_
                dsimp only [List.set]
                refine dp_iload C dX7_target_64 rfl ?_
                refine dp_if_eq (tgt := 78) C dX7_target_66 (by decide) ⟨by omega, by omega⟩ (fun c66 => ?_) (fun c66 => ?_)
                · skip
                  refine dp_ldc C (-100004) (List.mem_of_getElem? (i := 2) rfl) rfl dX7_target_78 ?_
                  refine dp_iret C hret dX7_target_80 ?_
                  refine ⟨?_, rfl⟩
                  rw [if_pos (by omega), Int.toNat_natCast]
                  first | exact (tg_ye (by omega) (by omega)).symm | exact (tg_nf (by omega) (by omega)).symm
                · skip
                  refine dp_aload_n C dX7_target_69 rfl ?_
                  refine dp_iload_n C dX7_target_70 rfl ?_
                  refine dp_iload_n C dX7_target_71 rfl ?_
                  refine dp_cVi C (c_X7_of C.2.2.1 l (t := t) (k := j) ht10 (by omega)) gX7_target_X7_of rfl (dp_mM (by decide)) dp_xmo rfl yyX7_of rfl ⟨Nat.le_of_ble_eq_true rfl, Nat.le_of_ble_eq_true rfl⟩ rfl (Nat.le_of_ble_eq_true rfl) rfl ⟨Nat.zero_le _, Nat.zero_le _⟩ dX7_target_72 (fun x72 M72 h72 => ?_)
                  obtain ⟨rfl, rfl⟩ := h72
                  refine dp_goto (tgt := 80) C dX7_target_75 (by decide) ?_
                  refine dp_iret C hret dX7_target_80 ?_
                  refine ⟨?_, rfl⟩
                  rw [if_pos (by omega), Int.toNat_natCast]
                  first | exact (tg_ye (by omega) (by omega)).symm | exact (tg_nf (by omega) (by omega)).symm
    · skip
      refine dp_ldc C (-100001) (List.mem_of_getElem? (i := 1) rfl) rfl dX7_target_18 ?_
      refine dp_iret C hret dX7_target_20 ?_
      first | exact ⟨by rw [if_neg (by omega)], rfl⟩ | exact ⟨by rw [if_pos (by omega), Int.toNat_natCast, tg_no (by omega)], rfl⟩
theorem yyX7_type : yX7_type.cls = RX7 ∧ yX7_type.cls ≠ "java/lang/invoke/MethodHandle" ∧ yX7_type.cls ≠ "java/lang/invoke/VarHandle" ∧ (parseMethodDescriptor yX7_type.desc).map (fun d => d.parameters.length) = some 1 := by decide +kernel
set_option maxHeartbeats 4000000 in
set_option maxRecDepth 100000 in
theorem c_X7_type {E : dp_E} (hE : dp_OK E) (l : Launch) {M : dp_M} {V X : dp_V} {k : Int} (ht : 0 ≤ X 0 1 ∧ X 0 1 ≤ 100) (hk : dp_R k) : dp_met E l yX7_type wsX7_type 1 22 [.ref (eAd E 8 0), .int (dp_I k)] (dN M V X) (dp_qi E (fun y M1 => y = (if 32 ≤ k ∧ k ≤ 126 then (if X 0 1 < 100 then X 0 1 + 1 else -100003) else -100001) ∧ M1 = (if (32 ≤ k ∧ k ≤ 126) ∧ X 0 1 < 100 then dN M V (u2 (u2 X 4 (X 0 1).toNat k) 0 1 (X 0 1 + 1)) else dN M V X))) := by
  refine dp_of (cc := cX7_type) (nL := 2) (own := RX7) (ret := some (.int)) (by decide +kernel) rfl rfl hE (by simp [Value.category]) (Nat.le_of_ble_eq_true rfl) ?_
  intro p e s m below meth co C hret
  show dp_G _ _ _ _ _ _ _ _ _ _ _ _ _ _ _ _ _ [some (.ref (eAd E 8 0)), some (.int (dp_I k))] _
  have hX7 : ∀ w ∈ u_ws RX7 TX7 12, w ∈ wsX7_type := fun w h => List.mem_cons_of_mem _ (List.mem_append_right _ (h))
  unfold dp_R at hk
  refine dp_iload_n C dX7_type_0 rfl ?_
  refine dp_bipush C dX7_type_1 (by decide) ?_
  refine dp_bipush C dX7_type_3 (by decide) ?_
  refine dp_cSi C (c_X7_in C.2.2.1 l ⟨by omega, by omega⟩ ⟨by omega, by omega⟩ ⟨by omega, by omega⟩) gX7_type_X7_in rfl yyX7_in rfl ⟨Nat.le_of_ble_eq_true rfl, Nat.le_of_ble_eq_true rfl⟩ rfl (Nat.le_of_ble_eq_true rfl) rfl ⟨Nat.zero_le _, Nat.zero_le _⟩ dX7_type_5 (fun x5 M5 h5 => ?_)
  obtain ⟨rfl, rfl⟩ := h5
  refine dp_ifz_ne (tgt := 14) C dX7_type_8 (by decide) (fun c8 => ?_) (fun c8 => ?_)
  · skip
    refine dp_aload_n C dX7_type_14 rfl ?_
    refine dp_getf C (k := 5) (dp_mM (by decide)) dp_xmo rfl hX7 (by decide) (List.mem_of_getElem? (i := 2) rfl) rfl dX7_type_15 ?_
    refine dp_bipush C dX7_type_18 (by decide) ?_
    refine dp_icmp_ne (tgt := 26) C dX7_type_20 (by decide) ⟨by omega, by omega⟩ ⟨by omega, by omega⟩ (fun c20 => ?_) (fun c20 => ?_)
    · skip
      refine dp_aload_n C dX7_type_26 rfl ?_
      refine dp_getf C (k := 4) (dp_mM (by decide)) dp_xmo rfl hX7 (by decide) (List.mem_of_getElem? (i := 4) rfl) rfl dX7_type_27 ?_
      refine dp_aload_n C dX7_type_30 rfl ?_
      refine dp_getf C (k := 5) (dp_mM (by decide)) dp_xmo rfl hX7 (by decide) (List.mem_of_getElem? (i := 2) rfl) rfl dX7_type_31 ?_
      refine dp_iload_n C dX7_type_34 rfl ?_
      refine dp_ast_mt C (j := (X 0 1).toNat) ⟨by omega, by omega⟩ rfl dX7_type_35 ?_
      refine dp_aload_n C dX7_type_36 rfl ?_
      refine dp_dup C dX7_type_37 rfl ?_
      refine dp_getf C (k := 5) (dp_mM (by decide)) dp_xmo rfl hX7 (by decide) (List.mem_of_getElem? (i := 2) rfl) rfl dX7_type_38 ?_
      rw [u2_ne (show 0 ≠ 4 by decide)]
      refine dp_iconst C dX7_type_41 ?_
      refine dp_iadd C dX7_type_42 ?_
      refine dp_putM C  (k := 1) hX7 (by decide) (List.mem_of_getElem? (i := 2) rfl) rfl (tyX7_ok _ (by decide)) rfl rfl dX7_type_43 ?_
      refine dp_aload_n C dX7_type_46 rfl ?_
      refine dp_getf C (k := 5) (dp_mM (by decide)) dp_xmo rfl hX7 (by decide) (List.mem_of_getElem? (i := 2) rfl) rfl dX7_type_47 ?_
      rw [u2_same, u1_same]
      refine dp_iret C hret dX7_type_50 ?_
      first | exact ⟨by rw [if_pos (by assumption), if_pos (by omega)], by rw [if_pos ⟨by assumption, by omega⟩]⟩ | exact ⟨by rw [if_pos (by assumption), if_neg (by omega)], by rw [if_neg (fun q => absurd q.2 (by omega))]⟩ | exact ⟨by rw [if_neg (by assumption)], by rw [if_neg (fun q => absurd q.1 (by assumption))]⟩
    · skip
      refine dp_ldc C (-100003) (List.mem_of_getElem? (i := 3) rfl) rfl dX7_type_23 ?_
      refine dp_iret C hret dX7_type_25 ?_
      first | exact ⟨by rw [if_pos (by assumption), if_pos (by omega)], by rw [if_pos ⟨by assumption, by omega⟩]⟩ | exact ⟨by rw [if_pos (by assumption), if_neg (by omega)], by rw [if_neg (fun q => absurd q.2 (by omega))]⟩ | exact ⟨by rw [if_neg (by assumption)], by rw [if_neg (fun q => absurd q.1 (by assumption))]⟩
  · skip
    refine dp_ldc C (-100001) (List.mem_of_getElem? (i := 1) rfl) rfl dX7_type_11 ?_
    refine dp_iret C hret dX7_type_13 ?_
    first | exact ⟨by rw [if_pos (by assumption), if_pos (by omega)], by rw [if_pos ⟨by assumption, by omega⟩]⟩ | exact ⟨by rw [if_pos (by assumption), if_neg (by omega)], by rw [if_neg (fun q => absurd q.2 (by omega))]⟩ | exact ⟨by rw [if_neg (by assumption)], by rw [if_neg (fun q => absurd q.1 (by assumption))]⟩
theorem yyX7_clearText : yX7_clearText.cls = RX7 ∧ yX7_clearText.cls ≠ "java/lang/invoke/MethodHandle" ∧ yX7_clearText.cls ≠ "java/lang/invoke/VarHandle" ∧ (parseMethodDescriptor yX7_clearText.desc).map (fun d => d.parameters.length) = some 0 := by decide +kernel
set_option maxHeartbeats 4000000 in
set_option maxRecDepth 100000 in
theorem c_X7_clearText {E : dp_E} (hE : dp_OK E) (l : Launch) {M : dp_M} {V X : dp_V} : dp_met E l yX7_clearText wsX7_clearText 0 0 [.ref (eAd E 8 0)] (dN M V X) (dp_qi E (fun y M1 => y = X 0 1 ∧ M1 = dN M V (u2 X 0 1 0))) := by
  refine dp_of (cc := cX7_clearText) (nL := 2) (own := RX7) (ret := some (.int)) (by decide +kernel) rfl rfl hE (by simp [Value.category]) (Nat.le_of_ble_eq_true rfl) ?_
  intro p e s m below meth co C hret
  show dp_G _ _ _ _ _ _ _ _ _ _ _ _ _ _ _ _ _ [some (.ref (eAd E 8 0)), none] _
  have hX7 : ∀ w ∈ u_ws RX7 TX7 12, w ∈ wsX7_clearText := fun w h => List.mem_cons_of_mem _ (List.mem_append_right _ (h))
  refine dp_aload_n C dX7_clearText_0 rfl ?_
  refine dp_getf C (k := 5) (dp_mM (by decide)) dp_xmo rfl hX7 (by decide) (List.mem_of_getElem? (i := 1) rfl) rfl dX7_clearText_1 ?_
  refine dp_istore_n C dX7_clearText_4 (Nat.le_of_ble_eq_true rfl) ?_
  dsimp only [List.set]
  refine dp_aload_n C dX7_clearText_5 rfl ?_
  refine dp_iconst C dX7_clearText_6 ?_
  refine dp_putM C  (k := 1) hX7 (by decide) (List.mem_of_getElem? (i := 1) rfl) rfl (tyX7_ok _ (by decide)) rfl rfl dX7_clearText_7 ?_
  refine dp_iload_n C dX7_clearText_10 rfl ?_
  refine dp_iret C hret dX7_clearText_11 ?_
  exact ⟨rfl, rfl⟩
