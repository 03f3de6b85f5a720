/-- the first k numbers of a row nothing -/
def zf (f : Nat → Int) (k : Nat) : Nat → Int := fun i => if i < k then 0 else f i
theorem zf_0 {f : Nat → Int} : zf f 0 = f := by
  funext i
  unfold zf
  rw [if_neg (by omega)]
theorem zf_s {V : dp_V} {c k : Nat} {f : Nat → Int} : u2 (uc V c (zf f k)) c k 0 = uc V c (zf f (k + 1)) := by
  rw [u2_uc, uc_uc, uc_same]
  congr 1
  funext i
  unfold u1 zf
  by_cases h : i = k
  · rw [if_pos h, if_pos (by omega)]
  · rw [if_neg h]
    by_cases h2 : i < k
    · rw [if_pos h2, if_pos (by omega)]
    · rw [if_neg h2, if_neg (by omega)]
theorem uc_id {V : dp_V} {c : Nat} : uc V c (V c) = V := by
  funext c'
  unfold uc
  split
  · rename_i h; rw [h]
  · rfl
/-- a target more -/
def adV (V : dp_V) (n : Nat) (a0 a1 a2 a3 a4 a5 : Int) : dp_V := u2 (u2 (u2 (u2 (u2 (u2 (u2 (uc V (n + 6) (zf (V (n + 6)) 14)) (n + 6) 0 a0) (n + 6) 1 a1) (n + 6) 2 a2) (n + 6) 3 a3) (n + 6) 4 a4) (n + 6) 5 a5) 0 3 (V 0 3 + 1)
/-- a target less -/
def rmM (V : dp_V) (N t0 : Nat) : dp_V := fun c k => if t0 + 6 ≤ c ∧ c < N + 5 then V (c + 1) k else u2 V 0 3 ((N : Int) - 1) c k
theorem dp_ce_hi {i : Nat} (h : 53 ≤ i) : dp_ce i = (i - 53) / 14 + 6 := by
  unfold dp_ce
  rw [if_neg (by omega), if_neg (by omega), if_neg (by omega), if_neg (by omega), if_neg (by omega)]
theorem dp_sl_hi {i : Nat} (h : 53 ≤ i) : dp_sl i = (i - 53) % 14 := by
  unfold dp_sl
  rw [if_neg (by omega), if_neg (by omega), if_neg (by omega), if_neg (by omega), if_neg (by omega)]
theorem dp_ce_lo {i : Nat} (h : i < 53) : dp_ce i ≤ 4 := by
  unfold dp_ce
  repeat' split
  all_goals omega
theorem fl_rm {V V' : dp_V} {N t0 : Nat} (ht : t0 < N) (hh : ∀ i, i < 193 → dp_fl V' i = (if 53 + 14 * t0 ≤ i ∧ i < 53 + 14 * (N - 1) then dp_fl V (i + 14) else dp_fl (u2 V 0 3 ((N : Int) - 1)) i)) : ∀ i, i < 193 → dp_fl V' i = dp_fl (rmM V N t0) i := by
  intro i hi
  rw [hh i hi]
  unfold rmM
  by_cases e : 53 + 14 * t0 ≤ i ∧ i < 53 + 14 * (N - 1)
  · rw [if_pos e]
    show V (dp_ce (i + 14)) (dp_sl (i + 14)) = if t0 + 6 ≤ dp_ce i ∧ dp_ce i < N + 5 then V (dp_ce i + 1) (dp_sl i) else _
    rw [dp_ce_hi (show 53 ≤ i by omega), if_pos (by omega), dp_ce_hi (by omega), dp_sl_hi (by omega), dp_sl_hi (show 53 ≤ i by omega), show (i + 14 - 53) / 14 + 6 = (i - 53) / 14 + 6 + 1 by omega, show (i + 14 - 53) % 14 = (i - 53) % 14 by omega]
  · rw [if_neg e]
    show _ = if t0 + 6 ≤ dp_ce i ∧ dp_ce i < N + 5 then V (dp_ce i + 1) (dp_sl i) else _
    by_cases h : i < 53
    · have := dp_ce_lo h
      rw [if_neg (by omega)]
      rfl
    · have q := dp_ce_hi (show 53 ≤ i by omega)
      rw [if_neg (by omega)]
      rfl
theorem yyX7_adds : yX7_adds.cls = RX7 ∧ yX7_adds.cls ≠ "java/lang/invoke/MethodHandle" ∧ yX7_adds.cls ≠ "java/lang/invoke/VarHandle" ∧ (parseMethodDescriptor yX7_adds.desc).map (fun d => d.parameters.length) = some 6 := by decide +kernel
set_option maxHeartbeats 4000000 in
set_option maxRecDepth 100000 in
theorem c_X7_adds {E : dp_E} (hE : dp_OK E) (l : Launch) {M : dp_M} {V X : dp_V} {N : Nat} (hN : V 0 3 = N) (h10 : N < 10) {a0 a1 a2 a3 a4 a5 : Int} : dp_met E l yX7_adds wsX7_adds 1 23 [.ref (eAd E 8 0), .int (dp_I a0), .int (dp_I a1), .int (dp_I a2), .int (dp_I a3), .int (dp_I a4), .int (dp_I a5)] (dN M V X) (dp_qv E (fun M1 => M1 = dN M (adV V N a0 a1 a2 a3 a4 a5) X)) := by
  refine dp_of (cc := cX7_adds) (nL := 9) (own := RX7) (ret := none) (by decide +kernel) rfl rfl hE (by simp [Value.category]) (Nat.le_of_ble_eq_true rfl) ?_
  intro p e s m below meth co C hret
  show dp_G _ _ _ _ _ _ _ _ _ _ _ _ _ _ _ _ _ [some (.ref (eAd E 8 0)), some (.int (dp_I a0)), some (.int (dp_I a1)), some (.int (dp_I a2)), some (.int (dp_I a3)), some (.int (dp_I a4)), some (.int (dp_I a5)), none, none] _
  have hX7 : ∀ w ∈ u_ws RX7 TX7 12, w ∈ wsX7_adds := fun w h => List.mem_cons_of_mem _ (List.mem_append_right _ (h))
  have J12 : ∀ (n k : Nat) (ki : Int), k + n = 14 → ki = k → dp_G E (dp_A E) p l e (dp_rm 1 23) s m [.ref (eAd E 8 0), .int (dp_I a0), .int (dp_I a1), .int (dp_I a2), .int (dp_I a3), .int (dp_I a4), .int (dp_I a5)].toArray below meth co 0 0 (MQ below (dp_qv E (fun M1 => M1 = dN M (adV V N a0 a1 a2 a3 a4 a5) X)) [.ref (eAd E 8 0), .int (dp_I a0), .int (dp_I a1), .int (dp_I a2), .int (dp_I a3), .int (dp_I a4), .int (dp_I a5)].toArray s 0 0 (dp_A E)) (dN M (uc V (N + 6) (zf (V (N + 6)) k)) X) 12 [some (.ref (eAd E 8 0)), some (.int (dp_I a0)), some (.int (dp_I a1)), some (.int (dp_I a2)), some (.int (dp_I a3)), some (.int (dp_I a4)), some (.int (dp_I a5)), some (.int (dp_I ((N : Int)))), some (.int (dp_I ki))] [] := by
    refine dp_ind (fun n ih => ?_)
    intro k ki hkn hki
    refine dp_iload C dX7_adds_12 rfl ?_
    refine dp_bipush C dX7_adds_14 (by decide) ?_
    refine dp_icmp_ge (tgt := 34) C dX7_adds_16 (by decide) ⟨by omega, by omega⟩ ⟨by omega, by omega⟩ (fun c16 => ?_) (fun c16 => ?_)
    · skip
      obtain rfl : n = 0 := by omega
      obtain rfl : k = 14 := by omega
      refine dp_aload_n C dX7_adds_34 rfl ?_
      refine dp_iload C dX7_adds_35 rfl ?_
      refine dp_iconst C dX7_adds_37 ?_
      refine dp_iload_n C dX7_adds_38 rfl ?_
      refine dp_cVv C (c_X7_puts C.2.2.1 l (t := N) (k := 0) (by omega) (by decide)) gX7_adds_X7_puts rfl (dp_mM (by decide)) dp_xmo rfl yyX7_puts rfl ⟨Nat.le_of_ble_eq_true rfl, Nat.le_of_ble_eq_true rfl⟩ rfl (Nat.le_of_ble_eq_true rfl) rfl ⟨Nat.zero_le _, Nat.zero_le _⟩ dX7_adds_39 (fun M39 h39 => ?_)
      obtain rfl := h39
      refine dp_aload_n C dX7_adds_42 rfl ?_
      refine dp_iload C dX7_adds_43 rfl ?_
      refine dp_iconst C dX7_adds_45 ?_
      refine dp_iload_n C dX7_adds_46 rfl ?_
      refine dp_cVv C (c_X7_puts C.2.2.1 l (t := N) (k := 1) (by omega) (by decide)) gX7_adds_X7_puts rfl (dp_mM (by decide)) dp_xmo rfl yyX7_puts rfl ⟨Nat.le_of_ble_eq_true rfl, Nat.le_of_ble_eq_true rfl⟩ rfl (Nat.le_of_ble_eq_true rfl) rfl ⟨Nat.zero_le _, Nat.zero_le _⟩ dX7_adds_47 (fun M47 h47 => ?_)
      obtain rfl := h47
      refine dp_aload_n C dX7_adds_50 rfl ?_
      refine dp_iload C dX7_adds_51 rfl ?_
      refine dp_iconst C dX7_adds_53 ?_
      refine dp_iload_n C dX7_adds_54 rfl ?_
      refine dp_cVv C (c_X7_puts C.2.2.1 l (t := N) (k := 2) (by omega) (by decide)) gX7_adds_X7_puts rfl (dp_mM (by decide)) dp_xmo rfl yyX7_puts rfl ⟨Nat.le_of_ble_eq_true rfl, Nat.le_of_ble_eq_true rfl⟩ rfl (Nat.le_of_ble_eq_true rfl) rfl ⟨Nat.zero_le _, Nat.zero_le _⟩ dX7_adds_55 (fun M55 h55 => ?_)
      obtain rfl := h55
      refine dp_aload_n C dX7_adds_58 rfl ?_
      refine dp_iload C dX7_adds_59 rfl ?_
      refine dp_iconst C dX7_adds_61 ?_
      refine dp_iload C dX7_adds_62 rfl ?_
      refine dp_cVv C (c_X7_puts C.2.2.1 l (t := N) (k := 3) (by omega) (by decide)) gX7_adds_X7_puts rfl (dp_mM (by decide)) dp_xmo rfl yyX7_puts rfl ⟨Nat.le_of_ble_eq_true rfl, Nat.le_of_ble_eq_true rfl⟩ rfl (Nat.le_of_ble_eq_true rfl) rfl ⟨Nat.zero_le _, Nat.zero_le _⟩ dX7_adds_64 (fun M64 h64 => ?_)
      obtain rfl := h64
      refine dp_aload_n C dX7_adds_67 rfl ?_
      refine dp_iload C dX7_adds_68 rfl ?_
      refine dp_iconst C dX7_adds_70 ?_
      refine dp_iload C dX7_adds_71 rfl ?_
      refine dp_cVv C (c_X7_puts C.2.2.1 l (t := N) (k := 4) (by omega) (by decide)) gX7_adds_X7_puts rfl (dp_mM (by decide)) dp_xmo rfl yyX7_puts rfl ⟨Nat.le_of_ble_eq_true rfl, Nat.le_of_ble_eq_true rfl⟩ rfl (Nat.le_of_ble_eq_true rfl) rfl ⟨Nat.zero_le _, Nat.zero_le _⟩ dX7_adds_73 (fun M73 h73 => ?_)
      obtain rfl := h73
      refine dp_aload_n C dX7_adds_76 rfl ?_
      refine dp_iload C dX7_adds_77 rfl ?_
      refine dp_iconst C dX7_adds_79 ?_
      refine dp_iload C dX7_adds_80 rfl ?_
      refine dp_cVv C (c_X7_puts C.2.2.1 l (t := N) (k := 5) (by omega) (by decide)) gX7_adds_X7_puts rfl (dp_mM (by decide)) dp_xmo rfl yyX7_puts rfl ⟨Nat.le_of_ble_eq_true rfl, Nat.le_of_ble_eq_true rfl⟩ rfl (Nat.le_of_ble_eq_true rfl) rfl ⟨Nat.zero_le _, Nat.zero_le _⟩ dX7_adds_82 (fun M82 h82 => ?_)
      obtain rfl := h82
      refine dp_aload_n C dX7_adds_85 rfl ?_
      refine dp_getf C (k := 0) (dp_mM (by decide)) dp_xmo rfl hX7 (by decide) (List.mem_of_getElem? (i := 1) rfl) rfl dX7_adds_86 ?_
      refine dp_bipush C dX7_adds_89 (by decide) ?_
      refine dp_dup2 C dX7_adds_91 rfl rfl ?_
      refine dp_ald_ms C (j := 7) ⟨by omega, by omega⟩ rfl (c9 := 0) (k9 := 3) rfl rfl dX7_adds_92 ?_
      refine dp_iconst C dX7_adds_93 ?_
      refine dp_iadd C dX7_adds_94 ?_
      refine dp_ast_ms C (j := 7) ⟨by omega, by omega⟩ rfl (c9 := 0) (k9 := 3) rfl rfl dX7_adds_95 ?_
      refine dp_vret C hret dX7_adds_96 ?_
      refine congrArg (fun q => dN M q X) ?_
      unfold adV
      simp only [u2_ne (show 0 ≠ N + 6 by omega), uc_ne (show 0 ≠ N + 6 by omega)]
    · skip
      obtain ⟨n, rfl⟩ : ∃ n', n = n' + 1 := ⟨n - 1, by omega⟩
      obtain rfl := hki
      refine dp_aload_n C dX7_adds_19 rfl ?_
      refine dp_iload C dX7_adds_20 rfl ?_
      refine dp_iload C dX7_adds_22 rfl ?_
      refine dp_iconst C dX7_adds_24 ?_
      refine dp_cVv C (c_X7_puts C.2.2.1 l (t := N) (k := k) (by omega) (by omega)) gX7_adds_X7_puts rfl (dp_mM (by decide)) dp_xmo rfl yyX7_puts rfl ⟨Nat.le_of_ble_eq_true rfl, Nat.le_of_ble_eq_true rfl⟩ rfl (Nat.le_of_ble_eq_true rfl) rfl ⟨Nat.zero_le _, Nat.zero_le _⟩ dX7_adds_25 (fun M25 h25 => ?_)
      obtain rfl := h25
      rw [zf_s]
      refine dp_iinc C dX7_adds_28 rfl ?_
      dsimp only [List.set]
      refine dp_goto (tgt := 12) C dX7_adds_31 (by decide) ?_
      exact ih n (by omega) (k + 1) _ (by omega) (by omega)
  refine dp_aload_n C dX7_adds_0 rfl ?_
  refine dp_getf C (k := 0) (dp_mM (by decide)) dp_xmo rfl hX7 (by decide) (List.mem_of_getElem? (i := 1) rfl) rfl dX7_adds_1 ?_
  refine dp_bipush C dX7_adds_4 (by decide) ?_
  refine dp_ald_ms C (j := 7) ⟨by omega, by omega⟩ rfl (c9 := 0) (k9 := 3) rfl rfl dX7_adds_6 ?_
  rw [hN]
  refine dp_istore C dX7_adds_7 (Nat.le_of_ble_eq_true rfl) ?_
  dsimp only [List.set]
  refine dp_cv (M' := dN M (uc V (N + 6) (zf (V (N + 6)) 0)) X) (fun H hW => by rw [zf_0, uc_id]; exact hW) ?_
  refine dp_iconst C dX7_adds_9 ?_
  refine dp_istore C dX7_adds_10 (Nat.le_of_ble_eq_true rfl) ?_
  dsimp only [List.set]
  exact J12 14 0 _ (by omega) rfl
theorem yyX7_add : yX7_add.cls = RX7 ∧ yX7_add.cls ≠ "java/lang/invoke/MethodHandle" ∧ yX7_add.cls ≠ "java/lang/invoke/VarHandle" ∧ (parseMethodDescriptor yX7_add.desc).map (fun d => d.parameters.length) = some 6 := by decide +kernel
set_option maxHeartbeats 4000000 in
set_option maxRecDepth 100000 in
theorem c_X7_add {E : dp_E} (hE : dp_OK E) (l : Launch) {M : dp_M} {V X : dp_V} {a0 a1 a2 a3 a4 a5 : Int} {N : Nat} (hm : ivM V N) (hs : 0 ≤ X 0 0 ∧ X 0 0 ≤ 5) (ha0 : dp_R a0) (ha1 : dp_R a1) (ha2 : dp_R a2) (ha3 : dp_R a3) (ha4 : dp_R a4) (ha5 : dp_R a5) : dp_met E l yX7_add wsX7_add 3 68 [.ref (eAd E 8 0), .int (dp_I a0), .int (dp_I a1), .int (dp_I a2), .int (dp_I a3), .int (dp_I a4), .int (dp_I a5)] (dN M V X) (dp_qi E (fun y M1 => y = (if irF a0 a1 a2 a3 a4 a5 = 0 then -100001 else if N = 10 then -100003 else (N : Int)) ∧ M1 = (if irF a0 a1 a2 a3 a4 a5 = 0 then dN M V X else if N = 10 then dN M V X else rnM M V X (adV V N a0 a1 a2 a3 a4 a5)))) := by
  refine dp_of (cc := cX7_add) (nL := 7) (own := RX7) (ret := some (.int)) (by decide +kernel) rfl rfl hE (by simp [Value.category]) (Nat.le_of_ble_eq_true rfl) ?_
  intro p e s m below meth co C hret
  show dp_G _ _ _ _ _ _ _ _ _ _ _ _ _ _ _ _ _ [some (.ref (eAd E 8 0)), some (.int (dp_I a0)), some (.int (dp_I a1)), some (.int (dp_I a2)), some (.int (dp_I a3)), some (.int (dp_I a4)), some (.int (dp_I a5))] _
  have hX7 : ∀ w ∈ u_ws RX7 TX7 12, w ∈ wsX7_add := fun w h => List.mem_cons_of_mem _ (List.mem_append_right _ (h))
  have hm2 := hm
  obtain ⟨hN, h10, hv, hT⟩ := hm
  unfold dp_R at ha0 ha1 ha2 ha3 ha4 ha5
  have hi : 0 ≤ irF a0 a1 a2 a3 a4 a5 ∧ irF a0 a1 a2 a3 a4 a5 ≤ 1 := dp_b_bd
  have e3 : adV V N a0 a1 a2 a3 a4 a5 0 3 = (N : Int) + 1 := by
    unfold adV
    rw [u2_same, u1_same, hN]
  refine dp_iload_n C dX7_add_0 rfl ?_
  refine dp_iload_n C dX7_add_1 rfl ?_
  refine dp_iload_n C dX7_add_2 rfl ?_
  refine dp_iload C dX7_add_3 rfl ?_
  refine dp_iload C dX7_add_5 rfl ?_
  refine dp_iload C dX7_add_7 rfl ?_
  refine dp_cSi C (c_X7_isGood C.2.2.1 l ⟨by omega, by omega⟩ ⟨by omega, by omega⟩ ⟨by omega, by omega⟩ ⟨by omega, by omega⟩ ⟨by omega, by omega⟩ ⟨by omega, by omega⟩) gX7_add_X7_isGood rfl yyX7_isGood rfl ⟨Nat.le_of_ble_eq_true rfl, Nat.le_of_ble_eq_true rfl⟩ rfl (Nat.le_of_ble_eq_true rfl) rfl ⟨Nat.zero_le _, Nat.zero_le _⟩ dX7_add_9 (fun x9 M9 h9 => ?_)
  obtain ⟨rfl, rfl⟩ := h9
  refine dp_if_ne (tgt := 18) C dX7_add_12 (by decide) ⟨by omega, by omega⟩ (fun c12 => ?_) (fun c12 => ?_)
  · skip
    refine dp_aload_n C dX7_add_18 rfl ?_
    refine dp_getf C (k := 0) (dp_mM (by decide)) dp_xmo rfl hX7 (by decide) (List.mem_of_getElem? (i := 2) rfl) rfl dX7_add_19 ?_
    refine dp_bipush C dX7_add_22 (by decide) ?_
    refine dp_ald_ms C (j := 7) ⟨by omega, by omega⟩ rfl (c9 := 0) (k9 := 3) rfl rfl dX7_add_24 ?_
    refine dp_bipush C dX7_add_25 (by decide) ?_
    refine dp_icmp_ne (tgt := 33) C dX7_add_27 (by decide) ⟨by omega, by omega⟩ ⟨by omega, by omega⟩ (fun c27 => ?_) (fun c27 => ?_)
    · skip
      refine dp_aload_n C dX7_add_33 rfl ?_
      refine dp_cVv C (c_X7_records C.2.2.1 l (by omega)) gX7_add_X7_records rfl (dp_mM (by decide)) dp_xmo rfl yyX7_records rfl ⟨Nat.le_of_ble_eq_true rfl, Nat.le_of_ble_eq_true rfl⟩ rfl (Nat.le_of_ble_eq_true rfl) rfl ⟨Nat.zero_le _, Nat.zero_le _⟩ dX7_add_34 (fun M34 h34 => ?_)
      obtain rfl := h34
      unfold rnM
      refine dp_aload_n C dX7_add_37 rfl ?_
      refine dp_iload_n C dX7_add_38 rfl ?_
      refine dp_iload_n C dX7_add_39 rfl ?_
      refine dp_iload_n C dX7_add_40 rfl ?_
      refine dp_iload C dX7_add_41 rfl ?_
      refine dp_iload C dX7_add_43 rfl ?_
      refine dp_iload C dX7_add_45 rfl ?_
      refine dp_cVv C (c_X7_adds C.2.2.1 l hN (by omega)) gX7_add_X7_adds rfl (dp_mM (by decide)) dp_xmo rfl yyX7_adds rfl ⟨Nat.le_of_ble_eq_true rfl, Nat.le_of_ble_eq_true rfl⟩ rfl (Nat.le_of_ble_eq_true rfl) rfl ⟨Nat.zero_le _, Nat.zero_le _⟩ dX7_add_47 (fun M47 h47 => ?_)
      obtain rfl := h47
      refine dp_aload_n C dX7_add_50 rfl ?_
      refine dp_getf C (k := 0) (dp_mM (by decide)) dp_xmo rfl hX7 (by decide) (List.mem_of_getElem? (i := 2) rfl) rfl dX7_add_51 ?_
      refine dp_bipush C dX7_add_54 (by decide) ?_
      refine dp_ald_ms C (j := 7) ⟨by omega, by omega⟩ rfl (c9 := 0) (k9 := 3) rfl rfl dX7_add_56 ?_
      rw [e3]
      refine dp_iconst C dX7_add_57 ?_
      refine dp_isub C dX7_add_58 ?_
      refine dp_iret C hret dX7_add_59 ?_
      first | exact ⟨by rw [if_pos (by assumption)], by rw [if_pos (by assumption)]⟩ | exact ⟨by rw [if_neg (by assumption), if_pos (by omega)], by rw [if_neg (by assumption), if_pos (by omega)]⟩ | exact ⟨by rw [if_neg (by assumption), if_neg (by omega)]; omega, by rw [if_neg (by assumption), if_neg (by omega)]⟩
    · skip
      refine dp_ldc C (-100003) (List.mem_of_getElem? (i := 3) rfl) rfl dX7_add_30 ?_
      refine dp_iret C hret dX7_add_32 ?_
      first | exact ⟨by rw [if_pos (by assumption)], by rw [if_pos (by assumption)]⟩ | exact ⟨by rw [if_neg (by assumption), if_pos (by omega)], by rw [if_neg (by assumption), if_pos (by omega)]⟩ | exact ⟨by rw [if_neg (by assumption), if_neg (by omega)]; omega, by rw [if_neg (by assumption), if_neg (by omega)]⟩
  · skip
    refine dp_ldc C (-100001) (List.mem_of_getElem? (i := 1) rfl) rfl dX7_add_15 ?_
    refine dp_iret C hret dX7_add_17 ?_
    first | exact ⟨by rw [if_pos (by assumption)], by rw [if_pos (by assumption)]⟩ | exact ⟨by rw [if_neg (by assumption), if_pos (by omega)], by rw [if_neg (by assumption), if_pos (by omega)]⟩ | exact ⟨by rw [if_neg (by assumption), if_neg (by omega)]; omega, by rw [if_neg (by assumption), if_neg (by omega)]⟩
theorem yyX7_drop : yX7_drop.cls = RX7 ∧ yX7_drop.cls ≠ "java/lang/invoke/MethodHandle" ∧ yX7_drop.cls ≠ "java/lang/invoke/VarHandle" ∧ (parseMethodDescriptor yX7_drop.desc).map (fun d => d.parameters.length) = some 1 := by decide +kernel
set_option maxHeartbeats 4000000 in
set_option maxRecDepth 100000 in
theorem c_X7_drop {E : dp_E} (hE : dp_OK E) (l : Launch) {M : dp_M} {V X : dp_V} {N : Nat} (hm : ivM V N) (hs : 0 ≤ X 0 0 ∧ X 0 0 ≤ 5) {x : Int} (hx : dp_R x) : dp_met E l yX7_drop wsX7_drop 1 22 [.ref (eAd E 8 0), .int (dp_I x)] (dN M V X) (dp_qi E (fun y M1 => y = (if 0 ≤ x ∧ x < N then (if V (x.toNat + 6) 6 = 1 then -100002 else (N : Int) - 1) else -100001) ∧ M1 = (if (0 ≤ x ∧ x < N) ∧ ¬ V (x.toNat + 6) 6 = 1 then rnM M V X (rmM V N x.toNat) else dN M V X))) := by
  refine dp_of (cc := cX7_drop) (nL := 3) (own := RX7) (ret := some (.int)) (by decide +kernel) rfl rfl hE (by simp [Value.category]) (Nat.le_of_ble_eq_true rfl) ?_
  intro p e s m below meth co C hret
  show dp_G _ _ _ _ _ _ _ _ _ _ _ _ _ _ _ _ _ [some (.ref (eAd E 8 0)), some (.int (dp_I x)), none] _
  have hX7 : ∀ w ∈ u_ws RX7 TX7 12, w ∈ wsX7_drop := fun w h => List.mem_cons_of_mem _ (List.mem_append_right _ (h))
  have hm2 := hm
  obtain ⟨hN, h10, hv, hT⟩ := hm
  have hn : 0 ≤ V 0 3 ∧ V 0 3 ≤ 10 := by omega
  unfold dp_R at hx
  have J48 : ∀ (n k : Nat) (ki : Int) (V' : dp_V) (t : Nat), t < N → k + n = 53 + 14 * (N - 1) → ki = k → 53 + 14 * t ≤ k → (∀ i, i < 193 → dp_fl V' i = (if 53 + 14 * t ≤ i ∧ i < k then dp_fl V (i + 14) else dp_fl (u2 V 0 3 ((N : Int) - 1)) i)) → x = t → ¬ V (t + 6) 6 = 1 → dp_G E (dp_A E) p l e (dp_rm 1 22) s m [.ref (eAd E 8 0), .int (dp_I x)].toArray below meth co 0 0 (MQ below (dp_qi E (fun y M1 => y = (if 0 ≤ x ∧ x < N then (if V (x.toNat + 6) 6 = 1 then -100002 else (N : Int) - 1) else -100001) ∧ M1 = (if (0 ≤ x ∧ x < N) ∧ ¬ V (x.toNat + 6) 6 = 1 then rnM M V X (rmM V N x.toNat) else dN M V X))) [.ref (eAd E 8 0), .int (dp_I x)].toArray s 0 0 (dp_A E)) (dN (rnW M V X) V' (rsX X)) 48 [some (.ref (eAd E 8 0)), some (.int (dp_I ((t : Int)))), some (.int (dp_I ki))] [] := by
    refine dp_ind (fun n ih => ?_)
    intro k ki V' t ht hkn hki hk9 hh hxt h61
    subst hxt
    have h7 : V' 0 3 = (N : Int) - 1 := by
      have q := hh 7 (by decide)
      rw [if_neg (by omega)] at q
      exact q.trans (by show u2 V 0 3 ((N : Int) - 1) 0 3 = _; rw [u2_same, u1_same])
    refine dp_iload_n C dX7_drop_48 rfl ?_
    refine dp_bipush C dX7_drop_49 (by decide) ?_
    refine dp_bipush C dX7_drop_51 (by decide) ?_
    refine dp_aload_n C dX7_drop_53 rfl ?_
    refine dp_getf C (k := 0) (dp_mM (by decide)) dp_xmo rfl hX7 (by decide) (List.mem_of_getElem? (i := 3) rfl) rfl dX7_drop_54 ?_
    refine dp_bipush C dX7_drop_57 (by decide) ?_
    refine dp_ald_ms C (j := 7) ⟨by omega, by omega⟩ rfl (c9 := 0) (k9 := 3) rfl rfl dX7_drop_59 ?_
    rw [h7]
    refine dp_imul C dX7_drop_60 ?_
    refine dp_iadd C dX7_drop_61 ?_
    refine dp_icmp_ge (tgt := 86) C dX7_drop_62 (by decide) ⟨by omega, by omega⟩ ⟨by omega, by omega⟩ (fun c62 => ?_) (fun c62 => ?_)
    · skip
      obtain rfl : n = 0 := by omega
      refine dp_aload_n C dX7_drop_86 rfl ?_
      refine dp_getf C (k := 0) (dp_mM (by decide)) dp_xmo rfl hX7 (by decide) (List.mem_of_getElem? (i := 3) rfl) rfl dX7_drop_87 ?_
      refine dp_bipush C dX7_drop_90 (by decide) ?_
      refine dp_ald_ms C (j := 7) ⟨by omega, by omega⟩ rfl (c9 := 0) (k9 := 3) rfl rfl dX7_drop_92 ?_
      rw [h7]
      refine dp_cv (M' := dN (rnW M V X) (rmM V N t) (rsX X)) (fun H hW => dp_cvf (fl_rm ht (fun i hi => by rw [hh i hi, show k = 53 + 14 * (N - 1) by omega])) hW) ?_
      refine dp_iret C hret dX7_drop_93 ?_
      exact ⟨by rw [if_pos (by omega), Int.toNat_natCast, if_neg h61], by rw [Int.toNat_natCast, if_pos ⟨by omega, h61⟩]; rfl⟩
    · skip
      obtain ⟨n, rfl⟩ : ∃ n', n = n' + 1 := ⟨n - 1, by omega⟩
      refine dp_aload_n C dX7_drop_65 rfl ?_
      refine dp_getf C (k := 0) (dp_mM (by decide)) dp_xmo rfl hX7 (by decide) (List.mem_of_getElem? (i := 3) rfl) rfl dX7_drop_66 ?_
      refine dp_iload_n C dX7_drop_69 rfl ?_
      refine dp_aload_n C dX7_drop_70 rfl ?_
      refine dp_getf C (k := 0) (dp_mM (by decide)) dp_xmo rfl hX7 (by decide) (List.mem_of_getElem? (i := 3) rfl) rfl dX7_drop_71 ?_
      refine dp_iload_n C dX7_drop_74 rfl ?_
      refine dp_bipush C dX7_drop_75 (by decide) ?_
      refine dp_iadd C dX7_drop_77 ?_
      refine dp_ald_ms C (j := k + 14) ⟨by omega, by omega⟩ (by omega) (c9 := (dp_ce (k + 14))) (k9 := (dp_sl (k + 14))) rfl rfl dX7_drop_78 ?_
      refine dp_ast_ms C (j := k) ⟨by omega, by omega⟩ (by omega) (c9 := (dp_ce (k))) (k9 := (dp_sl (k))) rfl rfl dX7_drop_79 ?_
      refine dp_iinc C dX7_drop_80 rfl ?_
      dsimp only [List.set]
      refine dp_goto (tgt := 48) C dX7_drop_83 (by decide) ?_
      refine ih n (by omega) (k + 1) _ _ t ht (by omega) (by omega) (by omega) (fun i hi => ?_) rfl h61
      rw [dp_fl_put]
      unfold u1
      by_cases e : i = k
      · rw [if_pos e, if_pos (by omega)]
        have q := hh (k + 14) (by omega)
        rw [if_neg (by omega)] at q
        rw [e]
        refine q.trans ?_
        show u2 V 0 3 _ (dp_ce (k + 14)) _ = V (dp_ce (k + 14)) _
        rw [u2_ne (by rw [dp_ce_hi (by omega)]; omega)]
      · rw [if_neg e, hh i hi]
        by_cases e2 : 53 + 14 * t ≤ i ∧ i < k
        · rw [if_pos e2, if_pos (by omega)]
        · rw [if_neg e2, if_neg (by omega)]
  refine dp_aload_n C dX7_drop_0 rfl ?_
  refine dp_iload_n C dX7_drop_1 rfl ?_
  refine dp_cVi C (c_X7_isTarget C.2.2.1 l hn ⟨by omega, by omega⟩) gX7_drop_X7_isTarget rfl (dp_mM (by decide)) dp_xmo rfl yyX7_isTarget rfl ⟨Nat.le_of_ble_eq_true rfl, Nat.le_of_ble_eq_true rfl⟩ rfl (Nat.le_of_ble_eq_true rfl) rfl ⟨Nat.zero_le _, Nat.zero_le _⟩ dX7_drop_2 (fun x2 M2 h2 => ?_)
  obtain ⟨rfl, rfl⟩ := h2
  refine dp_ifz_ne (tgt := 11) C dX7_drop_5 (by decide) (fun c5 => ?_) (fun c5 => ?_)
  · skip
    obtain ⟨t, rfl, ht⟩ : ∃ t : Nat, x = (t : Int) ∧ t < N := ⟨x.toNat, by omega, by omega⟩
    have ht10 : t < 10 := by omega
    have hst := hT t ht
    unfold ivT at hst
    refine dp_aload_n C dX7_drop_11 rfl ?_
    refine dp_iload_n C dX7_drop_12 rfl ?_
    refine dp_bipush C dX7_drop_13 (by decide) ?_
    refine dp_cVi C (c_X7_of C.2.2.1 l (t := t) (k := 6) ht10 (by decide)) gX7_drop_X7_of rfl (dp_mM (by decide)) dp_xmo rfl yyX7_of rfl ⟨Nat.le_of_ble_eq_true rfl, Nat.le_of_ble_eq_true rfl⟩ rfl (Nat.le_of_ble_eq_true rfl) rfl ⟨Nat.zero_le _, Nat.zero_le _⟩ dX7_drop_15 (fun x15 M15 h15 => ?_)
    obtain ⟨rfl, rfl⟩ := h15
    refine dp_iconst C dX7_drop_18 ?_
    refine dp_icmp_ne (tgt := 25) C dX7_drop_19 (by decide) ⟨by omega, by omega⟩ ⟨by omega, by omega⟩ (fun c19 => ?_) (fun c19 => ?_)
    · skip
      refine dp_aload_n C dX7_drop_25 rfl ?_
      refine dp_cVv C (c_X7_records C.2.2.1 l (by omega)) gX7_drop_X7_records rfl (dp_mM (by decide)) dp_xmo rfl yyX7_records rfl ⟨Nat.le_of_ble_eq_true rfl, Nat.le_of_ble_eq_true rfl⟩ rfl (Nat.le_of_ble_eq_true rfl) rfl ⟨Nat.zero_le _, Nat.zero_le _⟩ dX7_drop_26 (fun M26 h26 => ?_)
      obtain rfl := h26
      unfold rnM
      refine dp_aload_n C dX7_drop_29 rfl ?_
      refine dp_getf C (k := 0) (dp_mM (by decide)) dp_xmo rfl hX7 (by decide) (List.mem_of_getElem? (i := 3) rfl) rfl dX7_drop_30 ?_
      refine dp_bipush C dX7_drop_33 (by decide) ?_
      refine dp_dup2 C dX7_drop_35 rfl rfl ?_
      refine dp_ald_ms C (j := 7) ⟨by omega, by omega⟩ rfl (c9 := 0) (k9 := 3) rfl rfl dX7_drop_36 ?_
      refine dp_iconst C dX7_drop_37 ?_
      refine dp_isub C dX7_drop_38 ?_
      refine dp_ast_ms C (j := 7) ⟨by omega, by omega⟩ rfl (c9 := 0) (k9 := 3) rfl rfl dX7_drop_39 ?_
      refine dp_bipush C dX7_drop_40 (by decide) ?_
      refine dp_bipush C dX7_drop_42 (by decide) ?_
      refine dp_iload_n C dX7_drop_44 rfl ?_
      refine dp_imul C dX7_drop_45 ?_
      refine dp_iadd C dX7_drop_46 ?_
      refine dp_istore_n C dX7_drop_47 (Nat.le_of_ble_eq_true rfl) ?_
      dsimp only [List.set]
      exact J48 (14 * (N - 1 - t)) (53 + 14 * t) _ _ t ht (by omega) (by omega) (by omega) (fun i hi => by rw [if_neg (by omega), hN]) rfl c19
    · skip
      refine dp_ldc C (-100002) (List.mem_of_getElem? (i := 2) rfl) rfl dX7_drop_22 ?_
      refine dp_iret C hret dX7_drop_24 ?_
      exact ⟨by rw [if_pos (by omega), Int.toNat_natCast, if_pos (by assumption)], by rw [Int.toNat_natCast, if_neg (fun q => absurd (by assumption) q.2)]⟩
  · skip
    refine dp_ldc C (-100001) (List.mem_of_getElem? (i := 1) rfl) rfl dX7_drop_8 ?_
    refine dp_iret C hret dX7_drop_10 ?_
    exact ⟨by rw [if_neg (by omega)], by rw [if_neg (by omega)]⟩
theorem yyX7_slew : yX7_slew.cls = RX7 ∧ yX7_slew.cls ≠ "java/lang/invoke/MethodHandle" ∧ yX7_slew.cls ≠ "java/lang/invoke/VarHandle" ∧ (parseMethodDescriptor yX7_slew.desc).map (fun d => d.parameters.length) = some 2 := by decide +kernel
set_option maxHeartbeats 4000000 in
set_option maxRecDepth 100000 in
theorem c_X7_slew {E : dp_E} (hE : dp_OK E) (l : Launch) {M : dp_M} {V X : dp_V} {N : Nat} (hm : ivM V N) (hs : 0 ≤ X 0 0 ∧ X 0 0 ≤ 5) {z el : Int} (hz : dp_R z) (he : dp_R el) : dp_met E l yX7_slew wsX7_slew 6 142 [.ref (eAd E 8 0), .int (dp_I z), .int (dp_I el)] (dN M V X) (dp_qi E (fun y M1 => (¬ ((0 ≤ z ∧ z ≤ 35999) ∧ 500 ≤ el ∧ el ≤ 9000) ∧ y = -100001 ∧ M1 = dN M V X) ∨ (((0 ≤ z ∧ z ≤ 35999) ∧ 500 ≤ el ∧ el ≤ 9000) ∧ ¬ (uwG V 0 N = -1 ∧ ¬ kdF V = 0 ∧ ¬ wyP 3 (V 3) (apF V z) (V 1 0) = 0 ∧ ¬ wyP 4 (V 4) el (V 1 0) = 0) ∧ y = -100002 ∧ ∃ X', M1 = dN M V X' ∧ scr X X') ∨ (((0 ≤ z ∧ z ≤ 35999) ∧ 500 ≤ el ∧ el ≤ 9000) ∧ (uwG V 0 N = -1 ∧ ¬ kdF V = 0 ∧ ¬ wyP 3 (V 3) (apF V z) (V 1 0) = 0 ∧ ¬ wyP 4 (V 4) el (V 1 0) = 0) ∧ y = tmF V (apF V z) el ∧ ∃ X', M1 = dN (rnW M V X) (slV V (apF V z) el) X' ∧ scr (rsX X) X'))) := by
  refine dp_of (cc := cX7_slew) (nL := 3) (own := RX7) (ret := some (.int)) (by decide +kernel) rfl rfl hE (by simp [Value.category]) (Nat.le_of_ble_eq_true rfl) ?_
  intro p e s m below meth co C hret
  show dp_G _ _ _ _ _ _ _ _ _ _ _ _ _ _ _ _ _ [some (.ref (eAd E 8 0)), some (.int (dp_I z)), some (.int (dp_I el))] _
  have hm2 := hm
  obtain ⟨hN, h10, hv, hT⟩ := hm
  unfold dp_R at hz he
  have hk := @kdF_bd V
  have ho : 0 ≤ V 1 0 ∧ V 1 0 ≤ 500 := by have := hv.2.1; omega
  have hub := @uwN_bd V N h10
  refine dp_iload_n C dX7_slew_0 rfl ?_
  refine dp_iconst C dX7_slew_1 ?_
  refine dp_ldc C (35999) (List.mem_of_getElem? (i := 1) rfl) rfl dX7_slew_2 ?_
  refine dp_cSi C (c_X7_in C.2.2.1 l ⟨by omega, by omega⟩ ⟨by omega, by omega⟩ ⟨by omega, by omega⟩) gX7_slew_X7_in rfl yyX7_in rfl ⟨Nat.le_of_ble_eq_true rfl, Nat.le_of_ble_eq_true rfl⟩ rfl (Nat.le_of_ble_eq_true rfl) rfl ⟨Nat.zero_le _, Nat.zero_le _⟩ dX7_slew_4 (fun x4 M4 h4 => ?_)
  obtain ⟨rfl, rfl⟩ := h4
  refine dp_ifz_eq (tgt := 23) C dX7_slew_7 (by decide) (fun c7 => ?_) (fun c7 => ?_)
  · skip
    refine dp_ldc C (-100001) (List.mem_of_getElem? (i := 2) rfl) rfl dX7_slew_23 ?_
    refine dp_iret C hret dX7_slew_25 ?_
    exact Or.inl ⟨by omega, rfl, rfl⟩
  · skip
    have hap := @apF_bd V z (by assumption)
    have hpb := @pfF_bd V z (by assumption)
    refine dp_iload_n C dX7_slew_10 rfl ?_
    refine dp_sipush C dX7_slew_11 (by decide) ?_
    refine dp_sipush C dX7_slew_14 (by decide) ?_
    refine dp_cSi C (c_X7_in C.2.2.1 l ⟨by omega, by omega⟩ ⟨by omega, by omega⟩ ⟨by omega, by omega⟩) gX7_slew_X7_in rfl yyX7_in rfl ⟨Nat.le_of_ble_eq_true rfl, Nat.le_of_ble_eq_true rfl⟩ rfl (Nat.le_of_ble_eq_true rfl) rfl ⟨Nat.zero_le _, Nat.zero_le _⟩ dX7_slew_17 (fun x17 M17 h17 => ?_)
    obtain ⟨rfl, rfl⟩ := h17
    refine dp_ifz_ne (tgt := 26) C dX7_slew_20 (by decide) (fun c20 => ?_) (fun c20 => ?_)
    · skip
      refine dp_aload_n C dX7_slew_26 rfl ?_
      refine dp_cVi C (c_X7_underWay C.2.2.1 l hm2) gX7_slew_X7_underWay rfl (dp_mM (by decide)) dp_xmo rfl yyX7_underWay rfl ⟨Nat.le_of_ble_eq_true rfl, Nat.le_of_ble_eq_true rfl⟩ rfl (Nat.le_of_ble_eq_true rfl) rfl ⟨Nat.zero_le _, Nat.zero_le _⟩ dX7_slew_27 (fun x27 M27 h27 => ?_)
      obtain ⟨rfl, rfl⟩ := h27
      refine dp_ldc C (-100004) (List.mem_of_getElem? (i := 3) rfl) rfl dX7_slew_30 ?_
      refine dp_icmp_ne (tgt := 61) C dX7_slew_32 (by decide) ⟨by omega, by omega⟩ ⟨by omega, by omega⟩ (fun c32 => ?_) (fun c32 => ?_)
      · skip
        have hu2 : ¬ uwG V 0 N = -1 := by
          rcases @uwN_sp V N with ⟨q, _, _⟩ | ⟨t9, _, _, q, _⟩
          · omega
          · omega
        refine dp_ldc C (-100002) (List.mem_of_getElem? (i := 4) rfl) rfl dX7_slew_61 ?_
        refine dp_iret C hret dX7_slew_63 ?_
        refine Or.inr (Or.inl ⟨⟨by omega, by omega⟩, ?_, rfl, ?_⟩)
        · rintro ⟨q1, q2, q3, q4⟩
          first | exact hu2 q1 | exact q2 (by assumption) | exact q3 yp | exact q4 (by assumption)
        · first | exact ⟨_, rfl, hs1.tr hs2⟩ | exact ⟨_, rfl, hs1⟩ | exact ⟨_, rfl, scr.rf⟩
      · skip
        have hu2 : uwG V 0 N = -1 := by
          rcases @uwN_sp V N with ⟨_, q, _⟩ | ⟨t9, _, q, _⟩
          · exact q
          · omega
        refine dp_aload_n C dX7_slew_35 rfl ?_
        refine dp_cVi C (c_X7_kindOfDay C.2.2.1 l hv) gX7_slew_X7_kindOfDay rfl (dp_mM (by decide)) dp_xmo rfl yyX7_kindOfDay rfl ⟨Nat.le_of_ble_eq_true rfl, Nat.le_of_ble_eq_true rfl⟩ rfl (Nat.le_of_ble_eq_true rfl) rfl ⟨Nat.zero_le _, Nat.zero_le _⟩ dX7_slew_36 (fun x36 M36 h36 => ?_)
        obtain ⟨rfl, rfl⟩ := h36
        refine dp_if_eq (tgt := 61) C dX7_slew_39 (by decide) ⟨by omega, by omega⟩ (fun c39 => ?_) (fun c39 => ?_)
        · skip
          refine dp_ldc C (-100002) (List.mem_of_getElem? (i := 4) rfl) rfl dX7_slew_61 ?_
          refine dp_iret C hret dX7_slew_63 ?_
          refine Or.inr (Or.inl ⟨⟨by omega, by omega⟩, ?_, rfl, ?_⟩)
          · rintro ⟨q1, q2, q3, q4⟩
            first | exact hu2 q1 | exact q2 (by assumption) | exact q3 yp | exact q4 (by assumption)
          · first | exact ⟨_, rfl, hs1.tr hs2⟩ | exact ⟨_, rfl, hs1⟩ | exact ⟨_, rfl, scr.rf⟩
        · skip
          refine dp_aload_n C dX7_slew_42 rfl ?_
          refine dp_iconst C dX7_slew_43 ?_
          refine dp_iload_n C dX7_slew_44 rfl ?_
          refine dp_cVi C (c_X7_isPossible C.2.2.1 l (a := 1) (to := el) (by decide) hv.2.2.2.2 ho (by omega)) gX7_slew_X7_isPossible rfl (dp_mM (by decide)) dp_xmo rfl yyX7_isPossible rfl ⟨Nat.le_of_ble_eq_true rfl, Nat.le_of_ble_eq_true rfl⟩ rfl (Nat.le_of_ble_eq_true rfl) rfl ⟨Nat.zero_le _, Nat.zero_le _⟩ dX7_slew_45 (fun x45 M45 h45 => ?_)
          obtain ⟨rfl, X1, rfl, hX1⟩ := h45
          have hs1 := hX1.1
          have b6 := @wyP_bd 4 (V 4) el (V 1 0)
          rw [show (1 : Nat) + 3 = 4 from rfl]
          refine dp_if_eq (tgt := 61) C dX7_slew_48 (by decide) ⟨by omega, by omega⟩ (fun c48 => ?_) (fun c48 => ?_)
          · skip
            refine dp_ldc C (-100002) (List.mem_of_getElem? (i := 4) rfl) rfl dX7_slew_61 ?_
            refine dp_iret C hret dX7_slew_63 ?_
            refine Or.inr (Or.inl ⟨⟨by omega, by omega⟩, ?_, rfl, ?_⟩)
            · rintro ⟨q1, q2, q3, q4⟩
              first | exact hu2 q1 | exact q2 (by assumption) | exact q3 yp | exact q4 (by assumption)
            · first | exact ⟨_, rfl, hs1.tr hs2⟩ | exact ⟨_, rfl, hs1⟩ | exact ⟨_, rfl, scr.rf⟩
          · skip
            refine dp_aload_n C dX7_slew_51 rfl ?_
            refine dp_iload_n C dX7_slew_52 rfl ?_
            refine dp_cVi C (c_X7_placeOf C.2.2.1 l hv (by omega)) gX7_slew_X7_placeOf rfl (dp_mM (by decide)) dp_xmo rfl yyX7_placeOf rfl ⟨Nat.le_of_ble_eq_true rfl, Nat.le_of_ble_eq_true rfl⟩ rfl (Nat.le_of_ble_eq_true rfl) rfl ⟨Nat.zero_le _, Nat.zero_le _⟩ dX7_slew_53 (fun x53 M53 h53 => ?_)
            obtain ⟨rfl, X2, rfl, hs2⟩ := h53
            refine dp_ldc C (-100004) (List.mem_of_getElem? (i := 3) rfl) rfl dX7_slew_56 ?_
            refine dp_icmp_ne (tgt := 64) C dX7_slew_58 (by decide) ⟨by omega, by omega⟩ ⟨by omega, by omega⟩ (fun c58 => ?_) (fun c58 => ?_)
            · skip
              obtain ⟨ep, np⟩ := pfF_ne c58
              have hX20 : 0 ≤ X2 0 0 ∧ X2 0 0 ≤ 5 := by rw [(hs1.tr hs2).2 0 (by decide) (by decide) (by decide)]; exact hs
              refine dp_aload_n C dX7_slew_64 rfl ?_
              refine dp_cVv C (c_X7_records C.2.2.1 l hX20) gX7_slew_X7_records rfl (dp_mM (by decide)) dp_xmo rfl yyX7_records rfl ⟨Nat.le_of_ble_eq_true rfl, Nat.le_of_ble_eq_true rfl⟩ rfl (Nat.le_of_ble_eq_true rfl) rfl ⟨Nat.zero_le _, Nat.zero_le _⟩ dX7_slew_65 (fun M65 h65 => ?_)
              obtain rfl := h65
              unfold rnM
              refine dp_aload_n C dX7_slew_68 rfl ?_
              refine dp_aload_n C dX7_slew_69 rfl ?_
              refine dp_iload_n C dX7_slew_70 rfl ?_
              refine dp_cVi C (c_X7_placeOf C.2.2.1 l hv (by omega)) gX7_slew_X7_placeOf rfl (dp_mM (by decide)) dp_xmo rfl yyX7_placeOf rfl ⟨Nat.le_of_ble_eq_true rfl, Nat.le_of_ble_eq_true rfl⟩ rfl (Nat.le_of_ble_eq_true rfl) rfl ⟨Nat.zero_le _, Nat.zero_le _⟩ dX7_slew_71 (fun x71 M71 h71 => ?_)
              obtain ⟨rfl, X3, rfl, hs3⟩ := h71
              rw [ep]
              refine dp_iload_n C dX7_slew_74 rfl ?_
              refine dp_cVi C (c_X7_slews C.2.2.1 l hv (z := apF V z) (by omega) (by omega) np (by omega)) gX7_slew_X7_slews rfl (dp_mM (by decide)) dp_xmo rfl yyX7_slews rfl ⟨Nat.le_of_ble_eq_true rfl, Nat.le_of_ble_eq_true rfl⟩ rfl (Nat.le_of_ble_eq_true rfl) rfl ⟨Nat.zero_le _, Nat.zero_le _⟩ dX7_slew_75 (fun x75 M75 h75 => ?_)
              obtain ⟨rfl, X4, rfl, hs4⟩ := h75
              refine dp_iret C hret dX7_slew_78 ?_
              refine Or.inr (Or.inr ⟨⟨by omega, by omega⟩, ⟨hu2, by omega, np, by omega⟩, rfl, X4, ?_, ((hs1.tr hs2).rs.tr hs3).tr hs4⟩)
              rw [(hs1.tr hs2).rw]
            · skip
              have yp := pfF_eq (by omega) c58
              refine dp_ldc C (-100002) (List.mem_of_getElem? (i := 4) rfl) rfl dX7_slew_61 ?_
              refine dp_iret C hret dX7_slew_63 ?_
              refine Or.inr (Or.inl ⟨⟨by omega, by omega⟩, ?_, rfl, ?_⟩)
              · rintro ⟨q1, q2, q3, q4⟩
                first | exact hu2 q1 | exact q2 (by assumption) | exact q3 yp | exact q4 (by assumption)
              · first | exact ⟨_, rfl, hs1.tr hs2⟩ | exact ⟨_, rfl, hs1⟩ | exact ⟨_, rfl, scr.rf⟩
    · skip
      refine dp_ldc C (-100001) (List.mem_of_getElem? (i := 2) rfl) rfl dX7_slew_23 ?_
      refine dp_iret C hret dX7_slew_25 ?_
      exact Or.inl ⟨by omega, rfl, rfl⟩
