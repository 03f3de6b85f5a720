theorem rnG_iv {N : Nat} : ∀ {n : Nat} {V : dp_V}, ivM V N → V 0 0 + n ≤ 43200 → ivM (rnG N n V) N := by
  intro n
  induction n with
  | zero => intro V h _; exact h
  | succ n ih =>
    intro V h hx
    obtain ⟨a, b⟩ := stM_iv h (by omega)
    exact ih a (by omega)
/-- the reference runs k minutes; how many become done -/
def ruM (V : dp_V) (N k : Nat) : dp_V := rnG N k (miM V N)
def ruC (V : dp_V) (N k : Nat) : Int := mc V N + rcG N k (miM V N)
theorem yyX7_runs : yX7_runs.cls = RX7 ∧ yX7_runs.cls ≠ "java/lang/invoke/MethodHandle" ∧ yX7_runs.cls ≠ "java/lang/invoke/VarHandle" ∧ (parseMethodDescriptor yX7_runs.desc).map (fun d => d.parameters.length) = some 1 := by decide +kernel
set_option maxHeartbeats 4000000 in
set_option maxRecDepth 100000 in
theorem c_X7_runs {E : dp_E} (hE : dp_OK E) (l : Launch) {M : dp_M} {V X : dp_V} {N : Nat} (hm : ivM V N) {kk : Nat} (hk : V 0 0 + kk ≤ 43200) : dp_met E l yX7_runs wsX7_runs 9 211 [.ref (eAd E 8 0), .int (dp_I (kk : Int))] (dN M V X) (dp_qi E (fun y M1 => y = ruC V N kk ∧ ∃ X', M1 = dN M (ruM V N kk) X' ∧ scr X X')) := by
  refine dp_of (cc := cX7_runs) (nL := 4) (own := RX7) (ret := some (.int)) (by decide +kernel) rfl rfl hE (by simp [Value.category]) (Nat.le_of_ble_eq_true rfl) ?_
  intro p e s m below meth co C hret
  show dp_G _ _ _ _ _ _ _ _ _ _ _ _ _ _ _ _ _ [some (.ref (eAd E 8 0)), some (.int (dp_I (kk : Int))), none, none] _
  have hX7 : ∀ w ∈ u_ws RX7 TX7 12, w ∈ wsX7_runs := fun w h => List.mem_cons_of_mem _ (List.mem_append_right _ (h))
  have hm2 := hm
  obtain ⟨hN, h10, hv, hT⟩ := hm
  have h0 := hv.1
  have J7 : ∀ (n j : Nat) (c ji : Int) (V' X' : dp_V), j + n = kk → ji = j → ivM V' N → V' 0 0 = V 0 0 + j → scr X X' → rnG N n V' = ruM V N kk → c + rcG N n V' = ruC V N kk → dp_G E (dp_A E) p l e (dp_rm 9 211) s m [.ref (eAd E 8 0), .int (dp_I (kk : Int))].toArray below meth co 0 0 (MQ below (dp_qi E (fun y M1 => y = ruC V N kk ∧ ∃ X', M1 = dN M (ruM V N kk) X' ∧ scr X X')) [.ref (eAd E 8 0), .int (dp_I (kk : Int))].toArray s 0 0 (dp_A E)) (dN M V' X') 7 [some (.ref (eAd E 8 0)), some (.int (dp_I ((kk : Int)))), some (.int (dp_I c)), some (.int (dp_I ji))] [] := by
    refine dp_ind (fun n ih => ?_)
    intro j c ji V' X' hkn hki hm3 ht0 hsc hf hc
    refine dp_iload_n C dX7_runs_7 rfl ?_
    refine dp_iload_n C dX7_runs_8 rfl ?_
    refine dp_icmp_ge (tgt := 59) C dX7_runs_9 (by decide) ⟨by omega, by omega⟩ ⟨by omega, by omega⟩ (fun c9 => ?_) (fun c9 => ?_)
    · skip
      obtain rfl : n = 0 := by omega
      refine dp_iload_n C dX7_runs_59 rfl ?_
      refine dp_iret C hret dX7_runs_60 ?_
      exact ⟨by rw [← hc]; show c = c + 0; omega, _, by rw [← hf]; rfl, hsc⟩
    · skip
      obtain ⟨n, rfl⟩ : ∃ n', n = n' + 1 := ⟨n - 1, by omega⟩
      have hv3 := hm3.2.2.1
      have h03 := hv3.1
      have hm6 := ivM_00 (x := V' 0 0 + 1) hm3 (by omega)
      have hm4 := hsM_iv hm3 (by omega)
      obtain ⟨hm5, h50⟩ := stM_iv hm3 (by omega)
      refine dp_aload_n C dX7_runs_12 rfl ?_
      refine dp_getf C (k := 0) (dp_mM (by decide)) dp_xmo rfl hX7 (by decide) (List.mem_of_getElem? (i := 1) rfl) rfl dX7_runs_13 ?_
      refine dp_iconst C dX7_runs_16 ?_
      refine dp_dup2 C dX7_runs_17 rfl rfl ?_
      refine dp_ald_ms C (j := 4) ⟨by omega, by omega⟩ rfl (c9 := 0) (k9 := 0) rfl rfl dX7_runs_18 ?_
      refine dp_iconst C dX7_runs_19 ?_
      refine dp_iadd C dX7_runs_20 ?_
      refine dp_ast_ms C (j := 4) ⟨by omega, by omega⟩ rfl (c9 := 0) (k9 := 0) rfl rfl dX7_runs_21 ?_
      refine dp_aload_n C dX7_runs_22 rfl ?_
      refine dp_getf C (k := 0) (dp_mM (by decide)) dp_xmo rfl hX7 (by decide) (List.mem_of_getElem? (i := 1) rfl) rfl dX7_runs_23 ?_
      refine dp_iconst C dX7_runs_26 ?_
      refine dp_ald_ms C (j := 4) ⟨by omega, by omega⟩ rfl (c9 := 0) (k9 := 0) rfl rfl dX7_runs_27 ?_
      rw [u2_same, u1_same]
      refine dp_sipush C dX7_runs_28 (by decide) ?_
      refine dp_irem C ⟨by omega, by omega, by omega, by omega⟩ dX7_runs_31 ?_
      refine dp_if_ne (tgt := 46) C dX7_runs_32 (by decide) ⟨by omega, by omega⟩ (fun c32 => ?_) (fun c32 => ?_)
      · skip
        have eh : hsM V' N = u2 V' 0 0 (V' 0 0 + 1) := by unfold hsM; rw [if_neg c32]
        rw [← eh]
        refine dp_iload_n C dX7_runs_46 rfl ?_
        refine dp_aload_n C dX7_runs_47 rfl ?_
        refine dp_cVi C (c_X7_minute C.2.2.1 l hm4.1) gX7_runs_X7_minute rfl (dp_mM (by decide)) dp_xmo rfl yyX7_minute rfl ⟨Nat.le_of_ble_eq_true rfl, Nat.le_of_ble_eq_true rfl⟩ rfl (Nat.le_of_ble_eq_true rfl) rfl ⟨Nat.zero_le _, Nat.zero_le _⟩ dX7_runs_48 (fun x48 M48 h48 => ?_)
        obtain ⟨rfl, X9, rfl, hs9⟩ := h48
        rw [show miM (hsM V' N) N = stM V' N from rfl]
        refine dp_iadd C dX7_runs_51 ?_
        refine dp_istore_n C dX7_runs_52 (Nat.le_of_ble_eq_true rfl) ?_
        dsimp only [List.set]
        refine dp_iinc C dX7_runs_53 rfl ?_
        dsimp only [List.set]
        refine dp_goto (tgt := 7) C dX7_runs_56 (by decide) ?_
        exact ih n (by omega) (j + 1) _ _ _ _ (by omega) (by omega) hm5 (by rw [h50]; omega) (hsc.tr hs9) hf (by rw [← hc, show rcG N (n + 1) V' = mc (hsM V' N) N + rcG N n (stM V' N) from rfl]; omega)
      · skip
        refine dp_aload_n C dX7_runs_35 rfl ?_
        refine dp_cVi C (c_X7_kindOfDay C.2.2.1 l hm6.2.2.1) gX7_runs_X7_kindOfDay rfl (dp_mM (by decide)) dp_xmo rfl yyX7_kindOfDay rfl ⟨Nat.le_of_ble_eq_true rfl, Nat.le_of_ble_eq_true rfl⟩ rfl (Nat.le_of_ble_eq_true rfl) rfl ⟨Nat.zero_le _, Nat.zero_le _⟩ dX7_runs_36 (fun x36 M36 h36 => ?_)
        obtain ⟨rfl, rfl⟩ := h36
        refine dp_if_ne (tgt := 46) C dX7_runs_39 (by decide) (by have := @kdF_bd (u2 V' 0 0 (V' 0 0 + 1)); exact ⟨by omega, by omega⟩) (fun c39 => ?_) (fun c39 => ?_)
        · skip
          have eh : hsM V' N = u2 V' 0 0 (V' 0 0 + 1) := by unfold hsM; rw [if_pos c32, if_neg c39]
          rw [← eh]
          refine dp_iload_n C dX7_runs_46 rfl ?_
          refine dp_aload_n C dX7_runs_47 rfl ?_
          refine dp_cVi C (c_X7_minute C.2.2.1 l hm4.1) gX7_runs_X7_minute rfl (dp_mM (by decide)) dp_xmo rfl yyX7_minute rfl ⟨Nat.le_of_ble_eq_true rfl, Nat.le_of_ble_eq_true rfl⟩ rfl (Nat.le_of_ble_eq_true rfl) rfl ⟨Nat.zero_le _, Nat.zero_le _⟩ dX7_runs_48 (fun x48 M48 h48 => ?_)
          obtain ⟨rfl, X9, rfl, hs9⟩ := h48
          rw [show miM (hsM V' N) N = stM V' N from rfl]
          refine dp_iadd C dX7_runs_51 ?_
          refine dp_istore_n C dX7_runs_52 (Nat.le_of_ble_eq_true rfl) ?_
          dsimp only [List.set]
          refine dp_iinc C dX7_runs_53 rfl ?_
          dsimp only [List.set]
          refine dp_goto (tgt := 7) C dX7_runs_56 (by decide) ?_
          exact ih n (by omega) (j + 1) _ _ _ _ (by omega) (by omega) hm5 (by rw [h50]; omega) (hsc.tr hs9) hf (by rw [← hc, show rcG N (n + 1) V' = mc (hsM V' N) N + rcG N n (stM V' N) from rfl]; omega)
        · skip
          refine dp_aload_n C dX7_runs_42 rfl ?_
          refine dp_cVv C (c_X7_holds C.2.2.1 l hm6) gX7_runs_X7_holds rfl (dp_mM (by decide)) dp_xmo rfl yyX7_holds rfl ⟨Nat.le_of_ble_eq_true rfl, Nat.le_of_ble_eq_true rfl⟩ rfl (Nat.le_of_ble_eq_true rfl) rfl ⟨Nat.zero_le _, Nat.zero_le _⟩ dX7_runs_43 (fun M43 h43 => ?_)
          obtain rfl := h43
          have eh : hsM V' N = hdM (u2 V' 0 0 (V' 0 0 + 1)) N := by unfold hsM; rw [if_pos c32, if_pos c39]
          rw [← eh]
          refine dp_iload_n C dX7_runs_46 rfl ?_
          refine dp_aload_n C dX7_runs_47 rfl ?_
          refine dp_cVi C (c_X7_minute C.2.2.1 l hm4.1) gX7_runs_X7_minute rfl (dp_mM (by decide)) dp_xmo rfl yyX7_minute rfl ⟨Nat.le_of_ble_eq_true rfl, Nat.le_of_ble_eq_true rfl⟩ rfl (Nat.le_of_ble_eq_true rfl) rfl ⟨Nat.zero_le _, Nat.zero_le _⟩ dX7_runs_48 (fun x48 M48 h48 => ?_)
          obtain ⟨rfl, X9, rfl, hs9⟩ := h48
          rw [show miM (hsM V' N) N = stM V' N from rfl]
          refine dp_iadd C dX7_runs_51 ?_
          refine dp_istore_n C dX7_runs_52 (Nat.le_of_ble_eq_true rfl) ?_
          dsimp only [List.set]
          refine dp_iinc C dX7_runs_53 rfl ?_
          dsimp only [List.set]
          refine dp_goto (tgt := 7) C dX7_runs_56 (by decide) ?_
          exact ih n (by omega) (j + 1) _ _ _ _ (by omega) (by omega) hm5 (by rw [h50]; omega) (hsc.tr hs9) hf (by rw [← hc, show rcG N (n + 1) V' = mc (hsM V' N) N + rcG N n (stM V' N) from rfl]; omega)
  refine dp_aload_n C dX7_runs_0 rfl ?_
  refine dp_cVi C (c_X7_minute C.2.2.1 l hm2) gX7_runs_X7_minute rfl (dp_mM (by decide)) dp_xmo rfl yyX7_minute rfl ⟨Nat.le_of_ble_eq_true rfl, Nat.le_of_ble_eq_true rfl⟩ rfl (Nat.le_of_ble_eq_true rfl) rfl ⟨Nat.zero_le _, Nat.zero_le _⟩ dX7_runs_1 (fun x1 M1 h1 => ?_)
  obtain ⟨rfl, X1, rfl, hs1⟩ := h1
  refine dp_istore_n C dX7_runs_4 (Nat.le_of_ble_eq_true rfl) ?_
  dsimp only [List.set]
  refine dp_iconst C dX7_runs_5 ?_
  refine dp_istore_n C dX7_runs_6 (Nat.le_of_ble_eq_true rfl) ?_
  dsimp only [List.set]
  exact J7 kk 0 _ 0 _ _ (by omega) rfl (miM_iv hm2).1 (by rw [(miM_iv hm2).2]; omega) hs1 rfl rfl
theorem yyX7_run : yX7_run.cls = RX7 ∧ yX7_run.cls ≠ "java/lang/invoke/MethodHandle" ∧ yX7_run.cls ≠ "java/lang/invoke/VarHandle" ∧ (parseMethodDescriptor yX7_run.desc).map (fun d => d.parameters.length) = some 1 := by decide +kernel
set_option maxHeartbeats 4000000 in
set_option maxRecDepth 100000 in
theorem c_X7_run {E : dp_E} (hE : dp_OK E) (l : Launch) {M : dp_M} {V X : dp_V} {N : Nat} (hm : ivM V N) (hs : 0 ≤ X 0 0 ∧ X 0 0 ≤ 5) {k : Int} (hk : dp_R k) : dp_met E l yX7_run wsX7_run 10 234 [.ref (eAd E 8 0), .int (dp_I k)] (dN M V X) (dp_qi E (fun y M1 => y = (if 0 ≤ k ∧ k ≤ 2000 then (if 43200 < V 0 0 + k then -100003 else ruC V N k.toNat) else -100001) ∧ ((¬ ((0 ≤ k ∧ k ≤ 2000) ∧ ¬ 43200 < V 0 0 + k) ∧ M1 = dN M V X) ∨ (((0 ≤ k ∧ k ≤ 2000) ∧ ¬ 43200 < V 0 0 + k) ∧ ∃ X', M1 = dN (rnW M V X) (ruM V N k.toNat) X' ∧ scr (rsX X) X')))) := by
  refine dp_of (cc := cX7_run) (nL := 2) (own := RX7) (ret := some (.int)) (by decide +kernel) rfl rfl hE (by simp [Value.category]) (Nat.le_of_ble_eq_true rfl) ?_
  intro p e s m below meth co C hret
  show dp_G _ _ _ _ _ _ _ _ _ _ _ _ _ _ _ _ _ [some (.ref (eAd E 8 0)), some (.int (dp_I k))] _
  have hX7 : ∀ w ∈ u_ws RX7 TX7 12, w ∈ wsX7_run := fun w h => List.mem_cons_of_mem _ (List.mem_append_right _ (h))
  have hm2 := hm
  obtain ⟨hN, h10, hv, hT⟩ := hm
  have h0 := hv.1
  unfold dp_R at hk
  refine dp_iload_n C dX7_run_0 rfl ?_
  refine dp_iconst C dX7_run_1 ?_
  refine dp_sipush C dX7_run_2 (by decide) ?_
  refine dp_cSi C (c_X7_in C.2.2.1 l ⟨by omega, by omega⟩ ⟨by omega, by omega⟩ ⟨by omega, by omega⟩) gX7_run_X7_in rfl yyX7_in rfl ⟨Nat.le_of_ble_eq_true rfl, Nat.le_of_ble_eq_true rfl⟩ rfl (Nat.le_of_ble_eq_true rfl) rfl ⟨Nat.zero_le _, Nat.zero_le _⟩ dX7_run_5 (fun x5 M5 h5 => ?_)
  obtain ⟨rfl, rfl⟩ := h5
  refine dp_ifz_ne (tgt := 14) C dX7_run_8 (by decide) (fun c8 => ?_) (fun c8 => ?_)
  · skip
    obtain ⟨kk, rfl, hkk⟩ : ∃ kk : Nat, k = (kk : Int) ∧ kk ≤ 2000 := ⟨k.toNat, by omega, by omega⟩
    refine dp_aload_n C dX7_run_14 rfl ?_
    refine dp_getf C (k := 0) (dp_mM (by decide)) dp_xmo rfl hX7 (by decide) (List.mem_of_getElem? (i := 2) rfl) rfl dX7_run_15 ?_
    refine dp_iconst C dX7_run_18 ?_
    refine dp_ald_ms C (j := 4) ⟨by omega, by omega⟩ rfl (c9 := 0) (k9 := 0) rfl rfl dX7_run_19 ?_
    refine dp_iload_n C dX7_run_20 rfl ?_
    refine dp_iadd C dX7_run_21 ?_
    refine dp_ldc C (43200) (List.mem_of_getElem? (i := 3) rfl) rfl dX7_run_22 ?_
    refine dp_icmp_le (tgt := 30) C dX7_run_24 (by decide) ⟨by omega, by omega⟩ ⟨by omega, by omega⟩ (fun c24 => ?_) (fun c24 => ?_)
    · skip
      refine dp_aload_n C dX7_run_30 rfl ?_
      refine dp_cVv C (c_X7_records C.2.2.1 l (by omega)) gX7_run_X7_records rfl (dp_mM (by decide)) dp_xmo rfl yyX7_records rfl ⟨Nat.le_of_ble_eq_true rfl, Nat.le_of_ble_eq_true rfl⟩ rfl (Nat.le_of_ble_eq_true rfl) rfl ⟨Nat.zero_le _, Nat.zero_le _⟩ dX7_run_31 (fun M31 h31 => ?_)
      obtain rfl := h31
      unfold rnM
      refine dp_aload_n C dX7_run_34 rfl ?_
      refine dp_iload_n C dX7_run_35 rfl ?_
      refine dp_cVi C (c_X7_runs C.2.2.1 l hm2 (kk := kk) (by omega)) gX7_run_X7_runs rfl (dp_mM (by decide)) dp_xmo rfl yyX7_runs rfl ⟨Nat.le_of_ble_eq_true rfl, Nat.le_of_ble_eq_true rfl⟩ rfl (Nat.le_of_ble_eq_true rfl) rfl ⟨Nat.zero_le _, Nat.zero_le _⟩ dX7_run_36 (fun x36 M36 h36 => ?_)
      obtain ⟨rfl, X9, rfl, hs9⟩ := h36
      refine dp_iret C hret dX7_run_39 ?_
      first | exact ⟨by rw [if_pos (by omega), if_neg (by omega), Int.toNat_natCast], Or.inr ⟨⟨by omega, by omega⟩, X9, by rw [Int.toNat_natCast], hs9⟩⟩ | exact ⟨by rw [if_pos (by omega), if_pos (by omega)], Or.inl ⟨fun q => absurd q.2 (by omega), rfl⟩⟩ | exact ⟨by rw [if_neg (by omega)], Or.inl ⟨fun q => absurd q.1 (by omega), rfl⟩⟩
    · skip
      refine dp_ldc C (-100003) (List.mem_of_getElem? (i := 4) rfl) rfl dX7_run_27 ?_
      refine dp_iret C hret dX7_run_29 ?_
      first | exact ⟨by rw [if_pos (by omega), if_neg (by omega), Int.toNat_natCast], Or.inr ⟨⟨by omega, by omega⟩, X9, by rw [Int.toNat_natCast], hs9⟩⟩ | exact ⟨by rw [if_pos (by omega), if_pos (by omega)], Or.inl ⟨fun q => absurd q.2 (by omega), rfl⟩⟩ | exact ⟨by rw [if_neg (by omega)], Or.inl ⟨fun q => absurd q.1 (by omega), rfl⟩⟩
  · skip
    refine dp_ldc C (-100001) (List.mem_of_getElem? (i := 1) rfl) rfl dX7_run_11 ?_
    refine dp_iret C hret dX7_run_13 ?_
    first | exact ⟨by rw [if_pos (by omega), if_neg (by omega), Int.toNat_natCast], Or.inr ⟨⟨by omega, by omega⟩, X9, by rw [Int.toNat_natCast], hs9⟩⟩ | exact ⟨by rw [if_pos (by omega), if_pos (by omega)], Or.inl ⟨fun q => absurd q.2 (by omega), rfl⟩⟩ | exact ⟨by rw [if_neg (by omega)], Or.inl ⟨fun q => absurd q.1 (by omega), rfl⟩⟩
theorem yyX7_ifRun : yX7_ifRun.cls = RX7 ∧ yX7_ifRun.cls ≠ "java/lang/invoke/MethodHandle" ∧ yX7_ifRun.cls ≠ "java/lang/invoke/VarHandle" ∧ (parseMethodDescriptor yX7_ifRun.desc).map (fun d => d.parameters.length) = some 1 := by decide +kernel
set_option maxHeartbeats 4000000 in
set_option maxRecDepth 100000 in
theorem c_X7_ifRun {E : dp_E} (hE : dp_OK E) (l : Launch) {M : dp_M} {V X : dp_V} {N : Nat} (hm : ivM V N) {k : Int} (hk : dp_R k) : dp_met E l yX7_ifRun wsX7_ifRun 10 234 [.ref (eAd E 8 0), .int (dp_I k)] (dN M V X) (dp_qi E (fun y M1 => y = (if 0 ≤ k ∧ k ≤ 2000 then (if 43200 < V 0 0 + k then -100003 else cnG (ruM V N k.toNat) 2 0 N) else -100001) ∧ ((¬ ((0 ≤ k ∧ k ≤ 2000) ∧ ¬ 43200 < V 0 0 + k) ∧ M1 = dN M V X) ∨ (((0 ≤ k ∧ k ≤ 2000) ∧ ¬ 43200 < V 0 0 + k) ∧ ∃ X', M1 = dN (dR M 10 V) V X' ∧ scr X X')))) := by
  refine dp_of (cc := cX7_ifRun) (nL := 3) (own := RX7) (ret := some (.int)) (by decide +kernel) rfl rfl hE (by simp [Value.category]) (Nat.le_of_ble_eq_true rfl) ?_
  intro p e s m below meth co C hret
  show dp_G _ _ _ _ _ _ _ _ _ _ _ _ _ _ _ _ _ [some (.ref (eAd E 8 0)), some (.int (dp_I k)), none] _
  have hX7 : ∀ w ∈ u_ws RX7 TX7 12, w ∈ wsX7_ifRun := fun w h => List.mem_cons_of_mem _ (List.mem_append_right _ (h))
  have hm2 := hm
  obtain ⟨hN, h10, hv, hT⟩ := hm
  have h0 := hv.1
  unfold dp_R at hk
  refine dp_iload_n C dX7_ifRun_0 rfl ?_
  refine dp_iconst C dX7_ifRun_1 ?_
  refine dp_sipush C dX7_ifRun_2 (by decide) ?_
  refine dp_cSi C (c_X7_in C.2.2.1 l ⟨by omega, by omega⟩ ⟨by omega, by omega⟩ ⟨by omega, by omega⟩) gX7_ifRun_X7_in rfl yyX7_in rfl ⟨Nat.le_of_ble_eq_true rfl, Nat.le_of_ble_eq_true rfl⟩ rfl (Nat.le_of_ble_eq_true rfl) rfl ⟨Nat.zero_le _, Nat.zero_le _⟩ dX7_ifRun_5 (fun x5 M5 h5 => ?_)
  obtain ⟨rfl, rfl⟩ := h5
  refine dp_ifz_ne (tgt := 14) C dX7_ifRun_8 (by decide) (fun c8 => ?_) (fun c8 => ?_)
  · skip
    obtain ⟨kk, rfl, hkk⟩ : ∃ kk : Nat, k = (kk : Int) ∧ kk ≤ 2000 := ⟨k.toNat, by omega, by omega⟩
    have hm9 : V 0 0 + (kk : Int) ≤ 43200 → ivM (ruM V N kk) N := fun q => rnG_iv (miM_iv hm2).1 (by rw [(miM_iv hm2).2]; exact q)
    refine dp_aload_n C dX7_ifRun_14 rfl ?_
    refine dp_getf C (k := 0) (dp_mM (by decide)) dp_xmo rfl hX7 (by decide) (List.mem_of_getElem? (i := 2) rfl) rfl dX7_ifRun_15 ?_
    refine dp_iconst C dX7_ifRun_18 ?_
    refine dp_ald_ms C (j := 4) ⟨by omega, by omega⟩ rfl (c9 := 0) (k9 := 0) rfl rfl dX7_ifRun_19 ?_
    refine dp_iload_n C dX7_ifRun_20 rfl ?_
    refine dp_iadd C dX7_ifRun_21 ?_
    refine dp_ldc C (43200) (List.mem_of_getElem? (i := 3) rfl) rfl dX7_ifRun_22 ?_
    refine dp_icmp_le (tgt := 30) C dX7_ifRun_24 (by decide) ⟨by omega, by omega⟩ ⟨by omega, by omega⟩ (fun c24 => ?_) (fun c24 => ?_)
    · skip
      refine dp_aload_n C dX7_ifRun_30 rfl ?_
      refine dp_aload_n C dX7_ifRun_31 rfl ?_
      refine dp_getf C (k := 2) (dp_mM (by decide)) dp_xmo rfl hX7 (by decide) (List.mem_of_getElem? (i := 5) rfl) rfl dX7_ifRun_32 ?_
      refine dp_aload_n C dX7_ifRun_35 rfl ?_
      refine dp_getf C (k := 0) (dp_mM (by decide)) dp_xmo rfl hX7 (by decide) (List.mem_of_getElem? (i := 2) rfl) rfl dX7_ifRun_36 ?_
      refine dp_cVv C (c_X7_copies C.2.2.1 l ) gX7_ifRun_X7_copies rfl (dp_mM (by decide)) dp_xmo rfl yyX7_copies rfl ⟨Nat.le_of_ble_eq_true rfl, Nat.le_of_ble_eq_true rfl⟩ rfl (Nat.le_of_ble_eq_true rfl) rfl ⟨Nat.zero_le _, Nat.zero_le _⟩ dX7_ifRun_39 (fun M39 h39 => ?_)
      obtain rfl := h39
      refine dp_aload_n C dX7_ifRun_42 rfl ?_
      refine dp_iload_n C dX7_ifRun_43 rfl ?_
      refine dp_cVi C (c_X7_runs C.2.2.1 l hm2 (kk := kk) (by omega)) gX7_ifRun_X7_runs rfl (dp_mM (by decide)) dp_xmo rfl yyX7_runs rfl ⟨Nat.le_of_ble_eq_true rfl, Nat.le_of_ble_eq_true rfl⟩ rfl (Nat.le_of_ble_eq_true rfl) rfl ⟨Nat.zero_le _, Nat.zero_le _⟩ dX7_ifRun_44 (fun x44 M44 h44 => ?_)
      obtain ⟨rfl, X9, rfl, hs9⟩ := h44
      refine dp_pop C dX7_ifRun_47 rfl ?_
      refine dp_aload_n C dX7_ifRun_48 rfl ?_
      refine dp_iconst C dX7_ifRun_49 ?_
      refine dp_cVi C (c_X7_manyIn C.2.2.1 l (hm9 (by omega)) ⟨by decide, by decide⟩) gX7_ifRun_X7_manyIn rfl (dp_mM (by decide)) dp_xmo rfl yyX7_manyIn rfl ⟨Nat.le_of_ble_eq_true rfl, Nat.le_of_ble_eq_true rfl⟩ rfl (Nat.le_of_ble_eq_true rfl) rfl ⟨Nat.zero_le _, Nat.zero_le _⟩ dX7_ifRun_50 (fun x50 M50 h50 => ?_)
      obtain ⟨rfl, rfl⟩ := h50
      refine dp_istore_n C dX7_ifRun_53 (Nat.le_of_ble_eq_true rfl) ?_
      dsimp only [List.set]
      refine dp_aload_n C dX7_ifRun_54 rfl ?_
      refine dp_aload_n C dX7_ifRun_55 rfl ?_
      refine dp_getf C (k := 0) (dp_mM (by decide)) dp_xmo rfl hX7 (by decide) (List.mem_of_getElem? (i := 2) rfl) rfl dX7_ifRun_56 ?_
      refine dp_aload_n C dX7_ifRun_59 rfl ?_
      refine dp_getf C (k := 2) (dp_mM (by decide)) dp_xmo rfl hX7 (by decide) (List.mem_of_getElem? (i := 5) rfl) rfl dX7_ifRun_60 ?_
      refine dp_cVv C (c_X7_copiesB C.2.2.1 l ) gX7_ifRun_X7_copies rfl (dp_mM (by decide)) dp_xmo rfl yyX7_copies rfl ⟨Nat.le_of_ble_eq_true rfl, Nat.le_of_ble_eq_true rfl⟩ rfl (Nat.le_of_ble_eq_true rfl) rfl ⟨Nat.zero_le _, Nat.zero_le _⟩ dX7_ifRun_63 (fun M63 h63 => ?_)
      obtain rfl := h63
      rw [dR_same]
      refine dp_iload_n C dX7_ifRun_66 rfl ?_
      refine dp_iret C hret dX7_ifRun_67 ?_
      first | exact ⟨by rw [if_pos (by omega), if_neg (by omega), Int.toNat_natCast], Or.inr ⟨⟨by omega, by omega⟩, X9, rfl, hs9⟩⟩ | exact ⟨by rw [if_pos (by omega), if_pos (by omega)], Or.inl ⟨fun q => absurd q.2 (by omega), rfl⟩⟩ | exact ⟨by rw [if_neg (by omega)], Or.inl ⟨fun q => absurd q.1 (by omega), rfl⟩⟩
    · skip
      refine dp_ldc C (-100003) (List.mem_of_getElem? (i := 4) rfl) rfl dX7_ifRun_27 ?_
      refine dp_iret C hret dX7_ifRun_29 ?_
      first | exact ⟨by rw [if_pos (by omega), if_neg (by omega), Int.toNat_natCast], Or.inr ⟨⟨by omega, by omega⟩, X9, rfl, hs9⟩⟩ | exact ⟨by rw [if_pos (by omega), if_pos (by omega)], Or.inl ⟨fun q => absurd q.2 (by omega), rfl⟩⟩ | exact ⟨by rw [if_neg (by omega)], Or.inl ⟨fun q => absurd q.1 (by omega), rfl⟩⟩
  · skip
    refine dp_ldc C (-100001) (List.mem_of_getElem? (i := 1) rfl) rfl dX7_ifRun_11 ?_
    refine dp_iret C hret dX7_ifRun_13 ?_
    first | exact ⟨by rw [if_pos (by omega), if_neg (by omega), Int.toNat_natCast], Or.inr ⟨⟨by omega, by omega⟩, X9, rfl, hs9⟩⟩ | exact ⟨by rw [if_pos (by omega), if_pos (by omega)], Or.inl ⟨fun q => absurd q.2 (by omega), rfl⟩⟩ | exact ⟨by rw [if_neg (by omega)], Or.inl ⟨fun q => absurd q.1 (by omega), rfl⟩⟩
