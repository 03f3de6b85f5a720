/-! THE REFERENCE'S STATES BEFORE: was, five rows of 193 -/
def ix (c k : Nat) : Nat := if c = 1 then k else if c = 0 then k + 4 else if c = 2 then k + 8 else if c = 3 then k + 39 else if c = 4 then k + 46 else 53 + 14 * (c - 6) + k
theorem ix_cs {i : Nat} (h : i < 193) : ix (dp_ce i) (dp_sl i) = i := by
  unfold dp_ce dp_sl
  by_cases h1 : i < 4
  · rw [if_pos h1, if_pos h1]; rfl
  · rw [if_neg h1, if_neg h1]
    by_cases h2 : i < 8
    · rw [if_pos h2, if_pos h2]; show i - 4 + 4 = i; omega
    · rw [if_neg h2, if_neg h2]
      by_cases h3 : i < 39
      · rw [if_pos h3, if_pos h3]; show i - 8 + 8 = i; omega
      · rw [if_neg h3, if_neg h3]
        by_cases h4 : i < 46
        · rw [if_pos h4, if_pos h4]; show i - 39 + 39 = i; omega
        · rw [if_neg h4, if_neg h4]
          by_cases h5 : i < 53
          · rw [if_pos h5, if_pos h5]; show i - 46 + 46 = i; omega
          · rw [if_neg h5, if_neg h5]
            unfold ix
            rw [if_neg (by omega), if_neg (by omega), if_neg (by omega), if_neg (by omega), if_neg (by omega)]
            omega
def ixV (h : Nat → Int) : dp_V := fun c k => h (ix c k)
theorem fl_ix {h : Nat → Int} {i : Nat} (hi : i < 193) : dp_fl (ixV h) i = h i := by
  unfold dp_fl ixV
  rw [ix_cs hi]
def wasM (M : dp_M) (h : Nat → Int) : dp_M := fun r => if 40 ≤ r then ixV (fun i => h (193 * (r - 40) + i)) else M r
/-- what was holds -/
def waF (M : dp_M) (i : Nat) : Int := dp_fl (M (40 + i / 193)) (i % 193)
theorem waF_was {M : dp_M} {V X : dp_V} {h : Nat → Int} : waF (dN (wasM M h) V X) = h := by
  funext i
  unfold waF
  rw [dN_ne (by omega) (by omega)]
  unfold wasM
  rw [if_pos (by omega), fl_ix (Nat.mod_lt _ (by decide))]
  congr 1
  omega
theorem dp_xwa {E : dp_E} {M : dp_M} : dp_x E M 8 2 = dp_ints (eI E) 965 (waF M) := rfl
theorem dp_xww {E : dp_E} {M : dp_M} {V X : dp_V} {h : Nat → Int} : dp_x E (dN (wasM M h) V X) 8 2 = dp_ints (eI E) 965 h := by rw [dp_xwa, waF_was]
/-- memories that differ in was alone -/
theorem dp_frW {E : dp_E} {M M' : dp_M} (h : ∀ r, r < 40 → M' r = M r) : ∀ r' c', (r', c') ∈ dp_ps → (r', c') ≠ (8, 2) → dp_x E M' r' c' = dp_x E M r' c' := by
  intro r' c' hm hne
  by_cases e : r' = 8
  · subst e
    have hl : c' < 6 := by
      rcases dp_mem.mp hm with ⟨a, -⟩ | ⟨a, -⟩ | ⟨-, b⟩
      · omega
      · omega
      · exact b
    have hc : c' ≠ 2 := fun q => hne (by rw [q])
    rw [dp_x_M, dp_x_M]
    unfold dp_xM
    rw [h 8 (by decide), h 9 (by decide), h 10 (by decide)]
    rcases (by omega : c' = 0 ∨ c' = 1 ∨ c' = 3 ∨ c' = 4 ∨ c' = 5) with rfl | rfl | rfl | rfl | rfl <;> rfl
  · refine dp_frX hm (fun q => ?_) (fun q => ?_) (fun q => absurd q e)
    · exact ⟨h _ (by omega), h _ (by omega)⟩
    · exact h _ (by omega)
theorem dp_cvw {E : dp_E} {M M' : dp_M} {H : Heap} (h : ∀ r, r < 40 → M' r = M r) (hw : ∀ i, i < 965 → waF M i = waF M' i) (hW : dp_W E M H) : dp_W E M' H := by
  refine hW.eqv (fun r c hm => ?_)
  by_cases e : (r, c) = (8, 2)
  · cases e
    rw [dp_xwa, dp_xwa]
    exact Or.inr (fun H q => dp_at_ints hw q)
  · exact Or.inl (dp_frW h r c hm e).symm
theorem dN_lt {M M' : dp_M} {V X : dp_V} {r : Nat} (h : M' r = M r) : dN M' V X r = dN M V X r := by
  by_cases a : r = 9
  · subst a; rw [dN_V, dN_V]
  · by_cases b : r = 8
    · subst b; rw [dN_X, dN_X]
    · rw [dN_ne a b, dN_ne a b, h]
theorem wasM_lt {M : dp_M} {h : Nat → Int} {r : Nat} (hr : r < 40) : wasM M h r = M r := if_neg (by omega)
/-- the state before a change is recorded -/
def rsX (X : dp_V) : dp_V := u2 X 0 0 (if X 0 0 = 5 then 5 else X 0 0 + 1)
def rnW (M : dp_M) (V X : dp_V) : dp_M := if X 0 0 = 5 then (fun r => if 40 ≤ r then (if r = 44 then V else M (r + 1)) else M r) else dR M (40 + (X 0 0).toNat) V
def rnM (M : dp_M) (V X V' : dp_V) : dp_M := dN (rnW M V X) V' (rsX X)
theorem rnW_lt {M : dp_M} {V X : dp_V} {r : Nat} (hr : r < 40) : rnW M V X r = M r := by
  unfold rnW
  split
  · exact if_neg (by omega)
  · exact dR_ne (by omega)
theorem rnW_hi {M : dp_M} {V X : dp_V} {r : Nat} (h5 : X 0 0 = 5) (hr : 40 ≤ r) : rnW M V X r = if r = 44 then V else M (r + 1) := by
  unfold rnW
  rw [if_pos h5]
  exact if_pos hr
theorem u2_0 {X : dp_V} {x y : Int} : u2 (u2 X 0 0 x) 0 0 y = u2 X 0 0 y := by
  funext c k
  simp only [u2_ap]
  split <;> (try split) <;> rfl
theorem dp_iald_w {E : dp_E} (dummy : True) : True := trivial
theorem yyX7_records : yX7_records.cls = RX7 ∧ yX7_records.cls ≠ "java/lang/invoke/MethodHandle" ∧ yX7_records.cls ≠ "java/lang/invoke/VarHandle" ∧ (parseMethodDescriptor yX7_records.desc).map (fun d => d.parameters.length) = some 0 := by decide +kernel
set_option maxHeartbeats 4000000 in
set_option maxRecDepth 100000 in
theorem c_X7_records {E : dp_E} (hE : dp_OK E) (l : Launch) {M : dp_M} {V X : dp_V} (hs : 0 ≤ X 0 0 ∧ X 0 0 ≤ 5) : dp_met E l yX7_records wsX7_records 0 0 [.ref (eAd E 8 0)] (dN M V X) (dp_qv E (fun M1 => M1 = rnM M V X V)) := by
  refine dp_of (cc := cX7_records) (nL := 2) (own := RX7) (ret := none) (by decide +kernel) rfl rfl hE (by simp [Value.category]) (Nat.le_of_ble_eq_true rfl) ?_
  intro p e s m below meth co C hret
  show dp_G _ _ _ _ _ _ _ _ _ _ _ _ _ _ _ _ _ [some (.ref (eAd E 8 0)), none] _
  have hX7 : ∀ w ∈ u_ws RX7 TX7 12, w ∈ wsX7_records := fun w h => List.mem_cons_of_mem _ (List.mem_append_right _ (h))
  have hfA : ¬ X 0 0 = 5 → ∀ h : Nat → Int, (∀ i, i < 965 → h i = (if 193 * (X 0 0).toNat ≤ i ∧ i < 193 * (X 0 0).toNat + 193 then dp_fl V (i - 193 * (X 0 0).toNat) else waF (dN M V X) i)) → ∀ H, dp_W E (dN (wasM M h) V (u2 X 0 0 (X 0 0 + 1))) H → dp_W E (rnM M V X V) H := by
    intro h5 h hh H hW
    unfold rnM rsX
    rw [if_neg h5]
    refine dp_cvw (fun r hr => dN_lt (by rw [wasM_lt hr, rnW_lt hr])) (fun i hi => ?_) hW
    rw [waF_was, hh i hi]
    unfold waF rnW
    rw [if_neg h5, dN_ne (by omega) (by omega), dN_ne (by omega) (by omega)]
    by_cases e : 193 * (X 0 0).toNat ≤ i ∧ i < 193 * (X 0 0).toNat + 193
    · rw [if_pos e, show 40 + i / 193 = 40 + (X 0 0).toNat by omega, dR_same]
      congr 1
      omega
    · rw [if_neg e, dR_ne (by omega)]
  have hfB : X 0 0 = 5 → ∀ h : Nat → Int, (∀ i, i < 965 → h i = (if 193 * 4 ≤ i ∧ i < 193 * 4 + 193 then dp_fl V (i - 193 * 4) else (if i < 772 then waF (dN M V X) (i + 193) else waF (dN M V X) i))) → ∀ H, dp_W E (dN (wasM M h) V (u2 (u2 X 0 0 (X 0 0 - 1)) 0 0 (u2 X 0 0 (X 0 0 - 1) 0 0 + 1))) H → dp_W E (rnM M V X V) H := by
    intro h5 h hh H hW
    have e1 : u2 X 0 0 (X 0 0 - 1) 0 0 + 1 = 5 := by rw [u2_same, u1_same]; omega
    rw [u2_0, e1] at hW
    unfold rnM rsX
    rw [if_pos h5]
    refine dp_cvw (fun r hr => dN_lt (by rw [wasM_lt hr, rnW_lt hr])) (fun i hi => ?_) hW
    rw [waF_was, hh i hi]
    have e2 : waF (dN (rnW M V X) V (u2 X 0 0 5)) i = dp_fl (if 40 + i / 193 = 44 then V else M (40 + i / 193 + 1)) (i % 193) := by
      unfold waF
      rw [dN_ne (by omega) (by omega), rnW_hi h5 (by omega)]
    rw [e2]
    by_cases e : 193 * 4 ≤ i ∧ i < 193 * 4 + 193
    · rw [if_pos e, if_pos (by omega)]
      congr 1
      omega
    · rw [if_neg e, if_pos (by omega), if_neg (by omega)]
      unfold waF
      rw [dN_ne (by omega) (by omega), show 40 + (i + 193) / 193 = 40 + i / 193 + 1 by omega]
      congr 1
      omega
  have J51 : ∀ (n k : Nat) (ki : Int) (h g : Nat → Int) (X' : dp_V) (n0 : Nat), k + n = 193 → ki = k → n0 < 5 → X' 0 0 = n0 → (∀ i, i < 965 → h i = (if 193 * n0 ≤ i ∧ i < 193 * n0 + k then dp_fl V (i - 193 * n0) else g i)) → (∀ h, (∀ i, i < 965 → h i = (if 193 * n0 ≤ i ∧ i < 193 * n0 + 193 then dp_fl V (i - 193 * n0) else g i)) → ∀ H, dp_W E (dN (wasM M h) V (u2 X' 0 0 (X' 0 0 + 1))) H → dp_W E (rnM M V X V) H) → dp_G E (dp_A E) p l e (dp_rm 0 0) s m [.ref (eAd E 8 0)].toArray below meth co 0 0 (MQ below (dp_qv E (fun M1 => M1 = rnM M V X V)) [.ref (eAd E 8 0)].toArray s 0 0 (dp_A E)) (dN (wasM M h) V X') 51 [some (.ref (eAd E 8 0)), some (.int (dp_I ki))] [] := by
    refine dp_ind (fun n ih => ?_)
    intro k ki h g X' n0 hkn hki hn0 hX hh hfin
    refine dp_iload_n C dX7_records_51 rfl ?_
    refine dp_sipush C dX7_records_52 (by decide) ?_
    refine dp_icmp_ge (tgt := 85) C dX7_records_55 (by decide) ⟨by omega, by omega⟩ ⟨by omega, by omega⟩ (fun c55 => ?_) (fun c55 => ?_)
    · skip
      obtain rfl : n = 0 := by omega
      refine dp_aload_n C dX7_records_85 rfl ?_
      refine dp_dup C dX7_records_86 rfl ?_
      refine dp_getf C (k := 3) (dp_mM (by decide)) dp_xmo rfl hX7 (by decide) (List.mem_of_getElem? (i := 1) rfl) rfl dX7_records_87 ?_
      refine dp_iconst C dX7_records_90 ?_
      refine dp_iadd C dX7_records_91 ?_
      refine dp_putM C  (k := 0) hX7 (by decide) (List.mem_of_getElem? (i := 1) rfl) rfl (tyX7_ok _ (by decide)) rfl rfl dX7_records_92 ?_
      refine dp_cv (hfin h (fun i hi => by rw [hh i hi, show k = 193 by omega])) ?_
      refine dp_vret C hret dX7_records_95 ?_
      rfl
    · skip
      obtain ⟨n, rfl⟩ : ∃ n', n = n' + 1 := ⟨n - 1, by omega⟩
      refine dp_aload_n C dX7_records_58 rfl ?_
      refine dp_getf C (k := 1) (dp_mM (by decide)) dp_xmo rfl hX7 (by decide) (List.mem_of_getElem? (i := 2) rfl) rfl dX7_records_59 ?_
      refine dp_sipush C dX7_records_62 (by decide) ?_
      refine dp_aload_n C dX7_records_65 rfl ?_
      refine dp_getf C (k := 3) (dp_mM (by decide)) dp_xmo rfl hX7 (by decide) (List.mem_of_getElem? (i := 1) rfl) rfl dX7_records_66 ?_
      refine dp_imul C dX7_records_69 ?_
      refine dp_iload_n C dX7_records_70 rfl ?_
      refine dp_iadd C dX7_records_71 ?_
      refine dp_aload_n C dX7_records_72 rfl ?_
      refine dp_getf C (k := 0) (dp_mM (by decide)) dp_xmo rfl hX7 (by decide) (List.mem_of_getElem? (i := 3) rfl) rfl dX7_records_73 ?_
      refine dp_iload_n C dX7_records_76 rfl ?_
      refine dp_ald_ms C (j := k) ⟨by omega, by omega⟩ (show ki.toNat = k by omega) (c9 := (dp_ce k)) (k9 := (dp_sl k)) rfl rfl dX7_records_77 ?_
      refine dp_iast (M' := dN (wasM M (u1 h (193 * X' 0 0 + ki).toNat (V (dp_ce k) (dp_sl k)))) V X') C (dp_mM (by decide)) dp_xww ⟨by omega, by omega⟩ (by decide) dp_xww (dp_frW (fun r hr => dN_lt (by rw [wasM_lt hr, wasM_lt hr]))) dX7_records_78 ?_
      refine dp_iinc C dX7_records_79 rfl ?_
      dsimp only [List.set]
      refine dp_goto (tgt := 51) C dX7_records_82 (by decide) ?_
      exact ih n (by omega) (k + 1) _ _ g _ n0 (by omega) (by omega) hn0 hX (fun i hi => by
        unfold u1
        by_cases e : i = (193 * X' 0 0 + ki).toNat
        · rw [if_pos e, if_pos (by omega), show i - 193 * n0 = k by omega]; rfl
        · rw [if_neg e, hh i hi]
          by_cases e2 : 193 * n0 ≤ i ∧ i < 193 * n0 + k
          · rw [if_pos e2, if_pos (by omega)]
          · rw [if_neg e2, if_neg (by omega)]) hfin
  have J10 : ∀ (n k : Nat) (ki : Int) (h : Nat → Int), k + n = 772 → ki = k → X 0 0 = 5 → (∀ i, i < 965 → h i = (if i < k then waF (dN M V X) (i + 193) else waF (dN M V X) i)) → dp_G E (dp_A E) p l e (dp_rm 0 0) s m [.ref (eAd E 8 0)].toArray below meth co 0 0 (MQ below (dp_qv E (fun M1 => M1 = rnM M V X V)) [.ref (eAd E 8 0)].toArray s 0 0 (dp_A E)) (dN (wasM M h) V X) 10 [some (.ref (eAd E 8 0)), some (.int (dp_I ki))] [] := by
    refine dp_ind (fun n ih => ?_)
    intro k ki h hkn hki hX5 hh
    refine dp_iload_n C dX7_records_10 rfl ?_
    refine dp_sipush C dX7_records_11 (by decide) ?_
    refine dp_icmp_ge (tgt := 39) C dX7_records_14 (by decide) ⟨by omega, by omega⟩ ⟨by omega, by omega⟩ (fun c14 => ?_) (fun c14 => ?_)
    · skip
      obtain rfl : n = 0 := by omega
      obtain rfl : k = 772 := by omega
      refine dp_aload_n C dX7_records_39 rfl ?_
      refine dp_dup C dX7_records_40 rfl ?_
      refine dp_getf C (k := 3) (dp_mM (by decide)) dp_xmo rfl hX7 (by decide) (List.mem_of_getElem? (i := 1) rfl) rfl dX7_records_41 ?_
      refine dp_iconst C dX7_records_44 ?_
      refine dp_isub C dX7_records_45 ?_
      refine dp_putM C  (k := 0) hX7 (by decide) (List.mem_of_getElem? (i := 1) rfl) rfl (tyX7_ok _ (by decide)) rfl rfl dX7_records_46 ?_
      refine dp_iconst C dX7_records_49 ?_
      refine dp_istore_n C dX7_records_50 (Nat.le_of_ble_eq_true rfl) ?_
      dsimp only [List.set]
      exact J51 193 0 _ _ (fun i => if i < 772 then waF (dN M V X) (i + 193) else waF (dN M V X) i) _ 4 (by omega) rfl (by omega) (by rw [u2_same, u1_same]; omega) (fun i hi => by rw [if_neg (by omega)]; exact hh i hi) (hfB hX5)
    · skip
      obtain ⟨n, rfl⟩ : ∃ n', n = n' + 1 := ⟨n - 1, by omega⟩
      refine dp_aload_n C dX7_records_17 rfl ?_
      refine dp_getf C (k := 1) (dp_mM (by decide)) dp_xmo rfl hX7 (by decide) (List.mem_of_getElem? (i := 2) rfl) rfl dX7_records_18 ?_
      refine dp_iload_n C dX7_records_21 rfl ?_
      refine dp_aload_n C dX7_records_22 rfl ?_
      refine dp_getf C (k := 1) (dp_mM (by decide)) dp_xmo rfl hX7 (by decide) (List.mem_of_getElem? (i := 2) rfl) rfl dX7_records_23 ?_
      refine dp_iload_n C dX7_records_26 rfl ?_
      refine dp_sipush C dX7_records_27 (by decide) ?_
      refine dp_iadd C dX7_records_30 ?_
      refine dp_iald (j := (ki + 193).toNat) C (dp_mM (by decide)) dp_xww ⟨by omega, by omega⟩ (by decide) rfl dX7_records_31 ?_
      refine dp_iast (M' := dN (wasM M (u1 h ki.toNat (h (ki + 193).toNat))) V X) C (dp_mM (by decide)) dp_xww ⟨by omega, by omega⟩ (by decide) dp_xww (dp_frW (fun r hr => dN_lt (by rw [wasM_lt hr, wasM_lt hr]))) dX7_records_32 ?_
      refine dp_iinc C dX7_records_33 rfl ?_
      dsimp only [List.set]
      refine dp_goto (tgt := 10) C dX7_records_36 (by decide) ?_
      exact ih n (by omega) (k + 1) _ _ (by omega) (by omega) hX5 (fun i hi => by
        unfold u1
        by_cases e : i = ki.toNat
        · rw [if_pos e, if_pos (by omega), hh _ (by omega), if_neg (by omega)]
          congr 1
          omega
        · rw [if_neg e, hh i hi]
          by_cases e2 : i < k
          · rw [if_pos e2, if_pos (by omega)]
          · rw [if_neg e2, if_neg (by omega)])
  refine dp_aload_n C dX7_records_0 rfl ?_
  refine dp_cv (M' := dN (wasM M (waF (dN M V X))) V X) (fun H hW => dp_cvw (fun r hr => dN_lt (wasM_lt hr)) (fun i hi => by rw [waF_was]) hW) ?_
  refine dp_getf C (k := 3) (dp_mM (by decide)) dp_xmo rfl hX7 (by decide) (List.mem_of_getElem? (i := 1) rfl) rfl dX7_records_1 ?_
  refine dp_iconst C dX7_records_4 ?_
  refine dp_icmp_ne (tgt := 49) C dX7_records_5 (by decide) ⟨by omega, by omega⟩ ⟨by omega, by omega⟩ (fun c5 => ?_) (fun c5 => ?_)
  · skip
    refine dp_iconst C dX7_records_49 ?_
    refine dp_istore_n C dX7_records_50 (Nat.le_of_ble_eq_true rfl) ?_
    dsimp only [List.set]
    first | exact J51 193 0 _ _ (waF (dN M V X)) _ (X 0 0).toNat (by omega) rfl (by omega) (by omega) (fun i hi => by rw [if_neg (by omega)]) (hfA c5) | exact J51 193 0 _ _ (fun i => if i < 772 then waF (dN M V X) (i + 193) else waF (dN M V X) i) _ 4 (by omega) rfl (by omega) (by rw [u2_same, u1_same]; omega) (fun i hi => by rw [if_neg (by omega)]; exact hh i hi) (hfB hX5)
  · skip
    refine dp_iconst C dX7_records_8 ?_
    refine dp_istore_n C dX7_records_9 (Nat.le_of_ble_eq_true rfl) ?_
    dsimp only [List.set]
    exact J10 772 0 _ _ (by omega) rfl (by omega) (fun i hi => by rw [if_neg (by omega)])
