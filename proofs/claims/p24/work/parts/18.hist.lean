/-! THE HISTORY: cell 1 of region 7 holds its size, cell 2 the regions of its states, in their order -/
def rotP (f : Nat → Int) : Nat → Int := fun i => if i < 4 then f (i + 1) else if i = 4 then f 0 else f i
def shP (k : Nat) (f : Nat → Int) : Nat → Int := fun i => if i < k then f (i + 1) else f i
/-- the oldest one dropped -/
def drX (X : dp_V) : dp_V := u2 (uc X 2 (rotP (X 2))) 1 0 4
def rcX (X : dp_V) : dp_V := if X 1 0 < 5 then X else drX X
/-- where the next state goes -/
def rcJ (X : dp_V) : Nat := (rcX X 2 (rcX X 1 0).toNat).toNat
/-- a state recorded, out of region 0 -/
def rcM (M : dp_M) (X : dp_V) : dp_M := dR (dR M (rcJ X) (M 0)) 7 (u2 (rcX X) 1 0 (rcX X 1 0 + 1))
/-- the latest one restored, into region 0 -/
def reM (M : dp_M) (X : dp_V) : dp_M := dR (dR M 0 (M (X 2 (X 1 0 - 1).toNat).toNat)) 7 (u2 X 1 0 (X 1 0 - 1))
def hOK (X : dp_V) : Prop := 0 ≤ X 1 0 ∧ X 1 0 ≤ 5 ∧ ∀ i, i < 5 → 2 ≤ X 2 i ∧ X 2 i ≤ 6
theorem rcX_ok {X : dp_V} (h : hOK X) : hOK (rcX X) ∧ rcX X 1 0 ≤ 4 := by
  unfold rcX
  split
  · exact ⟨h, by omega⟩
  · have e1 : drX X 1 0 = 4 := by unfold drX; rw [u2_same, u1_same]
    have e2 : drX X 2 = rotP (X 2) := by unfold drX; rw [u2_ne (by decide), uc_same]
    refine ⟨⟨by omega, by omega, fun i hi => ?_⟩, by omega⟩
    rw [e2]
    unfold rotP
    split
    · exact h.2.2 _ (by omega)
    · split
      · exact h.2.2 _ (by omega)
      · exact h.2.2 _ hi
theorem rcJ_ok {X : dp_V} (h : hOK X) : 2 ≤ rcJ X ∧ rcJ X ≤ 6 := by
  obtain ⟨a, b⟩ := rcX_ok h
  have := a.2.2 (rcX X 1 0).toNat (by have := a.1; omega)
  unfold rcJ
  omega
theorem dS_dR (M : dp_M) (r : Nat) (V : dp_V) : dS M r V (M (r + 20)) = dR M r V := by
  funext r'
  unfold dS dR
  split
  · next h => rw [h, if_neg (by omega)]
  · rfl
theorem dR_dR2 {M : dp_M} {a b : Nat} {A V B : dp_V} (h : a ≠ b) : dR (dR (dR M a A) b V) a B = dR (dR M b V) a B := by
  funext r'
  unfold dR
  split
  · rfl
  · split
    · rfl
    · rfl
theorem yyX1_dropOldest : yX1_dropOldest.cls = RX1 ∧ yX1_dropOldest.cls ≠ "java/lang/invoke/MethodHandle" ∧ yX1_dropOldest.cls ≠ "java/lang/invoke/VarHandle" ∧ (parseMethodDescriptor yX1_dropOldest.desc).map (fun d => d.parameters.length) = some 0 := by decide +kernel
set_option maxHeartbeats 4000000 in
set_option maxRecDepth 100000 in
theorem c_X1_dropOldest {E : dp_E} (hE : dp_OK E) (l : Launch) {M : dp_M} {X : dp_V} (h : hOK X) : dp_met E l yX1_dropOldest wsX1_dropOldest 0 0 [.ref (eAd E 7 1)] (dR M 7 X) (dp_qv E (fun M1 => M1 = dR M 7 (drX X))) := by
  refine dp_of (cc := cX1_dropOldest) (nL := 3) (own := RX1) (ret := none) (by decide +kernel) rfl rfl hE (by simp [Value.category]) (Nat.le_of_ble_eq_true rfl) ?_
  intro p e s m below meth co C hret
  show dp_G _ _ _ _ _ _ _ _ _ _ _ _ _ _ _ _ _ [some (.ref (eAd E 7 1)), none, none] _
  have hX1 : ∀ w ∈ u_ws RX1 TX1 2, w ∈ wsX1_dropOldest := fun w h => List.mem_cons_of_mem _ (List.mem_append_right _ (h))
  have h0 := h.2.2 0 (by omega)
  have J9 : ∀ (n k : Nat) (ki : Int), k + n = 4 → ki = k → dp_G E (dp_A E) p l e (dp_rm 0 0) s m [.ref (eAd E 7 1)].toArray below meth co 0 0 (MQ below (dp_qv E (fun M1 => M1 = dR M 7 (drX X))) [.ref (eAd E 7 1)].toArray s 0 0 (dp_A E)) (dR M 7 (uc X 2 (shP k (X 2)))) 9 [some (.ref (eAd E 7 1)), some (.ref (eAd E (X 2 0).toNat 0)), some (.int (dp_I ki))] [] := by
    refine dp_ind (fun n ih => ?_)
    intro k ki hkn hki
    refine dp_iload_n C dX1_dropOldest_9 rfl ?_
    refine dp_aload_n C dX1_dropOldest_10 rfl ?_
    refine dp_getf C (k := 0) (dp_mC (by decide)) dp_xhi rfl hX1 (by decide) (List.mem_of_getElem? (i := 1) rfl) rfl dX1_dropOldest_11 ?_
    refine dp_alen C (t0 := 3) (dp_mC (by decide)) 5 dp_xsta rfl rfl dX1_dropOldest_14 ?_
    refine dp_iconst C dX1_dropOldest_15 ?_
    refine dp_isub C dX1_dropOldest_16 ?_
    refine dp_icmp_ge (tgt := 40) C dX1_dropOldest_17 (by decide) ⟨by omega, by omega⟩ ⟨by omega, by omega⟩ (fun c17 => ?_) (fun c17 => ?_)
    · skip
      obtain rfl : n = 0 := by omega
      obtain rfl : k = 4 := by omega
      refine dp_aload_n C dX1_dropOldest_40 rfl ?_
      refine dp_getf C (k := 0) (dp_mC (by decide)) dp_xhi rfl hX1 (by decide) (List.mem_of_getElem? (i := 1) rfl) rfl dX1_dropOldest_41 ?_
      refine dp_aload_n C dX1_dropOldest_44 rfl ?_
      refine dp_getf C (k := 0) (dp_mC (by decide)) dp_xhi rfl hX1 (by decide) (List.mem_of_getElem? (i := 1) rfl) rfl dX1_dropOldest_45 ?_
      refine dp_alen C (t0 := 3) (dp_mC (by decide)) 5 dp_xsta rfl rfl dX1_dropOldest_48 ?_
      refine dp_iconst C dX1_dropOldest_49 ?_
      refine dp_isub C dX1_dropOldest_50 ?_
      refine dp_aload_n C dX1_dropOldest_51 rfl ?_
      refine dp_aast_s C ⟨by omega, by omega⟩ (show ((5 : Int) - 1).toNat = 4 from rfl) (show (X 2 0).toNat < 7 by omega) dX1_dropOldest_52 ?_
      have e8 : u2 (uc X 2 (shP 4 (X 2))) 2 4 ((X 2 0).toNat : Int) = uc X 2 (rotP (X 2)) := by
        rw [u2_uc, uc_uc, uc_same]
        congr 1
        funext i
        unfold u1 shP rotP
        by_cases q : i = 4
        · subst q
          rw [if_pos rfl, if_neg (by omega), if_pos rfl]
          omega
        · rw [if_neg q, if_neg q]
      rw [e8]
      refine dp_aload_n C dX1_dropOldest_53 rfl ?_
      refine dp_aload_n C dX1_dropOldest_54 rfl ?_
      refine dp_getf C (k := 0) (dp_mC (by decide)) dp_xhi rfl hX1 (by decide) (List.mem_of_getElem? (i := 1) rfl) rfl dX1_dropOldest_55 ?_
      refine dp_alen C (t0 := 3) (dp_mC (by decide)) 5 dp_xsta rfl rfl dX1_dropOldest_58 ?_
      refine dp_iconst C dX1_dropOldest_59 ?_
      refine dp_isub C dX1_dropOldest_60 ?_
      refine dp_putH C  (k := 0) hX1 (by decide) (List.mem_of_getElem? (i := 2) rfl) rfl (tyX1_ok _ (by decide)) rfl rfl dX1_dropOldest_61 ?_
      refine dp_vret C hret dX1_dropOldest_64 ?_
      rfl
    · skip
      obtain ⟨n, rfl⟩ : ∃ n', n = n' + 1 := ⟨n - 1, by omega⟩
      have hk1 := h.2.2 (k + 1) (by omega)
      have hs1 : shP k (X 2) (k + 1) = X 2 (k + 1) := by unfold shP; rw [if_neg (by omega)]
      refine dp_aload_n C dX1_dropOldest_20 rfl ?_
      refine dp_getf C (k := 0) (dp_mC (by decide)) dp_xhi rfl hX1 (by decide) (List.mem_of_getElem? (i := 1) rfl) rfl dX1_dropOldest_21 ?_
      refine dp_iload_n C dX1_dropOldest_24 rfl ?_
      refine dp_aload_n C dX1_dropOldest_25 rfl ?_
      refine dp_getf C (k := 0) (dp_mC (by decide)) dp_xhi rfl hX1 (by decide) (List.mem_of_getElem? (i := 1) rfl) rfl dX1_dropOldest_26 ?_
      refine dp_iload_n C dX1_dropOldest_29 rfl ?_
      refine dp_iconst C dX1_dropOldest_30 ?_
      refine dp_iadd C dX1_dropOldest_31 ?_
      refine dp_aald_s C ⟨by omega, by omega⟩ (show (ki + 1).toNat = k + 1 by omega) dX1_dropOldest_32 ?_
      rw [uc_same, hs1]
      refine dp_aast_s C ⟨by omega, by omega⟩ (show ki.toNat = k by omega) (show (X 2 (k + 1)).toNat < 7 by omega) dX1_dropOldest_33 ?_
      have e9 : u2 (uc X 2 (shP k (X 2))) 2 k ((X 2 (k + 1)).toNat : Int) = uc X 2 (shP (k + 1) (X 2)) := by
        rw [u2_uc, uc_uc, uc_same]
        congr 1
        funext i
        unfold u1 shP
        by_cases q : i = k
        · subst q
          rw [if_pos rfl, if_pos (by omega)]
          omega
        · rw [if_neg q]
          by_cases q2 : i < k
          · rw [if_pos q2, if_pos (by omega)]
          · rw [if_neg q2, if_neg (by omega)]
      refine dp_iinc C dX1_dropOldest_34 rfl ?_
      dsimp only [List.set]
      refine dp_goto (tgt := 9) C dX1_dropOldest_37 (by decide) ?_
      rw [e9]
      exact ih n (by omega) (k + 1) _ (by omega) (by omega)
  refine dp_aload_n C dX1_dropOldest_0 rfl ?_
  refine dp_getf C (k := 0) (dp_mC (by decide)) dp_xhi rfl hX1 (by decide) (List.mem_of_getElem? (i := 1) rfl) rfl dX1_dropOldest_1 ?_
  refine dp_iconst C dX1_dropOldest_4 ?_
  refine dp_aald_s C ⟨by omega, by omega⟩ rfl dX1_dropOldest_5 ?_
  refine dp_astore_n C dX1_dropOldest_6 (Nat.le_of_ble_eq_true rfl) ?_
  dsimp only [List.set]
  refine dp_iconst C dX1_dropOldest_7 ?_
  refine dp_istore_n C dX1_dropOldest_8 (Nat.le_of_ble_eq_true rfl) ?_
  dsimp only [List.set]
  have e0 : uc X 2 (shP 0 (X 2)) = X := by
    funext c'
    unfold uc
    split
    · next q => rw [q]; rfl
    · rfl
  have j := J9 4 0 0 (by omega) rfl
  rw [e0] at j
  exact j
theorem yyX1_record : yX1_record.cls = RX1 ∧ yX1_record.cls ≠ "java/lang/invoke/MethodHandle" ∧ yX1_record.cls ≠ "java/lang/invoke/VarHandle" ∧ (parseMethodDescriptor yX1_record.desc).map (fun d => d.parameters.length) = some 1 := by decide +kernel
set_option maxHeartbeats 4000000 in
set_option maxRecDepth 100000 in
theorem c_X1_record {E : dp_E} (hE : dp_OK E) (l : Launch) {M : dp_M} {X : dp_V} (h : hOK X) (hz : ∀ t, t < 10 → M 0 (t + 6) 13 = 0 ∨ M 0 (t + 6) 13 = 1) : dp_met E l yX1_record wsX1_record 2 43 [.ref (eAd E 7 1), .ref (eAd E 0 0)] (dR M 7 X) (dp_qv E (fun M1 => M1 = rcM M X)) := by
  refine dp_of (cc := cX1_record) (nL := 2) (own := RX1) (ret := none) (by decide +kernel) rfl rfl hE (by simp [Value.category]) (Nat.le_of_ble_eq_true rfl) ?_
  intro p e s m below meth co C hret
  show dp_G _ _ _ _ _ _ _ _ _ _ _ _ _ _ _ _ _ [some (.ref (eAd E 7 1)), some (.ref (eAd E 0 0))] _
  have hX1 : ∀ w ∈ u_ws RX1 TX1 2, w ∈ wsX1_record := fun w h => List.mem_cons_of_mem _ (List.mem_append_left _ (List.mem_append_left _ (List.mem_append_left _ (List.mem_append_right _ (h)))))
  have hs0 := h.1
  have hs1 := h.2.1
  obtain ⟨hR, hR4⟩ := rcX_ok h
  have hR0 := hR.1
  have hj := rcJ_ok h
  have hRi := hR.2.2 (rcX X 1 0).toNat (by omega)
  have hj7 : rcJ X < 7 := by omega
  have hj0 : 0 ≠ rcJ X := by omega
  have ez : ∀ t, t < 10 → dR M 7 (rcX X) 0 (t + 6) 13 = 0 ∨ dR M 7 (rcX X) 0 (t + 6) 13 = 1 := fun t ht => by rw [dR_ne (by decide)]; exact hz t ht
  have J16 : dp_G E (dp_A E) p l e (dp_rm 2 43) s m [.ref (eAd E 7 1), .ref (eAd E 0 0)].toArray below meth co 0 0 (MQ below (dp_qv E (fun M1 => M1 = rcM M X)) [.ref (eAd E 7 1), .ref (eAd E 0 0)].toArray s 0 0 (dp_A E)) (dR M 7 (rcX X)) 16 [some (.ref (eAd E 7 1)), some (.ref (eAd E 0 0))] [] := by
    skip
    refine dp_aload_n C dX1_record_16 rfl ?_
    refine dp_getf C (k := 0) (dp_mC (by decide)) dp_xhi rfl hX1 (by decide) (List.mem_of_getElem? (i := 2) rfl) rfl dX1_record_17 ?_
    refine dp_aload_n C dX1_record_20 rfl ?_
    refine dp_getf C (k := 1) (dp_mC (by decide)) dp_xhi rfl hX1 (by decide) (List.mem_of_getElem? (i := 1) rfl) rfl dX1_record_21 ?_
    refine dp_aald_s C ⟨by omega, by omega⟩ rfl dX1_record_24 ?_
    refine dp_aload_n C dX1_record_25 rfl ?_
    rw [show (rcX X 2 (rcX X 1 0).toNat).toNat = rcJ X from rfl]
    refine dp_asS (rcJ X) ?_
    refine dp_cVv C (c_X2_copyFrom C.2.2.1 l hj7 (show 0 < 7 by decide) hj0 ez) gX1_record_X2_copyFrom rfl (dp_mS hj7 (by decide)) (dp_xst hj7) rfl yyX2_copyFrom rfl ⟨Nat.le_of_ble_eq_true rfl, Nat.le_of_ble_eq_true rfl⟩ rfl (Nat.le_of_ble_eq_true rfl) rfl ⟨Nat.zero_le _, Nat.zero_le _⟩ dX1_record_26 (fun M26 h26 => ?_)
    obtain rfl := h26
    rw [dS_dR, show dR M 7 (rcX X) 0 = M 0 from dR_ne (by decide)]
    refine dp_asC ?_
    rw [show dR (dR M 7 (rcX X)) (rcJ X) (M 0) 7 = rcX X by rw [dR_ne (by omega), dR_same], dR_dR2 (by omega)]
    refine dp_aload_n C dX1_record_29 rfl ?_
    refine dp_dup C dX1_record_30 rfl ?_
    refine dp_getf C (k := 1) (dp_mC (by decide)) dp_xhi rfl hX1 (by decide) (List.mem_of_getElem? (i := 1) rfl) rfl dX1_record_31 ?_
    refine dp_iconst C dX1_record_34 ?_
    refine dp_iadd C dX1_record_35 ?_
    refine dp_putH C  (k := 0) hX1 (by decide) (List.mem_of_getElem? (i := 1) rfl) rfl (tyX1_ok _ (by decide)) rfl rfl dX1_record_36 ?_
    refine dp_vret C hret dX1_record_39 ?_
    rfl
  refine dp_aload_n C dX1_record_0 rfl ?_
  refine dp_getf C (k := 1) (dp_mC (by decide)) dp_xhi rfl hX1 (by decide) (List.mem_of_getElem? (i := 1) rfl) rfl dX1_record_1 ?_
  refine dp_aload_n C dX1_record_4 rfl ?_
  refine dp_getf C (k := 0) (dp_mC (by decide)) dp_xhi rfl hX1 (by decide) (List.mem_of_getElem? (i := 2) rfl) rfl dX1_record_5 ?_
  refine dp_alen C (t0 := 3) (dp_mC (by decide)) 5 dp_xsta rfl rfl dX1_record_8 ?_
  refine dp_icmp_lt (tgt := 16) C dX1_record_9 (by decide) ⟨by omega, by omega⟩ ⟨by omega, by omega⟩ (fun c9 => ?_) (fun c9 => ?_)
  · skip
    have j := J16
    first | (rw [show rcX X = X by unfold rcX; rw [if_pos (by assumption)]] at j; exact j) | (rw [show rcX X = drX X by unfold rcX; rw [if_neg (by assumption)]] at j; exact j)
  · skip
    refine dp_aload_n C dX1_record_12 rfl ?_
    refine dp_cVv C (c_X1_dropOldest C.2.2.1 l h) gX1_record_X1_dropOldest rfl (dp_mC (by decide)) dp_xhi rfl yyX1_dropOldest rfl ⟨Nat.le_of_ble_eq_true rfl, Nat.le_of_ble_eq_true rfl⟩ rfl (Nat.le_of_ble_eq_true rfl) rfl ⟨Nat.zero_le _, Nat.zero_le _⟩ dX1_record_13 (fun M13 h13 => ?_)
    obtain rfl := h13
    have j := J16
    first | (rw [show rcX X = X by unfold rcX; rw [if_pos (by assumption)]] at j; exact j) | (rw [show rcX X = drX X by unfold rcX; rw [if_neg (by assumption)]] at j; exact j)
