theorem nuv_R {T : dp_V} {s : Int} {i : Nat} : dp_R (nuv T s i) := by
  unfold nuv
  have h1 := @rpG_v T (rtA T s i)
  have h2 := @rpG_v T (rtA T s 5)
  unfold dp_R
  repeat' split
  all_goals omega
theorem irF_R {a b c d e f : Int} : dp_R (irF a b c d e f) := by
  have h : 0 ≤ irF a b c d e f ∧ irF a b c d e f ≤ 1 := dp_b_bd
  exact ⟨by omega, by omega⟩
theorem rdR_a {T : dp_V} {s : Int} (h : rdA T s = -1) : rdR T s = -1 := by
  unfold rdR
  rw [h, sgF_neg, if_neg (by decide)]
theorem rdA_n {T : dp_V} {s : Int} (h : rtA T s 5 = -1) : rdA T s = -1 := by
  unfold rdA
  rw [h, sgF_neg, if_neg (by decide)]
theorem rdA_0 {T : dp_V} {s : Int} (h : ¬ sgF T (rtA T s 5) = 112) : rdA T s = rtA T s 5 := if_neg h
theorem rdA_p {T : dp_V} {s : Int} (h : sgF T (rtA T s 5) = 112) : rdA T s = rtA T s 6 := if_pos h
theorem nuv_0 {T : dp_V} {s : Int} {f : Nat → Int} (hf : ∀ i, i < 5 → f i = (rpG T (rtA T s i) 5 0 0).2) (h5 : f 5 = 0) (h : ¬ sgF T (rtA T s 5) = 112) : ∀ i, i < 6 → f i = nuv T s i := by
  intro i hi
  unfold nuv
  by_cases e : i < 5
  · rw [if_pos e]; exact hf i e
  · rw [if_neg e, if_neg h, show i = 5 by omega]; exact h5
theorem nuv_p {T : dp_V} {s : Int} {f : Nat → Int} (hf : ∀ i, i < 6 → f i = (rpG T (rtA T s i) 5 0 0).2) (h : sgF T (rtA T s 5) = 112) : ∀ i, i < 6 → f i = nuv T s i := by
  intro i hi
  unfold nuv
  by_cases e : i < 5
  · rw [if_pos e]; exact hf i hi
  · rw [if_neg e, if_pos h, show i = 5 by omega]; exact hf 5 (by decide)
theorem yyX7_reason : yX7_reason.cls = RX7 ∧ yX7_reason.cls ≠ "java/lang/invoke/MethodHandle" ∧ yX7_reason.cls ≠ "java/lang/invoke/VarHandle" ∧ (parseMethodDescriptor yX7_reason.desc).map (fun d => d.parameters.length) = some 1 := by decide +kernel
set_option maxHeartbeats 4000000 in
set_option maxRecDepth 100000 in
theorem c_X7_reason {E : dp_E} (hE : dp_OK E) (l : Launch) {M : dp_M} {V X : dp_V} (hT : tOK (mT X)) (hat : 0 ≤ X 0 5 ∧ X 0 5 ≤ X 0 1) {rm : Int} (hrm : -100 ≤ rm ∧ rm ≤ 100) : dp_met E l yX7_reason wsX7_reason 3 68 [.ref (eAd E 8 0), .int (dp_I rm)] (dN M V X) (dp_qi E (fun y M1 => y = (if rdR (mT X) (X 0 5) = -1 then 1 else if iru (mT X) (X 0 5) = 0 then 2 else if rm = 0 then 3 else 0) ∧ ∃ X', M1 = dN M V X' ∧ txM X X' ∧ (¬ rdR (mT X) (X 0 5) = -1 → X' 0 5 = rdR (mT X) (X 0 5) ∧ ∀ i, i < 6 → X' 5 i = nuv (mT X) (X 0 5) i))) := by
  refine dp_of (cc := cX7_reason) (nL := 4) (own := RX7) (ret := some (.int)) (by decide +kernel) rfl rfl hE (by simp [Value.category]) (Nat.le_of_ble_eq_true rfl) ?_
  intro p e s m below meth co C hret
  show dp_G _ _ _ _ _ _ _ _ _ _ _ _ _ _ _ _ _ [some (.ref (eAd E 8 0)), some (.int (dp_I rm)), none, none] _
  have hX7 : ∀ w ∈ u_ws RX7 TX7 12, w ∈ wsX7_reason := fun w h => List.mem_cons_of_mem _ (List.mem_append_right _ (h))
  have hT0 : 0 ≤ X 0 1 ∧ X 0 1 ≤ 100 := ⟨hT.1, hT.2.1⟩
  have P0 := PK_0 hat
  obtain ⟨t0, a0, b0, x0, n0⟩ := PK_s P0 hT
  have J146 : ∀ (b h v2 : Int) (X' : dp_V), b = dp_b (¬ rdR (mT X) (X 0 5) = -1) → txM X X' → (¬ rdR (mT X) (X 0 5) = -1 → X' 0 5 + 1 = rdR (mT X) (X 0 5) ∧ ∀ i, i < 6 → X' 5 i = nuv (mT X) (X 0 5) i) → dp_G E (dp_A E) p l e (dp_rm 3 68) s m [.ref (eAd E 8 0), .int (dp_I rm)].toArray below meth co 0 0 (MQ below (dp_qi E (fun y M1 => y = (if rdR (mT X) (X 0 5) = -1 then 1 else if iru (mT X) (X 0 5) = 0 then 2 else if rm = 0 then 3 else 0) ∧ ∃ X', M1 = dN M V X' ∧ txM X X' ∧ (¬ rdR (mT X) (X 0 5) = -1 → X' 0 5 = rdR (mT X) (X 0 5) ∧ ∀ i, i < 6 → X' 5 i = nuv (mT X) (X 0 5) i))) [.ref (eAd E 8 0), .int (dp_I rm)].toArray s 0 0 (dp_A E)) (dN M V X') 146 [some (.ref (eAd E 8 0)), some (.int (dp_I rm)), some (.int (dp_I v2)), some (.int (dp_I h))] [.int (dp_I b)] := by
    intro b h v2 X' hb htx hx
    subst hb
    refine dp_istore_n C dX7_reason_146 (Nat.le_of_ble_eq_true rfl) ?_
    dsimp only [List.set]
    refine dp_iload_n C dX7_reason_147 rfl ?_
    refine dp_ifz_ne (tgt := 153) C dX7_reason_148 (by decide) (fun c148 => ?_) (fun c148 => ?_)
    · skip
      obtain ⟨h5, hnu⟩ := hx c148
      refine dp_aload_n C dX7_reason_153 rfl ?_
      refine dp_dup C dX7_reason_154 rfl ?_
      refine dp_getf C (k := 9) (dp_mM (by decide)) dp_xmo rfl hX7 (by decide) (List.mem_of_getElem? (i := 1) rfl) rfl dX7_reason_155 ?_
      refine dp_iconst C dX7_reason_158 ?_
      refine dp_iadd C dX7_reason_159 ?_
      refine dp_putM C  (k := 5) hX7 (by decide) (List.mem_of_getElem? (i := 1) rfl) rfl (tyX7_ok _ (by decide)) rfl rfl dX7_reason_160 ?_
      refine dp_aload_n C dX7_reason_163 rfl ?_
      refine dp_getf C (k := 10) (dp_mM (by decide)) dp_xmo rfl hX7 (by decide) (List.mem_of_getElem? (i := 4) rfl) rfl dX7_reason_164 ?_
      refine dp_iconst C dX7_reason_167 ?_
      refine dp_ald_mp C (j := 0) ⟨by omega, by omega⟩ rfl dX7_reason_168 ?_
      rw [u2_ne (show 5 ≠ 0 by decide), hnu 0 (by decide)]
      refine dp_aload_n C dX7_reason_169 rfl ?_
      refine dp_getf C (k := 10) (dp_mM (by decide)) dp_xmo rfl hX7 (by decide) (List.mem_of_getElem? (i := 4) rfl) rfl dX7_reason_170 ?_
      refine dp_iconst C dX7_reason_173 ?_
      refine dp_ald_mp C (j := 1) ⟨by omega, by omega⟩ rfl dX7_reason_174 ?_
      rw [u2_ne (show 5 ≠ 0 by decide), hnu 1 (by decide)]
      refine dp_aload_n C dX7_reason_175 rfl ?_
      refine dp_getf C (k := 10) (dp_mM (by decide)) dp_xmo rfl hX7 (by decide) (List.mem_of_getElem? (i := 4) rfl) rfl dX7_reason_176 ?_
      refine dp_iconst C dX7_reason_179 ?_
      refine dp_ald_mp C (j := 2) ⟨by omega, by omega⟩ rfl dX7_reason_180 ?_
      rw [u2_ne (show 5 ≠ 0 by decide), hnu 2 (by decide)]
      refine dp_aload_n C dX7_reason_181 rfl ?_
      refine dp_getf C (k := 10) (dp_mM (by decide)) dp_xmo rfl hX7 (by decide) (List.mem_of_getElem? (i := 4) rfl) rfl dX7_reason_182 ?_
      refine dp_iconst C dX7_reason_185 ?_
      refine dp_ald_mp C (j := 3) ⟨by omega, by omega⟩ rfl dX7_reason_186 ?_
      rw [u2_ne (show 5 ≠ 0 by decide), hnu 3 (by decide)]
      refine dp_aload_n C dX7_reason_187 rfl ?_
      refine dp_getf C (k := 10) (dp_mM (by decide)) dp_xmo rfl hX7 (by decide) (List.mem_of_getElem? (i := 4) rfl) rfl dX7_reason_188 ?_
      refine dp_iconst C dX7_reason_191 ?_
      refine dp_ald_mp C (j := 4) ⟨by omega, by omega⟩ rfl dX7_reason_192 ?_
      rw [u2_ne (show 5 ≠ 0 by decide), hnu 4 (by decide)]
      refine dp_aload_n C dX7_reason_193 rfl ?_
      refine dp_getf C (k := 10) (dp_mM (by decide)) dp_xmo rfl hX7 (by decide) (List.mem_of_getElem? (i := 4) rfl) rfl dX7_reason_194 ?_
      refine dp_iconst C dX7_reason_197 ?_
      refine dp_ald_mp C (j := 5) ⟨by omega, by omega⟩ rfl dX7_reason_198 ?_
      rw [u2_ne (show 5 ≠ 0 by decide), hnu 5 (by decide)]
      refine dp_cSi C (c_X7_isGood C.2.2.1 l nuv_R nuv_R nuv_R nuv_R nuv_R nuv_R) gX7_reason_X7_isGood rfl yyX7_isGood rfl ⟨Nat.le_of_ble_eq_true rfl, Nat.le_of_ble_eq_true rfl⟩ rfl (Nat.le_of_ble_eq_true rfl) rfl ⟨Nat.zero_le _, Nat.zero_le _⟩ dX7_reason_199 (fun x199 M199 h199 => ?_)
      obtain ⟨rfl, rfl⟩ := h199
      refine dp_if_ne (tgt := 207) C dX7_reason_202 (by decide) irF_R (fun c202 => ?_) (fun c202 => ?_)
      · skip
        refine dp_iload_n C dX7_reason_207 rfl ?_
        refine dp_if_ne (tgt := 215) C dX7_reason_208 (by decide) ⟨by omega, by omega⟩ (fun c208 => ?_) (fun c208 => ?_)
        · skip
          refine dp_iconst C dX7_reason_215 ?_
          refine dp_iret C hret dX7_reason_216 ?_
          refine ⟨?_, _, rfl, htx.u0, fun _ => ⟨by rw [u2_same, u1_same, h5], fun i hi => by rw [u2_ne (show 5 ≠ 0 by decide)]; exact hnu i hi⟩⟩
          rw [if_neg c148]
          unfold iru
          first | (rw [if_pos (by assumption)]; done) | (rw [if_neg (by assumption), if_pos (by omega)]; done) | (rw [if_neg (by assumption), if_neg (by omega)])
        · skip
          refine dp_iconst C dX7_reason_211 ?_
          refine dp_goto (tgt := 216) C dX7_reason_212 (by decide) ?_
          refine dp_iret C hret dX7_reason_216 ?_
          refine ⟨?_, _, rfl, htx.u0, fun _ => ⟨by rw [u2_same, u1_same, h5], fun i hi => by rw [u2_ne (show 5 ≠ 0 by decide)]; exact hnu i hi⟩⟩
          rw [if_neg c148]
          unfold iru
          first | (rw [if_pos (by assumption)]; done) | (rw [if_neg (by assumption), if_pos (by omega)]; done) | (rw [if_neg (by assumption), if_neg (by omega)])
      · skip
        refine dp_iconst C dX7_reason_205 ?_
        refine dp_iret C hret dX7_reason_206 ?_
        refine ⟨?_, _, rfl, htx.u0, fun _ => ⟨by rw [u2_same, u1_same, h5], fun i hi => by rw [u2_ne (show 5 ≠ 0 by decide)]; exact hnu i hi⟩⟩
        rw [if_neg c148]
        unfold iru
        first | (rw [if_pos (by assumption)]; done) | (rw [if_neg (by assumption), if_pos (by omega)]; done) | (rw [if_neg (by assumption), if_neg (by omega)])
    · skip
      refine dp_iconst C dX7_reason_151 ?_
      refine dp_iret C hret dX7_reason_152 ?_
      exact ⟨by rw [if_pos (Decidable.not_not.mp c148)], X', rfl, htx, fun q => absurd (Decidable.not_not.mp c148) q⟩
  have J116 : ∀ (h v2 : Int) (X' : dp_V), txM X X' → X' 0 5 = rdA (mT X) (X 0 5) → (0 ≤ X' 0 5 ∧ X' 0 5 ≤ X 0 1) → (∀ i, i < 6 → X' 5 i = nuv (mT X) (X 0 5) i) → dp_G E (dp_A E) p l e (dp_rm 3 68) s m [.ref (eAd E 8 0), .int (dp_I rm)].toArray below meth co 0 0 (MQ below (dp_qi E (fun y M1 => y = (if rdR (mT X) (X 0 5) = -1 then 1 else if iru (mT X) (X 0 5) = 0 then 2 else if rm = 0 then 3 else 0) ∧ ∃ X', M1 = dN M V X' ∧ txM X X' ∧ (¬ rdR (mT X) (X 0 5) = -1 → X' 0 5 = rdR (mT X) (X 0 5) ∧ ∀ i, i < 6 → X' 5 i = nuv (mT X) (X 0 5) i))) [.ref (eAd E 8 0), .int (dp_I rm)].toArray s 0 0 (dp_A E)) (dN M V X') 116 [some (.ref (eAd E 8 0)), some (.int (dp_I rm)), some (.int (dp_I v2)), some (.int (dp_I h))] [] := by
    intro h v2 X' htx h5 hr5 hnu
    have hxx := htx
    have e1 : X' 0 1 = X 0 1 := htx.2 1 (by decide)
    have hch : X' 0 5 < X 0 1 → 0 ≤ X' 4 (X' 0 5).toNat ∧ X' 4 (X' 0 5).toNat ≤ 126 := fun q => by rw [htx.1 4 (by decide) (by decide)]; exact hT.2.2 _ (by omega)
    refine dp_aload_n C dX7_reason_116 rfl ?_
    refine dp_getf C (k := 9) (dp_mM (by decide)) dp_xmo rfl hX7 (by decide) (List.mem_of_getElem? (i := 1) rfl) rfl dX7_reason_117 ?_
    refine dp_aload_n C dX7_reason_120 rfl ?_
    refine dp_getf C (k := 5) (dp_mM (by decide)) dp_xmo rfl hX7 (by decide) (List.mem_of_getElem? (i := 2) rfl) rfl dX7_reason_121 ?_
    refine dp_icmp_ge (tgt := 145) C dX7_reason_124 (by decide) ⟨by omega, by omega⟩ ⟨by omega, by omega⟩ (fun c124 => ?_) (fun c124 => ?_)
    · skip
      have hrd : rdR (mT X) (X 0 5) = -1 := by
        unfold rdR
        rw [← h5, ← htx.sg, sgM_out (by omega) (by omega), if_neg (by decide)]
      refine dp_iconst C dX7_reason_145 ?_
      first | exact J146 _ _ _ _ (dp_b_f (fun q => q hrd)).symm hxx (fun q => absurd hrd q) | exact J146 _ _ _ _ (dp_b_t (by rw [hrd2]; omega)).symm htx (fun _ => ⟨by rw [hrd2, h5], hnu⟩)
    · skip
      have hT31 : X 0 1 ≤ 100 := hT.2.1
      have hc9 := hch (by omega)
      have hs1 : sgF (mT X) (rdA (mT X) (X 0 5)) = X' 4 (X' 0 5).toNat := by rw [← h5, ← htx.sg]; exact sgM (by omega) (by omega) (by omega)
      refine dp_aload_n C dX7_reason_127 rfl ?_
      refine dp_getf C (k := 4) (dp_mM (by decide)) dp_xmo rfl hX7 (by decide) (List.mem_of_getElem? (i := 3) rfl) rfl dX7_reason_128 ?_
      refine dp_aload_n C dX7_reason_131 rfl ?_
      refine dp_getf C (k := 9) (dp_mM (by decide)) dp_xmo rfl hX7 (by decide) (List.mem_of_getElem? (i := 1) rfl) rfl dX7_reason_132 ?_
      refine dp_ald_mt C (j := (X' 0 5).toNat) ⟨by omega, by omega⟩ rfl dX7_reason_135 ?_
      refine dp_bipush C dX7_reason_136 (by decide) ?_
      refine dp_icmp_ne (tgt := 145) C dX7_reason_138 (by decide) ⟨by omega, by omega⟩ ⟨by omega, by omega⟩ (fun c138 => ?_) (fun c138 => ?_)
      · skip
        have hrd : rdR (mT X) (X 0 5) = -1 := by
          unfold rdR
          rw [hs1, if_neg c138]
        refine dp_iconst C dX7_reason_145 ?_
        first | exact J146 _ _ _ _ (dp_b_f (fun q => q hrd)).symm hxx (fun q => absurd hrd q) | exact J146 _ _ _ _ (dp_b_t (by rw [hrd2]; omega)).symm htx (fun _ => ⟨by rw [hrd2, h5], hnu⟩)
      · skip
        have hrd2 : rdR (mT X) (X 0 5) = rdA (mT X) (X 0 5) + 1 := by
          unfold rdR
          rw [hs1, if_pos (by omega)]
        refine dp_iconst C dX7_reason_141 ?_
        refine dp_goto (tgt := 146) C dX7_reason_142 (by decide) ?_
        first | exact J146 _ _ _ _ (dp_b_f (fun q => q hrd)).symm hxx (fun q => absurd hrd q) | exact J146 _ _ _ _ (dp_b_t (by rw [hrd2]; omega)).symm htx (fun _ => ⟨by rw [hrd2, h5], hnu⟩)
  have J90 : ∀ (h : Int) (X' : dp_V), txM X X' → (¬ rtA (mT X) (X 0 5) 5 = -1 → PK X X' 5 ∧ h = dp_b (sgF (mT X) (rtA (mT X) (X 0 5) 5) = 112)) → dp_G E (dp_A E) p l e (dp_rm 3 68) s m [.ref (eAd E 8 0), .int (dp_I rm)].toArray below meth co 0 0 (MQ below (dp_qi E (fun y M1 => y = (if rdR (mT X) (X 0 5) = -1 then 1 else if iru (mT X) (X 0 5) = 0 then 2 else if rm = 0 then 3 else 0) ∧ ∃ X', M1 = dN M V X' ∧ txM X X' ∧ (¬ rdR (mT X) (X 0 5) = -1 → X' 0 5 = rdR (mT X) (X 0 5) ∧ ∀ i, i < 6 → X' 5 i = nuv (mT X) (X 0 5) i))) [.ref (eAd E 8 0), .int (dp_I rm)].toArray s 0 0 (dp_A E)) (dN M V X') 90 [some (.ref (eAd E 8 0)), some (.int (dp_I rm)), some (.int (dp_I (dp_b (¬ rtA (mT X) (X 0 5) 5 = -1)))), none] [.int (dp_I h)] := by
    intro h X' htx hx
    refine dp_istore_n C dX7_reason_90 (Nat.le_of_ble_eq_true rfl) ?_
    dsimp only [List.set]
    refine dp_aload_n C dX7_reason_91 rfl ?_
    refine dp_getf C (k := 10) (dp_mM (by decide)) dp_xmo rfl hX7 (by decide) (List.mem_of_getElem? (i := 4) rfl) rfl dX7_reason_92 ?_
    refine dp_iconst C dX7_reason_95 ?_
    refine dp_iconst C dX7_reason_96 ?_
    refine dp_ast_mp C (j := 5) ⟨by omega, by omega⟩ rfl dX7_reason_97 ?_
    refine dp_iload_n C dX7_reason_98 rfl ?_
    refine dp_ifz_eq (tgt := 145) C dX7_reason_99 (by decide) (fun c99 => ?_) (fun c99 => ?_)
    · skip
      have hrd : rdR (mT X) (X 0 5) = -1 := rdR_a (rdA_n (Decidable.not_not.mp c99))
      have hxx : txM X (u2 X' 5 5 0) := htx.u5
      refine dp_iconst C dX7_reason_145 ?_
      first | exact J146 _ _ _ _ (dp_b_f (fun q => q hrd)).symm hxx (fun q => absurd hrd q) | exact J146 _ _ _ _ (dp_b_t (by rw [hrd2]; omega)).symm htx (fun _ => ⟨by rw [hrd2, h5], hnu⟩)
    · skip
      obtain ⟨hp, hh⟩ := hx c99
      subst hh
      have hp5 := PK_5 hp
      obtain ⟨t5, a5, b5, x5, n5⟩ := PK_s hp5 hT
      refine dp_iload_n C dX7_reason_102 rfl ?_
      refine dp_ifz_eq (tgt := 116) C dX7_reason_103 (by decide) (fun c103 => ?_) (fun c103 => ?_)
      · skip
        first | exact J116 _ _ _ hp5.1 (by rw [rdA_0 c103]; exact hp5.2.1) hp5.2.2.1 (nuv_0 hp5.2.2.2 (by rw [u2_same, u1_same]) c103) | exact J116 _ _ _ hp6.1 (by rw [rdA_p (Decidable.not_not.mp (fun q => absurd c103 q))]; exact hp6.2.1) hp6.2.2.1 (nuv_p hp6.2.2.2 c103)
      · skip
        refine dp_aload_n C dX7_reason_106 rfl ?_
        refine dp_bipush C dX7_reason_107 (by decide) ?_
        refine dp_iconst C dX7_reason_109 ?_
        refine dp_cVi C (c_X7_isPart C.2.2.1 l t5 a5 (q := 5) (by decide)) gX7_reason_X7_isPart rfl (dp_mM (by decide)) dp_xmo rfl yyX7_isPart rfl ⟨Nat.le_of_ble_eq_true rfl, Nat.le_of_ble_eq_true rfl⟩ rfl (Nat.le_of_ble_eq_true rfl) rfl ⟨Nat.zero_le _, Nat.zero_le _⟩ dX7_reason_110 (fun x110 M110 h110 => ?_)
        obtain ⟨rfl, rfl⟩ := h110
        rw [b5]
        refine dp_ifz_eq (tgt := 145) C dX7_reason_113 (by decide) (fun c113 => ?_) (fun c113 => ?_)
        · skip
          have hrd : rdR (mT X) (X 0 5) = -1 := rdR_a (by rw [rdA_p c103]; exact Decidable.not_not.mp c113)
          have hxx := x5
          refine dp_iconst C dX7_reason_145 ?_
          first | exact J146 _ _ _ _ (dp_b_f (fun q => q hrd)).symm hxx (fun q => absurd hrd q) | exact J146 _ _ _ _ (dp_b_t (by rw [hrd2]; omega)).symm htx (fun _ => ⟨by rw [hrd2, h5], hnu⟩)
        · skip
          have hp6 := n5 c113
          first | exact J116 _ _ _ hp5.1 (by rw [rdA_0 c103]; exact hp5.2.1) hp5.2.2.1 (nuv_0 hp5.2.2.2 (by rw [u2_same, u1_same]) c103) | exact J116 _ _ _ hp6.1 (by rw [rdA_p (Decidable.not_not.mp (fun q => absurd c103 q))]; exact hp6.2.1) hp6.2.2.1 (nuv_p hp6.2.2.2 c103)
  have J55 : ∀ (b : Int) (X' : dp_V), b = dp_b (¬ rtA (mT X) (X 0 5) 5 = -1) → txM X X' → (¬ rtA (mT X) (X 0 5) 5 = -1 → PK X X' 5) → dp_G E (dp_A E) p l e (dp_rm 3 68) s m [.ref (eAd E 8 0), .int (dp_I rm)].toArray below meth co 0 0 (MQ below (dp_qi E (fun y M1 => y = (if rdR (mT X) (X 0 5) = -1 then 1 else if iru (mT X) (X 0 5) = 0 then 2 else if rm = 0 then 3 else 0) ∧ ∃ X', M1 = dN M V X' ∧ txM X X' ∧ (¬ rdR (mT X) (X 0 5) = -1 → X' 0 5 = rdR (mT X) (X 0 5) ∧ ∀ i, i < 6 → X' 5 i = nuv (mT X) (X 0 5) i))) [.ref (eAd E 8 0), .int (dp_I rm)].toArray s 0 0 (dp_A E)) (dN M V X') 55 [some (.ref (eAd E 8 0)), some (.int (dp_I rm)), none, none] [.int (dp_I b)] := by
    intro b X' hb htx hx
    subst hb
    have e1 : X' 0 1 = X 0 1 := htx.2 1 (by decide)
    refine dp_istore_n C dX7_reason_55 (Nat.le_of_ble_eq_true rfl) ?_
    dsimp only [List.set]
    refine dp_iload_n C dX7_reason_56 rfl ?_
    refine dp_ifz_eq (tgt := 89) C dX7_reason_57 (by decide) (fun c57 => ?_) (fun c57 => ?_)
    · skip
      refine dp_iconst C dX7_reason_89 ?_
      first | exact J90 _ _ htx (fun q => absurd (Decidable.not_not.mp c57) q) | exact J90 _ _ htx (fun _ => ⟨P5, (dp_b_f (by rw [hs0]; decide)).symm⟩) | exact J90 _ _ htx (fun _ => ⟨P5, (dp_b_f (by rw [hs1]; exact c82)).symm⟩) | exact J90 _ _ htx (fun _ => ⟨P5, (dp_b_t (by rw [hs1]; omega)).symm⟩)
    · skip
      have P5 := hx c57
      have p50 := P5.2.2.1
      refine dp_aload_n C dX7_reason_60 rfl ?_
      refine dp_getf C (k := 9) (dp_mM (by decide)) dp_xmo rfl hX7 (by decide) (List.mem_of_getElem? (i := 1) rfl) rfl dX7_reason_61 ?_
      refine dp_aload_n C dX7_reason_64 rfl ?_
      refine dp_getf C (k := 5) (dp_mM (by decide)) dp_xmo rfl hX7 (by decide) (List.mem_of_getElem? (i := 2) rfl) rfl dX7_reason_65 ?_
      refine dp_icmp_ge (tgt := 89) C dX7_reason_68 (by decide) ⟨by omega, by omega⟩ ⟨by omega, by omega⟩ (fun c68 => ?_) (fun c68 => ?_)
      · skip
        have hs0 : sgF (mT X) (rtA (mT X) (X 0 5) 5) = 0 := by rw [← P5.2.1, ← htx.sg]; exact sgM_out (by omega) (by omega)
        refine dp_iconst C dX7_reason_89 ?_
        first | exact J90 _ _ htx (fun q => absurd (Decidable.not_not.mp c57) q) | exact J90 _ _ htx (fun _ => ⟨P5, (dp_b_f (by rw [hs0]; decide)).symm⟩) | exact J90 _ _ htx (fun _ => ⟨P5, (dp_b_f (by rw [hs1]; exact c82)).symm⟩) | exact J90 _ _ htx (fun _ => ⟨P5, (dp_b_t (by rw [hs1]; omega)).symm⟩)
      · skip
        have hs1 : sgF (mT X) (rtA (mT X) (X 0 5) 5) = X' 4 (X' 0 5).toNat := by rw [← P5.2.1, ← htx.sg]; exact sgM (by omega) (by omega) (by rw [e1]; exact hT.2.1)
        have hT31 : X 0 1 ≤ 100 := hT.2.1
        have hc9 : 0 ≤ X' 4 (X' 0 5).toNat ∧ X' 4 (X' 0 5).toNat ≤ 126 := by rw [htx.1 4 (by decide) (by decide)]; exact hT.2.2 _ (by omega)
        refine dp_aload_n C dX7_reason_71 rfl ?_
        refine dp_getf C (k := 4) (dp_mM (by decide)) dp_xmo rfl hX7 (by decide) (List.mem_of_getElem? (i := 3) rfl) rfl dX7_reason_72 ?_
        refine dp_aload_n C dX7_reason_75 rfl ?_
        refine dp_getf C (k := 9) (dp_mM (by decide)) dp_xmo rfl hX7 (by decide) (List.mem_of_getElem? (i := 1) rfl) rfl dX7_reason_76 ?_
        refine dp_ald_mt C (j := (X' 0 5).toNat) ⟨by omega, by omega⟩ rfl dX7_reason_79 ?_
        refine dp_bipush C dX7_reason_80 (by decide) ?_
        refine dp_icmp_ne (tgt := 89) C dX7_reason_82 (by decide) ⟨by omega, by omega⟩ ⟨by omega, by omega⟩ (fun c82 => ?_) (fun c82 => ?_)
        · skip
          refine dp_iconst C dX7_reason_89 ?_
          first | exact J90 _ _ htx (fun q => absurd (Decidable.not_not.mp c57) q) | exact J90 _ _ htx (fun _ => ⟨P5, (dp_b_f (by rw [hs0]; decide)).symm⟩) | exact J90 _ _ htx (fun _ => ⟨P5, (dp_b_f (by rw [hs1]; exact c82)).symm⟩) | exact J90 _ _ htx (fun _ => ⟨P5, (dp_b_t (by rw [hs1]; omega)).symm⟩)
        · skip
          refine dp_iconst C dX7_reason_85 ?_
          refine dp_goto (tgt := 90) C dX7_reason_86 (by decide) ?_
          first | exact J90 _ _ htx (fun q => absurd (Decidable.not_not.mp c57) q) | exact J90 _ _ htx (fun _ => ⟨P5, (dp_b_f (by rw [hs0]; decide)).symm⟩) | exact J90 _ _ htx (fun _ => ⟨P5, (dp_b_f (by rw [hs1]; exact c82)).symm⟩) | exact J90 _ _ htx (fun _ => ⟨P5, (dp_b_t (by rw [hs1]; omega)).symm⟩)
  refine dp_aload_n C dX7_reason_0 rfl ?_
  refine dp_bipush C dX7_reason_1 (by decide) ?_
  refine dp_iconst C dX7_reason_3 ?_
  refine dp_cVi C (c_X7_isPart C.2.2.1 l t0 a0 (q := 0) (by decide)) gX7_reason_X7_isPart rfl (dp_mM (by decide)) dp_xmo rfl yyX7_isPart rfl ⟨Nat.le_of_ble_eq_true rfl, Nat.le_of_ble_eq_true rfl⟩ rfl (Nat.le_of_ble_eq_true rfl) rfl ⟨Nat.zero_le _, Nat.zero_le _⟩ dX7_reason_4 (fun x4 M4 h4 => ?_)
  obtain ⟨rfl, rfl⟩ := h4
  rw [b0]
  refine dp_ifz_eq (tgt := 54) C dX7_reason_7 (by decide) (fun c7 => ?_) (fun c7 => ?_)
  · skip
    have r5 : rtA (mT X) (X 0 5) 5 = -1 := rtA_m (k := 1) (Decidable.not_not.mp c7) 4
    have xx := x0
    refine dp_iconst C dX7_reason_54 ?_
    first | exact J55 _ _ (dp_b_f (fun q => q r5)).symm xx (fun q => absurd r5 q) | exact J55 _ _ (dp_b_t n5).symm P5.1 (fun _ => P5)
  · skip
    have P1 := n0 c7
    obtain ⟨t1, a1, b1, x1, n1⟩ := PK_s P1 hT
    refine dp_aload_n C dX7_reason_10 rfl ?_
    refine dp_bipush C dX7_reason_11 (by decide) ?_
    refine dp_iconst C dX7_reason_13 ?_
    refine dp_cVi C (c_X7_isPart C.2.2.1 l t1 a1 (q := 1) (by decide)) gX7_reason_X7_isPart rfl (dp_mM (by decide)) dp_xmo rfl yyX7_isPart rfl ⟨Nat.le_of_ble_eq_true rfl, Nat.le_of_ble_eq_true rfl⟩ rfl (Nat.le_of_ble_eq_true rfl) rfl ⟨Nat.zero_le _, Nat.zero_le _⟩ dX7_reason_14 (fun x14 M14 h14 => ?_)
    obtain ⟨rfl, rfl⟩ := h14
    rw [b1]
    refine dp_ifz_eq (tgt := 54) C dX7_reason_17 (by decide) (fun c17 => ?_) (fun c17 => ?_)
    · skip
      have r5 : rtA (mT X) (X 0 5) 5 = -1 := rtA_m (k := 2) (Decidable.not_not.mp c17) 3
      have xx := x1
      refine dp_iconst C dX7_reason_54 ?_
      first | exact J55 _ _ (dp_b_f (fun q => q r5)).symm xx (fun q => absurd r5 q) | exact J55 _ _ (dp_b_t n5).symm P5.1 (fun _ => P5)
    · skip
      have P2 := n1 c17
      obtain ⟨t2, a2, b2, x2, n2⟩ := PK_s P2 hT
      refine dp_aload_n C dX7_reason_20 rfl ?_
      refine dp_bipush C dX7_reason_21 (by decide) ?_
      refine dp_iconst C dX7_reason_23 ?_
      refine dp_cVi C (c_X7_isPart C.2.2.1 l t2 a2 (q := 2) (by decide)) gX7_reason_X7_isPart rfl (dp_mM (by decide)) dp_xmo rfl yyX7_isPart rfl ⟨Nat.le_of_ble_eq_true rfl, Nat.le_of_ble_eq_true rfl⟩ rfl (Nat.le_of_ble_eq_true rfl) rfl ⟨Nat.zero_le _, Nat.zero_le _⟩ dX7_reason_24 (fun x24 M24 h24 => ?_)
      obtain ⟨rfl, rfl⟩ := h24
      rw [b2]
      refine dp_ifz_eq (tgt := 54) C dX7_reason_27 (by decide) (fun c27 => ?_) (fun c27 => ?_)
      · skip
        have r5 : rtA (mT X) (X 0 5) 5 = -1 := rtA_m (k := 3) (Decidable.not_not.mp c27) 2
        have xx := x2
        refine dp_iconst C dX7_reason_54 ?_
        first | exact J55 _ _ (dp_b_f (fun q => q r5)).symm xx (fun q => absurd r5 q) | exact J55 _ _ (dp_b_t n5).symm P5.1 (fun _ => P5)
      · skip
        have P3 := n2 c27
        obtain ⟨t3, a3, b3, x3, n3⟩ := PK_s P3 hT
        refine dp_aload_n C dX7_reason_30 rfl ?_
        refine dp_bipush C dX7_reason_31 (by decide) ?_
        refine dp_iconst C dX7_reason_33 ?_
        refine dp_cVi C (c_X7_isPart C.2.2.1 l t3 a3 (q := 3) (by decide)) gX7_reason_X7_isPart rfl (dp_mM (by decide)) dp_xmo rfl yyX7_isPart rfl ⟨Nat.le_of_ble_eq_true rfl, Nat.le_of_ble_eq_true rfl⟩ rfl (Nat.le_of_ble_eq_true rfl) rfl ⟨Nat.zero_le _, Nat.zero_le _⟩ dX7_reason_34 (fun x34 M34 h34 => ?_)
        obtain ⟨rfl, rfl⟩ := h34
        rw [b3]
        refine dp_ifz_eq (tgt := 54) C dX7_reason_37 (by decide) (fun c37 => ?_) (fun c37 => ?_)
        · skip
          have r5 : rtA (mT X) (X 0 5) 5 = -1 := rtA_m (k := 4) (Decidable.not_not.mp c37) 1
          have xx := x3
          refine dp_iconst C dX7_reason_54 ?_
          first | exact J55 _ _ (dp_b_f (fun q => q r5)).symm xx (fun q => absurd r5 q) | exact J55 _ _ (dp_b_t n5).symm P5.1 (fun _ => P5)
        · skip
          have P4 := n3 c37
          obtain ⟨t4, a4, b4, x4, n4⟩ := PK_s P4 hT
          refine dp_aload_n C dX7_reason_40 rfl ?_
          refine dp_bipush C dX7_reason_41 (by decide) ?_
          refine dp_iconst C dX7_reason_43 ?_
          refine dp_cVi C (c_X7_isPart C.2.2.1 l t4 a4 (q := 4) (by decide)) gX7_reason_X7_isPart rfl (dp_mM (by decide)) dp_xmo rfl yyX7_isPart rfl ⟨Nat.le_of_ble_eq_true rfl, Nat.le_of_ble_eq_true rfl⟩ rfl (Nat.le_of_ble_eq_true rfl) rfl ⟨Nat.zero_le _, Nat.zero_le _⟩ dX7_reason_44 (fun x44 M44 h44 => ?_)
          obtain ⟨rfl, rfl⟩ := h44
          rw [b4]
          refine dp_ifz_eq (tgt := 54) C dX7_reason_47 (by decide) (fun c47 => ?_) (fun c47 => ?_)
          · skip
            have r5 : rtA (mT X) (X 0 5) 5 = -1 := rtA_m (k := 5) (Decidable.not_not.mp c47) 0
            have xx := x4
            refine dp_iconst C dX7_reason_54 ?_
            first | exact J55 _ _ (dp_b_f (fun q => q r5)).symm xx (fun q => absurd r5 q) | exact J55 _ _ (dp_b_t n5).symm P5.1 (fun _ => P5)
          · skip
            have P5 := n4 c47
            have n5 := c47
            refine dp_iconst C dX7_reason_50 ?_
            refine dp_goto (tgt := 55) C dX7_reason_51 (by decide) ?_
            first | exact J55 _ _ (dp_b_f (fun q => q r5)).symm xx (fun q => absurd r5 q) | exact J55 _ _ (dp_b_t n5).symm P5.1 (fun _ => P5)
