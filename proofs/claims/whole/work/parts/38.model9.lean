/-- the one under way goes on -/
def fnV (V : dp_V) (t : Nat) : dp_V := if puV V t (t + 6) 9 ≤ puV V t 0 0 then u2 (u2 (puV V t) (t + 6) 6 2) (t + 6) 10 (puV V t 3 3 - puV V t 3 4 - puV V t (t + 6) 12) else puV V t
def fnC (V : dp_V) (t : Nat) : Int := if puV V t (t + 6) 9 ≤ puV V t 0 0 then 1 else 0
def ms1 (V : dp_V) (N : Nat) : dp_V := if uwN V N = -100004 then V else fnV V (uwN V N).toNat
def mc (V : dp_V) (N : Nat) : Int := if uwN V N = -100004 then 0 else fnC V (uwN V N).toNat
def miM (V : dp_V) (N : Nat) : dp_V := if bnM (en2 0 N (ms1 V N)) N = -1 then en2 0 N (ms1 V N) else bgV (en2 0 N (ms1 V N)) (bnM (en2 0 N (ms1 V N)) N).toNat
theorem ms1_t {V : dp_V} {N t : Nat} (h : uwN V N = t) : ms1 V N = fnV V t ∧ mc V N = fnC V t := by
  unfold ms1 mc
  rw [if_neg (by omega), if_neg (by omega), h]
  exact ⟨rfl, rfl⟩
theorem fnV_iv {V : dp_V} {N t : Nat} (h : ivM V N) (ht : t < N) (h6 : V (t + 6) 6 = 1) : ivM (fnV V t) N ∧ fnV V t 0 0 = V 0 0 := by
  obtain ⟨a, b, c⟩ := puV_iv h ht
  have hT := a.2.2.2 t ht
  unfold fnV
  split
  · have a2 := ivM_uT (k := 6) (x := 2) a ht (ivT_st hT (by omega))
    refine ⟨ivM_uT a2 ht (by rw [u2_same]; exact ivT_10 (ivT_st hT (by omega))), ?_⟩
    rw [u2_ne (by omega), u2_ne (by omega), b]
  · exact ⟨a, by rw [b]⟩
theorem ms1_iv {V : dp_V} {N : Nat} (h : ivM V N) : ivM (ms1 V N) N ∧ ms1 V N 0 0 = V 0 0 := by
  rcases @uwN_sp V N with ⟨a, _⟩ | ⟨t, h1, h2, _, h4⟩
  · unfold ms1
    rw [if_pos a]
    exact ⟨h, rfl⟩
  · rw [(ms1_t h2).1]
    exact fnV_iv h h1 h4
theorem en2M_iv {N : Nat} : ∀ {n k : Nat} {V : dp_V}, k + n ≤ N → ivM V N → ivM (en2 k n V) N ∧ en2 k n V 0 = V 0 := by
  intro n
  induction n with
  | zero => intro k V _ h; exact ⟨h, rfl⟩
  | succ n ih =>
    intro k V hk h
    rw [show en2 k (n + 1) V = en2 (k + 1) n (if V (k + 6) 6 = 0 then (if V 0 0 < V (k + 6) 3 then V else u2 V (k + 6) 6 3) else V) from rfl]
    split
    · split
      · exact ih (by omega) h
      · obtain ⟨a, b⟩ := ih (k := k + 1) (V := u2 V (k + 6) 6 3) (by omega) (ivM_uT h (by omega) (ivT_st (h.2.2.2 k (by omega)) (by omega)))
        exact ⟨a, b.trans (u2_ne (by omega))⟩
    · exact ih (by omega) h
theorem bsM_sp {V : dp_V} {N : Nat} : ∀ {n k : Nat} {b : Int}, k + n ≤ N → (b = -1 ∨ ∃ t : Nat, t < N ∧ b = t ∧ rsM V N t = 0) → (bsM V N k n b = -1 ∨ ∃ t : Nat, t < N ∧ bsM V N k n b = t ∧ rsM V N t = 0) := by
  intro n
  induction n with
  | zero => intro k b _ h; exact h
  | succ n ih =>
    intro k b hk h
    rw [show bsM V N k (n + 1) b = bsM V N (k + 1) n (if rsM V N k = 0 then (if b = -1 then (k : Int) else if btF (V (k + 6)) (V (b.toNat + 6)) = 0 then b else (k : Int)) else b) from rfl]
    split
    · rename_i q
      split
      · exact ih (by omega) (Or.inr ⟨k, by omega, rfl, q⟩)
      · split
        · exact ih (by omega) h
        · exact ih (by omega) (Or.inr ⟨k, by omega, rfl, q⟩)
    · exact ih (by omega) h
theorem bnM_sp {V : dp_V} {N : Nat} : bnM V N = -1 ∨ ∃ t : Nat, t < N ∧ bnM V N = t ∧ rsM V N t = 0 := bsM_sp (by omega) (Or.inl rfl)
theorem miM_iv {V : dp_V} {N : Nat} (h : ivM V N) : ivM (miM V N) N ∧ miM V N 0 0 = V 0 0 := by
  obtain ⟨a, b⟩ := ms1_iv h
  obtain ⟨c, d⟩ := en2M_iv (n := N) (k := 0) (by omega) a
  have e : en2 0 N (ms1 V N) 0 0 = V 0 0 := by rw [d, b]
  unfold miM
  rcases @bnM_sp (en2 0 N (ms1 V N)) N with q | ⟨t, h1, h2, h3⟩
  · rw [if_pos q]
    exact ⟨c, e⟩
  · rw [if_neg (by omega), h2]
    obtain ⟨f, g⟩ := bgV_iv c h1 (rsM_0 h3).1
    exact ⟨f, g.trans e⟩
theorem hd1_iv {V : dp_V} {N : Nat} (h : ivM V N) : ivM (hd1 V N) N ∧ hd1 V N 0 = V 0 := by
  unfold hd1
  rcases @uwN_sp V N with ⟨a, _⟩ | ⟨t, h1, h2, _, h4⟩
  · rw [if_pos a]
    exact ⟨h, rfl⟩
  · rw [if_neg (by omega), h2, Int.toNat_natCast]
    have hT := h.2.2.2 t h1
    have a2 := ivM_uT (k := 6) (x := 0) h h1 (ivT_st hT (by omega))
    refine ⟨ivM_uT a2 h1 (by rw [u2_same]; exact ivT_11 (ivT_st hT (by omega))), ?_⟩
    rw [u2_ne (by omega), u2_ne (by omega)]
theorem hdM_iv {V : dp_V} {N : Nat} (h : ivM V N) : ivM (hdM V N) N ∧ hdM V N 0 0 = V 0 0 := by
  obtain ⟨a, b⟩ := hd1_iv h
  have hs := a.2.2.1
  have e0 : ∀ c, c ≠ 4 → mvV (hd1 V N) 4 9000 c = hd1 V N c := fun c hc => mvV_ne hc
  have hA : ivA 4 (mvV (hd1 V N) 4 9000 4) := mvV_iv hs.2.2.2.2 (by decide)
  have hs2 : ivS (mvV (hd1 V N) 4 9000) := ⟨by rw [e0 0 (by decide)]; exact hs.1, by rw [e0 1 (by decide)]; exact hs.2.1, by rw [e0 2 (by decide)]; exact hs.2.2.1, by rw [e0 3 (by decide)]; exact hs.2.2.2.1, hA⟩
  have a2 : ivM (mvV (hd1 V N) 4 9000) N := ivM_uS a hs2 (by rw [e0 0 (by decide)]) (fun t _ => e0 _ (by omega))
  unfold hdM
  refine ⟨ivM_uS a2 (ivS_of hs2 (by rw [u2_same, u1_ne (by decide)]) (u2_ne (by decide)) (u2_ne (by decide)) (u2_ne (by decide)) (u2_ne (by decide))) (by rw [u2_same, u1_ne (by decide)]) (fun t _ => u2_ne (by omega)), ?_⟩
  rw [u2_same, u1_ne (by decide), e0 0 (by decide), b]
/-- a minute more -/
def hsM (V : dp_V) (N : Nat) : dp_V := if (V 0 0 + 1) % 1440 = 0 then (if kdF (u2 V 0 0 (V 0 0 + 1)) = 0 then hdM (u2 V 0 0 (V 0 0 + 1)) N else u2 V 0 0 (V 0 0 + 1)) else u2 V 0 0 (V 0 0 + 1)
def stM (V : dp_V) (N : Nat) : dp_V := miM (hsM V N) N
def rnG (N : Nat) : Nat → dp_V → dp_V
  | 0, V => V
  | n + 1, V => rnG N n (stM V N)
def rcG (N : Nat) : Nat → dp_V → Int
  | 0, _ => 0
  | n + 1, V => mc (hsM V N) N + rcG N n (stM V N)
theorem ivM_00 {V : dp_V} {N : Nat} {x : Int} (h : ivM V N) (hx : 0 ≤ x ∧ x ≤ 43200) : ivM (u2 V 0 0 x) N := by
  have hs := h.2.2.1
  refine ivM_uS h ⟨by rw [u2_same, u1_same]; exact hx, by rw [u2_ne (by decide)]; exact hs.2.1, by rw [u2_ne (by decide)]; exact hs.2.2.1, by rw [u2_ne (by decide)]; exact hs.2.2.2.1, by rw [u2_ne (by decide)]; exact hs.2.2.2.2⟩ (by rw [u2_same, u1_ne (by decide)]) (fun t _ => u2_ne (by omega))
theorem hsM_iv {V : dp_V} {N : Nat} (h : ivM V N) (hx : V 0 0 + 1 ≤ 43200) : ivM (hsM V N) N ∧ hsM V N 0 0 = V 0 0 + 1 := by
  have h0 := h.2.2.1.1
  have a := ivM_00 (x := V 0 0 + 1) h (by omega)
  have e : u2 V 0 0 (V 0 0 + 1) 0 0 = V 0 0 + 1 := by rw [u2_same, u1_same]
  unfold hsM
  split
  · split
    · obtain ⟨b, c⟩ := hdM_iv a
      exact ⟨b, c.trans e⟩
    · exact ⟨a, e⟩
  · exact ⟨a, e⟩
theorem stM_iv {V : dp_V} {N : Nat} (h : ivM V N) (hx : V 0 0 + 1 ≤ 43200) : ivM (stM V N) N ∧ stM V N 0 0 = V 0 0 + 1 := by
  obtain ⟨a, b⟩ := hsM_iv h hx
  obtain ⟨c, d⟩ := miM_iv a
  exact ⟨c, d.trans b⟩
theorem yyX7_minute : yX7_minute.cls = RX7 ∧ yX7_minute.cls ≠ "java/lang/invoke/MethodHandle" ∧ yX7_minute.cls ≠ "java/lang/invoke/VarHandle" ∧ (parseMethodDescriptor yX7_minute.desc).map (fun d => d.parameters.length) = some 0 := by decide +kernel
set_option maxHeartbeats 4000000 in
set_option maxRecDepth 100000 in
theorem c_X7_minute {E : dp_E} (hE : dp_OK E) (l : Launch) {M : dp_M} {V X : dp_V} {N : Nat} (hm : ivM V N) : dp_met E l yX7_minute wsX7_minute 8 188 [.ref (eAd E 8 0)] (dN M V X) (dp_qi E (fun y M1 => y = mc V N ∧ ∃ X', M1 = dN M (miM V N) X' ∧ scr X X')) := by
  refine dp_of (cc := cX7_minute) (nL := 4) (own := RX7) (ret := some (.int)) (by decide +kernel) rfl rfl hE (by simp [Value.category]) (Nat.le_of_ble_eq_true rfl) ?_
  intro p e s m below meth co C hret
  show dp_G _ _ _ _ _ _ _ _ _ _ _ _ _ _ _ _ _ [some (.ref (eAd E 8 0)), none, none, none] _
  have hX7 : ∀ w ∈ u_ws RX7 TX7 12, w ∈ wsX7_minute := fun w h => List.mem_cons_of_mem _ (List.mem_append_right _ (h))
  have hm2 := hm
  obtain ⟨hN, h10, hv, hT⟩ := hm
  have h0 := hv.1
  have hub := @uwN_bd V N h10
  have J67 : ∀ (n k : Nat) (c tl ki : Int) (V' : dp_V), k + n = N → ki = k → c = mc V N → ivM V' N → en2 k n V' = en2 0 N (ms1 V N) → dp_G E (dp_A E) p l e (dp_rm 8 188) s m [.ref (eAd E 8 0)].toArray below meth co 0 0 (MQ below (dp_qi E (fun y M1 => y = mc V N ∧ ∃ X', M1 = dN M (miM V N) X' ∧ scr X X')) [.ref (eAd E 8 0)].toArray s 0 0 (dp_A E)) (dN M V' X) 67 [some (.ref (eAd E 8 0)), some (.int (dp_I c)), some (.int (dp_I tl)), some (.int (dp_I ki))] [] := by
    refine dp_ind (fun n ih => ?_)
    intro k c tl ki V' hkn hki hc hm3 hf
    have h33 := hm3.1
    have hv3 := hm3.2.2.1
    have h03 := hv3.1
    refine dp_iload_n C dX7_minute_67 rfl ?_
    refine dp_aload_n C dX7_minute_68 rfl ?_
    refine dp_getf C (k := 0) (dp_mM (by decide)) dp_xmo rfl hX7 (by decide) (List.mem_of_getElem? (i := 2) rfl) rfl dX7_minute_69 ?_
    refine dp_bipush C dX7_minute_72 (by decide) ?_
    refine dp_ald_ms C (j := 7) ⟨by omega, by omega⟩ rfl (c9 := 0) (k9 := 3) rfl rfl dX7_minute_74 ?_
    refine dp_icmp_ge (tgt := 117) C dX7_minute_75 (by decide) ⟨by omega, by omega⟩ ⟨by omega, by omega⟩ (fun c75 => ?_) (fun c75 => ?_)
    · skip
      obtain rfl : n = 0 := by omega
      refine dp_aload_n C dX7_minute_117 rfl ?_
      refine dp_cVi C (c_X7_nextOne C.2.2.1 l hm3) gX7_minute_X7_nextOne rfl (dp_mM (by decide)) dp_xmo rfl yyX7_nextOne rfl ⟨Nat.le_of_ble_eq_true rfl, Nat.le_of_ble_eq_true rfl⟩ rfl (Nat.le_of_ble_eq_true rfl) rfl ⟨Nat.zero_le _, Nat.zero_le _⟩ dX7_minute_118 (fun x118 M118 h118 => ?_)
      obtain ⟨rfl, X1, rfl, hs1⟩ := h118
      have hbb : -100004 ≤ ftF (bnM V' N) ∧ ftF (bnM V' N) ≤ 10 := by
        unfold ftF
        rcases @bnM_sp V' N with q | ⟨t, q1, q2, _⟩ <;> split <;> omega
      have hf2 : V' = en2 0 N (ms1 V N) := hf
      refine dp_istore_n C dX7_minute_121 (Nat.le_of_ble_eq_true rfl) ?_
      dsimp only [List.set]
      refine dp_iload_n C dX7_minute_122 rfl ?_
      refine dp_ldc C (-100004) (List.mem_of_getElem? (i := 1) rfl) rfl dX7_minute_123 ?_
      refine dp_icmp_eq (tgt := 133) C dX7_minute_125 (by decide) ⟨by omega, by omega⟩ ⟨by omega, by omega⟩ (fun c125 => ?_) (fun c125 => ?_)
      · skip
        have hb1 : bnM V' N = -1 := ftF_eq (by rcases @bnM_sp V' N with q | ⟨t, q1, q2, _⟩ <;> omega) c125
        refine dp_iload_n C dX7_minute_133 rfl ?_
        refine dp_iret C hret dX7_minute_134 ?_
        first | (refine ⟨hc, _, ?_, hs1.tr hs2⟩; unfold miM; rw [← hf2, if_neg nb, hb]; rfl) | (refine ⟨hc, _, ?_, hs1⟩; unfold miM; rw [← hf2, if_pos hb1])
      · skip
        obtain ⟨nb, eb⟩ := ftF_ne c125
        obtain ⟨t, ht, hb, hr⟩ := (@bnM_sp V' N).resolve_left nb
        rw [eb, hb]
        refine dp_aload_n C dX7_minute_128 rfl ?_
        refine dp_iload_n C dX7_minute_129 rfl ?_
        refine dp_cVv C (c_X7_begins C.2.2.1 l hm3 ht (rsM_0 hr).1) gX7_minute_X7_begins rfl (dp_mM (by decide)) dp_xmo rfl yyX7_begins rfl ⟨Nat.le_of_ble_eq_true rfl, Nat.le_of_ble_eq_true rfl⟩ rfl (Nat.le_of_ble_eq_true rfl) rfl ⟨Nat.zero_le _, Nat.zero_le _⟩ dX7_minute_130 (fun M130 h130 => ?_)
        obtain ⟨X2, rfl, hs2⟩ := h130
        refine dp_iload_n C dX7_minute_133 rfl ?_
        refine dp_iret C hret dX7_minute_134 ?_
        first | (refine ⟨hc, _, ?_, hs1.tr hs2⟩; unfold miM; rw [← hf2, if_neg nb, hb]; rfl) | (refine ⟨hc, _, ?_, hs1⟩; unfold miM; rw [← hf2, if_pos hb1])
    · skip
      obtain ⟨n, rfl⟩ : ∃ n', n = n' + 1 := ⟨n - 1, by omega⟩
      rw [show en2 k (n + 1) V' = en2 (k + 1) n (if V' (k + 6) 6 = 0 then (if V' 0 0 < V' (k + 6) 3 then V' else u2 V' (k + 6) 6 3) else V') from rfl] at hf
      obtain rfl := hki
      have ht : k < N := by omega
      have hst := hm3.2.2.2 k ht
      unfold ivT at hst
      refine dp_aload_n C dX7_minute_78 rfl ?_
      refine dp_iload_n C dX7_minute_79 rfl ?_
      refine dp_bipush C dX7_minute_80 (by decide) ?_
      refine dp_cVi C (c_X7_of C.2.2.1 l (t := k) (k := 6) (by omega) (by decide)) gX7_minute_X7_of rfl (dp_mM (by decide)) dp_xmo rfl yyX7_of rfl ⟨Nat.le_of_ble_eq_true rfl, Nat.le_of_ble_eq_true rfl⟩ rfl (Nat.le_of_ble_eq_true rfl) rfl ⟨Nat.zero_le _, Nat.zero_le _⟩ dX7_minute_82 (fun x82 M82 h82 => ?_)
      obtain ⟨rfl, rfl⟩ := h82
      refine dp_if_ne (tgt := 111) C dX7_minute_85 (by decide) ⟨by omega, by omega⟩ (fun c85 => ?_) (fun c85 => ?_)
      · skip
        rw [if_neg c85] at hf
        refine dp_iinc C dX7_minute_111 rfl ?_
        dsimp only [List.set]
        refine dp_goto (tgt := 67) C dX7_minute_114 (by decide) ?_
        first | exact ih n (by omega) (k + 1) c _ _ _ (by omega) (by omega) hc hm3 hf | exact ih n (by omega) (k + 1) c _ _ _ (by omega) (by omega) hc (ivM_uT hm3 ht (ivT_st (hm3.2.2.2 k ht) (by omega))) hf
      · skip
        rw [if_pos c85] at hf
        refine dp_aload_n C dX7_minute_88 rfl ?_
        refine dp_iload_n C dX7_minute_89 rfl ?_
        refine dp_iconst C dX7_minute_90 ?_
        refine dp_cVi C (c_X7_of C.2.2.1 l (t := k) (k := 3) (by omega) (by decide)) gX7_minute_X7_of rfl (dp_mM (by decide)) dp_xmo rfl yyX7_of rfl ⟨Nat.le_of_ble_eq_true rfl, Nat.le_of_ble_eq_true rfl⟩ rfl (Nat.le_of_ble_eq_true rfl) rfl ⟨Nat.zero_le _, Nat.zero_le _⟩ dX7_minute_91 (fun x91 M91 h91 => ?_)
        obtain ⟨rfl, rfl⟩ := h91
        refine dp_aload_n C dX7_minute_94 rfl ?_
        refine dp_getf C (k := 0) (dp_mM (by decide)) dp_xmo rfl hX7 (by decide) (List.mem_of_getElem? (i := 2) rfl) rfl dX7_minute_95 ?_
        refine dp_iconst C dX7_minute_98 ?_
        refine dp_ald_ms C (j := 4) ⟨by omega, by omega⟩ rfl (c9 := 0) (k9 := 0) rfl rfl dX7_minute_99 ?_
        refine dp_icmp_gt (tgt := 111) C dX7_minute_100 (by decide) ⟨by omega, by omega⟩ ⟨by omega, by omega⟩ (fun c100 => ?_) (fun c100 => ?_)
        · skip
          rw [if_pos c100] at hf
          refine dp_iinc C dX7_minute_111 rfl ?_
          dsimp only [List.set]
          refine dp_goto (tgt := 67) C dX7_minute_114 (by decide) ?_
          first | exact ih n (by omega) (k + 1) c _ _ _ (by omega) (by omega) hc hm3 hf | exact ih n (by omega) (k + 1) c _ _ _ (by omega) (by omega) hc (ivM_uT hm3 ht (ivT_st (hm3.2.2.2 k ht) (by omega))) hf
        · skip
          rw [if_neg c100] at hf
          refine dp_aload_n C dX7_minute_103 rfl ?_
          refine dp_iload_n C dX7_minute_104 rfl ?_
          refine dp_bipush C dX7_minute_105 (by decide) ?_
          refine dp_iconst C dX7_minute_107 ?_
          refine dp_cVv C (c_X7_puts C.2.2.1 l (t := k) (k := 6) (by omega) (by decide)) gX7_minute_X7_puts rfl (dp_mM (by decide)) dp_xmo rfl yyX7_puts rfl ⟨Nat.le_of_ble_eq_true rfl, Nat.le_of_ble_eq_true rfl⟩ rfl (Nat.le_of_ble_eq_true rfl) rfl ⟨Nat.zero_le _, Nat.zero_le _⟩ dX7_minute_108 (fun M108 h108 => ?_)
          obtain rfl := h108
          refine dp_iinc C dX7_minute_111 rfl ?_
          dsimp only [List.set]
          refine dp_goto (tgt := 67) C dX7_minute_114 (by decide) ?_
          first | exact ih n (by omega) (k + 1) c _ _ _ (by omega) (by omega) hc hm3 hf | exact ih n (by omega) (k + 1) c _ _ _ (by omega) (by omega) hc (ivM_uT hm3 ht (ivT_st (hm3.2.2.2 k ht) (by omega))) hf
  have J65 : ∀ (c tl : Int) (V1 : dp_V), c = mc V N → V1 = ms1 V N → dp_G E (dp_A E) p l e (dp_rm 8 188) s m [.ref (eAd E 8 0)].toArray below meth co 0 0 (MQ below (dp_qi E (fun y M1 => y = mc V N ∧ ∃ X', M1 = dN M (miM V N) X' ∧ scr X X')) [.ref (eAd E 8 0)].toArray s 0 0 (dp_A E)) (dN M V1 X) 65 [some (.ref (eAd E 8 0)), some (.int (dp_I c)), some (.int (dp_I tl)), none] [] := by
    intro c tl V1 hc hV1
    have hi1 : ivM V1 N := by rw [hV1]; exact (ms1_iv hm2).1
    have hf1 : en2 0 N V1 = en2 0 N (ms1 V N) := by rw [hV1]
    refine dp_iconst C dX7_minute_65 ?_
    refine dp_istore_n C dX7_minute_66 (Nat.le_of_ble_eq_true rfl) ?_
    dsimp only [List.set]
    exact J67 N 0 c _ 0 _ (by omega) rfl hc hi1 hf1
  refine dp_iconst C dX7_minute_0 ?_
  refine dp_istore_n C dX7_minute_1 (Nat.le_of_ble_eq_true rfl) ?_
  dsimp only [List.set]
  refine dp_aload_n C dX7_minute_2 rfl ?_
  refine dp_cVi C (c_X7_underWay C.2.2.1 l hm2) gX7_minute_X7_underWay rfl (dp_mM (by decide)) dp_xmo rfl yyX7_underWay rfl ⟨Nat.le_of_ble_eq_true rfl, Nat.le_of_ble_eq_true rfl⟩ rfl (Nat.le_of_ble_eq_true rfl) rfl ⟨Nat.zero_le _, Nat.zero_le _⟩ dX7_minute_3 (fun x3 M3 h3 => ?_)
  obtain ⟨rfl, rfl⟩ := h3
  refine dp_istore_n C dX7_minute_6 (Nat.le_of_ble_eq_true rfl) ?_
  dsimp only [List.set]
  refine dp_iload_n C dX7_minute_7 rfl ?_
  refine dp_ldc C (-100004) (List.mem_of_getElem? (i := 1) rfl) rfl dX7_minute_8 ?_
  refine dp_icmp_eq (tgt := 65) C dX7_minute_10 (by decide) ⟨by omega, by omega⟩ ⟨by omega, by omega⟩ (fun c10 => ?_) (fun c10 => ?_)
  · skip
    first | exact J65 _ _ _ (by unfold mc; rw [if_pos c10]) (by unfold ms1; rw [if_pos c10]) | exact J65 _ _ _ (by rw [emc]; unfold fnC; rw [if_pos (by omega)]; rfl) (by rw [ems]; unfold fnV; rw [if_pos (by omega)]) | exact J65 _ _ _ (by rw [emc]; unfold fnC; rw [if_neg (by omega)]) (by rw [ems]; unfold fnV; rw [if_neg (by omega)])
  · skip
    obtain ⟨t, ht, hu, hu2, h6⟩ := uwN_t c10
    obtain ⟨ems, emc⟩ := ms1_t hu
    rw [hu]
    have ht10 : t < 10 := by omega
    have hst := hT t ht
    unfold ivT at hst
    have h15 := hst.2.2.2.2.2.2.2.2.2.2.2.2.2 h6
    obtain ⟨hpi, e0, ek⟩ := puV_iv hm2 ht
    have q9 := ek 9 (by decide)
    have q0 : puV V t 0 0 = V 0 0 := by rw [e0]
    refine dp_aload_n C dX7_minute_13 rfl ?_
    refine dp_iload_n C dX7_minute_14 rfl ?_
    refine dp_cVv C (c_X7_pushes C.2.2.1 l hv ht10 (hT t ht) h6) gX7_minute_X7_pushes rfl (dp_mM (by decide)) dp_xmo rfl yyX7_pushes rfl ⟨Nat.le_of_ble_eq_true rfl, Nat.le_of_ble_eq_true rfl⟩ rfl (Nat.le_of_ble_eq_true rfl) rfl ⟨Nat.zero_le _, Nat.zero_le _⟩ dX7_minute_15 (fun M15 h15 => ?_)
    obtain rfl := h15
    refine dp_aload_n C dX7_minute_18 rfl ?_
    refine dp_iload_n C dX7_minute_19 rfl ?_
    refine dp_bipush C dX7_minute_20 (by decide) ?_
    refine dp_cVi C (c_X7_of C.2.2.1 l (t := t) (k := 9) ht10 (by decide)) gX7_minute_X7_of rfl (dp_mM (by decide)) dp_xmo rfl yyX7_of rfl ⟨Nat.le_of_ble_eq_true rfl, Nat.le_of_ble_eq_true rfl⟩ rfl (Nat.le_of_ble_eq_true rfl) rfl ⟨Nat.zero_le _, Nat.zero_le _⟩ dX7_minute_22 (fun x22 M22 h22 => ?_)
    obtain ⟨rfl, rfl⟩ := h22
    refine dp_aload_n C dX7_minute_25 rfl ?_
    refine dp_getf C (k := 0) (dp_mM (by decide)) dp_xmo rfl hX7 (by decide) (List.mem_of_getElem? (i := 2) rfl) rfl dX7_minute_26 ?_
    refine dp_iconst C dX7_minute_29 ?_
    refine dp_ald_ms C (j := 4) ⟨by omega, by omega⟩ rfl (c9 := 0) (k9 := 0) rfl rfl dX7_minute_30 ?_
    refine dp_icmp_gt (tgt := 65) C dX7_minute_31 (by decide) ⟨by omega, by omega⟩ ⟨by omega, by omega⟩ (fun c31 => ?_) (fun c31 => ?_)
    · skip
      first | exact J65 _ _ _ (by unfold mc; rw [if_pos c10]) (by unfold ms1; rw [if_pos c10]) | exact J65 _ _ _ (by rw [emc]; unfold fnC; rw [if_pos (by omega)]; rfl) (by rw [ems]; unfold fnV; rw [if_pos (by omega)]) | exact J65 _ _ _ (by rw [emc]; unfold fnC; rw [if_neg (by omega)]) (by rw [ems]; unfold fnV; rw [if_neg (by omega)])
    · skip
      refine dp_aload_n C dX7_minute_34 rfl ?_
      refine dp_iload_n C dX7_minute_35 rfl ?_
      refine dp_bipush C dX7_minute_36 (by decide) ?_
      refine dp_iconst C dX7_minute_38 ?_
      refine dp_cVv C (c_X7_puts C.2.2.1 l (t := t) (k := 6) ht10 (by decide)) gX7_minute_X7_puts rfl (dp_mM (by decide)) dp_xmo rfl yyX7_puts rfl ⟨Nat.le_of_ble_eq_true rfl, Nat.le_of_ble_eq_true rfl⟩ rfl (Nat.le_of_ble_eq_true rfl) rfl ⟨Nat.zero_le _, Nat.zero_le _⟩ dX7_minute_39 (fun M39 h39 => ?_)
      obtain rfl := h39
      refine dp_aload_n C dX7_minute_42 rfl ?_
      refine dp_iload_n C dX7_minute_43 rfl ?_
      refine dp_bipush C dX7_minute_44 (by decide) ?_
      refine dp_aload_n C dX7_minute_46 rfl ?_
      refine dp_iconst C dX7_minute_47 ?_
      refine dp_cVi C (c_X7_stands C.2.2.1 l (a := 0) (by decide)) gX7_minute_X7_stands rfl (dp_mM (by decide)) dp_xmo rfl yyX7_stands rfl ⟨Nat.le_of_ble_eq_true rfl, Nat.le_of_ble_eq_true rfl⟩ rfl (Nat.le_of_ble_eq_true rfl) rfl ⟨Nat.zero_le _, Nat.zero_le _⟩ dX7_minute_48 (fun x48 M48 h48 => ?_)
      obtain ⟨rfl, rfl⟩ := h48
      rw [show (0 : Nat) + 3 = 3 from rfl, u2_ne (show 3 ≠ t + 6 by omega)]
      refine dp_aload_n C dX7_minute_51 rfl ?_
      refine dp_iload_n C dX7_minute_52 rfl ?_
      refine dp_bipush C dX7_minute_53 (by decide) ?_
      refine dp_cVi C (c_X7_of C.2.2.1 l (t := t) (k := 12) ht10 (by decide)) gX7_minute_X7_of rfl (dp_mM (by decide)) dp_xmo rfl yyX7_of rfl ⟨Nat.le_of_ble_eq_true rfl, Nat.le_of_ble_eq_true rfl⟩ rfl (Nat.le_of_ble_eq_true rfl) rfl ⟨Nat.zero_le _, Nat.zero_le _⟩ dX7_minute_55 (fun x55 M55 h55 => ?_)
      obtain ⟨rfl, rfl⟩ := h55
      rw [u2_same, u1_ne (by decide)]
      refine dp_isub C dX7_minute_58 ?_
      refine dp_cVv C (c_X7_puts C.2.2.1 l (t := t) (k := 10) ht10 (by decide)) gX7_minute_X7_puts rfl (dp_mM (by decide)) dp_xmo rfl yyX7_puts rfl ⟨Nat.le_of_ble_eq_true rfl, Nat.le_of_ble_eq_true rfl⟩ rfl (Nat.le_of_ble_eq_true rfl) rfl ⟨Nat.zero_le _, Nat.zero_le _⟩ dX7_minute_59 (fun M59 h59 => ?_)
      obtain rfl := h59
      refine dp_iinc C dX7_minute_62 rfl ?_
      dsimp only [List.set]
      first | exact J65 _ _ _ (by unfold mc; rw [if_pos c10]) (by unfold ms1; rw [if_pos c10]) | exact J65 _ _ _ (by rw [emc]; unfold fnC; rw [if_pos (by omega)]; rfl) (by rw [ems]; unfold fnV; rw [if_pos (by omega)]) | exact J65 _ _ _ (by rw [emc]; unfold fnC; rw [if_neg (by omega)]) (by rw [ems]; unfold fnV; rw [if_neg (by omega)])
