/-! THE TARGETS: which is under way, why one can not be begun, which is next -/
/-- at most one target under way -/
def uq (V : dp_V) (N : Nat) : Prop := ∀ t u, t < N → u < N → V (t + 6) 6 = 1 → V (u + 6) 6 = 1 → t = u
def nxI (V : dp_V) (N p : Nat) : Nat → Int → Int
  | 0, b => b
  | k + 1, b => nxI V N p k (if V (k + 6) 5 = p ∧ rsM V N k = 0 then (if b < 0 then (k : Int) else if V (k + 6) 3 ≤ V (b.toNat + 6) 3 then (k : Int) else b) else b)
def nxO (V : dp_V) (N : Nat) : Nat → Int → Int
  | 0, b => b
  | p + 1, b => if b < 0 then nxO V N p (nxI V N p N b) else b
/-- t comes ahead of u -/
def ahd (V : dp_V) (t u : Nat) : Prop := V (u + 6) 5 < V (t + 6) 5 ∨ (V (u + 6) 5 = V (t + 6) 5 ∧ (V (t + 6) 3 < V (u + 6) 3 ∨ (V (t + 6) 3 = V (u + 6) 3 ∧ t ≤ u)))
def bstP (V : dp_V) (N : Nat) (b : Int) : Prop := ∃ t : Nat, t < N ∧ b = t ∧ rsM V N t = 0 ∧ ∀ u, u < N → rsM V N u = 0 → ahd V t u
theorem nxI_sp {V : dp_V} {N p : Nat} : ∀ (k : Nat) (b : Int), k ≤ N → ((b = -100004 ∧ ∀ u, k ≤ u → u < N → ¬ (V (u + 6) 5 = p ∧ rsM V N u = 0)) ∨ ∃ t : Nat, k ≤ t ∧ t < N ∧ b = t ∧ V (t + 6) 5 = p ∧ rsM V N t = 0 ∧ ∀ u, k ≤ u → u < N → V (u + 6) 5 = p → rsM V N u = 0 → V (t + 6) 3 < V (u + 6) 3 ∨ (V (t + 6) 3 = V (u + 6) 3 ∧ t ≤ u)) → ((nxI V N p k b = -100004 ∧ ∀ u, u < N → ¬ (V (u + 6) 5 = p ∧ rsM V N u = 0)) ∨ ∃ t : Nat, t < N ∧ nxI V N p k b = t ∧ V (t + 6) 5 = p ∧ rsM V N t = 0 ∧ ∀ u, u < N → V (u + 6) 5 = p → rsM V N u = 0 → V (t + 6) 3 < V (u + 6) 3 ∨ (V (t + 6) 3 = V (u + 6) 3 ∧ t ≤ u)) := by
  intro k
  induction k with
  | zero =>
    intro b _ h
    rcases h with ⟨a, c⟩ | ⟨t, a1, a2, a3, a4, a5, a6⟩
    · exact Or.inl ⟨a, fun u hu => c u (Nat.zero_le _) hu⟩
    · exact Or.inr ⟨t, a2, a3, a4, a5, fun u hu => a6 u (Nat.zero_le _) hu⟩
  | succ k ih =>
    intro b hk h
    show ((nxI V N p k (if V (k + 6) 5 = p ∧ rsM V N k = 0 then (if b < 0 then (k : Int) else if V (k + 6) 3 ≤ V (b.toNat + 6) 3 then (k : Int) else b) else b) = -100004 ∧ _) ∨ ∃ t : Nat, t < N ∧ nxI V N p k (if V (k + 6) 5 = p ∧ rsM V N k = 0 then (if b < 0 then (k : Int) else if V (k + 6) 3 ≤ V (b.toNat + 6) 3 then (k : Int) else b) else b) = t ∧ _)
    refine ih _ (by omega) ?_
    by_cases q : V (k + 6) 5 = p ∧ rsM V N k = 0
    · rw [if_pos q]
      rcases h with ⟨a, c⟩ | ⟨t, a1, a2, a3, a4, a5, a6⟩
      · rw [if_pos (by omega)]
        refine Or.inr ⟨k, Nat.le_refl _, by omega, rfl, q.1, q.2, fun u u1 u2 u3 u4 => ?_⟩
        by_cases e : u = k
        · subst e; exact Or.inr ⟨rfl, Nat.le_refl _⟩
        · exact absurd ⟨u3, u4⟩ (c u (by omega) u2)
      · rw [if_neg (by omega), a3, Int.toNat_natCast]
        by_cases r : V (k + 6) 3 ≤ V (t + 6) 3
        · rw [if_pos r]
          refine Or.inr ⟨k, Nat.le_refl _, by omega, rfl, q.1, q.2, fun u u1 u2 u3 u4 => ?_⟩
          by_cases e : u = k
          · subst e; exact Or.inr ⟨rfl, Nat.le_refl _⟩
          · have := a6 u (by omega) u2 u3 u4
            omega
        · rw [if_neg r]
          refine Or.inr ⟨t, by omega, a2, rfl, a4, a5, fun u u1 u2 u3 u4 => ?_⟩
          by_cases e : u = k
          · subst e; exact Or.inl (by omega)
          · exact a6 u (by omega) u2 u3 u4
    · rw [if_neg q]
      rcases h with ⟨a, c⟩ | ⟨t, a1, a2, a3, a4, a5, a6⟩
      · refine Or.inl ⟨a, fun u u1 u2 => ?_⟩
        by_cases e : u = k
        · subst e; exact q
        · exact c u (by omega) u2
      · refine Or.inr ⟨t, by omega, a2, a3, a4, a5, fun u u1 u2 u3 u4 => ?_⟩
        by_cases e : u = k
        · subst e; exact absurd ⟨u3, u4⟩ q
        · exact a6 u (by omega) u2 u3 u4
theorem nxO_sp {V : dp_V} {N : Nat} (hp : ∀ u, u < N → 0 ≤ V (u + 6) 5) : ∀ (p : Nat) (b : Int), ((b = -100004 ∧ ∀ u, u < N → rsM V N u = 0 → V (u + 6) 5 < p) ∨ bstP V N b) → ((nxO V N p b = -100004 ∧ ∀ u, u < N → ¬ rsM V N u = 0) ∨ bstP V N (nxO V N p b)) := by
  intro p
  induction p with
  | zero =>
    intro b h
    rcases h with ⟨a, c⟩ | h
    · refine Or.inl ⟨a, fun u hu hr => ?_⟩
      have h1 := c u hu hr
      have h2 := hp u hu
      omega
    · exact Or.inr h
  | succ p ih =>
    intro b h
    show ((if b < 0 then nxO V N p (nxI V N p N b) else b) = -100004 ∧ _) ∨ bstP V N (if b < 0 then nxO V N p (nxI V N p N b) else b)
    rcases h with ⟨a, c⟩ | h
    · rw [if_pos (by omega)]
      refine ih _ ?_
      rcases nxI_sp (V := V) (p := p) N b (Nat.le_refl _) (Or.inl ⟨a, fun u h1 h2 => by omega⟩) with ⟨a1, a2⟩ | ⟨t, a1, a2, a3, a4, a5⟩
      · refine Or.inl ⟨a1, fun u hu hr => ?_⟩
        have h1 := c u hu hr
        have h2 : ¬ V (u + 6) 5 = p := fun z => a2 u hu ⟨z, hr⟩
        omega
      · refine Or.inr ⟨t, a1, a2, a4, fun u hu hr => ?_⟩
        have h1 := c u hu hr
        unfold ahd
        by_cases z : V (u + 6) 5 = p
        · exact Or.inr ⟨by omega, a5 u hu z hr⟩
        · exact Or.inl (by omega)
    · obtain ⟨t, t1, t2, t3⟩ := h
      rw [if_neg (by omega)]
      exact Or.inr ⟨t, t1, t2, t3⟩
theorem btF_0 {f g : Nat → Int} : btF f g = 0 ↔ ¬ ((f 5 = g 5 ∧ f 3 < g 3) ∨ g 5 < f 5) := by
  unfold btF dp_b
  (repeat' split) <;> omega
theorem bsM_best {V : dp_V} {N : Nat} : ∀ (n k : Nat) (b : Int), k + n = N → ((b = -1 ∧ ∀ u, u < k → ¬ rsM V N u = 0) ∨ ∃ t : Nat, t < k ∧ b = t ∧ rsM V N t = 0 ∧ ∀ u, u < k → rsM V N u = 0 → ahd V t u) → ((bsM V N k n b = -1 ∧ ∀ u, u < N → ¬ rsM V N u = 0) ∨ bstP V N (bsM V N k n b)) := by
  intro n
  induction n with
  | zero =>
    intro k b hk h
    obtain rfl : k = N := by omega
    rcases h with ⟨a, c⟩ | h
    · exact Or.inl ⟨a, c⟩
    · exact Or.inr h
  | succ n ih =>
    intro k b hk h
    show ((bsM V N (k + 1) n (if rsM V N k = 0 then (if b = -1 then (k : Int) else if btF (V (k + 6)) (V (b.toNat + 6)) = 0 then b else (k : Int)) else b) = -1 ∧ _) ∨ bstP V N (bsM V N (k + 1) n (if rsM V N k = 0 then (if b = -1 then (k : Int) else if btF (V (k + 6)) (V (b.toNat + 6)) = 0 then b else (k : Int)) else b)))
    refine ih (k + 1) _ (by omega) ?_
    by_cases q : rsM V N k = 0
    · rw [if_pos q]
      rcases h with ⟨a, c⟩ | ⟨t, a1, a2, a3, a4⟩
      · rw [if_pos a]
        refine Or.inr ⟨k, by omega, rfl, q, fun u hu hr => ?_⟩
        by_cases e : u = k
        · subst e; exact Or.inr ⟨rfl, Or.inr ⟨rfl, Nat.le_refl _⟩⟩
        · exact absurd hr (c u (by omega))
      · rw [if_neg (by omega), a2, Int.toNat_natCast]
        by_cases r : btF (V (k + 6)) (V (t + 6)) = 0
        · rw [if_pos r]
          have r2 := btF_0.mp r
          refine Or.inr ⟨t, by omega, rfl, a3, fun u hu hr => ?_⟩
          by_cases e : u = k
          · subst e; unfold ahd; omega
          · exact a4 u (by omega) hr
        · rw [if_neg r]
          have r2 : (V (k + 6) 5 = V (t + 6) 5 ∧ V (k + 6) 3 < V (t + 6) 3) ∨ V (t + 6) 5 < V (k + 6) 5 := Decidable.byContradiction (fun z => r (btF_0.mpr z))
          refine Or.inr ⟨k, by omega, rfl, q, fun u hu hr => ?_⟩
          by_cases e : u = k
          · subst e; exact Or.inr ⟨rfl, Or.inr ⟨rfl, Nat.le_refl _⟩⟩
          · have h5 := a4 u (by omega) hr
            unfold ahd at h5 ⊢
            omega
    · rw [if_neg q]
      rcases h with ⟨a, c⟩ | ⟨t, a1, a2, a3, a4⟩
      · refine Or.inl ⟨a, fun u hu => ?_⟩
        by_cases e : u = k
        · subst e; exact q
        · exact c u (by omega)
      · refine Or.inr ⟨t, by omega, a2, a3, fun u hu hr => ?_⟩
        by_cases e : u = k
        · subst e; exact absurd hr q
        · exact a4 u (by omega) hr
/-- the one picked by the law is the best -/
theorem nx_bn {V : dp_V} {N : Nat} (hp : ∀ u, u < N → 0 ≤ V (u + 6) 5 ∧ V (u + 6) 5 ≤ 9) : nxO V N 10 (-100004) = ftF (bnM V N) := by
  have a := nxO_sp (V := V) (N := N) (fun u hu => (hp u hu).1) 10 (-100004) (Or.inl ⟨rfl, fun u hu _ => by have := (hp u hu).2; omega⟩)
  have b := bsM_best (V := V) (N := N) N 0 (-1) (by omega) (Or.inl ⟨rfl, fun u hu => by omega⟩)
  unfold bnM
  rcases a with ⟨a1, a2⟩ | ⟨t, a1, a2, a3, a4⟩
  · rcases b with ⟨b1, b2⟩ | ⟨u, b1, b2, b3, b4⟩
    · rw [a1, b1]; rfl
    · exact absurd b3 (a2 u b1)
  · rcases b with ⟨b1, b2⟩ | ⟨u, b1, b2, b3, b4⟩
    · exact absurd a3 (b2 t a1)
    · have h1 := a4 u b1 b3
      have h2 := b4 t a1 a3
      unfold ahd at h1 h2
      have e : t = u := by omega
      subst e
      rw [a2, b2, ftF_n]
theorem yyL_under : yL_under.cls ≠ "java/lang/invoke/MethodHandle" ∧ yL_under.cls ≠ "java/lang/invoke/VarHandle" ∧ (parseMethodDescriptor yL_under.desc).map (fun d => d.parameters.length) = some 2 := by decide +kernel
set_option maxHeartbeats 4000000 in
set_option maxRecDepth 100000 in
theorem c_L_under {E : dp_E} (hE : dp_OK E) (l : Launch) {M : dp_M} {V X : dp_V} {N : Nat} (hm : ivM V N) (h4 : N ≤ 4) (hq : uq V N) : dp_met E l yL_under wsL_under 0 0 [.ref (eAd E 8 0), .ref (eAd E 8 1)] (dN M V X) (dp_qi E (fun y M1 => y = uwN V N ∧ M1 = dN M V X)) := by
  refine dp_of (cc := cL_under) (nL := 4) (own := RL) (ret := some (.int)) (by decide +kernel) rfl rfl hE (by simp [Value.category]) (Nat.le_of_ble_eq_true rfl) ?_
  intro p e s m below meth co C hret
  show dp_G _ _ _ _ _ _ _ _ _ _ _ _ _ _ _ _ _ [some (.ref (eAd E 8 0)), some (.ref (eAd E 8 1)), none, none] _
  have hm2 := hm
  obtain ⟨hN, h10, hv, hT⟩ := hm
  have h0 := hv.1
  have h1 := hv.2.1
  have ho : 0 ≤ V 1 0 ∧ V 1 0 ≤ 500 := by omega
  have J5 : ∀ (n k : Nat) (tl ki : Int), k + n = N → ki = k → ((tl = -100004 ∧ ∀ u, u < k → ¬ V (u + 6) 6 = 1) ∨ ∃ t : Nat, t < k ∧ tl = t ∧ V (t + 6) 6 = 1) → dp_G E (dp_A E) p l e (dp_rm 0 0) s m [.ref (eAd E 8 0), .ref (eAd E 8 1)].toArray below meth co 0 0 (MQ below (dp_qi E (fun y M1 => y = uwN V N ∧ M1 = dN M V X)) [.ref (eAd E 8 0), .ref (eAd E 8 1)].toArray s 0 0 (dp_A E)) (dN M V X) 5 [some (.ref (eAd E 8 0)), some (.ref (eAd E 8 1)), some (.int (dp_I tl)), some (.int (dp_I ki))] [] := by
    refine dp_ind (fun n ih => ?_)
    intro k tl ki hkn hki hinv
    refine dp_iload_n C dL_under_5 rfl ?_
    refine dp_aload_n C dL_under_6 rfl ?_
    refine dp_bipush C dL_under_7 (by decide) ?_
    refine dp_ald_g C 7 (c9 := 0) (k9 := 3) (by omega) (by decide) rfl rfl dL_under_9 ?_
    refine dp_icmp_ge (tgt := 38) C dL_under_10 (by decide) ⟨by omega, by omega⟩ ⟨by omega, by omega⟩ (fun c10 => ?_) (fun c10 => ?_)
    · skip
      obtain rfl : n = 0 := by omega
      refine dp_iload_n C dL_under_38 rfl ?_
      refine dp_iret C hret dL_under_39 ?_
      refine ⟨?_, rfl⟩
      rcases @uwN_sp V N with ⟨q1, _, q2⟩ | ⟨u, q0, q1, _, q2⟩
      · rcases hinv with ⟨z1, z2⟩ | ⟨t, z1, z2, z3⟩
        · omega
        · exact absurd z3 (q2 t (by omega))
      · rcases hinv with ⟨z1, z2⟩ | ⟨t, z1, z2, z3⟩
        · exact absurd q2 (z2 u (by omega))
        · have := hq t u (by omega) q0 z3 q2
          omega
    · skip
      obtain ⟨n, rfl⟩ : ∃ n', n = n' + 1 := ⟨n - 1, by omega⟩
      obtain rfl := hki
      have ht : k < N := by omega
      have hst := hT k ht
      unfold ivT at hst
      refine dp_aload_n C dL_under_13 rfl ?_
      refine dp_bipush C dL_under_14 (by decide) ?_
      refine dp_iload_n C dL_under_16 rfl ?_
      refine dp_imul C dL_under_17 ?_
      refine dp_bipush C dL_under_18 (by decide) ?_
      refine dp_iadd C dL_under_20 ?_
      refine dp_ald_q C k 6 (by omega) (by omega) (by decide) dL_under_21 ?_
      refine dp_iconst C dL_under_22 ?_
      refine dp_icmp_ne (tgt := 30) C dL_under_23 (by decide) ⟨by omega, by omega⟩ ⟨by omega, by omega⟩ (fun c23 => ?_) (fun c23 => ?_)
      · skip
        refine dp_iload_n C dL_under_30 rfl ?_
        refine dp_istore_n C dL_under_31 (Nat.le_of_ble_eq_true rfl) ?_
        dsimp only [List.set]
        refine dp_iinc C dL_under_32 rfl ?_
        dsimp only [List.set]
        refine dp_goto (tgt := 5) C dL_under_35 (by decide) ?_
        first | exact ih n (by omega) (k + 1) _ _ (by omega) (by omega) (Or.inr ⟨k, by omega, rfl, by omega⟩) | exact ih n (by omega) (k + 1) _ _ (by omega) (by omega) (by
          rcases hinv with ⟨q1, q2⟩ | ⟨t, q1, q2, q3⟩
          · refine Or.inl ⟨q1, fun u hu => ?_⟩
            rcases (by omega : u < k ∨ u = k) with z | z
            · exact q2 u z
            · subst z; assumption
          · exact Or.inr ⟨t, by omega, q2, q3⟩)
      · skip
        refine dp_iload_n C dL_under_26 rfl ?_
        refine dp_goto (tgt := 31) C dL_under_27 (by decide) ?_
        refine dp_istore_n C dL_under_31 (Nat.le_of_ble_eq_true rfl) ?_
        dsimp only [List.set]
        refine dp_iinc C dL_under_32 rfl ?_
        dsimp only [List.set]
        refine dp_goto (tgt := 5) C dL_under_35 (by decide) ?_
        first | exact ih n (by omega) (k + 1) _ _ (by omega) (by omega) (Or.inr ⟨k, by omega, rfl, by omega⟩) | exact ih n (by omega) (k + 1) _ _ (by omega) (by omega) (by
          rcases hinv with ⟨q1, q2⟩ | ⟨t, q1, q2, q3⟩
          · refine Or.inl ⟨q1, fun u hu => ?_⟩
            rcases (by omega : u < k ∨ u = k) with z | z
            · exact q2 u z
            · subst z; assumption
          · exact Or.inr ⟨t, by omega, q2, q3⟩)
  refine dp_ldc C (-100004) (List.mem_of_getElem? (i := 1) rfl) rfl dL_under_0 ?_
  refine dp_istore_n C dL_under_2 (Nat.le_of_ble_eq_true rfl) ?_
  dsimp only [List.set]
  refine dp_iconst C dL_under_3 ?_
  refine dp_istore_n C dL_under_4 (Nat.le_of_ble_eq_true rfl) ?_
  dsimp only [List.set]
  exact J5 N 0 _ _ (by omega) rfl (Or.inl ⟨rfl, fun u hu => by omega⟩)
theorem yyL_why : yL_why.cls ≠ "java/lang/invoke/MethodHandle" ∧ yL_why.cls ≠ "java/lang/invoke/VarHandle" ∧ (parseMethodDescriptor yL_why.desc).map (fun d => d.parameters.length) = some 3 := by decide +kernel
set_option maxHeartbeats 4000000 in
set_option maxRecDepth 100000 in
theorem c_L_why {E : dp_E} (hE : dp_OK E) (l : Launch) {M : dp_M} {V X : dp_V} {N : Nat} (hm : ivM V N) (h4 : N ≤ 4) (hq : uq V N) {t : Nat} (ht : t < N) : dp_met E l yL_why wsL_why 4 105 [.ref (eAd E 8 0), .ref (eAd E 8 1), .int (dp_I ((t : Int)))] (dN M V X) (dp_qi E (fun y M1 => y = rsM V N t ∧ ∃ X', M1 = dN M V X' ∧ lgs X X')) := by
  refine dp_of (cc := cL_why) (nL := 9) (own := RL) (ret := some (.int)) (by decide +kernel) rfl rfl hE (by simp [Value.category]) (Nat.le_of_ble_eq_true rfl) ?_
  intro p e s m below meth co C hret
  show dp_G _ _ _ _ _ _ _ _ _ _ _ _ _ _ _ _ _ [some (.ref (eAd E 8 0)), some (.ref (eAd E 8 1)), some (.int (dp_I ((t : Int)))), none, none, none, none, none, none] _
  have hm2 := hm
  obtain ⟨hN, h10, hv, hT⟩ := hm
  have h0 := hv.1
  have h1 := hv.2.1
  have ho : 0 ≤ V 1 0 ∧ V 1 0 ≤ 500 := by omega
  have hst := hT t ht
  unfold ivT at hst
  have hz : 0 ≤ V (t + 6) 0 ∧ V (t + 6) 0 ≤ 35999 := by omega
  have hap := @apF_bd V (V (t + 6) 0) hz
  have hlb := lnN_bd hv.2.2.2.2 (show -40000 ≤ V (t + 6) 1 ∧ V (t + 6) 1 ≤ 40000 by omega) ho
  have hlg := lnN_ge hv.2.2.2.2 (show -40000 ≤ V (t + 6) 1 ∧ V (t + 6) 1 ≤ 40000 by omega) ho
  have hl4 : (wyP 4 (V 4) (V (t + 6) 1) (V 1 0) = 0 ∧ lnN 4 (V 4) (V (t + 6) 1) (V 1 0) = -1) ∨ (¬ wyP 4 (V 4) (V (t + 6) 1) (V 1 0) = 0 ∧ 0 ≤ lnN 4 (V 4) (V (t + 6) 1) (V 1 0)) := by
    by_cases q : wyP 4 (V 4) (V (t + 6) 1) (V 1 0) = 0
    · exact Or.inl ⟨q, hlg.1 q⟩
    · exact Or.inr ⟨q, by have := hlg.2 q; omega⟩
  have hl3 : (wyP 3 (V 3) (apF V (V (t + 6) 0)) (V 1 0) = 0 ∧ pfF V (V (t + 6) 0) = -100004) ∨ (¬ wyP 3 (V 3) (apF V (V (t + 6) 0)) (V 1 0) = 0 ∧ pfF V (V (t + 6) 0) = apF V (V (t + 6) 0)) := by
    by_cases q : wyP 3 (V 3) (apF V (V (t + 6) 0)) (V 1 0) = 0
    · exact Or.inl ⟨q, if_pos q⟩
    · exact Or.inr ⟨q, if_neg q⟩
  have hu2 : (uwN V N < 0 ∧ uwG V 0 N = -1) ∨ (0 ≤ uwN V N ∧ ¬ uwG V 0 N = -1) := by
    rcases @uwN_sp V N with ⟨q1, q2, _⟩ | ⟨u, _, q1, q2, _⟩
    · exact Or.inl ⟨by omega, q2⟩
    · exact Or.inr ⟨by omega, by omega⟩
  have hub := @uwN_bd V N h10
  have hkb := @kdF_bd V
  have J99 : ∀ (en : Int) (X' : dp_V), V (t + 6) 6 = 0 → lgs X X' → (lnN 4 (V 4) (V (t + 6) 1) (V 1 0) < 0 ∨ pfF V (V (t + 6) 0) ≤ -100000 ∨ en = V 0 0 + V (t + 6) 4 + tmF V (apF V (V (t + 6) 0)) (V (t + 6) 1)) → (-1000000 ≤ en ∧ en ≤ 1000000) → dp_G E (dp_A E) p l e (dp_rm 4 105) s m [.ref (eAd E 8 0), .ref (eAd E 8 1), .int (dp_I ((t : Int)))].toArray below meth co 0 0 (MQ below (dp_qi E (fun y M1 => y = rsM V N t ∧ ∃ X', M1 = dN M V X' ∧ lgs X X')) [.ref (eAd E 8 0), .ref (eAd E 8 1), .int (dp_I ((t : Int)))].toArray s 0 0 (dp_A E)) (dN M V X') 99 [some (.ref (eAd E 8 0)), some (.ref (eAd E 8 1)), some (.int (dp_I ((t : Int)))), some (.int (dp_I (14 * (t : Int)))), some (.int (dp_I (lnN 4 (V 4) (V (t + 6) 1) (V 1 0)))), some (.int (dp_I (pfF V (V (t + 6) 0)))), some (.int (dp_I en)), none, none] [] := by
    intro en X' h60 hsc hen hbn
    refine dp_aload_n C dL_why_99 rfl ?_
    refine dp_aload_n C dL_why_100 rfl ?_
    refine dp_cSi C (c_L_under C.2.2.1 l hm2 h4 hq) gL_why_L_under rfl yyL_under rfl ⟨Nat.le_of_ble_eq_true rfl, Nat.le_of_ble_eq_true rfl⟩ rfl (Nat.le_of_ble_eq_true rfl) rfl ⟨Nat.zero_le _, Nat.zero_le _⟩ dL_why_101 (fun x101 M101 h101 => ?_)
    obtain ⟨rfl, rfl⟩ := h101
    refine dp_if_lt (tgt := 111) C dL_why_104 (by decide) ⟨by omega, by omega⟩ (fun c104 => ?_) (fun c104 => ?_)
    · skip
      refine dp_aload_n C dL_why_111 rfl ?_
      refine dp_cSi C (c_L_day C.2.2.1 l hv) gL_why_L_day rfl yyL_day rfl ⟨Nat.le_of_ble_eq_true rfl, Nat.le_of_ble_eq_true rfl⟩ rfl (Nat.le_of_ble_eq_true rfl) rfl ⟨Nat.zero_le _, Nat.zero_le _⟩ dL_why_112 (fun x112 M112 h112 => ?_)
      obtain ⟨rfl, rfl⟩ := h112
      refine dp_if_ne (tgt := 122) C dL_why_115 (by decide) ⟨by omega, by omega⟩ (fun c115 => ?_) (fun c115 => ?_)
      · skip
        refine dp_aload_n C dL_why_122 rfl ?_
        refine dp_iconst C dL_why_123 ?_
        refine dp_ald_g C 4 (c9 := 0) (k9 := 0) (by omega) (by decide) rfl rfl dL_why_124 ?_
        refine dp_aload_n C dL_why_125 rfl ?_
        refine dp_iload_n C dL_why_126 rfl ?_
        refine dp_iconst C dL_why_127 ?_
        refine dp_iadd C dL_why_128 ?_
        refine dp_ald_q C t 2 (by omega) (by omega) (by decide) dL_why_129 ?_
        refine dp_icmp_ge (tgt := 137) C dL_why_130 (by decide) ⟨by omega, by omega⟩ ⟨by omega, by omega⟩ (fun c130 => ?_) (fun c130 => ?_)
        · skip
          refine dp_iload C dL_why_137 rfl ?_
          refine dp_if_ge (tgt := 146) C dL_why_139 (by decide) ⟨by omega, by omega⟩ (fun c139 => ?_) (fun c139 => ?_)
          · skip
            refine dp_iload C dL_why_146 rfl ?_
            refine dp_ldc C (-100000) (List.mem_of_getElem? (i := 1) rfl) rfl dL_why_148 ?_
            refine dp_icmp_ge (tgt := 158) C dL_why_150 (by decide) ⟨by omega, by omega⟩ ⟨by omega, by omega⟩ (fun c150 => ?_) (fun c150 => ?_)
            · skip
              refine dp_iload C dL_why_158 rfl ?_
              refine dp_aload_n C dL_why_160 rfl ?_
              refine dp_iload_n C dL_why_161 rfl ?_
              refine dp_iconst C dL_why_162 ?_
              refine dp_iadd C dL_why_163 ?_
              refine dp_ald_q C t 3 (by omega) (by omega) (by decide) dL_why_164 ?_
              refine dp_icmp_le (tgt := 173) C dL_why_165 (by decide) ⟨by omega, by omega⟩ ⟨by omega, by omega⟩ (fun c165 => ?_) (fun c165 => ?_)
              · skip
                refine dp_iconst C dL_why_173 ?_
                refine dp_iret C hret dL_why_174 ?_
                refine ⟨?_, _, rfl, hsc⟩
                unfold rsM
                (repeat' split) <;> first | rfl | omega
              · skip
                refine dp_bipush C dL_why_168 (by decide) ?_
                refine dp_goto (tgt := 174) C dL_why_170 (by decide) ?_
                refine dp_iret C hret dL_why_174 ?_
                refine ⟨?_, _, rfl, hsc⟩
                unfold rsM
                (repeat' split) <;> first | rfl | omega
            · skip
              refine dp_bipush C dL_why_153 (by decide) ?_
              refine dp_goto (tgt := 174) C dL_why_155 (by decide) ?_
              refine dp_iret C hret dL_why_174 ?_
              refine ⟨?_, _, rfl, hsc⟩
              unfold rsM
              (repeat' split) <;> first | rfl | omega
          · skip
            refine dp_iconst C dL_why_142 ?_
            refine dp_goto (tgt := 174) C dL_why_143 (by decide) ?_
            refine dp_iret C hret dL_why_174 ?_
            refine ⟨?_, _, rfl, hsc⟩
            unfold rsM
            (repeat' split) <;> first | rfl | omega
        · skip
          refine dp_iconst C dL_why_133 ?_
          refine dp_goto (tgt := 174) C dL_why_134 (by decide) ?_
          refine dp_iret C hret dL_why_174 ?_
          refine ⟨?_, _, rfl, hsc⟩
          unfold rsM
          (repeat' split) <;> first | rfl | omega
      · skip
        refine dp_iconst C dL_why_118 ?_
        refine dp_goto (tgt := 174) C dL_why_119 (by decide) ?_
        refine dp_iret C hret dL_why_174 ?_
        refine ⟨?_, _, rfl, hsc⟩
        unfold rsM
        (repeat' split) <;> first | rfl | omega
    · skip
      refine dp_iconst C dL_why_107 ?_
      refine dp_goto (tgt := 174) C dL_why_108 (by decide) ?_
      refine dp_iret C hret dL_why_174 ?_
      refine ⟨?_, _, rfl, hsc⟩
      unfold rsM
      (repeat' split) <;> first | rfl | omega
  refine dp_bipush C dL_why_0 (by decide) ?_
  refine dp_iload_n C dL_why_2 rfl ?_
  refine dp_imul C dL_why_3 ?_
  refine dp_istore_n C dL_why_4 (Nat.le_of_ble_eq_true rfl) ?_
  dsimp only [List.set]
  refine dp_aload_n C dL_why_5 rfl ?_
  refine dp_iload_n C dL_why_6 rfl ?_
  refine dp_bipush C dL_why_7 (by decide) ?_
  refine dp_iadd C dL_why_9 ?_
  refine dp_ald_q C t 6 (by omega) (by omega) (by decide) dL_why_10 ?_
  refine dp_if_eq (tgt := 16) C dL_why_11 (by decide) ⟨by omega, by omega⟩ (fun c11 => ?_) (fun c11 => ?_)
  · skip
    refine dp_aload_n C dL_why_16 rfl ?_
    refine dp_iconst C dL_why_17 ?_
    refine dp_aload_n C dL_why_18 rfl ?_
    refine dp_iload_n C dL_why_19 rfl ?_
    refine dp_iconst C dL_why_20 ?_
    refine dp_iadd C dL_why_21 ?_
    refine dp_ald_q C t 1 (by omega) (by omega) (by decide) dL_why_22 ?_
    refine dp_cSi C (c_L_length C.2.2.1 l (a := 1) (to := V (t + 6) 1) (by decide) hv.2.2.2.2 ho (by omega)) gL_why_L_length rfl yyL_length rfl ⟨Nat.le_of_ble_eq_true rfl, Nat.le_of_ble_eq_true rfl⟩ rfl (Nat.le_of_ble_eq_true rfl) rfl ⟨Nat.zero_le _, Nat.zero_le _⟩ dL_why_23 (fun x23 M23 h23 => ?_)
    obtain ⟨rfl, X1, rfl, hs1⟩ := h23
    rw [show (1 : Nat) + 3 = 4 from rfl]
    refine dp_istore C dL_why_26 (Nat.le_of_ble_eq_true rfl) ?_
    dsimp only [List.set]
    refine dp_aload_n C dL_why_28 rfl ?_
    refine dp_aload_n C dL_why_29 rfl ?_
    refine dp_iload_n C dL_why_30 rfl ?_
    refine dp_ald_q C t 0 (by omega) (by omega) (by decide) dL_why_31 ?_
    refine dp_cSi C (c_L_pick C.2.2.1 l hv hz) gL_why_L_pick rfl yyL_pick rfl ⟨Nat.le_of_ble_eq_true rfl, Nat.le_of_ble_eq_true rfl⟩ rfl (Nat.le_of_ble_eq_true rfl) rfl ⟨Nat.zero_le _, Nat.zero_le _⟩ dL_why_32 (fun x32 M32 h32 => ?_)
    obtain ⟨rfl, X2, rfl, hs2⟩ := h32
    have hs2 := hs1.tr hs2
    refine dp_istore C dL_why_35 (Nat.le_of_ble_eq_true rfl) ?_
    dsimp only [List.set]
    refine dp_iconst C dL_why_37 ?_
    refine dp_istore C dL_why_38 (Nat.le_of_ble_eq_true rfl) ?_
    dsimp only [List.set]
    refine dp_iload C dL_why_40 rfl ?_
    refine dp_if_lt (tgt := 99) C dL_why_42 (by decide) ⟨by omega, by omega⟩ (fun c42 => ?_) (fun c42 => ?_)
    · skip
      first | exact J99 _ _ c11 hs2 (Or.inl c42) (by omega) | exact J99 _ _ c11 hs2 (Or.inr (Or.inl (by omega))) (by omega) | exact J99 _ _ c11 hs4 (Or.inr (Or.inr (by rw [em]; unfold mx; split <;> omega))) (by omega)
    · skip
      refine dp_iload C dL_why_45 rfl ?_
      refine dp_ldc C (-100000) (List.mem_of_getElem? (i := 1) rfl) rfl dL_why_47 ?_
      refine dp_icmp_le (tgt := 99) C dL_why_49 (by decide) ⟨by omega, by omega⟩ ⟨by omega, by omega⟩ (fun c49 => ?_) (fun c49 => ?_)
      · skip
        first | exact J99 _ _ c11 hs2 (Or.inl c42) (by omega) | exact J99 _ _ c11 hs2 (Or.inr (Or.inl (by omega))) (by omega) | exact J99 _ _ c11 hs4 (Or.inr (Or.inr (by rw [em]; unfold mx; split <;> omega))) (by omega)
      · skip
        have hp3 : ¬ wyP 3 (V 3) (pfF V (V (t + 6) 0)) (V 1 0) = 0 ∧ pfF V (V (t + 6) 0) = apF V (V (t + 6) 0) := by
          rcases hl3 with ⟨_, q⟩ | ⟨q1, q2⟩
          · omega
          · rw [q2]; exact ⟨q1, rfl⟩
        have hp4 : ¬ wyP 4 (V 4) (V (t + 6) 1) (V 1 0) = 0 := by omega
        have w3 := wyM_bd hv.2.2.2.1 (show -40000 ≤ pfF V (V (t + 6) 0) ∧ pfF V (V (t + 6) 0) ≤ 40000 by omega) ho
        have w4 := wyM_bd hv.2.2.2.2 (show -40000 ≤ V (t + 6) 1 ∧ V (t + 6) 1 ≤ 40000 by omega) ho
        have em : tmF V (apF V (V (t + 6) 0)) (V (t + 6) 1) = mx (wyM (V 3) (pfF V (V (t + 6) 0)) (V 1 0)) (wyM (V 4) (V (t + 6) 1) (V 1 0)) := by rw [hp3.2]; rfl
        refine dp_aload_n C dL_why_52 rfl ?_
        refine dp_iconst C dL_why_53 ?_
        refine dp_iload C dL_why_54 rfl ?_
        refine dp_cSi C (c_L_time C.2.2.1 l (a := 0) (to := pfF V (V (t + 6) 0)) (by decide) hv.2.2.2.1 ho (by omega) hp3.1) gL_why_L_time rfl yyL_time rfl ⟨Nat.le_of_ble_eq_true rfl, Nat.le_of_ble_eq_true rfl⟩ rfl (Nat.le_of_ble_eq_true rfl) rfl ⟨Nat.zero_le _, Nat.zero_le _⟩ dL_why_56 (fun x56 M56 h56 => ?_)
        obtain ⟨rfl, X3, rfl, hs3⟩ := h56
        rw [show (0 : Nat) + 3 = 3 from rfl]
        refine dp_istore C dL_why_59 (Nat.le_of_ble_eq_true rfl) ?_
        dsimp only [List.set]
        refine dp_aload_n C dL_why_61 rfl ?_
        refine dp_iconst C dL_why_62 ?_
        refine dp_aload_n C dL_why_63 rfl ?_
        refine dp_iload_n C dL_why_64 rfl ?_
        refine dp_iconst C dL_why_65 ?_
        refine dp_iadd C dL_why_66 ?_
        refine dp_ald_q C t 1 (by omega) (by omega) (by decide) dL_why_67 ?_
        refine dp_cSi C (c_L_time C.2.2.1 l (a := 1) (to := V (t + 6) 1) (by decide) hv.2.2.2.2 ho (by omega) hp4) gL_why_L_time rfl yyL_time rfl ⟨Nat.le_of_ble_eq_true rfl, Nat.le_of_ble_eq_true rfl⟩ rfl (Nat.le_of_ble_eq_true rfl) rfl ⟨Nat.zero_le _, Nat.zero_le _⟩ dL_why_68 (fun x68 M68 h68 => ?_)
        obtain ⟨rfl, X4, rfl, hs4⟩ := h68
        rw [show (1 : Nat) + 3 = 4 from rfl]
        have hs4 := (hs2.tr hs3).tr hs4
        refine dp_istore C dL_why_71 (Nat.le_of_ble_eq_true rfl) ?_
        dsimp only [List.set]
        refine dp_aload_n C dL_why_73 rfl ?_
        refine dp_iconst C dL_why_74 ?_
        refine dp_ald_g C 4 (c9 := 0) (k9 := 0) (by omega) (by decide) rfl rfl dL_why_75 ?_
        refine dp_aload_n C dL_why_76 rfl ?_
        refine dp_iload_n C dL_why_77 rfl ?_
        refine dp_iconst C dL_why_78 ?_
        refine dp_iadd C dL_why_79 ?_
        refine dp_ald_q C t 4 (by omega) (by omega) (by decide) dL_why_80 ?_
        refine dp_iadd C dL_why_81 ?_
        refine dp_iload C dL_why_82 rfl ?_
        refine dp_iload C dL_why_84 rfl ?_
        refine dp_icmp_le (tgt := 94) C dL_why_86 (by decide) ⟨by omega, by omega⟩ ⟨by omega, by omega⟩ (fun c86 => ?_) (fun c86 => ?_)
        · skip
          refine dp_iload C dL_why_94 rfl ?_
          refine dp_iadd C dL_why_96 ?_
          refine dp_istore C dL_why_97 (Nat.le_of_ble_eq_true rfl) ?_
          dsimp only [List.set]
          refine dp_dr 7 ?_
          refine dp_dr 8 ?_
          dsimp only [List.set]
          first | exact J99 _ _ c11 hs2 (Or.inl c42) (by omega) | exact J99 _ _ c11 hs2 (Or.inr (Or.inl (by omega))) (by omega) | exact J99 _ _ c11 hs4 (Or.inr (Or.inr (by rw [em]; unfold mx; split <;> omega))) (by omega)
        · skip
          refine dp_iload C dL_why_89 rfl ?_
          refine dp_goto (tgt := 96) C dL_why_91 (by decide) ?_
          refine dp_iadd C dL_why_96 ?_
          refine dp_istore C dL_why_97 (Nat.le_of_ble_eq_true rfl) ?_
          dsimp only [List.set]
          refine dp_dr 7 ?_
          refine dp_dr 8 ?_
          dsimp only [List.set]
          first | exact J99 _ _ c11 hs2 (Or.inl c42) (by omega) | exact J99 _ _ c11 hs2 (Or.inr (Or.inl (by omega))) (by omega) | exact J99 _ _ c11 hs4 (Or.inr (Or.inr (by rw [em]; unfold mx; split <;> omega))) (by omega)
  · skip
    refine dp_iconst C dL_why_14 ?_
    refine dp_iret C hret dL_why_15 ?_
    refine ⟨?_, _, rfl, lgs.rf⟩
    unfold rsM
    (repeat' split) <;> first | rfl | omega
theorem yyL_next : yL_next.cls ≠ "java/lang/invoke/MethodHandle" ∧ yL_next.cls ≠ "java/lang/invoke/VarHandle" ∧ (parseMethodDescriptor yL_next.desc).map (fun d => d.parameters.length) = some 2 := by decide +kernel
set_option maxHeartbeats 4000000 in
set_option maxRecDepth 100000 in
theorem c_L_next {E : dp_E} (hE : dp_OK E) (l : Launch) {M : dp_M} {V X : dp_V} {N : Nat} (hm : ivM V N) (h4 : N ≤ 4) (hq : uq V N) : dp_met E l yL_next wsL_next 5 133 [.ref (eAd E 8 0), .ref (eAd E 8 1)] (dN M V X) (dp_qi E (fun y M1 => y = ftF (bnM V N) ∧ ∃ X', M1 = dN M V X' ∧ lgs X X')) := by
  refine dp_of (cc := cL_next) (nL := 5) (own := RL) (ret := some (.int)) (by decide +kernel) rfl rfl hE (by simp [Value.category]) (Nat.le_of_ble_eq_true rfl) ?_
  intro p e s m below meth co C hret
  show dp_G _ _ _ _ _ _ _ _ _ _ _ _ _ _ _ _ _ [some (.ref (eAd E 8 0)), some (.ref (eAd E 8 1)), none, none, none] _
  have hm2 := hm
  obtain ⟨hN, h10, hv, hT⟩ := hm
  have h0 := hv.1
  have h1 := hv.2.1
  have ho : 0 ≤ V 1 0 ∧ V 1 0 ≤ 500 := by omega
  have J22 : ∀ (n pp : Nat) (b pi ki : Int) (X' : dp_V), ki = (n : Int) - 1 → pi = pp → n ≤ N → pp < 10 → (b = -100004 ∨ (0 ≤ b ∧ b < N)) → lgs X X' → nxO V N pp (nxI V N pp n b) = ftF (bnM V N) → (∀ (b2 ki2 : Int) (X2 : dp_V), (b2 = -100004 ∨ (0 ≤ b2 ∧ b2 < N)) → lgs X X2 → nxO V N pp b2 = ftF (bnM V N) → dp_G E (dp_A E) p l e (dp_rm 5 133) s m [.ref (eAd E 8 0), .ref (eAd E 8 1)].toArray below meth co 0 0 (MQ below (dp_qi E (fun y M1 => y = ftF (bnM V N) ∧ ∃ X', M1 = dN M V X' ∧ lgs X X')) [.ref (eAd E 8 0), .ref (eAd E 8 1)].toArray s 0 0 (dp_A E)) (dN M V X2) 87 [some (.ref (eAd E 8 0)), some (.ref (eAd E 8 1)), some (.int (dp_I b2)), some (.int (dp_I pi)), some (.int (dp_I ki2))] []) → dp_G E (dp_A E) p l e (dp_rm 5 133) s m [.ref (eAd E 8 0), .ref (eAd E 8 1)].toArray below meth co 0 0 (MQ below (dp_qi E (fun y M1 => y = ftF (bnM V N) ∧ ∃ X', M1 = dN M V X' ∧ lgs X X')) [.ref (eAd E 8 0), .ref (eAd E 8 1)].toArray s 0 0 (dp_A E)) (dN M V X') 22 [some (.ref (eAd E 8 0)), some (.ref (eAd E 8 1)), some (.int (dp_I b)), some (.int (dp_I pi)), some (.int (dp_I ki))] [] := by
    refine dp_ind (fun n ih => ?_)
    intro pp b pi ki X' hki hpi hn hp hb hsc hf K9
    refine dp_iload C dL_next_22 rfl ?_
    refine dp_if_lt (tgt := 87) C dL_next_24 (by decide) ⟨by omega, by omega⟩ (fun c24 => ?_) (fun c24 => ?_)
    · skip
      obtain rfl : n = 0 := by omega
      exact K9 _ _ _ hb hsc hf
    · skip
      obtain ⟨n, rfl⟩ : ∃ n', n = n' + 1 := ⟨n - 1, by omega⟩
      obtain rfl : ki = (n : Int) := by omega
      have ht : n < N := by omega
      have hst := hT n ht
      unfold ivT at hst
      rw [show nxI V N pp (n + 1) b = nxI V N pp n (if V (n + 6) 5 = pp ∧ rsM V N n = 0 then (if b < 0 then (n : Int) else if V (n + 6) 3 ≤ V (b.toNat + 6) 3 then (n : Int) else b) else b) from rfl] at hf
      refine dp_aload_n C dL_next_27 rfl ?_
      refine dp_bipush C dL_next_28 (by decide) ?_
      refine dp_iload C dL_next_30 rfl ?_
      refine dp_imul C dL_next_32 ?_
      refine dp_iconst C dL_next_33 ?_
      refine dp_iadd C dL_next_34 ?_
      refine dp_ald_q C n 5 (by omega) (by omega) (by decide) dL_next_35 ?_
      refine dp_iload_n C dL_next_36 rfl ?_
      refine dp_icmp_ne (tgt := 81) C dL_next_37 (by decide) ⟨by omega, by omega⟩ ⟨by omega, by omega⟩ (fun c37 => ?_) (fun c37 => ?_)
      · skip
        rw [if_neg (fun q => by omega)] at hf
        refine dp_iinc C dL_next_81 rfl ?_
        dsimp only [List.set]
        refine dp_goto (tgt := 22) C dL_next_84 (by decide) ?_
        exact ih n (by omega) pp _ _ _ _ (by omega) hpi (by omega) hp (by first | exact hb | exact Or.inr ⟨by omega, by omega⟩) (by first | exact hsc.tr hs9 | exact hsc) hf K9
      · skip
        refine dp_aload_n C dL_next_40 rfl ?_
        refine dp_aload_n C dL_next_41 rfl ?_
        refine dp_iload C dL_next_42 rfl ?_
        refine dp_cSi C (c_L_why C.2.2.1 l hm2 h4 hq ht) gL_next_L_why rfl yyL_why rfl ⟨Nat.le_of_ble_eq_true rfl, Nat.le_of_ble_eq_true rfl⟩ rfl (Nat.le_of_ble_eq_true rfl) rfl ⟨Nat.zero_le _, Nat.zero_le _⟩ dL_next_44 (fun x44 M44 h44 => ?_)
        obtain ⟨rfl, X9, rfl, hs9⟩ := h44
        have hrb := @rsM_bd V N n
        refine dp_if_ne (tgt := 81) C dL_next_47 (by decide) ⟨by omega, by omega⟩ (fun c47 => ?_) (fun c47 => ?_)
        · skip
          rw [if_neg (fun q => by omega)] at hf
          refine dp_iinc C dL_next_81 rfl ?_
          dsimp only [List.set]
          refine dp_goto (tgt := 22) C dL_next_84 (by decide) ?_
          exact ih n (by omega) pp _ _ _ _ (by omega) hpi (by omega) hp (by first | exact hb | exact Or.inr ⟨by omega, by omega⟩) (by first | exact hsc.tr hs9 | exact hsc) hf K9
        · skip
          rw [if_pos ⟨by omega, by omega⟩] at hf
          refine dp_iload_n C dL_next_50 rfl ?_
          refine dp_if_lt (tgt := 74) C dL_next_51 (by decide) ⟨by omega, by omega⟩ (fun c51 => ?_) (fun c51 => ?_)
          · skip
            rw [if_pos (by omega)] at hf
            refine dp_iload C dL_next_74 rfl ?_
            refine dp_goto (tgt := 80) C dL_next_76 (by decide) ?_
            refine dp_istore_n C dL_next_80 (Nat.le_of_ble_eq_true rfl) ?_
            dsimp only [List.set]
            refine dp_iinc C dL_next_81 rfl ?_
            dsimp only [List.set]
            refine dp_goto (tgt := 22) C dL_next_84 (by decide) ?_
            exact ih n (by omega) pp _ _ _ _ (by omega) hpi (by omega) hp (by first | exact hb | exact Or.inr ⟨by omega, by omega⟩) (by first | exact hsc.tr hs9 | exact hsc) hf K9
          · skip
            rw [if_neg (by omega)] at hf
            obtain ⟨u, rfl⟩ : ∃ u : Nat, b = u := ⟨b.toNat, by omega⟩
            have hu : u < N := by omega
            have hsu := hT u hu
            unfold ivT at hsu
            rw [Int.toNat_natCast] at hf
            refine dp_aload_n C dL_next_54 rfl ?_
            refine dp_bipush C dL_next_55 (by decide) ?_
            refine dp_iload C dL_next_57 rfl ?_
            refine dp_imul C dL_next_59 ?_
            refine dp_iconst C dL_next_60 ?_
            refine dp_iadd C dL_next_61 ?_
            refine dp_ald_q C n 3 (by omega) (by omega) (by decide) dL_next_62 ?_
            refine dp_aload_n C dL_next_63 rfl ?_
            refine dp_bipush C dL_next_64 (by decide) ?_
            refine dp_iload_n C dL_next_66 rfl ?_
            refine dp_imul C dL_next_67 ?_
            refine dp_iconst C dL_next_68 ?_
            refine dp_iadd C dL_next_69 ?_
            refine dp_ald_q C u 3 (by omega) (by omega) (by decide) dL_next_70 ?_
            refine dp_icmp_gt (tgt := 79) C dL_next_71 (by decide) ⟨by omega, by omega⟩ ⟨by omega, by omega⟩ (fun c71 => ?_) (fun c71 => ?_)
            · skip
              rw [if_neg (by omega)] at hf
              refine dp_iload_n C dL_next_79 rfl ?_
              refine dp_istore_n C dL_next_80 (Nat.le_of_ble_eq_true rfl) ?_
              dsimp only [List.set]
              refine dp_iinc C dL_next_81 rfl ?_
              dsimp only [List.set]
              refine dp_goto (tgt := 22) C dL_next_84 (by decide) ?_
              exact ih n (by omega) pp _ _ _ _ (by omega) hpi (by omega) hp (by first | exact hb | exact Or.inr ⟨by omega, by omega⟩) (by first | exact hsc.tr hs9 | exact hsc) hf K9
            · skip
              rw [if_pos (by omega)] at hf
              refine dp_iload C dL_next_74 rfl ?_
              refine dp_goto (tgt := 80) C dL_next_76 (by decide) ?_
              refine dp_istore_n C dL_next_80 (Nat.le_of_ble_eq_true rfl) ?_
              dsimp only [List.set]
              refine dp_iinc C dL_next_81 rfl ?_
              dsimp only [List.set]
              refine dp_goto (tgt := 22) C dL_next_84 (by decide) ?_
              exact ih n (by omega) pp _ _ _ _ (by omega) hpi (by omega) hp (by first | exact hb | exact Or.inr ⟨by omega, by omega⟩) (by first | exact hsc.tr hs9 | exact hsc) hf K9
  have J6 : ∀ (n : Nat) (b pi : Int) (X' : dp_V), pi = (n : Int) - 1 → n ≤ 10 → (b = -100004 ∨ (0 ≤ b ∧ b < N)) → lgs X X' → nxO V N n b = ftF (bnM V N) → dp_G E (dp_A E) p l e (dp_rm 5 133) s m [.ref (eAd E 8 0), .ref (eAd E 8 1)].toArray below meth co 0 0 (MQ below (dp_qi E (fun y M1 => y = ftF (bnM V N) ∧ ∃ X', M1 = dN M V X' ∧ lgs X X')) [.ref (eAd E 8 0), .ref (eAd E 8 1)].toArray s 0 0 (dp_A E)) (dN M V X') 6 [some (.ref (eAd E 8 0)), some (.ref (eAd E 8 1)), some (.int (dp_I b)), some (.int (dp_I pi)), none] [] := by
    refine dp_ind (fun n ih => ?_)
    intro b pi X' hpi hn hb hsc hf
    refine dp_iload_n C dL_next_6 rfl ?_
    refine dp_if_lt (tgt := 93) C dL_next_7 (by decide) ⟨by omega, by omega⟩ (fun c7 => ?_) (fun c7 => ?_)
    · skip
      obtain rfl : n = 0 := by omega
      refine dp_iload_n C dL_next_93 rfl ?_
      refine dp_iret C hret dL_next_94 ?_
      first | exact ⟨by rw [← hf, hf9], _, rfl, hsc⟩ | exact ⟨by rw [← hf]; rfl, _, rfl, hsc⟩
    · skip
      obtain ⟨n, rfl⟩ : ∃ n', n = n' + 1 := ⟨n - 1, by omega⟩
      refine dp_iload_n C dL_next_10 rfl ?_
      refine dp_if_ge (tgt := 93) C dL_next_11 (by decide) ⟨by omega, by omega⟩ (fun c11 => ?_) (fun c11 => ?_)
      · skip
        have hf9 : nxO V N (n + 1) b = b := if_neg (by omega)
        refine dp_iload_n C dL_next_93 rfl ?_
        refine dp_iret C hret dL_next_94 ?_
        first | exact ⟨by rw [← hf, hf9], _, rfl, hsc⟩ | exact ⟨by rw [← hf]; rfl, _, rfl, hsc⟩
      · skip
        refine dp_aload_n C dL_next_14 rfl ?_
        refine dp_bipush C dL_next_15 (by decide) ?_
        refine dp_ald_g C 7 (c9 := 0) (k9 := 3) (by omega) (by decide) rfl rfl dL_next_17 ?_
        refine dp_iconst C dL_next_18 ?_
        refine dp_isub C dL_next_19 ?_
        refine dp_istore C dL_next_20 (Nat.le_of_ble_eq_true rfl) ?_
        dsimp only [List.set]
        exact J22 N n _ _ _ _ (by omega) (by omega) (Nat.le_refl _) (by omega) hb hsc (by rw [← hf, show nxO V N (n + 1) b = (if b < 0 then nxO V N n (nxI V N n N b) else b) from rfl, if_pos (by omega)]) (fun b2 ki2 X2 hb2 hs2 hf2 => by
          refine dp_iinc C dL_next_87 rfl ?_
          dsimp only [List.set]
          refine dp_goto (tgt := 6) C dL_next_90 (by decide) ?_
          refine dp_dr 4 ?_
          dsimp only [List.set]
          exact ih n (by omega) _ _ _ (by omega) (by omega) hb2 hs2 hf2)
  refine dp_ldc C (-100004) (List.mem_of_getElem? (i := 1) rfl) rfl dL_next_0 ?_
  refine dp_istore_n C dL_next_2 (Nat.le_of_ble_eq_true rfl) ?_
  dsimp only [List.set]
  refine dp_bipush C dL_next_3 (by decide) ?_
  refine dp_istore_n C dL_next_5 (Nat.le_of_ble_eq_true rfl) ?_
  dsimp only [List.set]
  exact J6 10 _ _ _ (by omega) (by omega) (Or.inl rfl) lgs.rf (nx_bn (fun u hu => by have := hT u hu; unfold ivT at this; omega))
theorem yyL_push : yL_push.cls ≠ "java/lang/invoke/MethodHandle" ∧ yL_push.cls ≠ "java/lang/invoke/VarHandle" ∧ (parseMethodDescriptor yL_push.desc).map (fun d => d.parameters.length) = some 3 := by decide +kernel
set_option maxHeartbeats 4000000 in
set_option maxRecDepth 100000 in
theorem c_L_push {E : dp_E} (hE : dp_OK E) (l : Launch) {M : dp_M} {V X : dp_V} (hv : ivS V) {t : Nat} (ht4 : t < 4) (hT : ivT (V (t + 6))) (h6 : V (t + 6) 6 = 1) : dp_met E l yL_push wsL_push 1 21 [.ref (eAd E 8 0), .ref (eAd E 8 1), .int (dp_I ((t : Int)))] (dN M V X) (dp_qv E (fun M1 => M1 = dN M (puV V t) X)) := by
  refine dp_of (cc := cL_push) (nL := 4) (own := RL) (ret := none) (by decide +kernel) rfl rfl hE (by simp [Value.category]) (Nat.le_of_ble_eq_true rfl) ?_
  intro p e s m below meth co C hret
  show dp_G _ _ _ _ _ _ _ _ _ _ _ _ _ _ _ _ _ [some (.ref (eAd E 8 0)), some (.ref (eAd E 8 1)), some (.int (dp_I ((t : Int)))), none] _
  have h0 := hv.1
  have h1 := hv.2.1
  have hA := hv.2.2.2.1
  unfold ivA at hA
  have hst := hT
  unfold ivT at hst
  have h15 := hst.2.2.2.2.2.2.2.2.2.2.2.2.2 h6
  have hkb := @kdF_bd V
  refine dp_bipush C dL_push_0 (by decide) ?_
  refine dp_iload_n C dL_push_2 rfl ?_
  refine dp_imul C dL_push_3 ?_
  refine dp_istore_n C dL_push_4 (Nat.le_of_ble_eq_true rfl) ?_
  dsimp only [List.set]
  refine dp_aload_n C dL_push_5 rfl ?_
  refine dp_iload_n C dL_push_6 rfl ?_
  refine dp_bipush C dL_push_7 (by decide) ?_
  refine dp_iadd C dL_push_9 ?_
  refine dp_ald_q C t 8 (by omega) (by omega) (by decide) dL_push_10 ?_
  refine dp_aload_n C dL_push_11 rfl ?_
  refine dp_iconst C dL_push_12 ?_
  refine dp_ald_g C 4 (c9 := 0) (k9 := 0) (by omega) (by decide) rfl rfl dL_push_13 ?_
  refine dp_icmp_ne (tgt := 73) C dL_push_14 (by decide) ⟨by omega, by omega⟩ ⟨by omega, by omega⟩ (fun c14 => ?_) (fun c14 => ?_)
  · skip
    refine dp_vret C hret dL_push_73 ?_
    congr 1
    unfold puV
    first | (rw [if_neg (by omega)]; done) | (rw [if_pos (by omega), if_neg (by omega)]; done) | (rw [if_pos (by omega), if_pos (by omega)]; first | (rw [if_neg (by omega)]; done) | (rw [if_pos (by omega)]; first | (rw [if_pos (by omega)]; done) | (rw [if_neg (by omega)]; done)))
  · skip
    refine dp_aload_n C dL_push_17 rfl ?_
    refine dp_iload_n C dL_push_18 rfl ?_
    refine dp_bipush C dL_push_19 (by decide) ?_
    refine dp_iadd C dL_push_21 ?_
    refine dp_ald_q C t 13 (by omega) (by omega) (by decide) dL_push_22 ?_
    refine dp_if_ne (tgt := 73) C dL_push_23 (by decide) ⟨by omega, by omega⟩ (fun c23 => ?_) (fun c23 => ?_)
    · skip
      refine dp_vret C hret dL_push_73 ?_
      congr 1
      unfold puV
      first | (rw [if_neg (by omega)]; done) | (rw [if_pos (by omega), if_neg (by omega)]; done) | (rw [if_pos (by omega), if_pos (by omega)]; first | (rw [if_neg (by omega)]; done) | (rw [if_pos (by omega)]; first | (rw [if_pos (by omega)]; done) | (rw [if_neg (by omega)]; done)))
    · skip
      refine dp_aload_n C dL_push_26 rfl ?_
      refine dp_bipush C dL_push_27 (by decide) ?_
      refine dp_aload_n C dL_push_29 rfl ?_
      refine dp_cSi C (c_L_day C.2.2.1 l hv) gL_push_L_day rfl yyL_day rfl ⟨Nat.le_of_ble_eq_true rfl, Nat.le_of_ble_eq_true rfl⟩ rfl (Nat.le_of_ble_eq_true rfl) rfl ⟨Nat.zero_le _, Nat.zero_le _⟩ dL_push_30 (fun x30 M30 h30 => ?_)
      obtain ⟨rfl, rfl⟩ := h30
      refine dp_iconst C dL_push_33 ?_
      refine dp_icmp_eq (tgt := 44) C dL_push_34 (by decide) ⟨by omega, by omega⟩ ⟨by omega, by omega⟩ (fun c34 => ?_) (fun c34 => ?_)
      · skip
        refine dp_aload_n C dL_push_44 rfl ?_
        refine dp_iconst C dL_push_45 ?_
        refine dp_ald_g C 4 (c9 := 0) (k9 := 0) (by omega) (by decide) rfl rfl dL_push_46 ?_
        refine dp_sipush C dL_push_47 (by decide) ?_
        refine dp_idiv C ⟨by omega, by omega, by omega, by omega⟩ dL_push_50 ?_
        refine dp_iconst C dL_push_51 ?_
        refine dp_irem C ⟨by omega, by omega, by omega, by omega⟩ dL_push_52 ?_
        refine dp_iconst C dL_push_53 ?_
        refine dp_icmp_ne (tgt := 64) C dL_push_54 (by decide) ⟨by omega, by omega⟩ ⟨by omega, by omega⟩ (fun c54 => ?_) (fun c54 => ?_)
        · skip
          refine dp_iconst C dL_push_64 ?_
          refine dp_ast_g C 12 (c9 := 3) (k9 := 4) (by omega) (by decide) rfl rfl dL_push_65 ?_
          refine dp_aload_n C dL_push_66 rfl ?_
          refine dp_iload_n C dL_push_67 rfl ?_
          refine dp_bipush C dL_push_68 (by decide) ?_
          refine dp_iadd C dL_push_70 ?_
          refine dp_iconst C dL_push_71 ?_
          refine dp_ast_q C t 13 (by omega) (by omega) (by decide) dL_push_72 ?_
          refine dp_vret C hret dL_push_73 ?_
          congr 1
          unfold puV
          first | (rw [if_neg (by omega)]; done) | (rw [if_pos (by omega), if_neg (by omega)]; done) | (rw [if_pos (by omega), if_pos (by omega)]; first | (rw [if_neg (by omega)]; done) | (rw [if_pos (by omega)]; first | (rw [if_pos (by omega)]; done) | (rw [if_neg (by omega)]; done)))
        · skip
          refine dp_aload_n C dL_push_57 rfl ?_
          refine dp_bipush C dL_push_58 (by decide) ?_
          refine dp_ald_g C 8 (c9 := 3) (k9 := 0) (by omega) (by decide) rfl rfl dL_push_60 ?_
          refine dp_goto (tgt := 65) C dL_push_61 (by decide) ?_
          refine dp_ast_g C 12 (c9 := 3) (k9 := 4) (by omega) (by decide) rfl rfl dL_push_65 ?_
          refine dp_aload_n C dL_push_66 rfl ?_
          refine dp_iload_n C dL_push_67 rfl ?_
          refine dp_bipush C dL_push_68 (by decide) ?_
          refine dp_iadd C dL_push_70 ?_
          refine dp_iconst C dL_push_71 ?_
          refine dp_ast_q C t 13 (by omega) (by omega) (by decide) dL_push_72 ?_
          refine dp_vret C hret dL_push_73 ?_
          congr 1
          unfold puV
          first | (rw [if_neg (by omega)]; done) | (rw [if_pos (by omega), if_neg (by omega)]; done) | (rw [if_pos (by omega), if_pos (by omega)]; first | (rw [if_neg (by omega)]; done) | (rw [if_pos (by omega)]; first | (rw [if_pos (by omega)]; done) | (rw [if_neg (by omega)]; done)))
      · skip
        refine dp_aload_n C dL_push_37 rfl ?_
        refine dp_bipush C dL_push_38 (by decide) ?_
        refine dp_ald_g C 12 (c9 := 3) (k9 := 4) (by omega) (by decide) rfl rfl dL_push_40 ?_
        refine dp_goto (tgt := 65) C dL_push_41 (by decide) ?_
        refine dp_ast_g C 12 (c9 := 3) (k9 := 4) (by omega) (by decide) rfl rfl dL_push_65 ?_
        refine dp_aload_n C dL_push_66 rfl ?_
        refine dp_iload_n C dL_push_67 rfl ?_
        refine dp_bipush C dL_push_68 (by decide) ?_
        refine dp_iadd C dL_push_70 ?_
        refine dp_iconst C dL_push_71 ?_
        refine dp_ast_q C t 13 (by omega) (by omega) (by decide) dL_push_72 ?_
        refine dp_vret C hret dL_push_73 ?_
        congr 1
        unfold puV
        first | (rw [if_neg (by omega)]; done) | (rw [if_pos (by omega), if_neg (by omega)]; done) | (rw [if_pos (by omega), if_pos (by omega)]; first | (rw [if_neg (by omega)]; done) | (rw [if_pos (by omega)]; first | (rw [if_pos (by omega)]; done) | (rw [if_neg (by omega)]; done)))
