/-! WHAT HOLDS BETWEEN CALLS, of the class and of the reference in one memory -/
/-- a state of the class and one of the reference that are alike -/
def Gd (V W : dp_V) : Prop := ∃ N, Sim V W N ∧ I1 V ∧ I2 V
/-- the texts are alike -/
def TX (X Z : dp_V) : Prop := X 3 0 = Z 0 1 ∧ ∀ i : Nat, (i : Int) < X 3 0 → X 4 i = Z 4 i
theorem TX.sg {X Z : dp_V} (h : TX X Z) : sgF X = sgF (mT Z) := by
  funext i
  have e3 : mT Z 3 0 = Z 0 1 := rfl
  have e4 : mT Z 4 = Z 4 := rfl
  unfold sgF
  rw [e3, e4, h.1]
  by_cases a : i < 0
  · rw [if_pos a, if_pos a]
  · rw [if_neg a, if_neg a]
    by_cases b : i < Z 0 1
    · rw [if_pos b, if_pos b]
      by_cases c : i < 100
      · rw [if_pos c, if_pos c]
        exact h.2 i.toNat (by have := h.1; omega)
      · rw [if_neg c, if_neg c]
    · rw [if_neg b, if_neg b]
def iM (M : dp_M) : Prop := (∀ r, r < 7 → ivC (M r)) ∧ hOK (M 7) ∧ (∀ i j, i < 5 → j < 5 → M 7 2 i = M 7 2 j → i = j) ∧ (tOK (M 7) ∧ nOK (M 7) ∧ tOK (mT (M 8)) ∧ TX (M 7) (M 8)) ∧ M 7 1 0 = M 8 0 0 ∧ Gd (M 0) (M 9) ∧ ∀ i : Nat, (i : Int) < M 7 1 0 → Gd (M (M 7 2 i).toNat) (M (40 + i))
theorem iM.keep {M M2 : dp_M} (h : iM M) (h0 : M2 0 = M 0) (h1 : ivC (M2 1)) (h2 : ∀ r, 2 ≤ r → r < 7 → M2 r = M r) (h7 : M2 7 1 0 = M 7 1 0 ∧ M2 7 2 = M 7 2) (ht : tOK (M2 7) ∧ nOK (M2 7) ∧ tOK (mT (M2 8)) ∧ TX (M2 7) (M2 8)) (h8 : M2 8 0 0 = M 8 0 0) (h9 : M2 9 = M 9) (h40 : ∀ i, M2 (40 + i) = M (40 + i)) : iM M2 := by
  obtain ⟨a, b, c, -, e, f, g⟩ := h
  refine ⟨fun r hr => ?_, ?_, ?_, ht, by rw [h7.1, h8, e], by rw [h0, h9]; exact f, fun i hi => ?_⟩
  · by_cases r0 : r = 0
    · subst r0; rw [h0]; exact a 0 hr
    · by_cases r1 : r = 1
      · subst r1; exact h1
      · rw [h2 r (by omega) hr]; exact a r hr
  · unfold hOK at b ⊢
    rw [h7.1, h7.2]; exact b
  · rw [h7.2]; exact c
  · rw [h7.1] at hi
    rw [h7.2, h40]
    have hb := b.2.2 i (by have := b.2.1; omega)
    rw [h2 _ (by omega) (by omega)]
    exact g i hi
theorem rcX1_1 {X : dp_V} : rcX1 X 1 0 = rcX X 1 0 + 1 := by
  unfold rcX1
  rw [u2_same, u1_same]
theorem rcX1_2 {X : dp_V} : rcX1 X 2 = rcX X 2 := by
  unfold rcX1
  rw [u2_ne (by decide)]
theorem rcX_lt {X : dp_V} (h : X 1 0 < 5) : rcX X = X := if_pos h
theorem rcX_ge {X : dp_V} (h : ¬ X 1 0 < 5) : rcX X 1 0 = 4 ∧ rcX X 2 = rotP (X 2) := by
  unfold rcX
  rw [if_neg h]
  unfold drX
  exact ⟨by rw [u2_same, u1_same], by rw [u2_ne (by decide), uc_same]⟩
theorem iM.rec {M : dp_M} (h : iM M) {X1 Y1 V' W' Z1 : dp_V} (hv : ivC V') (hg : Gd V' W') (hX : X1 1 0 = rcX1 (M 7) 1 0 ∧ X1 2 = rcX1 (M 7) 2 ∧ X1 3 0 = M 7 3 0 ∧ X1 4 = M 7 4) (hn : nOK X1) (hZ : Z1 0 0 = rsX (M 8) 0 0 ∧ Z1 0 1 = M 8 0 1 ∧ Z1 4 = M 8 4) : iM (dN (rnW (dS (dR (dR M (rcJ (M 7)) (M 0)) 7 X1) 0 V' Y1) (M 9) (M 8)) W' Z1) := by
  obtain ⟨a, b, c, ⟨t1, t2, t3, t4⟩, e, f, g⟩ := h
  have hJ := rcJ_ok b
  obtain ⟨hK, hK4⟩ := rcX_ok b
  generalize hM1 : dS (dR (dR M (rcJ (M 7)) (M 0)) 7 X1) 0 V' Y1 = M1
  have m0 : M1 0 = V' := by rw [← hM1]; exact dS_V _ _ _ _
  have m7 : M1 7 = X1 := by rw [← hM1, dS_ne (by omega) (by omega), dR_same]
  have mJ : M1 (rcJ (M 7)) = M 0 := by rw [← hM1, dS_ne (by omega) (by omega), dR_ne (by omega), dR_same]
  have mr : ∀ r, 1 ≤ r → r < 7 → r ≠ rcJ (M 7) → M1 r = M r := fun r q1 q2 q3 => by rw [← hM1, dS_ne (by omega) (by omega), dR_ne (by omega), dR_ne q3]
  have m40 : ∀ i, M1 (40 + i) = M (40 + i) := fun i => by rw [← hM1, dS_ne (by omega) (by omega), dR_ne (by omega), dR_ne (by omega)]
  generalize hM2 : dN (rnW M1 (M 9) (M 8)) W' Z1 = M2
  have lo : ∀ r, r < 8 → M2 r = M1 r := fun r q => by rw [← hM2, dN_ne (by omega) (by omega), rnW_lt (by omega)]
  have n8 : M2 8 = Z1 := by rw [← hM2, dN_X]
  have n9 : M2 9 = W' := by rw [← hM2, dN_V]
  have hi : ∀ i, M2 (40 + i) = rnW M1 (M 9) (M 8) (40 + i) := fun i => by rw [← hM2, dN_ne (by omega) (by omega)]
  have x1 : M2 7 1 0 = rcX (M 7) 1 0 + 1 := by rw [lo 7 (by decide), m7, hX.1, rcX1_1]
  have x2 : M2 7 2 = rcX (M 7) 2 := by rw [lo 7 (by decide), m7, hX.2.1, rcX1_2]
  have z0 : M2 8 0 0 = (if M 8 0 0 = 5 then 5 else M 8 0 0 + 1) := by
    rw [n8, hZ.1]
    unfold rsX
    rw [u2_same, u1_same]
  refine ⟨fun r hr => ?_, ?_, ?_, ⟨?_, ?_, ?_, ?_⟩, ?_, ?_, ?_⟩
  · rw [lo r (by omega)]
    by_cases r0 : r = 0
    · subst r0; rw [m0]; exact hv
    · by_cases rJ : r = rcJ (M 7)
      · subst rJ; rw [mJ]; exact a 0 (by decide)
      · rw [mr r (by omega) hr rJ]; exact a r hr
  · unfold hOK
    rw [x1, x2]
    exact ⟨by have := hK.1; omega, by omega, hK.2.2⟩
  · rw [x2]
    intro i j hi hj he
    by_cases q : M 7 1 0 < 5
    · rw [rcX_lt q] at he
      exact c i j hi hj he
    · rw [(rcX_ge q).2] at he
      unfold rotP at he
      by_cases i4 : i < 4
      · rw [if_pos i4] at he
        by_cases j4 : j < 4
        · rw [if_pos j4] at he
          have := c _ _ (by omega) (by omega) he
          omega
        · rw [if_neg j4, if_pos (by omega)] at he
          have := c _ _ (by omega) (by omega) he
          omega
      · rw [if_neg i4, if_pos (by omega)] at he
        by_cases j4 : j < 4
        · rw [if_pos j4] at he
          have := c _ _ (by omega) (by omega) he
          omega
        · omega
  · rw [lo 7 (by decide), m7]
    unfold tOK at t1 ⊢
    rw [hX.2.2.1, hX.2.2.2]; exact t1
  · rw [lo 7 (by decide), m7]; exact hn
  · rw [n8]
    have e1 : mT Z1 3 0 = M 8 0 1 := hZ.2.1
    have e2 : mT Z1 4 = M 8 4 := hZ.2.2
    have e3 : mT (M 8) 3 0 = M 8 0 1 := rfl
    have e4 : mT (M 8) 4 = M 8 4 := rfl
    unfold tOK at t3 ⊢
    rw [e1, e2]
    rw [e3, e4] at t3
    exact t3
  · rw [lo 7 (by decide), m7, n8]
    unfold TX at t4 ⊢
    rw [hX.2.2.1, hX.2.2.2, hZ.2.1, hZ.2.2]; exact t4
  · rw [x1, z0, ← e]
    by_cases q : M 7 1 0 < 5
    · rw [rcX_lt q, if_neg (by omega)]
    · rw [(rcX_ge q).1, if_pos (by have := b.2.1; omega)]
      rfl
  · rw [lo 0 (by decide), m0, n9]; exact hg
  · intro i hlt
    rw [x1] at hlt
    rw [x2, hi]
    by_cases q : M 7 1 0 < 5
    · rw [rcX_lt q] at hlt ⊢
      have hJe : rcJ (M 7) = (M 7 2 (M 7 1 0).toNat).toNat := by unfold rcJ; rw [rcX_lt q]
      have hb := b.2.2 i (by omega)
      have hrn : rnW M1 (M 9) (M 8) = dR M1 (40 + (M 7 1 0).toNat) (M 9) := by
        unfold rnW
        rw [if_neg (by omega), ← e]
      rw [lo _ (by omega), hrn]
      by_cases ei : (i : Int) = M 7 1 0
      · have en : i = (M 7 1 0).toNat := by omega
        rw [en, ← hJe, mJ, dR_same]
        exact f
      · have ne : (M 7 2 i).toNat ≠ rcJ (M 7) := fun z => by
          rw [hJe] at z
          have hb2 := b.2.2 (M 7 1 0).toNat (by have := b.1; omega)
          have := c i (M 7 1 0).toNat (by omega) (by have := b.1; omega) (by omega)
          omega
        rw [mr _ (by omega) (by omega) ne, dR_ne (by omega), m40]
        exact g i (by omega)
    · have h5 : M 8 0 0 = 5 := by have := b.2.1; omega
      rw [(rcX_ge q).1] at hlt
      rw [(rcX_ge q).2]
      have hJe : rcJ (M 7) = (M 7 2 0).toNat := by
        unfold rcJ
        rw [(rcX_ge q).1, (rcX_ge q).2]
        rfl
      rw [rnW_hi h5 (by omega)]
      unfold rotP
      by_cases i4 : i < 4
      · rw [if_pos i4, if_neg (by omega)]
        have hb := b.2.2 (i + 1) (by omega)
        have ne : (M 7 2 (i + 1)).toNat ≠ rcJ (M 7) := fun z => by
          rw [hJe] at z
          have hb2 := b.2.2 0 (by omega)
          have := c (i + 1) 0 (by omega) (by omega) (by omega)
          omega
        rw [lo _ (by omega), mr _ (by omega) (by omega) ne, show 40 + i + 1 = 40 + (i + 1) by omega, m40]
        exact g (i + 1) (by have := b.2.1; omega)
      · have en : i = 4 := by omega
        subst en
        have hb := b.2.2 0 (by omega)
        rw [if_neg (by decide), if_pos rfl, if_pos rfl, ← hJe, lo _ (by omega), mJ]
        exact f
/-- a target of the reference is within its ranges, where the class's is -/
theorem TS.iv {f g : Nat → Int} (h : TS f g) (hf : ivT f) : ivT g := by
  obtain ⟨a, b, c, d, e⟩ := h
  have a0 := a 0 (by decide)
  have a1 := a 1 (by decide)
  have a2 := a 2 (by decide)
  have a3 := a 3 (by decide)
  have a4 := a 4 (by decide)
  have a5 := a 5 (by decide)
  have a6 := a 6 (by decide)
  unfold ivT at hf ⊢
  refine ⟨by omega, by omega, by omega, by omega, by omega, by omega, by omega, by omega, by omega, by omega, by omega, by omega, by omega, fun q => ?_⟩
  have q2 : f 6 = 1 := by omega
  have c2 := c (Or.inl q2)
  have d2 := d q2
  have h2 := hf.2.2.2.2.2.2.2.2.2.2.2.2.2 q2
  omega
theorem Sim.toS {V W : dp_V} {N : Nat} (h : Sim V W N) (hv : ivC V) : ivS W := ivS_of hv.1 h.1.1.symm h.2.1.1.symm h.2.1.2.1.symm h.2.1.2.2.1.symm h.2.1.2.2.2.symm
theorem Sim.toM {V W : dp_V} {N : Nat} (h : Sim V W N) (hv : ivC V) : ivM W N := ⟨h.2.2.1, h.2.2.2.1.1, h.toS hv, fun t ht => by
  have h10 := h.2.2.2.1.1
  refine (h.2.2.2.2 t ht).iv ?_
  rcases hv.2.1 t (by omega) with q | q
  · exact absurd q (h.2.2.2.1.2.1 t ht)
  · exact q⟩
