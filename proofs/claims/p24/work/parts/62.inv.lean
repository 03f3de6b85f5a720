/-! WHAT HOLDS BETWEEN CALLS, of the class and of the reference in one memory -/
/-- a state of the class and one of the reference that are alike -/
def Gd (V W : dp_V) : Prop := ∃ N, Sim V W N ∧ I1 V ∧ I2 V
/-- the texts are alike -/
def TX (X Z : dp_V) : Prop := X 3 0 = Z 0 1 ∧ ∀ i : Nat, (i : Int) < X 3 0 → X 4 i = Z 4 i
theorem rcX1_1 {X : dp_V} : rcX1 X 1 0 = rcX X 1 0 + 1 := by
  unfold rcX1
  rw [u2_same, u1_same]
theorem rcX1_2 {X : dp_V} : rcX1 X 2 = rcX X 2 := by
  unfold rcX1
  rw [u2_ne (by decide)]
theorem rcX_lt {X : dp_V} (h : X 1 0 < 5) : rcX X = X := if_pos h
theorem rcX_ge {X : dp_V} (h : ¬ X 1 0 < 5) : rcX X 1 0 = 4 ∧ rcX X 2 = rotP (X 2) := by
  unfold rcX
  rw [if_neg h]
  unfold drX
  exact ⟨by rw [u2_same, u1_same], by rw [u2_ne (by decide), uc_same]⟩
/-- a target of the reference is within its ranges, where the class's is -/
theorem TS.iv {f g : Nat → Int} (h : TS f g) (hf : ivT f) : ivT g := by
  obtain ⟨a, b, c, d, e⟩ := h
  have a0 := a 0 (by decide)
  have a1 := a 1 (by decide)
  have a2 := a 2 (by decide)
  have a3 := a 3 (by decide)
  have a4 := a 4 (by decide)
  have a5 := a 5 (by decide)
  have a6 := a 6 (by decide)
  unfold ivT at hf ⊢
  refine ⟨by omega, by omega, by omega, by omega, by omega, by omega, by omega, by omega, by omega, by omega, by omega, by omega, by omega, fun q => ?_⟩
  have q2 : f 6 = 1 := by omega
  have c2 := c (Or.inl q2)
  have d2 := d q2
  have h2 := hf.2.2.2.2.2.2.2.2.2.2.2.2.2 q2
  omega
theorem Sim.toS {V W : dp_V} {N : Nat} (h : Sim V W N) (hv : ivC V) : ivS W := ivS_of hv.1 h.1.1.symm h.2.1.1.symm h.2.1.2.1.symm h.2.1.2.2.1.symm h.2.1.2.2.2.symm
theorem Sim.toM {V W : dp_V} {N : Nat} (h : Sim V W N) (hv : ivC V) : ivM W N := ⟨h.2.2.1, h.2.2.2.1.1, h.toS hv, fun t ht => by
  have h10 := h.2.2.2.1.1
  refine (h.2.2.2.2 t ht).iv ?_
  rcases hv.2.1 t (by omega) with q | q
  · exact absurd q (h.2.2.2.1.2.1 t ht)
  · exact q⟩
