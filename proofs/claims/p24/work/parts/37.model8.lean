theorem ivM_uT {V : dp_V} {N t k : Nat} {x : Int} (h : ivM V N) (ht : t < N) (h1 : ivT (u1 (V (t + 6)) k x)) : ivM (u2 V (t + 6) k x) N := by
  obtain ⟨hN, h10, hv, hT⟩ := h
  refine ⟨by rw [u2_ne (by omega)]; exact hN, h10, ivS_of hv (by rw [u2_ne (by omega)]) (u2_ne (by omega)) (u2_ne (by omega)) (u2_ne (by omega)) (u2_ne (by omega)), fun t' ht' => ?_⟩
  by_cases e : t' = t
  · subst e
    rw [u2_same]
    exact h1
  · rw [u2_ne (by omega)]
    exact hT t' ht'
theorem ivM_uS {V V' : dp_V} {N : Nat} (h : ivM V N) (hs : ivS V') (h3 : V' 0 3 = V 0 3) (ht : ∀ t, t < N → V' (t + 6) = V (t + 6)) : ivM V' N := ⟨by rw [h3]; exact h.1, h.2.1, hs, fun t q => by rw [ht t q]; exact h.2.2.2 t q⟩
theorem ivS_34 {V : dp_V} {x : Int} (h : ivS V) (hx : 0 ≤ x ∧ x ≤ V 3 0) : ivS (u2 V 3 4 x) := by
  obtain ⟨a, b, c, d, e⟩ := h
  refine ⟨by rw [u2_ne (by decide)]; exact a, by rw [u2_ne (by decide)]; exact b, by rw [u2_ne (by decide)]; exact c, ?_, by rw [u2_ne (by decide)]; exact e⟩
  unfold ivA at d ⊢
  simp (decide := true) only [u2_ap, reduceIte]
  omega
/-- a slew that is finished now is looked at -/
def puV (V : dp_V) (t : Nat) : dp_V := if V (t + 6) 8 = V 0 0 then (if V (t + 6) 13 = 0 then u2 (u2 V 3 4 (if kdF V = 1 then (if V 0 0 / 1440 % 2 = 0 then 0 else V 3 0) else V 3 4)) (t + 6) 13 1 else V) else V
theorem puV_iv {V : dp_V} {N t : Nat} (h : ivM V N) (ht : t < N) : ivM (puV V t) N ∧ puV V t 0 = V 0 ∧ ∀ k, k ≠ 13 → puV V t (t + 6) k = V (t + 6) k := by
  unfold puV
  split
  · split
    · have hA := h.2.2.1.2.2.2.1
      unfold ivA at hA
      have e6 : ∀ x, u2 V 3 4 x (t + 6) = V (t + 6) := fun x => u2_ne (by omega)
      refine ⟨ivM_uT (ivM_uS h (ivS_34 h.2.2.1 (by (repeat' split) <;> omega)) (by rw [u2_ne (by decide)]) (fun t' _ => u2_ne (by omega))) ht (by rw [e6]; exact ivT_13 (h.2.2.2 t ht) (by omega)), ?_, ?_⟩
      · rw [u2_ne (by omega), u2_ne (by omega)]
      · intro k hk
        rw [u2_same, u1_ne hk, e6]
    · exact ⟨h, rfl, fun _ _ => rfl⟩
  · exact ⟨h, rfl, fun _ _ => rfl⟩
/-- a target is begun -/
def b7M (V : dp_V) (t : Nat) : dp_V := u2 (u2 (u2 (u2 (u2 (u2 (slV V (apF V (V (t + 6) 0)) (V (t + 6) 1)) (t + 6) 6 1) (t + 6) 7 (V 0 0)) (t + 6) 8 (V 0 0 + tmF V (apF V (V (t + 6) 0)) (V (t + 6) 1))) (t + 6) 9 (V 0 0 + tmF V (apF V (V (t + 6) 0)) (V (t + 6) 1) + V (t + 6) 4)) (t + 6) 12 (apF V (V (t + 6) 0))) (t + 6) 13 0
def bgV (V : dp_V) (t : Nat) : dp_V := puV (b7M V t) t
/-- what holds where a target can be begun -/
def rsK (V : dp_V) (t : Nat) : Prop := V (t + 6) 6 = 0 ∧ ¬ wyP 4 (V 4) (V (t + 6) 1) (V 1 0) = 0 ∧ ¬ wyP 3 (V 3) (apF V (V (t + 6) 0)) (V 1 0) = 0 ∧ V 0 0 + tmF V (apF V (V (t + 6) 0)) (V (t + 6) 1) + V (t + 6) 4 ≤ V (t + 6) 3
theorem rsM_0 {V : dp_V} {N t : Nat} (h : rsM V N t = 0) : rsK V t ∧ uwG V 0 N = -1 ∧ ¬ kdF V = 0 ∧ V (t + 6) 2 ≤ V 0 0 := by
  unfold rsM at h
  unfold rsK
  (repeat' split at h) <;> first | omega | (refine ⟨⟨by assumption, by assumption, by assumption, by omega⟩, by assumption, by assumption, by omega⟩)
theorem b7M_ne {V : dp_V} {t c : Nat} (h : c ≠ t + 6) : b7M V t c = slV V (apF V (V (t + 6) 0)) (V (t + 6) 1) c := by
  unfold b7M
  rw [u2_ne h, u2_ne h, u2_ne h, u2_ne h, u2_ne h, u2_ne h]
theorem slV_03 {V : dp_V} {z el : Int} : slV V z el 0 3 = V 0 3 := by
  unfold slV
  rw [u2_same, u1_ne (by decide), foV_ne (by decide), foV_ne (by decide)]
theorem b7M_iv {V : dp_V} {N t : Nat} (h : ivM V N) (ht : t < N) (hr : rsK V t) : ivM (b7M V t) N ∧ b7M V t 0 0 = V 0 0 ∧ b7M V t (t + 6) 6 = 1 := by
  obtain ⟨hN, h10, hv, hT⟩ := h
  obtain ⟨r1, r2, r3, r4⟩ := hr
  have hst := hT t ht
  unfold ivT at hst
  have hap := @apF_bd V (V (t + 6) 0) (by omega)
  have htm := @tmF_bd V (apF V (V (t + 6) 0)) (V (t + 6) 1) hv (by omega) (by omega)
  have h0 := hv.1
  have es : slV V (apF V (V (t + 6) 0)) (V (t + 6) 1) (t + 6) = V (t + 6) := slV_ne (by omega) (by omega) (by omega)
  have hs := slV_iv hv r3 r2
  refine ⟨⟨by rw [b7M_ne (by omega), slV_03]; exact hN, h10, ivS_of hs (by rw [b7M_ne (by omega)]) (b7M_ne (by omega)) (b7M_ne (by omega)) (b7M_ne (by omega)) (b7M_ne (by omega)), fun t' ht' => ?_⟩, by rw [b7M_ne (by omega), slV_0], ?_⟩
  · by_cases e : t' = t
    · subst e
      have r9 : 1 ≤ V (t' + 6) 4 := hst.2.2.2.2.2.2.2.1
      unfold ivT b7M
      simp (decide := true) only [u2_ap, reduceIte, es, true_implies, r1]
      (repeat' apply And.intro) <;> first | trivial | omega
    · rw [b7M_ne (by omega), slV_ne (by omega) (by omega) (by omega)]
      exact hT t' ht'
  · unfold b7M
    simp (decide := true) only [u2_ap, reduceIte]
theorem bgV_iv {V : dp_V} {N t : Nat} (h : ivM V N) (ht : t < N) (hr : rsK V t) : ivM (bgV V t) N ∧ bgV V t 0 0 = V 0 0 := by
  obtain ⟨a, b, c⟩ := b7M_iv h ht hr
  obtain ⟨d, e, f⟩ := puV_iv a ht
  exact ⟨d, by unfold bgV; rw [e, b]⟩
theorem pfF_of {V : dp_V} {z : Int} (h : ¬ wyP 3 (V 3) (apF V z) (V 1 0) = 0) : pfF V z = apF V z := if_neg h
/-- a hold begins -/
def hd1 (V : dp_V) (N : Nat) : dp_V := if uwN V N = -100004 then V else u2 (u2 V ((uwN V N).toNat + 6) 6 0) ((uwN V N).toNat + 6) 11 (V ((uwN V N).toNat + 6) 11 + 1)
def hdM (V : dp_V) (N : Nat) : dp_V := u2 (mvV (hd1 V N) 4 9000) 0 2 (mvV (hd1 V N) 4 9000 0 2 + 1)
