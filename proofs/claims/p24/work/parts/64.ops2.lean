/-! EACH CALL: the targets, the minutes, undo -/
theorem aqV_6 {V : dp_V} {n : Nat} {a0 a1 a2 a3 a4 a5 : Int} : aqV V n a0 a1 a2 a3 a4 a5 (n + 6) 6 = 0 := by
  unfold aqV
  simp (decide := true) only [u2_ap, reduceIte]
theorem I12_aq {V : dp_V} {n : Nat} {a0 a1 a2 a3 a4 a5 : Int} (i1 : I1 V) (i2 : I2 V) : I1 (aqV V n a0 a1 a2 a3 a4 a5) ∧ I2 (aqV V n a0 a1 a2 a3 a4 a5) := by
  have key : ∀ t, aqV V n a0 a1 a2 a3 a4 a5 (t + 6) 6 = 1 → aqV V n a0 a1 a2 a3 a4 a5 (t + 6) = V (t + 6) := fun t q => by
    by_cases e : t = n
    · subst e; rw [aqV_6] at q; omega
    · exact aqV_ne (by omega)
  exact ⟨i1.of (fun t _ q => by rw [key t q] at q; exact q), i2.of (by rw [aqV_ne (by omega)]) (fun t _ q => key t q)⟩
theorem ctO_has {V : dp_V} {N : Nat} {x : Int} (h : ctO V N) : ((0 ≤ x ∧ x < 10) ∧ ¬ V (x.toNat + 6) 6 = 4) ↔ (0 ≤ x ∧ x < N) := by
  constructor
  · rintro ⟨⟨a, b⟩, c⟩
    refine ⟨a, ?_⟩
    rcases (by omega : x < N ∨ ¬ x < N) with q | q
    · exact q
    · exact absurd (h.2.2 x.toNat (by omega) (by omega)) c
  · rintro ⟨a, b⟩
    exact ⟨⟨a, by have := h.1; omega⟩, h.2.1 x.toNat (by omega)⟩
theorem rmV_row {V : dp_V} {t0 c : Nat} (hc : c ≠ 15) : rmV V t0 c = if t0 + 6 ≤ c ∧ c < 15 then V (c + 1) else V c := by
  unfold rmV
  rw [u2_ne hc, rmG_row]
  by_cases q : t0 + 6 ≤ c ∧ c < 15
  · rw [if_pos q, if_pos (by omega)]
  · rw [if_neg q, if_neg (by omega)]
theorem I12_rm {V : dp_V} {t0 : Nat} (i1 : I1 V) (i2 : I2 V) : I1 (rmV V t0) ∧ I2 (rmV V t0) := by
  have key : ∀ t, t < 10 → rmV V t0 (t + 6) 6 = 1 → ∃ u, u < 10 ∧ rmV V t0 (t + 6) = V (u + 6) ∧ ((t0 ≤ t ∧ u = t + 1) ∨ (t < t0 ∧ u = t)) := fun t ht q => by
    by_cases e : t = 9
    · subst e
      unfold rmV at q
      rw [u2_same, u1_same] at q
      omega
    · by_cases f : t0 ≤ t
      · exact ⟨t + 1, by omega, by rw [rmV_row (by omega), if_pos (by omega)], Or.inl ⟨f, rfl⟩⟩
      · exact ⟨t, by omega, by rw [rmV_row (by omega), if_neg (by omega)], Or.inr ⟨by omega, rfl⟩⟩
  refine ⟨fun t u ht hu q1 q2 => ?_, fun t ht q1 q2 => ?_⟩
  · obtain ⟨t', a1, a2, a3⟩ := key t ht q1
    obtain ⟨u', b1, b2, b3⟩ := key u hu q2
    rw [a2] at q1
    rw [b2] at q2
    have := i1 t' u' a1 b1 q1 q2
    omega
  · obtain ⟨t', a1, a2, a3⟩ := key t ht q1
    rw [a2] at q1 q2 ⊢
    rw [rmV_row (by omega), if_neg (by omega)]
    exact i2 t' a1 q1 q2
