theorem Sim.rm {V W : dp_V} {N t0 : Nat} (h : Sim V W N) (ht : t0 < N) : Sim (rmV V t0) (rmM W N t0) (N - 1) := by
  have h10 := h.2.2.2.1.1
  have eV : ∀ c, c ≠ 15 → rmV V t0 c = if t0 + 6 ≤ c ∧ c < 15 then V (c + 1) else V c := by
    intro c hc
    unfold rmV
    rw [u2_ne hc, rmG_row]
    by_cases q : t0 + 6 ≤ c ∧ c < 15
    · rw [if_pos q, if_pos (by omega)]
    · rw [if_neg q, if_neg (by omega)]
  have eW : ∀ c, rmM W N t0 c = if t0 + 6 ≤ c ∧ c < N + 5 then W (c + 1) else u2 W 0 3 ((N : Int) - 1) c := by
    intro c
    funext k
    unfold rmM
    split <;> rfl
  have lV : ∀ c, c < 6 → rmV V t0 c = V c := fun c hc => by rw [eV c (by omega), if_neg (by omega)]
  have lW : ∀ c, c < 6 → c ≠ 0 → rmM W N t0 c = W c := fun c hc h0 => by rw [eW c, if_neg (by omega), u2_ne h0]
  have lW0 : rmM W N t0 0 = u1 (W 0) 3 ((N : Int) - 1) := by rw [eW 0, if_neg (by omega), u2_same]
  refine ⟨?_, ?_, ?_, ⟨by omega, fun t q => ?_, fun t q1 q2 => ?_⟩, fun t q => ?_⟩
  · rw [lV 0 (by decide), lW0, u1_ne (by decide), u1_ne (by decide), u1_ne (by decide)]; exact h.1
  · rw [lV 1 (by decide), lV 2 (by decide), lV 3 (by decide), lV 4 (by decide), lW 1 (by decide) (by decide), lW 2 (by decide) (by decide), lW 3 (by decide) (by decide), lW 4 (by decide) (by decide)]; exact h.2.1
  · rw [lW0, u1_same]; omega
  · rw [eV _ (by omega)]
    by_cases e : t0 + 6 ≤ t + 6 ∧ t + 6 < 15
    · rw [if_pos e]
      exact h.2.2.2.1.2.1 (t + 1) (by omega)
    · rw [if_neg e]
      exact h.2.2.2.1.2.1 t (by omega)
  · by_cases e9 : t = 9
    · subst e9
      unfold rmV
      rw [u2_same, u1_same]
    · rw [eV _ (by omega), if_pos (by omega)]
      exact h.2.2.2.1.2.2 (t + 1) (by omega) (by omega)
  · rw [eV _ (by omega), eW]
    by_cases e : t0 ≤ t
    · rw [if_pos (by omega), if_pos (by omega)]
      exact h.2.2.2.2 (t + 1) (by omega)
    · rw [if_neg (by omega), if_neg (by omega), u2_ne (by omega)]
      exact h.2.2.2.2 t (by omega)
