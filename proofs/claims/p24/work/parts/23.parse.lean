theorem sgF_neg {T : dp_V} : sgF T (-1) = 0 := by
  unfold sgF
  rw [if_pos (by omega)]
/-! the targets are the first n -/
def ctO (V : dp_V) (n : Nat) : Prop := n ≤ 10 ∧ (∀ t, t < n → ¬ V (t + 6) 6 = 4) ∧ ∀ t, n ≤ t → t < 10 → V (t + 6) 6 = 4
theorem cnG_ct {V : dp_V} {n : Nat} (h : ctO V n) : ∀ {k m : Nat}, k + m = 10 → cnG V 4 k m = if n ≤ k then (m : Int) else 10 - n := by
  intro k m
  induction m generalizing k with
  | zero =>
    intro hk
    have := h.1
    show (0 : Int) = _
    split <;> omega
  | succ m ih =>
    intro hk
    have := ih (k := k + 1) (by omega)
    unfold cnG
    rw [this]
    by_cases c : n ≤ k
    · rw [if_pos (h.2.2 k c (by omega)), if_pos (by omega), if_pos c]
      omega
    · rw [if_neg (h.2.1 k (by omega)), if_neg c]
      split <;> omega
theorem ctO.cn {V : dp_V} {n : Nat} (h : ctO V n) : cnF V 4 = 10 - n := by
  have := cnG_ct h (k := 0) (m := 10) (by omega)
  unfold cnF
  rw [this]
  split <;> omega
theorem aqV_f {V : dp_V} {n : Nat} {a0 a1 a2 a3 a4 a5 : Int} : aqV V n a0 a1 a2 a3 a4 a5 (n + 6) = u1 (u1 (u1 (u1 (u1 (u1 (u1 (u1 (V (n + 6)) 0 a0) 1 a1) 2 a2) 3 a3) 4 a4) 5 a5) 6 0) 11 0 := by
  unfold aqV
  rw [u2_same, u2_same, u2_same, u2_same, u2_same, u2_same, u2_same, u2_same]
theorem aqV_ne {V : dp_V} {n c : Nat} {a0 a1 a2 a3 a4 a5 : Int} (h : c ≠ n + 6) : aqV V n a0 a1 a2 a3 a4 a5 c = V c := by
  unfold aqV
  rw [u2_ne h, u2_ne h, u2_ne h, u2_ne h, u2_ne h, u2_ne h, u2_ne h, u2_ne h]
theorem irF_1 {a b c d e f : Int} (h : ¬ irF a b c d e f = 0) : 0 ≤ a ∧ a ≤ 35999 ∧ 500 ≤ b ∧ b ≤ 8500 ∧ 0 ≤ c ∧ c ≤ 43200 ∧ 0 ≤ d ∧ d ≤ 43200 ∧ c < d ∧ 1 ≤ e ∧ e ≤ 600 ∧ 0 ≤ f ∧ f ≤ 9 := by
  unfold irF dp_b at h
  split at h
  · assumption
  · exact absurd rfl h
theorem aqV_iv {V : dp_V} {n : Nat} {a0 a1 a2 a3 a4 a5 : Int} (h : ivC V) (hn : n < 10) (hi : ¬ irF a0 a1 a2 a3 a4 a5 = 0) : ivC (aqV V n a0 a1 a2 a3 a4 a5) := by
  have hr := irF_1 hi
  refine ivC_mk (ivS_of h.1 (by rw [aqV_ne (by omega)]) (aqV_ne (by omega)) (aqV_ne (by omega)) (aqV_ne (by omega)) (aqV_ne (by omega))) (fun t ht => ?_)
  by_cases e : t = n
  · subst e
    rw [aqV_f]
    refine ⟨Or.inr ?_, ?_⟩
    · unfold ivT
      refine ⟨?_, ?_, ?_, ?_, ?_, ?_, ?_, ?_, ?_, ?_, ?_, ?_, ?_, fun q => ?_⟩
      all_goals (try simp (decide := true) only [u1, reduceIte] at q)
      all_goals (try simp (decide := true) only [u1, reduceIte])
      all_goals omega
    · simp (decide := true) only [u1, reduceIte]
      exact h.2.2 t ht
  · rw [aqV_ne (by omega)]
    exact ⟨h.2.1 t ht, h.2.2 t ht⟩
theorem aqV_ct {V : dp_V} {n : Nat} {a0 a1 a2 a3 a4 a5 : Int} (h : ctO V n) (hn : n < 10) : ctO (aqV V n a0 a1 a2 a3 a4 a5) (n + 1) := by
  refine ⟨by omega, fun t ht => ?_, fun t h1 h2 => ?_⟩
  · by_cases e : t = n
    · subst e
      rw [aqV_f]
      simp (decide := true) only [u1, reduceIte]
    · rw [aqV_ne (by omega)]
      exact h.2.1 t (by omega)
  · rw [aqV_ne (by omega)]
    exact h.2.2 t (by omega) h2
