theorem adV_ne {V : dp_V} {n c : Nat} {a0 a1 a2 a3 a4 a5 : Int} (h : c ≠ n + 6) (h0 : c ≠ 0) : adV V n a0 a1 a2 a3 a4 a5 c = V c := by
  unfold adV
  rw [u2_ne h0, u2_ne h, u2_ne h, u2_ne h, u2_ne h, u2_ne h, u2_ne h, uc_ne h]
theorem adV_00 {V : dp_V} {n k : Nat} {a0 a1 a2 a3 a4 a5 : Int} (hk : k ≠ 3) : adV V n a0 a1 a2 a3 a4 a5 0 k = V 0 k := by
  have h : 0 ≠ n + 6 := by omega
  unfold adV
  rw [u2_same, u1_ne hk, u2_ne h, u2_ne h, u2_ne h, u2_ne h, u2_ne h, u2_ne h, uc_ne h]
theorem Sim.aq {V W : dp_V} {N : Nat} {a0 a1 a2 a3 a4 a5 : Int} (h : Sim V W N) (hN : N < 10) : Sim (aqV V N a0 a1 a2 a3 a4 a5) (adV W N a0 a1 a2 a3 a4 a5) (N + 1) := by
  have ha6 : aqV V N a0 a1 a2 a3 a4 a5 (N + 6) 6 = 0 := by unfold aqV; simp (decide := true) only [u2_ap, reduceIte]
  refine ⟨?_, ?_, ?_, ⟨by omega, fun t q => ?_, fun t q1 q2 => ?_⟩, fun t q => ?_⟩
  · rw [aqV_ne (by omega), adV_00 (by decide), adV_00 (by decide), adV_00 (by decide)]; exact h.1
  · rw [aqV_ne (by omega), aqV_ne (by omega), aqV_ne (by omega), aqV_ne (by omega), adV_ne (by omega) (by decide), adV_ne (by omega) (by decide), adV_ne (by omega) (by decide), adV_ne (by omega) (by decide)]; exact h.2.1
  · unfold adV
    rw [u2_same, u1_same, h.2.2.1]
    omega
  · by_cases e : t = N
    · subst e; rw [ha6]; decide
    · rw [aqV_ne (by omega)]; exact h.2.2.2.1.2.1 t (by omega)
  · rw [aqV_ne (by omega)]; exact h.2.2.2.1.2.2 t (by omega) q2
  · by_cases e : t = N
    · subst e
      have hb : ∀ k, k < 7 → aqV V t a0 a1 a2 a3 a4 a5 (t + 6) k = adV W t a0 a1 a2 a3 a4 a5 (t + 6) k := by
        intro k hk
        have h0 : ¬ t + 6 = 0 := by omega
        rcases (by omega : k = 0 ∨ k = 1 ∨ k = 2 ∨ k = 3 ∨ k = 4 ∨ k = 5 ∨ k = 6) with rfl | rfl | rfl | rfl | rfl | rfl | rfl
        all_goals
          unfold aqV adV
          simp (decide := true) only [u2_ap, reduceIte, h0, uc_same, zf]
      have h11 : aqV V t a0 a1 a2 a3 a4 a5 (t + 6) 11 = adV W t a0 a1 a2 a3 a4 a5 (t + 6) 11 := by
        have h0 : ¬ t + 6 = 0 := by omega
        unfold aqV adV
        simp (decide := true) only [u2_ap, reduceIte, h0, uc_same, zf]
      refine ⟨hb, h11, fun q3 => ?_, fun q3 => ?_, fun q3 => ?_⟩
      · rw [ha6] at q3; omega
      · rw [ha6] at q3; omega
      · rw [ha6] at q3; omega
    · rw [aqV_ne (by omega), adV_ne (by omega) (by omega)]
      exact h.2.2.2.2 t (by omega)
theorem rmG_row : ∀ {n k : Nat} {V : dp_V} {c : Nat}, rmG k n V c = if k + 6 ≤ c ∧ c < k + n + 6 then V (c + 1) else V c := by
  intro n
  induction n with
  | zero =>
    intro k V c
    rw [if_neg (by omega)]
    rfl
  | succ n ih =>
    intro k V c
    show rmG (k + 1) n (uc V (k + 6) (V (k + 1 + 6))) c = _
    rw [ih]
    by_cases e : c = k + 6
    · subst e
      rw [if_neg (by omega), if_pos (by omega), uc_same]
    · by_cases e2 : k + 6 ≤ c ∧ c < k + (n + 1) + 6
      · rw [if_pos (by omega), if_pos e2, uc_ne (by omega)]
      · rw [if_neg (by omega), if_neg e2, uc_ne e]
