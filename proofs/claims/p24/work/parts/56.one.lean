/-! AT MOST ONE TARGET UNDER WAY -/
theorem hoG_no : ∀ (n k : Nat) (V : dp_V), (∀ t, k ≤ t → t < k + n → ¬ V (t + 6) 6 = 1) → hoG k n V = V := by
  intro n
  induction n with
  | zero => intro k V _; rfl
  | succ n ih =>
    intro k V h
    show hoG (k + 1) n (if V (k + 6) 6 = 1 then u2 (u2 V (k + 6) 6 0) (k + 6) 11 (V (k + 6) 11 + 1) else V) = V
    rw [if_neg (h k (by omega) (by omega))]
    exact ih (k + 1) V (fun t a b => h t (by omega) (by omega))
theorem hoG_one : ∀ (n k : Nat) (V : dp_V) (t : Nat), k ≤ t → t < k + n → V (t + 6) 6 = 1 → (∀ u, k ≤ u → u < k + n → u ≠ t → ¬ V (u + 6) 6 = 1) → hoG k n V = u2 (u2 V (t + 6) 6 0) (t + 6) 11 (V (t + 6) 11 + 1) := by
  intro n
  induction n with
  | zero => intro k V t h1 h2; omega
  | succ n ih =>
    intro k V t h1 h2 h3 h4
    show hoG (k + 1) n (if V (k + 6) 6 = 1 then u2 (u2 V (k + 6) 6 0) (k + 6) 11 (V (k + 6) 11 + 1) else V) = _
    by_cases e : t = k
    · subst e
      rw [if_pos h3]
      refine hoG_no n _ _ (fun u a b => ?_)
      rw [u2_ne (by omega), u2_ne (by omega)]
      exact h4 u (by omega) (by omega) (by omega)
    · rw [if_neg (h4 k (by omega) (by omega) (fun q => e q.symm))]
      exact ih (k + 1) V t (by omega) (by omega) h3 (fun u a b c => h4 u (by omega) (by omega) c)
theorem goV_ne {V : dp_V} {t c : Nat} (h : c ≠ t + 6) (h3 : c ≠ 3) : goV V t c = V c := by
  have hl : lkV V t c = V c := by
    unfold lkV
    repeat' split
    all_goals first | rfl | (rw [u2_ne h3, u2_ne h]) | (rw [u2_ne h])
  unfold goV
  split
  · exact hl
  · rw [u2_ne h, u2_ne h, hl]
theorem en1_no : ∀ (n k : Nat) (V : dp_V), (∀ t, k ≤ t → t < k + n → ¬ V (t + 6) 6 = 1) → en1 k n V = V := by
  intro n
  induction n with
  | zero => intro k V _; rfl
  | succ n ih =>
    intro k V h
    show en1 (k + 1) n (if V (k + 6) 6 = 1 then goV V k else V) = V
    rw [if_neg (h k (by omega) (by omega))]
    exact ih (k + 1) V (fun t a b => h t (by omega) (by omega))
theorem en1_one : ∀ (n k : Nat) (V : dp_V) (t : Nat), k ≤ t → t < k + n → V (t + 6) 6 = 1 → (∀ u, k ≤ u → u < k + n → u ≠ t → ¬ V (u + 6) 6 = 1) → en1 k n V = goV V t := by
  intro n
  induction n with
  | zero => intro k V t h1 h2; omega
  | succ n ih =>
    intro k V t h1 h2 h3 h4
    show en1 (k + 1) n (if V (k + 6) 6 = 1 then goV V k else V) = _
    by_cases e : t = k
    · subst e
      rw [if_pos h3]
      refine en1_no n _ _ (fun u a b => ?_)
      rw [goV_ne (by omega) (by omega)]
      exact h4 u (by omega) (by omega) (by omega)
    · rw [if_neg (h4 k (by omega) (by omega) (fun q => e q.symm))]
      exact ih (k + 1) V t (by omega) (by omega) h3 (fun u a b c => h4 u (by omega) (by omega) c)
