theorem tg_no {f : Nat → Int} {k : Int} (h : k < 0 ∨ 12 < k) : tgT f k = -100001 := by
  unfold tgT
  repeat (first | rw [if_neg (by omega)] | rw [if_pos (by omega)])
theorem tg_ye {f : Nat → Int} {j : Nat} (hj : j < 13) (h : j < 7 ∨ j = 11 ∨ f 6 = 2 ∨ (f 6 = 1 ∧ ¬ j = 10)) : tgT f (j : Int) = f j := by
  rcases (by omega : j = 0 ∨ j = 1 ∨ j = 2 ∨ j = 3 ∨ j = 4 ∨ j = 5 ∨ j = 6 ∨ j = 7 ∨ j = 8 ∨ j = 9 ∨ j = 10 ∨ j = 11 ∨ j = 12) with q | q | q | q | q | q | q | q | q | q | q | q | q <;> subst q
  all_goals try rfl
  all_goals first
    | (show ibF (f 6) _ = _; unfold ibF; by_cases a : f 6 = 1; · rw [if_pos a]
       · rw [if_neg a, if_pos (by omega)])
    | (show (if f 6 = 2 then f 10 else -100004) = f 10; rw [if_pos (by omega)])
theorem tg_nf {f : Nat → Int} {j : Nat} (hj : j < 13) (h : ¬ j < 7 ∧ ¬ j = 11 ∧ ¬ f 6 = 2 ∧ (¬ f 6 = 1 ∨ j = 10)) : tgT f (j : Int) = -100004 := by
  rcases (by omega : j = 7 ∨ j = 8 ∨ j = 9 ∨ j = 10 ∨ j = 12) with q | q | q | q | q <;> subst q
  all_goals first
    | (show ibF (f 6) _ = _; unfold ibF; rw [if_neg (by omega), if_neg (by omega)])
    | (show (if f 6 = 2 then f 10 else -100004) = -100004; rw [if_neg (by omega)])
