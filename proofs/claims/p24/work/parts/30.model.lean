/-! THE REFERENCE: V its numbers (region 9), X what else it holds (region 8: cell 0 states, typed, turn, turns, end, at, kept; 4 text; 5 parts) -/
/-- what a search for a way may leave behind -/
def scr (X X' : dp_V) : Prop := (∀ c, c ≠ 0 → X' c = X c) ∧ ∀ k, k ≠ 2 → k ≠ 3 → k ≠ 4 → X' 0 k = X 0 k
theorem scr.rf {X : dp_V} : scr X X := ⟨fun _ _ => rfl, fun _ _ _ _ => rfl⟩
theorem scr.tr {X Y Z : dp_V} (h : scr X Y) (h2 : scr Y Z) : scr X Z := ⟨fun c hc => (h2.1 c hc).trans (h.1 c hc), fun k a b c => (h2.2 k a b c).trans (h.2 k a b c)⟩
theorem scr.u {X Y : dp_V} {k : Nat} {x : Int} (h : scr X Y) (hk : k = 2 ∨ k = 3 ∨ k = 4) : scr X (u2 Y 0 k x) := ⟨fun c hc => (u2_ne hc).trans (h.1 c hc), fun j a b c => by
  rw [u2_same, u1_ne (by omega)]
  exact h.2 j a b c⟩
def fnX (V X : dp_V) (c : Nat) (to : Int) (X' : dp_V) : Prop := scr X X' ∧ X' 0 2 = wyU (V c) to (V 1 0) ∧ X' 0 3 = wyT (V c) to ∧ X' 0 4 = wyE (V c) to
theorem axC2 {a : Nat} (h : a < 2) : a + 3 = 3 ∨ a + 3 = 4 := by omega
theorem mvV_same {V : dp_V} {c : Nat} (hi : ivA c (V c)) : mvV V c (V c 3) = V := by
  unfold ivA at hi
  unfold mvV
  rw [if_neg (by omega)]
  funext c' k
  rw [u2_ap, u2_ap, u2_ap]
  unfold mn
  by_cases h : c' = c
  · subst h
    rw [if_pos rfl, if_pos rfl, if_pos rfl]
    by_cases h4 : k = 4
    · subst h4
      rw [if_pos rfl, if_neg (by omega)]
      omega
    · rw [if_neg h4]
      by_cases h5 : k = 5
      · subst h5
        rw [if_pos rfl]
        omega
      · rw [if_neg h5]
        by_cases h3 : k = 3
        · subst h3
          rw [if_pos rfl]
        · rw [if_neg h3]
  · rw [if_neg h, if_neg h, if_neg h]
