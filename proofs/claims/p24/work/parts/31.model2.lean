/-- the reference's numbers within their ranges, N targets -/
def ivM (V : dp_V) (N : Nat) : Prop := V 0 3 = N ∧ N ≤ 10 ∧ ivS V ∧ ∀ t, t < N → ivT (V (t + 6))
theorem go_eq {V : dp_V} {c : Nat} {p sl u d : Int} (hi : ivA c (V c)) (hs : sl = if V c 4 + (p - V c 3) < 0 then 0 else if V c 0 < V c 4 + (p - V c 3) then V c 0 else V c 4 + (p - V c 3)) (hu : u = V c 5 + (if 0 < p - V c 3 then p - V c 3 else 0)) (hd : d = V c 6 + (if p - V c 3 < 0 then -(p - V c 3) else 0)) : u2 (u2 (u2 (u2 V c 4 sl) c 5 u) c 6 d) c 3 p = mvV V c p := by
  unfold ivA at hi
  have e : ∀ k, u2 (u2 (u2 (u2 V c 4 sl) c 5 u) c 6 d) c 3 p c k = mvV V c p c k := by
    intro k
    have h5 : k = 3 ∨ k = 4 ∨ k = 5 ∨ k = 6 ∨ (k ≠ 3 ∧ k ≠ 4 ∧ k ≠ 5 ∧ k ≠ 6) := by omega
    rcases h5 with h | h | h | h | ⟨a, b, c1, c2⟩
    · subst h
      unfold mvV
      split <;> simp (decide := true) only [u2_ap, reduceIte]
    · subst h
      unfold mvV mx mn
      split <;> simp (decide := true) only [u2_ap, reduceIte] <;> (repeat' split at hs) <;> split <;> omega
    · subst h
      unfold mvV
      split <;> simp (decide := true) only [u2_ap, reduceIte] <;> split at hu <;> omega
    · subst h
      unfold mvV
      split <;> simp (decide := true) only [u2_ap, reduceIte] <;> split at hd <;> omega
    · unfold mvV
      split <;> simp only [u2_ap, if_neg a, if_neg b, if_neg c1, if_neg c2, reduceIte]
  funext c'
  by_cases h : c' = c
  · subst h
    funext k
    exact e k
  · rw [u2_ne h, u2_ne h, u2_ne h, u2_ne h, mvV_ne h]
theorem uwG_sp {V : dp_V} : ∀ m k : Nat, (uwG V k m = -1 ∧ ∀ t, k ≤ t → t < k + m → ¬ V (t + 6) 6 = 1) ∨ ∃ t, k ≤ t ∧ t < k + m ∧ uwG V k m = (t : Int) ∧ V (t + 6) 6 = 1 := by
  intro m
  induction m with
  | zero => intro k; exact Or.inl ⟨rfl, fun t h1 h2 => absurd h2 (by omega)⟩
  | succ m ih =>
    intro k
    unfold uwG
    by_cases h : V (k + 6) 6 = 1
    · rw [if_pos h]
      exact Or.inr ⟨k, Nat.le_refl _, by omega, rfl, h⟩
    · rw [if_neg h]
      rcases ih (k + 1) with ⟨a, b⟩ | ⟨t, h1, h2, h3, h4⟩
      · refine Or.inl ⟨a, fun t h1 h2 => ?_⟩
        by_cases e : t = k
        · subst e; exact h
        · exact b t (by omega) (by omega)
      · exact Or.inr ⟨t, by omega, by omega, h3, h4⟩
/-- the reference's target under way -/
def uwN (V : dp_V) (N : Nat) : Int := ftF (uwG V 0 N)
theorem uwN_sp {V : dp_V} {N : Nat} : (uwN V N = -100004 ∧ uwG V 0 N = -1 ∧ ∀ t, t < N → ¬ V (t + 6) 6 = 1) ∨ ∃ t : Nat, t < N ∧ uwN V N = t ∧ uwG V 0 N = t ∧ V (t + 6) 6 = 1 := by
  unfold uwN ftF
  rcases @uwG_sp V N 0 with ⟨a, b⟩ | ⟨t, h1, h2, h3, h4⟩
  · rw [if_pos a]
    exact Or.inl ⟨rfl, a, fun t h => b t (by omega) (by omega)⟩
  · rw [if_neg (by omega)]
    exact Or.inr ⟨t, by omega, h3, h3, h4⟩
theorem uwN_bd {V : dp_V} {N : Nat} (h : N ≤ 10) : -100004 ≤ uwN V N ∧ uwN V N ≤ 10 := by
  rcases @uwN_sp V N with ⟨a, _⟩ | ⟨t, h1, h2, _⟩ <;> omega
theorem uwN_t {V : dp_V} {N : Nat} (h : ¬ uwN V N = -100004) : ∃ t : Nat, t < N ∧ uwN V N = t ∧ uwG V 0 N = t ∧ V (t + 6) 6 = 1 := by
  rcases @uwN_sp V N with ⟨a, _⟩ | q
  · exact absurd a h
  · exact q
def muN (V : dp_V) (N : Nat) : Int := if uwN V N = -100004 then -100004 else V ((uwN V N).toNat + 6) 9 - V 0 0
def coM (V X : dp_V) (N : Nat) (k : Int) : Int := if k = 4 then (N : Int) else if k = 5 then cnG V 0 0 N else if k = 6 then cnG V 2 0 N else if k = 7 then cnG V 3 0 N else if k = 8 then uwN V N else if k = 9 then muN V N else if k = 10 then X 0 0 else if k = 11 then X 0 1 else stT V k
theorem dp_ce1 {j : Nat} (h : j < 4) : dp_ce j = 1 := if_pos h
theorem dp_sl1 {j : Nat} (h : j < 4) : dp_sl j = j := if_pos h
theorem dp_ce0 {j : Nat} (h : ¬ j < 4) (h2 : j < 8) : dp_ce j = 0 := by unfold dp_ce; rw [if_neg h, if_pos h2]
theorem dp_sl0 {j : Nat} (h : ¬ j < 4) (h2 : j < 8) : dp_sl j = j - 4 := by unfold dp_sl; rw [if_neg h, if_pos h2]
theorem wyU_in {c : Nat} {f : Nat → Int} {to ov : Int} (hi : ivA c f) (h1 : -40000 ≤ to ∧ to ≤ 40000) (h2 : 0 ≤ ov ∧ ov ≤ 500) : dp_R (wyU f to ov) := by
  have := wyU_bd hi h1 h2
  exact ⟨by omega, by omega⟩
theorem fnX_T {V X X' : dp_V} {c : Nat} {to : Int} (h : fnX V X c to X') : X' 0 3 = 0 ∨ X' 0 3 = 1 := by rw [h.2.2.1]; exact wyT_b
