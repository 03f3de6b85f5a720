/-! THE REFERENCE'S STATES BEFORE: was, five rows of 193 -/
def ix (c k : Nat) : Nat := if c = 1 then k else if c = 0 then k + 4 else if c = 2 then k + 8 else if c = 3 then k + 39 else if c = 4 then k + 46 else 53 + 14 * (c - 6) + k
theorem ix_cs {i : Nat} (h : i < 193) : ix (dp_ce i) (dp_sl i) = i := by
  unfold dp_ce dp_sl
  by_cases h1 : i < 4
  · rw [if_pos h1, if_pos h1]; rfl
  · rw [if_neg h1, if_neg h1]
    by_cases h2 : i < 8
    · rw [if_pos h2, if_pos h2]; show i - 4 + 4 = i; omega
    · rw [if_neg h2, if_neg h2]
      by_cases h3 : i < 39
      · rw [if_pos h3, if_pos h3]; show i - 8 + 8 = i; omega
      · rw [if_neg h3, if_neg h3]
        by_cases h4 : i < 46
        · rw [if_pos h4, if_pos h4]; show i - 39 + 39 = i; omega
        · rw [if_neg h4, if_neg h4]
          by_cases h5 : i < 53
          · rw [if_pos h5, if_pos h5]; show i - 46 + 46 = i; omega
          · rw [if_neg h5, if_neg h5]
            unfold ix
            rw [if_neg (by omega), if_neg (by omega), if_neg (by omega), if_neg (by omega), if_neg (by omega)]
            omega
def ixV (h : Nat → Int) : dp_V := fun c k => h (ix c k)
def wasM (M : dp_M) (h : Nat → Int) : dp_M := fun r => if 40 ≤ r then ixV (fun i => h (193 * (r - 40) + i)) else M r
/-- memories that differ in was alone -/
theorem dp_frW {E : dp_E} {M M' : dp_M} (h : ∀ r, r < 40 → M' r = M r) : ∀ r' c', (r', c') ∈ dp_ps → (r', c') ≠ (8, 2) → dp_x E M' r' c' = dp_x E M r' c' := by
  intro r' c' hm hne
  by_cases e : r' = 8
  · subst e
    have hl : c' < 6 := by
      rcases dp_mem.mp hm with ⟨a, -⟩ | ⟨a, -⟩ | ⟨-, b⟩
      · omega
      · omega
      · exact b
    have hc : c' ≠ 2 := fun q => hne (by rw [q])
    rw [dp_x_M, dp_x_M]
    unfold dp_xM
    rw [h 8 (by decide), h 9 (by decide), h 10 (by decide)]
    rcases (by omega : c' = 0 ∨ c' = 1 ∨ c' = 3 ∨ c' = 4 ∨ c' = 5) with rfl | rfl | rfl | rfl | rfl <;> rfl
  · refine dp_frX hm (fun q => ?_) (fun q => ?_) (fun q => absurd q e)
    · exact ⟨h _ (by omega), h _ (by omega)⟩
    · exact h _ (by omega)
theorem dN_lt {M M' : dp_M} {V X : dp_V} {r : Nat} (h : M' r = M r) : dN M' V X r = dN M V X r := by
  by_cases a : r = 9
  · subst a; rw [dN_V, dN_V]
  · by_cases b : r = 8
    · subst b; rw [dN_X, dN_X]
    · rw [dN_ne a b, dN_ne a b, h]
theorem wasM_lt {M : dp_M} {h : Nat → Int} {r : Nat} (hr : r < 40) : wasM M h r = M r := if_neg (by omega)
/-- the state before a change is recorded -/
def rsX (X : dp_V) : dp_V := u2 X 0 0 (if X 0 0 = 5 then 5 else X 0 0 + 1)
def rnW (M : dp_M) (V X : dp_V) : dp_M := if X 0 0 = 5 then (fun r => if 40 ≤ r then (if r = 44 then V else M (r + 1)) else M r) else dR M (40 + (X 0 0).toNat) V
def rnM (M : dp_M) (V X V' : dp_V) : dp_M := dN (rnW M V X) V' (rsX X)
theorem rnW_lt {M : dp_M} {V X : dp_V} {r : Nat} (hr : r < 40) : rnW M V X r = M r := by
  unfold rnW
  split
  · exact if_neg (by omega)
  · exact dR_ne (by omega)
theorem rnW_hi {M : dp_M} {V X : dp_V} {r : Nat} (h5 : X 0 0 = 5) (hr : 40 ≤ r) : rnW M V X r = if r = 44 then V else M (r + 1) := by
  unfold rnW
  rw [if_pos h5]
  exact if_pos hr
theorem u2_0 {X : dp_V} {x y : Int} : u2 (u2 X 0 0 x) 0 0 y = u2 X 0 0 y := by
  funext c k
  simp only [u2_ap]
  split <;> (try split) <;> rfl
theorem dp_iald_w {E : dp_E} (dummy : True) : True := trivial
