theorem scr.rs {X X' : dp_V} (h : scr X X') : scr (rsX X) (rsX X') := by
  have e : X' 0 0 = X 0 0 := h.2 0 (by decide) (by decide) (by decide)
  unfold rsX
  refine ⟨fun c hc => ?_, fun k a b c => ?_⟩
  · rw [u2_ne hc, u2_ne hc]
    exact h.1 c hc
  · rw [u2_same, u2_same, e]
    unfold u1
    split
    · rfl
    · exact h.2 k a b c
theorem scr.rw {M : dp_M} {V X X' : dp_V} (h : scr X X') : rnW M V X' = rnW M V X := by
  have e : X' 0 0 = X 0 0 := h.2 0 (by decide) (by decide) (by decide)
  unfold rnW
  rw [e]
theorem ch_eq {V : dp_V} {c j : Nat} {x : Int} (hj : j < 3) (hi : ivA c (V c)) (h0 : j = 0 → 0 ≤ x) : u2 (u2 V c j x) c 4 (if u2 V c j x c 0 < u2 V c j x c 4 then u2 V c j x c 0 else u2 V c j x c 4) = chV V c (j : Int) x := by
  unfold ivA at hi
  rcases (by omega : j = 0 ∨ j = 1 ∨ j = 2) with q | q | q <;> subst q
  · show _ = u2 (u2 V c 0 x) c 4 (mn (V c 4) x)
    have e : (if u2 V c 0 x c 0 < u2 V c 0 x c 4 then u2 V c 0 x c 0 else u2 V c 0 x c 4) = mn (V c 4) x := by
      simp (decide := true) only [u2_ap, reduceIte]
      rfl
    rw [e]
  · show _ = u2 V c 1 x
    simp (decide := true) only [u2_ap, reduceIte]
    rw [if_neg (by omega)]
    funext c' k
    simp only [u2_ap]
    by_cases a : c' = c
    · subst a
      by_cases b : k = 4
      · subst b; simp
      · simp [b]
    · simp [a]
  · show _ = u2 V c 2 x
    simp (decide := true) only [u2_ap, reduceIte]
    rw [if_neg (by omega)]
    funext c' k
    simp only [u2_ap]
    by_cases a : c' = c
    · subst a
      by_cases b : k = 4
      · subst b; simp
      · simp [b]
    · simp [a]
theorem dp_frA {E : dp_E} {M : dp_M} {V X Z : dp_V} : ∀ r' c', (r', c') ∈ dp_ps → (r', c') ≠ (8, 3) → dp_x E (dN (dR M 10 Z) V X) r' c' = dp_x E (dN M V X) r' c' := by
  intro r' c' hm hne
  by_cases e : r' = 8
  · subst e
    have hl : c' < 6 := by
      rcases dp_mem.mp hm with ⟨a, -⟩ | ⟨a, -⟩ | ⟨-, b⟩
      · omega
      · omega
      · exact b
    have hc : c' ≠ 3 := fun q => hne (by rw [q])
    rw [dp_x_M, dp_x_M]
    unfold dp_xM
    have e40 : ∀ j, dN (dR M 10 Z) V X (40 + j) = dN M V X (40 + j) := fun j => by rw [dN_ne (by omega) (by omega), dN_ne (by omega) (by omega), dR_ne (by omega)]
    rw [dN_X, dN_X, dN_V, dN_V]
    simp only [e40]
    rcases (by omega : c' = 0 ∨ c' = 1 ∨ c' = 2 ∨ c' = 4 ∨ c' = 5) with rfl | rfl | rfl | rfl | rfl <;> rfl
  · refine dp_frX hm (fun q => ?_) (fun q => ?_) (fun q => absurd q e)
    · exact ⟨dN_lt (dR_ne (by omega)), dN_lt (dR_ne (by omega))⟩
    · exact dN_lt (dR_ne (by omega))
theorem dR_id {M : dp_M} {r : Nat} : dR M r (M r) = M := by
  funext r'
  unfold dR
  split
  · rename_i h; rw [h]
  · rfl
def unM (M : dp_M) (X : dp_V) : dp_M := dN M (M (40 + (X 0 0 - 1).toNat)) (u2 X 0 0 (X 0 0 - 1))
