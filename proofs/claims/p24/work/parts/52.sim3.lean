theorem ctO_of {V V' : dp_V} {N : Nat} (h : ctO V N) (ht : ∀ t, t < 10 → V' (t + 6) 6 = V (t + 6) 6) : ctO V' N := ⟨h.1, fun t q => by rw [ht t (by have := h.1; omega)]; exact h.2.1 t q, fun t q1 q2 => by rw [ht t q2]; exact h.2.2 t q1 q2⟩
theorem Sim.mk' {V W V' W' : dp_V} {N : Nat} (h : Sim V W N) (h0 : V' 0 0 = W' 0 0 ∧ V' 0 1 = W' 0 1 ∧ V' 0 2 = W' 0 2) (h1 : V' 1 = W' 1 ∧ V' 2 = W' 2 ∧ V' 3 = W' 3 ∧ V' 4 = W' 4) (h3 : W' 0 3 = W 0 3) (hV : ∀ t, t < 10 → V' (t + 6) = V (t + 6)) (hW : ∀ t, t < 10 → W' (t + 6) = W (t + 6)) : Sim V' W' N := ⟨h0, h1, by rw [h3]; exact h.2.2.1, ctO_of h.2.2.2.1 (fun t q => by rw [hV t q]), fun t q => by
  have q2 : t < 10 := by have := h.2.2.2.1.1; omega
  rw [hV t q2, hW t q2]
  exact h.2.2.2.2 t q⟩
theorem mvV_row {V W : dp_V} {c : Nat} {p : Int} (h : V c = W c) : mvV V c p c = mvV W c p c := by
  unfold mvV
  rw [h]
  split
  · rw [u2_same, u2_same, u2_same, u2_same, u2_same, u2_same, h]
  · rw [u2_same, u2_same, u2_same, u2_same, u2_same, u2_same, h]
theorem Sim.mv {V W : dp_V} {N c : Nat} {p : Int} (h : Sim V W N) (hc : c = 3 ∨ c = 4) : Sim (mvV V c p) (mvV W c p) N := by
  have n : ∀ (Z : dp_V) (d : Nat), d ≠ c → mvV Z c p d = Z d := fun Z d hd => mvV_ne hd
  refine h.mk' ?_ ?_ ?_ ?_ ?_
  · rw [n V 0 (by omega), n W 0 (by omega)]; exact h.1
  · rw [n V 1 (by omega), n W 1 (by omega), n V 2 (by omega), n W 2 (by omega)]
    refine ⟨h.2.1.1, h.2.1.2.1, ?_, ?_⟩
    · by_cases e : c = 3
      · subst e; exact mvV_row h.2.1.2.2.1
      · rw [n V 3 (by omega), n W 3 (by omega)]; exact h.2.1.2.2.1
    · by_cases e : c = 4
      · subst e; exact mvV_row h.2.1.2.2.2
      · rw [n V 4 (by omega), n W 4 (by omega)]; exact h.2.1.2.2.2
  · rw [n W 0 (by omega)]
  · intro t _; exact n V _ (by omega)
  · intro t _; exact n W _ (by omega)
theorem Sim.row {V W : dp_V} {N c : Nat} (h : Sim V W N) (hc : c = 3 ∨ c = 4) : V c = W c := by
  rcases hc with rfl | rfl
  · exact h.2.1.2.2.1
  · exact h.2.1.2.2.2
theorem Sim.fo {V W : dp_V} {N c : Nat} {p : Int} (h : Sim V W N) (hc : c = 3 ∨ c = 4) : Sim (foV V c p) (foV W c p) N := by
  unfold foV
  rw [h.row hc, h.2.1.1]
  exact (h.mv hc).mv hc
theorem Sim.u0 {V W : dp_V} {N k : Nat} {x : Int} (h : Sim V W N) (hk : k < 3) : Sim (u2 V 0 k x) (u2 W 0 k x) N := by
  refine h.mk' ?_ ?_ ?_ ?_ ?_
  · rw [u2_same, u2_same]
    unfold u1
    refine ⟨?_, ?_, ?_⟩ <;> split <;> first | rfl | exact h.1.1 | exact h.1.2.1 | exact h.1.2.2
  · rw [u2_ne (by decide), u2_ne (by decide), u2_ne (by decide), u2_ne (by decide), u2_ne (by decide), u2_ne (by decide), u2_ne (by decide), u2_ne (by decide)]; exact h.2.1
  · rw [u2_same, u1_ne (by omega)]
  · intro t _; exact u2_ne (by omega)
  · intro t _; exact u2_ne (by omega)
theorem Sim.sl {V W : dp_V} {N : Nat} {p el : Int} (h : Sim V W N) : Sim (slV V p el) (slV W p el) N := by
  have a := (h.fo (c := 3) (p := p) (Or.inl rfl)).fo (c := 4) (p := el) (Or.inr rfl)
  unfold slV
  rw [a.1.2.1]
  exact a.u0 (by decide)
theorem Sim.uc {V W : dp_V} {N c k : Nat} {x : Int} (h : Sim V W N) (hc : c = 1 ∨ c = 2 ∨ c = 3 ∨ c = 4) : Sim (u2 V c k x) (u2 W c k x) N := by
  have e : ∀ d, d ≠ 0 → d < 5 → u2 V c k x d = u2 W c k x d := by
    intro d h0 h5
    have ed : V d = W d := by
      rcases (by omega : d = 1 ∨ d = 2 ∨ d = 3 ∨ d = 4) with rfl | rfl | rfl | rfl
      · exact h.2.1.1
      · exact h.2.1.2.1
      · exact h.2.1.2.2.1
      · exact h.2.1.2.2.2
    by_cases q : d = c
    · subst q; rw [u2_same, u2_same, ed]
    · rw [u2_ne q, u2_ne q, ed]
  refine h.mk' ?_ ⟨e 1 (by decide) (by decide), e 2 (by decide) (by decide), e 3 (by decide) (by decide), e 4 (by decide) (by decide)⟩ ?_ ?_ ?_
  · rw [u2_ne (by omega), u2_ne (by omega)]; exact h.1
  · rw [u2_ne (by omega)]
  · intro t _; exact u2_ne (by omega)
  · intro t _; exact u2_ne (by omega)
theorem Sim.ch {V W : dp_V} {N c : Nat} {k x : Int} (h : Sim V W N) (hc : c = 3 ∨ c = 4) : Sim (chV V c k x) (chV W c k x) N := by
  unfold chV
  rw [h.row hc]
  split
  · exact (h.uc (by omega)).uc (by omega)
  · split
    · exact h.uc (by omega)
    · split
      · exact h.uc (by omega)
      · exact h
/-- a target put alike -/
theorem Sim.uT {V W : dp_V} {N t k : Nat} {x : Int} (h : Sim V W N) (ht : t < N) (h4 : ¬ u1 (V (t + 6)) k x 6 = 4) (hs : TS (u1 (V (t + 6)) k x) (u1 (W (t + 6)) k x)) : Sim (u2 V (t + 6) k x) (u2 W (t + 6) k x) N := by
  have n : ∀ (Z : dp_V) (d : Nat), d ≠ t + 6 → u2 Z (t + 6) k x d = Z d := fun Z d hd => u2_ne hd
  refine ⟨by rw [n V 0 (by omega), n W 0 (by omega)]; exact h.1, by rw [n V 1 (by omega), n W 1 (by omega), n V 2 (by omega), n W 2 (by omega), n V 3 (by omega), n W 3 (by omega), n V 4 (by omega), n W 4 (by omega)]; exact h.2.1, by rw [n W 0 (by omega)]; exact h.2.2.1, ⟨h.2.2.2.1.1, fun t' q => ?_, fun t' q1 q2 => ?_⟩, fun t' q => ?_⟩
  · by_cases e : t' = t
    · subst e; rw [u2_same]; exact h4
    · rw [n V _ (by omega)]; exact h.2.2.2.1.2.1 t' q
  · rw [n V _ (by omega)]; exact h.2.2.2.1.2.2 t' q1 q2
  · by_cases e : t' = t
    · subst e; rw [u2_same, u2_same]; exact hs
    · rw [n V _ (by omega), n W _ (by omega)]; exact h.2.2.2.2 t' q
