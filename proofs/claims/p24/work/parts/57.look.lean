theorem u2_comm {V : dp_V} {a b i j : Nat} {x y : Int} (h : a ≠ b) : u2 (u2 V a i x) b j y = u2 (u2 V b j y) a i x := by
  funext c k
  simp only [u2_ap]
  by_cases p : c = a
  · by_cases q : c = b
    · exact absurd (p.symm.trans q) h
    · simp only [if_pos p, if_neg q]
  · by_cases q : c = b
    · simp only [if_neg p, if_pos q]
    · simp only [if_neg p, if_neg q]
theorem u2_id {V : dp_V} {c k : Nat} : u2 V c k (V c k) = V := by
  funext c' k'
  rw [u2_ap]
  by_cases p : c' = c
  · by_cases q : k' = k
    · rw [if_pos p, if_pos q, p, q]
    · rw [if_pos p, if_neg q]
  · rw [if_neg p]
theorem TS.u13 {f g : Nat → Int} {x : Int} (h : TS f g) : TS (u1 f 13 x) (u1 g 13 x) := by
  obtain ⟨a, b, c, d, e⟩ := h
  refine ⟨fun k hk => by rw [u1_ne (by omega), u1_ne (by omega)]; exact a k hk, by rw [u1_ne (by decide), u1_ne (by decide)]; exact b, fun q => ?_, fun _ => by rw [u1_same, u1_same], fun q => ?_⟩
  · rw [u1_ne (show 6 ≠ 13 by decide)] at q
    rw [u1_ne (show 7 ≠ 13 by decide), u1_ne (show 7 ≠ 13 by decide), u1_ne (show 8 ≠ 13 by decide), u1_ne (show 8 ≠ 13 by decide), u1_ne (show 9 ≠ 13 by decide), u1_ne (show 9 ≠ 13 by decide), u1_ne (show 12 ≠ 13 by decide), u1_ne (show 12 ≠ 13 by decide)]
    exact c q
  · rw [u1_ne (show 6 ≠ 13 by decide)] at q
    rw [u1_ne (show 10 ≠ 13 by decide), u1_ne (show 10 ≠ 13 by decide)]
    exact e q
/-- a slew is looked at alike, as long as it has been looked at in time -/
theorem Sim.lk {V W : dp_V} {N t : Nat} (h : Sim V W N) (ht : t < N) (h6 : V (t + 6) 6 = 1) (hs : V (t + 6) 13 = 0 → V 0 0 ≤ V (t + 6) 8) : Sim (lkV V t) (puV W t) N := by
  have T := h.2.2.2.2 t ht
  have e8 := (T.2.2.1 (Or.inl h6)).2.1
  have e13 := T.2.2.2.1 h6
  have e0 := h.1.1
  have ek := h.kd
  have e3 := h.2.1.2.2.1
  have s1 : ∀ x, Sim (u2 V 3 4 x) (u2 W 3 4 x) N := fun x => h.uc (by omega)
  have s2 : ∀ x, Sim (u2 (u2 V 3 4 x) (t + 6) 13 1) (u2 (u2 W 3 4 x) (t + 6) 13 1) N := fun x => (s1 x).uT ht (by rw [u1_ne (by decide), u2_ne (by omega), h6]; decide) (by rw [u2_ne (by omega), u2_ne (by omega)]; exact T.u13)
  have s3 : Sim (u2 V (t + 6) 13 1) (u2 W (t + 6) 13 1) N := h.uT ht (by rw [u1_ne (by decide), h6]; decide) T.u13
  unfold lkV puV
  by_cases q : V (t + 6) 13 = 0
  · rw [if_pos q]
    have q2 := hs q
    by_cases r : V 0 0 < V (t + 6) 8
    · rw [if_pos r, if_neg (by omega)]
      exact h
    · have w1 : W (t + 6) 8 = W 0 0 := by omega
      have w2 : W (t + 6) 13 = 0 := by omega
      rw [if_neg r]
      simp only [if_pos w1, if_pos w2]
      by_cases k : kdF V = 1
      · have k2 : kdF W = 1 := by rw [← ek]; exact k
        simp only [if_pos k, if_pos k2]
        rw [u2_comm (show t + 6 ≠ 3 by omega), e0, e3]
        exact s2 _
      · have k2 : ¬ kdF W = 1 := by rw [← ek]; exact k
        simp only [if_neg k, if_neg k2]
        rw [u2_id]
        exact s3
  · rw [if_neg q]
    have z : ¬ W (t + 6) 13 = 0 := by rw [← e13]; exact q
    rw [if_neg z]
    split <;> exact h
