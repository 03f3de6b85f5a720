theorem Sim.bG {V W : dp_V} {N : Nat} (h : Sim V W N) : ∀ (n k : Nat) (b : Int), k + n ≤ N → (b = -1 ∨ (0 ≤ b ∧ b < N)) → bsG V k n b = bsM W N k n b := by
  intro n
  induction n with
  | zero => intro k b _ _; rfl
  | succ n ih =>
    intro k b hk hb
    show bsG V (k + 1) n (if rsF V k = 0 then (if b = -1 then (k : Int) else if btF (V (k + 6)) (V (b.toNat + 6)) = 0 then b else (k : Int)) else b) = bsM W N (k + 1) n (if rsM W N k = 0 then (if b = -1 then (k : Int) else if btF (W (k + 6)) (W (b.toNat + 6)) = 0 then b else (k : Int)) else b)
    rw [h.rs (by omega)]
    by_cases q : rsM W N k = 0
    · rw [if_pos q, if_pos q]
      by_cases q1 : b = -1
      · rw [if_pos q1, if_pos q1]
        exact ih (k + 1) _ (by omega) (Or.inr ⟨by omega, by omega⟩)
      · rw [if_neg q1, if_neg q1]
        have hb2 := hb.resolve_left q1
        rw [h.bt (show k < N by omega) (show b.toNat < N by omega)]
        refine ih (k + 1) _ (by omega) ?_
        split
        · exact hb
        · exact Or.inr ⟨by omega, by omega⟩
    · rw [if_neg q, if_neg q]
      exact ih (k + 1) _ (by omega) hb
theorem rsF_4 {V : dp_V} {t : Nat} (h : V (t + 6) 6 = 4) : rsF V t = 1 := by
  unfold rsF
  rw [h, if_neg (by decide)]
theorem bsG_tail {V : dp_V} {N : Nat} (h : ctO V N) : ∀ (n k : Nat) (b : Int), N ≤ k → k + n ≤ 10 → bsG V k n b = b := by
  intro n
  induction n with
  | zero => intro k b _ _; rfl
  | succ n ih =>
    intro k b h1 h2
    show bsG V (k + 1) n (if rsF V k = 0 then (if b = -1 then (k : Int) else if btF (V (k + 6)) (V (b.toNat + 6)) = 0 then b else (k : Int)) else b) = b
    rw [rsF_4 (h.2.2 k h1 (by omega)), if_neg (by decide)]
    exact ih (k + 1) b (by omega) (by omega)
theorem bsG_cut {V : dp_V} {N : Nat} (h : ctO V N) : ∀ (m k : Nat) (b : Int), k + m = N → bsG V k (10 - k) b = bsG V k m b := by
  intro m
  induction m with
  | zero => intro k b hk; exact bsG_tail h _ k b (by omega) (by have := h.1; omega)
  | succ m ih =>
    intro k b hk
    have e : 10 - k = (10 - (k + 1)) + 1 := by have := h.1; omega
    rw [e]
    exact ih (k + 1) _ (by omega)
theorem Sim.bs {V W : dp_V} {N : Nat} (h : Sim V W N) : bsF V = bnM W N := (bsG_cut h.2.2.2.1 N 0 (-1) (by omega)).trans (h.bG N 0 (-1) (by omega) (Or.inl rfl))
theorem Sim.mG {V W : dp_V} {N : Nat} (h : Sim V W N) : ∀ m k : Nat, k + m = N → muG V k (10 - k) = (if uwG W k m = -1 then -100004 else W ((uwG W k m).toNat + 6) 9 - W 0 0) := by
  intro m
  induction m with
  | zero =>
    intro k hk
    have e : ∀ n j : Nat, N ≤ j → j + n ≤ 10 → muG V j n = -100004 := by
      intro n
      induction n with
      | zero => intro j _ _; rfl
      | succ n ih =>
        intro j h1 h2
        show (if V (j + 6) 6 = 1 then V (j + 6) 9 - V 0 0 else muG V (j + 1) n) = -100004
        rw [h.2.2.2.1.2.2 j h1 (by omega), if_neg (by decide), ih (j + 1) (by omega) (by omega)]
    rw [e _ k (by omega) (by have := h.2.2.2.1.1; omega)]
    rfl
  | succ m ih =>
    intro k hk
    have e : 10 - k = (10 - (k + 1)) + 1 := by have := h.2.2.2.1.1; omega
    rw [e]
    show (if V (k + 6) 6 = 1 then V (k + 6) 9 - V 0 0 else muG V (k + 1) (10 - (k + 1))) = _
    have e2 : uwG W k (m + 1) = (if W (k + 6) 6 = 1 then (k : Int) else uwG W (k + 1) m) := rfl
    rw [e2, h.st (show k < N by omega) (by decide)]
    by_cases q : W (k + 6) 6 = 1
    · rw [if_pos q, if_pos q, if_neg (by omega), Int.toNat_natCast]
      have q2 : V (k + 6) 6 = 1 := by rw [h.st (show k < N by omega) (by decide)]; exact q
      rw [((h.2.2.2.2 k (by omega)).2.2.1 (Or.inl q2)).2.2.1, h.1.1]
    · rw [if_neg q, if_neg q]
      exact ih (k + 1) (by omega)
theorem Sim.mu {V W : dp_V} {N : Nat} (h : Sim V W N) : muG V 0 10 = muN W N := by
  refine (h.mG N 0 (by omega)).trans ?_
  unfold muN uwN
  rcases @uwN_sp W N with ⟨a, b, _⟩ | ⟨t, _, a, b, _⟩
  · rw [if_pos b, if_pos (by unfold uwN at a; exact a)]
  · unfold uwN at a
    rw [b] at a ⊢
    rw [if_neg (by omega), if_neg (by omega), a]
theorem TS.tg {f g : Nat → Int} (h : TS f g) (k : Int) : tgT f k = tgT g k := by
  obtain ⟨a, b, c, d, e⟩ := h
  have a6 := a 6 (by decide)
  unfold tgT ibF
  rw [a 0 (by decide), a 1 (by decide), a 2 (by decide), a 3 (by decide), a 4 (by decide), a 5 (by decide), b]
  rw [a6] at c e ⊢
  by_cases q1 : g 6 = 1
  · obtain ⟨c1, c2, c3, c4⟩ := c (Or.inl q1)
    simp only [c1, c2, c3, c4, if_neg (show ¬ g 6 = 2 by omega)]
  · by_cases q2 : g 6 = 2
    · obtain ⟨c1, c2, c3, c4⟩ := c (Or.inr q2)
      rw [c1, c2, c3, c4, e q2]
    · simp only [if_neg q1, if_neg q2]
theorem Sim.co {V W X Z : dp_V} {N : Nat} {k : Int} (h : Sim V W N) (hX : X 1 0 = Z 0 0) (hT : X 3 0 = Z 0 1) (h4 : cnF V 4 = 10 - (N : Int)) : coF V X k = coM W Z N k := by
  have hs : stT V k = stT W k := by
    have hk := h.kd
    obtain ⟨⟨a, a1, a2⟩, ⟨b, c, d, e⟩, -, -, -⟩ := h
    unfold stT guF
    rw [hk, a, a1, a2, b, c, d]
  unfold coF coM
  rw [h.cn (s := 0) (by decide), h.cn (s := 2) (by decide), h.cn (s := 3) (by decide), h.uN, h.mu, hX, hT, h4, hs]
  by_cases q : k = 4
  · rw [if_pos q, if_pos q]; omega
  · rw [if_neg q, if_neg q]
