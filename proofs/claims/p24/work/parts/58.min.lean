/-! A MINUTE ALIKE -/
theorem simUc {V W : dp_V} {N t : Nat} {f g : Nat → Int} (h : Sim V W N) (ht : t < N) (h4 : ¬ f 6 = 4) (hs : TS f g) : Sim (uc V (t + 6) f) (uc W (t + 6) g) N := by
  have n : ∀ (Z : dp_V) (q : Nat → Int) (d : Nat), d ≠ t + 6 → uc Z (t + 6) q d = Z d := fun Z q d hd => uc_ne hd
  refine ⟨by rw [n V f 0 (by omega), n W g 0 (by omega)]; exact h.1, by rw [n V f 1 (by omega), n W g 1 (by omega), n V f 2 (by omega), n W g 2 (by omega), n V f 3 (by omega), n W g 3 (by omega), n V f 4 (by omega), n W g 4 (by omega)]; exact h.2.1, by rw [n W g 0 (by omega)]; exact h.2.2.1, ⟨h.2.2.2.1.1, fun t' q => ?_, fun t' q1 q2 => ?_⟩, fun t' q => ?_⟩
  · by_cases e : t' = t
    · subst e; rw [uc_same]; exact h4
    · rw [n V f _ (by omega)]; exact h.2.2.2.1.2.1 t' q
  · rw [n V f _ (by omega)]; exact h.2.2.2.1.2.2 t' q1 q2
  · by_cases e : t' = t
    · subst e; rw [uc_same, uc_same]; exact hs
    · rw [n V f _ (by omega), n W g _ (by omega)]; exact h.2.2.2.2 t' q
/-- two numbers of a target put -/
theorem u2_two {V : dp_V} {c i j : Nat} {x y : Int} : u2 (u2 V c i x) c j y = uc V c (u1 (u1 (V c) i x) j y) := by
  rw [u2_uc (u2 V c i x), u2_same, u2_uc V, uc_uc]
theorem lkV_k {V : dp_V} {t u k : Nat} (hk : k ≠ 13) : lkV V t (u + 6) k = V (u + 6) k := by
  unfold lkV
  by_cases e : u = t
  · subst e
    repeat' split
    all_goals first | rfl | (rw [u2_ne (by omega), u2_same, u1_ne hk]) | (rw [u2_same, u1_ne hk])
  · repeat' split
    all_goals first | rfl | (rw [u2_ne (by omega), u2_ne (by omega)]) | (rw [u2_ne (by omega)])
theorem lkV_6 {V : dp_V} {t u : Nat} : lkV V t (u + 6) 6 = V (u + 6) 6 := lkV_k (by decide)
/-- the one under way goes on alike -/
theorem Sim.go {V W : dp_V} {N t : Nat} (h : Sim V W N) (ht : t < N) (h6 : V (t + 6) 6 = 1) (hs : V (t + 6) 13 = 0 → V 0 0 ≤ V (t + 6) 8) : Sim (goV V t) (fnV W t) N ∧ fnC W t = (if V 0 0 < V (t + 6) 9 then 0 else 1) := by
  have a := h.lk ht h6 hs
  have T := a.2.2.2.2 t ht
  have h6' : lkV V t (t + 6) 6 = 1 := by rw [lkV_6]; exact h6
  have e9 := (T.2.2.1 (Or.inl h6')).2.2.1
  have e12 := (T.2.2.1 (Or.inl h6')).2.2.2
  have e0 := a.1.1
  have e3 := a.2.1.2.2.1
  have f0 : lkV V t 0 0 = V 0 0 := by rw [lkV_0]
  have f9 : lkV V t (t + 6) 9 = V (t + 6) 9 := lkV_k (by decide)
  unfold goV fnV fnC
  by_cases q : V 0 0 < V (t + 6) 9
  · rw [if_pos (by omega), if_neg (by omega), if_neg (by omega), if_pos q]
    exact ⟨a, rfl⟩
  · rw [if_neg (by omega), if_pos (by omega), if_pos (by omega), if_neg q]
    refine ⟨?_, rfl⟩
    rw [u2_two, u2_two, ← e3, ← e12]
    refine simUc a ht ?_ ?_
    · rw [u1_ne (by decide), u1_same]; decide
    · refine ⟨fun k hk => ?_, ?_, fun _ => ?_, fun q2 => ?_, fun _ => ?_⟩
      · have e10 : ∀ (f : Nat → Int) (x : Int), u1 f 10 x k = f k := fun f x => u1_ne (by omega)
        rw [e10, e10]
        by_cases e : k = 6
        · subst e; rw [u1_same, u1_same]
        · have e6 : ∀ (f : Nat → Int) (x : Int), u1 f 6 x k = f k := fun f x => u1_ne e
          rw [e6, e6]; exact T.1 k hk
      · rw [u1_ne (by decide), u1_ne (by decide), u1_ne (by decide), u1_ne (by decide)]; exact T.2.1
      · have c := T.2.2.1 (Or.inl h6')
        rw [u1_ne (show 7 ≠ 10 by decide), u1_ne (show 7 ≠ 6 by decide), u1_ne (show 7 ≠ 10 by decide), u1_ne (show 7 ≠ 6 by decide), u1_ne (show 8 ≠ 10 by decide), u1_ne (show 8 ≠ 6 by decide), u1_ne (show 8 ≠ 10 by decide), u1_ne (show 8 ≠ 6 by decide), u1_ne (show 9 ≠ 10 by decide), u1_ne (show 9 ≠ 6 by decide), u1_ne (show 9 ≠ 10 by decide), u1_ne (show 9 ≠ 6 by decide), u1_ne (show 12 ≠ 10 by decide), u1_ne (show 12 ≠ 6 by decide), u1_ne (show 12 ≠ 10 by decide), u1_ne (show 12 ≠ 6 by decide)]
        exact c
      · rw [u1_ne (by decide), u1_same] at q2; omega
      · rw [u1_same, u1_same]
/-- at most one target under way; no slew is past that was not looked at -/
def I1 (V : dp_V) : Prop := ∀ t u, t < 10 → u < 10 → V (t + 6) 6 = 1 → V (u + 6) 6 = 1 → t = u
def I2 (V : dp_V) : Prop := ∀ t, t < 10 → V (t + 6) 6 = 1 → V (t + 6) 13 = 0 → V 0 0 ≤ V (t + 6) 8
theorem uwF_spV {V : dp_V} : (uwF V = -1 ∧ ∀ t, t < 10 → ¬ V (t + 6) 6 = 1) ∨ ∃ t : Nat, t < 10 ∧ uwF V = t ∧ V (t + 6) 6 = 1 := by
  unfold uwF
  rcases @uwG_sp V 10 0 with ⟨a, b⟩ | ⟨t, h1, h2, h3, h4⟩
  · exact Or.inl ⟨a, fun t h => b t (by omega) (by omega)⟩
  · exact Or.inr ⟨t, by omega, h3, h4⟩
theorem en1_I {V : dp_V} (h : I1 V) : (uwF V = -1 ∧ (∀ t, t < 10 → ¬ V (t + 6) 6 = 1) ∧ en1 0 10 V = V) ∨ ∃ t : Nat, t < 10 ∧ uwF V = t ∧ V (t + 6) 6 = 1 ∧ (∀ u, u < 10 → u ≠ t → ¬ V (u + 6) 6 = 1) ∧ en1 0 10 V = goV V t := by
  rcases @uwF_spV V with ⟨a, b⟩ | ⟨t, h1, h2, h3⟩
  · exact Or.inl ⟨a, b, en1_no 10 0 V (fun t _ q => b t (by omega))⟩
  · have o : ∀ u, u < 10 → u ≠ t → ¬ V (u + 6) 6 = 1 := fun u hu hne q => hne (h u t hu h1 q h3)
    exact Or.inr ⟨t, h1, h2, h3, o, en1_one 10 0 V t (by omega) (by omega) h3 (fun u _ q => o u (by omega))⟩
theorem Sim.ltN {V W : dp_V} {N t : Nat} (h : Sim V W N) (ht : t < 10) (h4 : ¬ V (t + 6) 6 = 4) : t < N := by
  rcases Nat.lt_or_ge t N with q | q
  · exact q
  · exact absurd (h.2.2.2.1.2.2 t q ht) h4
theorem Sim.m1 {V W : dp_V} {N : Nat} (h : Sim V W N) (i1 : I1 V) (i2 : I2 V) : Sim (en1 0 10 V) (ms1 W N) N := by
  have hu := h.uN
  rcases en1_I i1 with ⟨a, b, c⟩ | ⟨t, h1, h2, h3, -, c⟩
  · rw [c]
    unfold ms1
    rw [if_pos (by rw [← hu, a]; rfl)]
    exact h
  · rw [c]
    have e : uwN W N = (t : Int) := by
      rw [← hu, h2]
      unfold ftF
      rw [if_neg (by omega)]
    rw [(ms1_t e).1]
    exact (h.go (h.ltN h1 (by omega)) h3 (i2 t h1 h3)).1
theorem Sim.m1c {V W : dp_V} {N : Nat} (h : Sim V W N) (i1 : I1 V) (i2 : I2 V) : mc W N = (if uwF V = -1 then 0 else if V 0 0 < V ((uwF V).toNat + 6) 9 then 0 else 1) := by
  have hu := h.uN
  rcases en1_I i1 with ⟨a, b, c⟩ | ⟨t, h1, h2, h3, -, c⟩
  · rw [if_pos a]
    unfold mc
    rw [if_pos (by rw [← hu, a]; rfl)]
  · have e : uwN W N = (t : Int) := by
      rw [← hu, h2]
      unfold ftF
      rw [if_neg (by omega)]
    rw [(ms1_t e).2, (h.go (h.ltN h1 (by omega)) h3 (i2 t h1 h3)).2, h2, if_neg (show ¬ (t : Int) = -1 by omega), Int.toNat_natCast]
theorem TS.u6 {f g : Nat → Int} {x : Int} (h : TS f g) (hx : x = 0 ∨ x = 3) : TS (u1 f 6 x) (u1 g 6 x) := by
  obtain ⟨a, b, c, d, e⟩ := h
  refine ⟨fun k hk => ?_, by rw [u1_ne (by decide), u1_ne (by decide)]; exact b, fun q => ?_, fun q => ?_, fun q => ?_⟩
  · by_cases r : k = 6
    · subst r; rw [u1_same, u1_same]
    · rw [u1_ne r, u1_ne r]; exact a k hk
  all_goals (rw [u1_same] at q; omega)
/-- the waiting ones missed alike -/
theorem Sim.e2 {N : Nat} : ∀ (m k : Nat) {V W : dp_V}, k + m = N → Sim V W N → Sim (en2 k (10 - k) V) (en2 k m W) N := by
  have tail : ∀ (n k : Nat) (V : dp_V), N ≤ k → k + n ≤ 10 → ctO V N → en2 k n V = V := by
    intro n
    induction n with
    | zero => intro k V _ _ _; rfl
    | succ n ih =>
      intro k V h1 h2 h
      show en2 (k + 1) n (if V (k + 6) 6 = 0 then (if V 0 0 < V (k + 6) 3 then V else u2 V (k + 6) 6 3) else V) = V
      rw [h.2.2 k h1 (by omega), if_neg (by decide)]
      exact ih (k + 1) V (by omega) (by omega) h
  intro m
  induction m with
  | zero =>
    intro k V W hk h
    rw [tail (10 - k) k V (by omega) (by have := h.2.2.2.1.1; omega) h.2.2.2.1]
    exact h
  | succ m ih =>
    intro k V W hk h
    have e : 10 - k = (10 - (k + 1)) + 1 := by have := h.2.2.2.1.1; omega
    rw [e]
    show Sim (en2 (k + 1) (10 - (k + 1)) (if V (k + 6) 6 = 0 then (if V 0 0 < V (k + 6) 3 then V else u2 V (k + 6) 6 3) else V)) (en2 (k + 1) m (if W (k + 6) 6 = 0 then (if W 0 0 < W (k + 6) 3 then W else u2 W (k + 6) 6 3) else W)) N
    refine ih (k + 1) (by omega) ?_
    have hk2 : k < N := by omega
    rw [← h.st hk2 (show 6 < 7 by decide), ← h.st hk2 (show 3 < 7 by decide), ← h.1.1]
    split
    · split
      · exact h
      · exact h.uT hk2 (by rw [u1_same]; decide) ((h.2.2.2.2 k hk2).u6 (Or.inr rfl))
    · exact h
theorem Sim.m2 {V W : dp_V} {N : Nat} (h : Sim V W N) (i1 : I1 V) (i2 : I2 V) : Sim (enV V) (en2 0 N (ms1 W N)) N := Sim.e2 N 0 (by omega) (h.m1 i1 i2)
