/-! MINUTES THAT GO BY, ALIKE -/
theorem u2_again {V : dp_V} {c k : Nat} {x y : Int} : u2 (u2 V c k x) c k y = u2 V c k y := by
  funext c' k'
  simp only [u2_ap]
  by_cases p : c' = c
  · by_cases q : k' = k
    · simp only [if_pos p, if_pos q]
    · simp only [if_pos p, if_neg q]
  · simp only [if_neg p]
theorem u00_T {V : dp_V} {x : Int} {t : Nat} : u2 V 0 0 x (t + 6) = V (t + 6) := u2_ne (by omega)
theorem u00_0 {V : dp_V} {x : Int} : u2 V 0 0 x 0 0 = x := by rw [u2_same, u1_same]
theorem u00_c {V : dp_V} {x : Int} {c : Nat} (h : c ≠ 0) : u2 V 0 0 x c = V c := u2_ne h
theorem uwG_eq {V V' : dp_V} (h : ∀ t : Nat, V' (t + 6) 6 = V (t + 6) 6) : ∀ n k : Nat, uwG V' k n = uwG V k n := by
  intro n
  induction n with
  | zero => intro k; rfl
  | succ n ih =>
    intro k
    show (if V' (k + 6) 6 = 1 then (k : Int) else uwG V' (k + 1) n) = (if V (k + 6) 6 = 1 then (k : Int) else uwG V (k + 1) n)
    rw [h k, ih (k + 1)]
theorem cnG_eq {V V' : dp_V} {s : Int} : ∀ n k : Nat, (∀ t, k ≤ t → t < k + n → (V' (t + 6) 6 = s ↔ V (t + 6) 6 = s)) → cnG V' s k n = cnG V s k n := by
  intro n
  induction n with
  | zero => intro k _; rfl
  | succ n ih =>
    intro k h
    show (if V' (k + 6) 6 = s then 1 else 0) + cnG V' s (k + 1) n = (if V (k + 6) 6 = s then 1 else 0) + cnG V s (k + 1) n
    rw [ih (k + 1) (fun t a b => h t (by omega) (by omega))]
    by_cases q : V (k + 6) 6 = s
    · rw [if_pos q, if_pos ((h k (by omega) (by omega)).mpr q)]
    · rw [if_neg q, if_neg (fun z => q ((h k (by omega) (by omega)).mp z))]
theorem cnG_up {V V' : dp_V} {s : Int} {t0 : Nat} (h1 : V' (t0 + 6) 6 = s) (h2 : ¬ V (t0 + 6) 6 = s) : ∀ n k : Nat, k ≤ t0 → t0 < k + n → (∀ t, k ≤ t → t < k + n → t ≠ t0 → (V' (t + 6) 6 = s ↔ V (t + 6) 6 = s)) → cnG V' s k n = cnG V s k n + 1 := by
  intro n
  induction n with
  | zero => intro k a b; omega
  | succ n ih =>
    intro k a b h
    show (if V' (k + 6) 6 = s then 1 else 0) + cnG V' s (k + 1) n = (if V (k + 6) 6 = s then 1 else 0) + cnG V s (k + 1) n + 1
    by_cases e : k = t0
    · subst e
      rw [if_pos h1, if_neg h2, cnG_eq (V := V) n (k + 1) (fun t c d => h t (by omega) (by omega) (by omega))]
      omega
    · rw [ih (k + 1) (by omega) (by omega) (fun t c d f => h t (by omega) (by omega) f)]
      by_cases q : V (k + 6) 6 = s
      · rw [if_pos q, if_pos ((h k (by omega) (by omega) e).mpr q)]
        omega
      · rw [if_neg q, if_neg (fun z => q ((h k (by omega) (by omega) e).mp z))]
        omega
/-- how many become done at a minute -/
theorem m4V_cn {V : dp_V} (i1 : I1 V) : cnF (m4V V) 2 = cnF V 2 + (if uwF V = -1 then 0 else if V 0 0 < V ((uwF V).toNat + 6) 9 then 0 else 1) := by
  have hE : cnF (m4V V) 2 = cnF (enV V) 2 := by
    unfold m4V
    split
    · rfl
    · rcases @bsF_sp (enV V) with z | ⟨z1, z2, z3⟩
      · rename_i q; exact absurd z q
      · refine cnG_eq 10 0 (fun u _ _ => ?_)
        generalize (bsF (enV V)).toNat = t at z3
        by_cases e : u = t
        · subst e
          have f6 : beV (enV V) u (u + 6) 6 = 1 := by
            unfold beV
            rw [lkV_6]
            exact b7V_at.1
          have := (rsF_0 z3).1
          omega
        · rw [beV_ne e]
  have h2 : cnF (enV V) 2 = cnF (en1 0 10 V) 2 := by
    refine cnG_eq 10 0 (fun u _ _ => ?_)
    unfold enV
    rw [en2_row]
    split
    · next q => rw [u1_same]; omega
    · exact Iff.rfl
  rw [hE, h2]
  rcases en1_I i1 with ⟨a, b, c⟩ | ⟨t, t1, t2, t3, o, c⟩
  · rw [c, if_pos a]
    omega
  · rw [c, if_neg (by omega), t2, Int.toNat_natCast]
    have f0 : lkV V t 0 0 = V 0 0 := by rw [lkV_0]
    have f9 : lkV V t (t + 6) 9 = V (t + 6) 9 := lkV_k (by decide)
    unfold goV
    rw [f0, f9]
    split
    · have e : cnF (lkV V t) 2 = cnF V 2 := cnG_eq 10 0 (fun u _ _ => by rw [lkV_6])
      rw [e]
      omega
    · refine cnG_up (t0 := t) ?_ ?_ 10 0 (by omega) (by omega) (fun u _ _ e => ?_)
      · rw [u2_same, u1_ne (by decide), u2_same, u1_same]
      · omega
      · rw [u2_ne (by omega), u2_ne (by omega), lkV_6]
theorem Sim.mcq {V W : dp_V} {N : Nat} (h : Sim V W N) (i1 : I1 V) (i2 : I2 V) : mc W N = cnF (m4V V) 2 - cnF V 2 := by
  rw [h.m1c i1 i2, m4V_cn i1]
  omega
/-- at a minute ahead of the next event nothing changes -/
theorem quiet {V : dp_V} {mi : Int} (hv : ivC V) (hp : PM V) (h1 : V 0 0 < mi) (h2 : mi < neF V) : m4V (u2 V 0 0 mi) = u2 V 0 0 mi ∧ I1 (u2 V 0 0 mi) ∧ I2 (u2 V 0 0 mi) ∧ ¬ mi % 1440 = 0 := by
  obtain ⟨p1, p2, p3, p4⟩ := hp
  have h0 := hv.1.1
  have hn := neF_gt (V := V) h0.1
  have j1 : I1 (u2 V 0 0 mi) := fun t u a b c d => p4 t u a b (by rw [u00_T] at c; exact c) (by rw [u00_T] at d; exact d)
  have st : ∀ t, t < 10 → V (t + 6) 6 = 1 → mi < V (t + 6) 9 ∧ (V (t + 6) 13 = 0 → mi < V (t + 6) 8) := fun t ht q => by
    have a := p1 t ht q
    have b := (neF_at (V := V) ht).1 q
    refine ⟨?_, fun z => ?_⟩
    · have := b.2 a.1; omega
    · have := b.1 (a.2 z); omega
  have s0 : ∀ t, t < 10 → V (t + 6) 6 = 0 → mi < V (t + 6) 3 := fun t ht q => by
    have := ((neF_at (V := V) ht).2 q).2 (p2 t ht q)
    omega
  have e1 : en1 0 10 (u2 V 0 0 mi) = u2 V 0 0 mi := by
    rcases en1_I j1 with ⟨_, _, c⟩ | ⟨t, t1, t2, t3, o, c⟩
    · exact c
    · rw [c]
      rw [u00_T] at t3
      have a := st t t1 t3
      have el : lkV (u2 V 0 0 mi) t = u2 V 0 0 mi := by
        unfold lkV
        rw [u00_T, u00_0]
        by_cases z : V (t + 6) 13 = 0
        · rw [if_pos z, if_pos (a.2 z)]
        · rw [if_neg z]
      unfold goV
      rw [el, u00_0, u00_T, if_pos a.1]
  have e2 : enV (u2 V 0 0 mi) = u2 V 0 0 mi := by
    unfold enV
    rw [e1]
    funext c
    rw [en2_row]
    split
    · next q =>
      obtain ⟨⟨q1, q2⟩, q3⟩ := q
      obtain ⟨t, rfl⟩ : ∃ t, c = t + 6 := ⟨c - 6, by omega⟩
      rw [u00_T] at q2 q3
      rw [u00_0] at q3
      exact absurd (s0 t (by omega) q2) q3
    · rfl
  have ek : kdF (u2 V 0 0 mi) = kdF V := by
    unfold kdF guF
    rw [u00_0, u00_c (by decide), u00_c (by decide), show mi / 1440 = V 0 0 / 1440 by omega]
  have eu : uwF (u2 V 0 0 mi) = uwF V := uwG_eq (fun t => by rw [u00_T]) 10 0
  have ea : ∀ z, apF (u2 V 0 0 mi) z = apF V z := fun z => by
    unfold apF arW ltF
    rw [u00_c (by decide), u00_c (by decide)]
  have et : ∀ p el, tmF (u2 V 0 0 mi) p el = tmF V p el := fun p el => by
    unfold tmF
    rw [u00_c (by decide), u00_c (by decide), u00_c (by decide)]
  have er : ∀ t, t < 10 → ¬ rsF (u2 V 0 0 mi) t = 0 := fun t ht q => by
    obtain ⟨r1, r2, r3, r4, r5, r6, r7⟩ := rsF_0 q
    rw [u00_T] at r1 r4 r5 r6 r7
    rw [eu] at r2
    rw [ek] at r3
    rw [u00_0] at r4 r7
    rw [u00_c (by decide), u00_c (by decide)] at r5
    rw [u00_c (by decide), u00_c (by decide), ea] at r6
    rw [ea, et] at r7
    refine p3 t ht ?_
    unfold rsF
    rw [if_pos r1, if_pos r2, if_neg r3]
    by_cases z : V 0 0 < V (t + 6) 2
    · have := ((neF_at (V := V) ht).2 r1).1 z
      omega
    · rw [if_neg z, if_neg r5, if_neg r6, if_neg (by omega)]
  refine ⟨?_, j1, fun t ht q1 q2 => ?_, by omega⟩
  · unfold m4V
    rw [e2, if_pos (bsF_all er)]
  · rw [u00_T] at q1 q2 ⊢
    rw [u00_0]
    have := (st t ht q1).2 q2
    omega
theorem hoG_6 : ∀ (n k : Nat) (V : dp_V) (t : Nat), (V (t + 6) 6 = 1 ∧ k ≤ t ∧ t < k + n → hoG k n V (t + 6) 6 = 0) ∧ (¬ (V (t + 6) 6 = 1 ∧ k ≤ t ∧ t < k + n) → hoG k n V (t + 6) 6 = V (t + 6) 6) := by
  intro n
  induction n with
  | zero => intro k V t; exact ⟨fun h => by omega, fun _ => rfl⟩
  | succ n ih =>
    intro k V t
    show (_ → hoG (k + 1) n (if V (k + 6) 6 = 1 then u2 (u2 V (k + 6) 6 0) (k + 6) 11 (V (k + 6) 11 + 1) else V) (t + 6) 6 = 0) ∧ (_ → hoG (k + 1) n (if V (k + 6) 6 = 1 then u2 (u2 V (k + 6) 6 0) (k + 6) 11 (V (k + 6) 11 + 1) else V) (t + 6) 6 = _)
    by_cases q : V (k + 6) 6 = 1
    · rw [if_pos q]
      obtain ⟨a, b⟩ := ih (k + 1) (u2 (u2 V (k + 6) 6 0) (k + 6) 11 (V (k + 6) 11 + 1)) t
      by_cases e : t = k
      · subst e
        rw [u2_same, u1_ne (by decide), u2_same, u1_same] at a b
        exact ⟨fun _ => b (by omega), fun h => absurd ⟨q, by omega, by omega⟩ h⟩
      · rw [u2_ne (by omega), u2_ne (by omega)] at a b
        exact ⟨fun h => a ⟨h.1, by omega, by omega⟩, fun h => b (fun z => h ⟨z.1, by omega, by omega⟩)⟩
    · rw [if_neg q]
      obtain ⟨a, b⟩ := ih (k + 1) V t
      refine ⟨fun h => a ⟨h.1, ?_, by omega⟩, fun h => b (fun z => h ⟨z.1, by omega, by omega⟩)⟩
      by_cases e : t = k
      · subst e; exact absurd h.1 q
      · omega
theorem hoV_6 {V : dp_V} {t : Nat} (ht : t < 10) : (V (t + 6) 6 = 1 → hoV V (t + 6) 6 = 0) ∧ (¬ V (t + 6) 6 = 1 → hoV V (t + 6) 6 = V (t + 6) 6) := by
  obtain ⟨a, b⟩ := hoG_6 10 0 (u2 V 0 2 (V 0 2 + 1)) t
  have e : hoV V (t + 6) = hoG 0 10 (u2 V 0 2 (V 0 2 + 1)) (t + 6) := by
    unfold hoV
    exact mvV_ne (by omega)
  rw [u2_ne (show t + 6 ≠ 0 by omega)] at a b
  rw [e]
  exact ⟨fun h => a ⟨h, by omega, by omega⟩, fun h => b (fun z => h z.1)⟩
/-- a minute's begin, alike -/
theorem Sim.ms {V W : dp_V} {N : Nat} {first mi : Int} (h : Sim (u2 V 0 0 (mi - 1)) W N) (i1 : I1 V) (i2 : ∀ t, t < 10 → V (t + 6) 6 = 1 → V (t + 6) 13 = 0 → mi ≤ V (t + 6) 8) (hf : first < mi) : Sim (m2V first mi V) (hsM W N) N ∧ I1 (m2V first mi V) ∧ I2 (m2V first mi V) ∧ cnF (m2V first mi V) 2 = cnF V 2 := by
  have e0 : W 0 0 + 1 = mi := by
    have a := h.1.1
    rw [u00_0] at a
    omega
  have s0 : Sim (u2 V 0 0 mi) (u2 W 0 0 mi) N := by
    have a := h.u0 (k := 0) (x := mi) (by decide)
    rw [u2_again] at a
    exact a
  have j1 : I1 (u2 V 0 0 mi) := fun t u a b c d => i1 t u a b (by rw [u00_T] at c; exact c) (by rw [u00_T] at d; exact d)
  have j2 : I2 (u2 V 0 0 mi) := fun t ht q1 q2 => by
    rw [u00_T] at q1 q2 ⊢
    rw [u00_0]
    exact i2 t ht q1 q2
  have jc : cnF (u2 V 0 0 mi) 2 = cnF V 2 := cnG_eq 10 0 (fun t _ _ => by rw [u00_T])
  have ek := s0.kd
  unfold m2V hsM
  rw [if_pos hf, e0, ← ek]
  by_cases q : mi % 1440 = 0
  · rw [if_pos q, if_pos q]
    by_cases r : kdF (u2 V 0 0 mi) = 0
    · rw [if_pos r, if_pos r]
      have z : ∀ t, t < 10 → ¬ hoV (u2 V 0 0 mi) (t + 6) 6 = 1 := fun t ht y => by
        obtain ⟨a, b⟩ := hoV_6 (V := u2 V 0 0 mi) ht
        by_cases x : u2 V 0 0 mi (t + 6) 6 = 1
        · rw [a x] at y; omega
        · rw [b x] at y; exact x y
      refine ⟨s0.ho j1, fun t u a _ c _ => absurd c (z t a), fun t a c _ => absurd c (z t a), ?_⟩
      rw [← jc]
      refine cnG_eq 10 0 (fun t _ ht => ?_)
      obtain ⟨a, b⟩ := hoV_6 (V := u2 V 0 0 mi) (t := t) (by omega)
      by_cases x : u2 V 0 0 mi (t + 6) 6 = 1
      · rw [a x]; omega
      · rw [b x]
    · rw [if_neg r, if_neg r]
      exact ⟨s0, j1, j2, jc⟩
  · rw [if_neg q, if_neg q]
    exact ⟨s0, j1, j2, jc⟩
theorem Sim.loop {N : Nat} {first : Int} : ∀ (n : Nat) (mi : Int) (V W : dp_V), ivC V → PM V → Sim (u2 V 0 0 (mi - 1)) W N → V 0 0 ≤ mi - 1 → first < mi → mi ≤ neF V → mi - 1 + n ≤ 43200 → ivC (lpG first n mi V (neF V)) ∧ I1 (lpG first n mi V (neF V)) ∧ I2 (u2 (lpG first n mi V (neF V)) 0 0 (mi - 1 + n)) ∧ Sim (u2 (lpG first n mi V (neF V)) 0 0 (mi - 1 + n)) (rnG N n W) N ∧ rcG N n W = cnF (lpG first n mi V (neF V)) 2 - cnF V 2 := by
  intro n
  induction n with
  | zero =>
    intro mi V W hv hp hs h1 h2 h3 h4
    have e : mi - 1 + ((0 : Nat) : Int) = mi - 1 := by omega
    show ivC V ∧ I1 V ∧ I2 (u2 V 0 0 (mi - 1 + ((0 : Nat) : Int))) ∧ Sim (u2 V 0 0 (mi - 1 + ((0 : Nat) : Int))) W N ∧ 0 = cnF V 2 - cnF V 2
    rw [e]
    refine ⟨hv, hp.2.2.2, fun t ht q1 q2 => ?_, hs, by omega⟩
    rw [u00_T] at q1 q2 ⊢
    rw [u00_0]
    have := ((neF_at (V := V) ht).1 q1).1 ((hp.1 t ht q1).2 q2)
    omega
  | succ n ih =>
    intro mi V W hv hp hs h1 h2 h3 h4
    have h0 := hv.1.1
    have hi2 : ∀ t, t < 10 → V (t + 6) 6 = 1 → V (t + 6) 13 = 0 → mi ≤ V (t + 6) 8 := fun t ht q1 q2 => by
      have := ((neF_at (V := V) ht).1 q1).1 ((hp.1 t ht q1).2 q2)
      omega
    obtain ⟨s1, s2, s3, s4⟩ := hs.ms (first := first) hp.2.2.2 hi2 h2
    have en : mi - 1 + ((n + 1 : Nat) : Int) = mi + 1 - 1 + (n : Int) := by omega
    have er : rcG N (n + 1) W = mc (hsM W N) N + rcG N n (stM W N) := rfl
    have eg : rnG N (n + 1) W = rnG N n (stM W N) := rfl
    have el : lpG first (n + 1) mi V (neF V) = if mi < neF V then lpG first n (mi + 1) V (neF V) else lpG first n (mi + 1) (mnV first mi V) (neF (mnV first mi V)) := rfl
    rw [en, er, eg, el]
    by_cases q : mi < neF V
    · rw [if_pos q]
      obtain ⟨q1, q2, q3, q4⟩ := quiet hv hp (by omega) q
      have em : m2V first mi V = u2 V 0 0 mi := by
        unfold m2V
        rw [if_pos h2, if_neg q4]
      rw [em] at s1 s2 s3 s4
      have hq : ivC (u2 V 0 0 mi) := ivC_00 hv (by omega)
      have a := s1.m4 hq q2 q3
      rw [q1] at a
      have b := s1.mcq q2 q3
      rw [q1] at b
      have e1 : mi + 1 - 1 = mi := by omega
      obtain ⟨c1, c2, c3, c4, c5⟩ := ih (mi + 1) V (stM W N) hv hp (by rw [e1]; exact a) (by omega) (by omega) (by omega) (by omega)
      exact ⟨c1, c2, c3, c4, by omega⟩
    · rw [if_neg q]
      have hq := m2V_iv (first := first) (mi := mi) hv (by omega)
      have a := s1.m4 hq.1 s2 s3
      have b := s1.mcq s2 s3
      have p := m4V_P hq.1 s2
      have v := m4V_iv hq.1
      have et : mnV first mi V 0 0 = mi := v.2.trans hq.2
      have e1 : mi + 1 - 1 = mi := by omega
      have eu : u2 (mnV first mi V) 0 0 (mi + 1 - 1) = mnV first mi V := by
        rw [e1]
        have := u2_id (V := mnV first mi V) (c := 0) (k := 0)
        rw [et] at this
        exact this
      have gt := (neF_gt (V := mnV first mi V) (by omega)).1
      obtain ⟨c1, c2, c3, c4, c5⟩ := ih (mi + 1) (mnV first mi V) (stM W N) v.1 p (by rw [eu]; exact a) (by omega) (by omega) (by omega) (by omega)
      have b' : mc (hsM W N) N = cnF (mnV first mi V) 2 - cnF (m2V first mi V) 2 := b
      exact ⟨c1, c2, c3, c4, by omega⟩
/-- run: class and reference alike -/
theorem Sim.run {V W : dp_V} {N k : Nat} (h : Sim V W N) (hv : ivC V) (i1 : I1 V) (i2 : I2 V) (hk : V 0 0 + k ≤ 43200) : Sim (lpV V k) (ruM W N k) N ∧ I1 (lpV V k) ∧ I2 (lpV V k) ∧ ruC W N k = cnF (lpV V k) 2 - cnF V 2 := by
  have h0 := hv.1.1
  have el : lpV V k = u2 (lpG (V 0 0) k (V 0 0 + 1) (m4V V) (neF (m4V V))) 0 0 (V 0 0 + k) := by
    have em : mnV (V 0 0) (V 0 0) V = m4V V := by
      unfold mnV m2V
      rw [if_neg (by omega), u2_id]
    unfold lpV
    show u2 (if V 0 0 < V 0 0 then lpG (V 0 0) k (V 0 0 + 1) V (V 0 0) else lpG (V 0 0) k (V 0 0 + 1) (mnV (V 0 0) (V 0 0) V) (neF (mnV (V 0 0) (V 0 0) V))) 0 0 (V 0 0 + k) = _
    rw [if_neg (by omega), em]
  have a := h.m4 hv i1 i2
  have b := h.mcq i1 i2
  have p := m4V_P hv i1
  have v := m4V_iv hv
  have gt := (neF_gt (V := m4V V) (by omega)).1
  have e1 : V 0 0 + 1 - 1 = V 0 0 := by omega
  have eu : u2 (m4V V) 0 0 (V 0 0 + 1 - 1) = m4V V := by
    rw [e1, ← v.2]
    exact u2_id
  obtain ⟨c1, c2, c3, c4, c5⟩ := Sim.loop (N := N) (first := V 0 0) k (V 0 0 + 1) (m4V V) (miM W N) v.1 p (by rw [eu]; exact a) (by omega) (by omega) (by omega) (by omega)
  rw [e1] at c3 c4
  rw [el]
  refine ⟨c4, fun t u x y z w => c2 t u x y (by rw [u00_T] at z; exact z) (by rw [u00_T] at w; exact w), c3, ?_⟩
  have ec : cnF (u2 (lpG (V 0 0) k (V 0 0 + 1) (m4V V) (neF (m4V V))) 0 0 (V 0 0 + k)) 2 = cnF (lpG (V 0 0) k (V 0 0 + 1) (m4V V) (neF (m4V V))) 2 := cnG_eq 10 0 (fun t _ _ => by rw [u00_T])
  unfold ruC
  rw [ec]
  omega
