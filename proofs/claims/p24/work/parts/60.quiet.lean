/-! WHAT HOLDS BEHIND A MINUTE; THE NEXT EVENT; MINUTES AT WHICH NOTHING HAPPENS -/
theorem bsG_nn {V : dp_V} : ∀ (n k : Nat) (b : Int), 0 ≤ b → 0 ≤ bsG V k n b := by
  intro n
  induction n with
  | zero => intro k b h; exact h
  | succ n ih =>
    intro k b h
    show 0 ≤ bsG V (k + 1) n (if rsF V k = 0 then (if b = -1 then (k : Int) else if btF (V (k + 6)) (V (b.toNat + 6)) = 0 then b else (k : Int)) else b)
    refine ih (k + 1) _ ?_
    repeat' split
    all_goals omega
theorem bsG_no {V : dp_V} : ∀ (n k : Nat), bsG V k n (-1) = -1 → ∀ t, k ≤ t → t < k + n → ¬ rsF V t = 0 := by
  intro n
  induction n with
  | zero => intro k _ t h1 h2; omega
  | succ n ih =>
    intro k h t h1 h2 h3
    have h' : bsG V (k + 1) n (if rsF V k = 0 then (if (-1 : Int) = -1 then (k : Int) else if btF (V (k + 6)) (V ((-1 : Int).toNat + 6)) = 0 then -1 else (k : Int)) else -1) = -1 := h
    by_cases q : rsF V k = 0
    · rw [if_pos q, if_pos rfl] at h'
      have := bsG_nn (V := V) n (k + 1) (k : Int) (by omega)
      omega
    · rw [if_neg q] at h'
      by_cases e : t = k
      · subst e; exact q h3
      · exact ih (k + 1) h' t (by omega) (by omega) h3
theorem bsG_all {V : dp_V} : ∀ (n k : Nat) (b : Int), (∀ t, k ≤ t → t < k + n → ¬ rsF V t = 0) → bsG V k n b = b := by
  intro n
  induction n with
  | zero => intro k b _; rfl
  | succ n ih =>
    intro k b h
    show bsG V (k + 1) n (if rsF V k = 0 then (if b = -1 then (k : Int) else if btF (V (k + 6)) (V (b.toNat + 6)) = 0 then b else (k : Int)) else b) = b
    rw [if_neg (h k (by omega) (by omega))]
    exact ih (k + 1) b (fun t a c => h t (by omega) (by omega))
theorem bsF_no {V : dp_V} (h : bsF V = -1) : ∀ t, t < 10 → ¬ rsF V t = 0 := fun t q => bsG_no 10 0 h t (by omega) (by omega)
theorem bsF_all {V : dp_V} (h : ∀ t, t < 10 → ¬ rsF V t = 0) : bsF V = -1 := bsG_all 10 0 (-1) (fun t _ q => h t (by omega))
theorem en2_row : ∀ {n k : Nat} {V : dp_V} {c : Nat}, en2 k n V c = if ((k + 6 ≤ c ∧ c < k + n + 6) ∧ V c 6 = 0) ∧ ¬ V 0 0 < V c 3 then u1 (V c) 6 3 else V c := by
  intro n
  induction n with
  | zero => intro k V c; rw [if_neg (by omega)]; rfl
  | succ n ih =>
    intro k V c
    show en2 (k + 1) n (if V (k + 6) 6 = 0 then (if V 0 0 < V (k + 6) 3 then V else u2 V (k + 6) 6 3) else V) c = _
    by_cases q : V (k + 6) 6 = 0 ∧ ¬ V 0 0 < V (k + 6) 3
    · rw [if_pos q.1, if_neg q.2, ih, u2_ne (show 0 ≠ k + 6 by omega)]
      by_cases e : c = k + 6
      · subst e
        rw [if_neg (by omega), if_pos ⟨⟨by omega, q.1⟩, q.2⟩, u2_same]
      · rw [u2_ne e]
        by_cases r : ((k + 6 ≤ c ∧ c < k + (n + 1) + 6) ∧ V c 6 = 0) ∧ ¬ V 0 0 < V c 3
        · rw [if_pos ⟨⟨by omega, r.1.2⟩, r.2⟩, if_pos r]
        · rw [if_neg (fun z => r ⟨⟨by omega, z.1.2⟩, z.2⟩), if_neg r]
    · have e : (if V (k + 6) 6 = 0 then (if V 0 0 < V (k + 6) 3 then V else u2 V (k + 6) 6 3) else V) = V := by
        by_cases q1 : V (k + 6) 6 = 0
        · rw [if_pos q1]
          by_cases q2 : V 0 0 < V (k + 6) 3
          · rw [if_pos q2]
          · exact absurd ⟨q1, q2⟩ q
        · rw [if_neg q1]
      rw [e, ih]
      by_cases e : c = k + 6
      · subst e
        rw [if_neg (by omega), if_neg (fun z => q ⟨z.1.2, z.2⟩)]
      · by_cases r : ((k + 6 ≤ c ∧ c < k + (n + 1) + 6) ∧ V c 6 = 0) ∧ ¬ V 0 0 < V c 3
        · rw [if_pos ⟨⟨by omega, r.1.2⟩, r.2⟩, if_pos r]
        · rw [if_neg (fun z => r ⟨⟨by omega, z.1.2⟩, z.2⟩), if_neg r]
/-- behind a minute: nobody under way is done or looked at too late, no window of one that waits is past, none can be begun -/
def PM (V : dp_V) : Prop := (∀ t, t < 10 → V (t + 6) 6 = 1 → V 0 0 < V (t + 6) 9 ∧ (V (t + 6) 13 = 0 → V 0 0 < V (t + 6) 8)) ∧ (∀ t, t < 10 → V (t + 6) 6 = 0 → V 0 0 < V (t + 6) 3) ∧ (∀ t, t < 10 → ¬ rsF V t = 0) ∧ I1 V
theorem lkV_13 {V : dp_V} {t : Nat} (h : lkV V t (t + 6) 13 = 0) : V 0 0 < V (t + 6) 8 := by
  unfold lkV at h
  by_cases q : V (t + 6) 13 = 0
  · rw [if_pos q] at h
    by_cases r : V 0 0 < V (t + 6) 8
    · exact r
    · rw [if_neg r] at h
      split at h
      · rw [u2_ne (by omega), u2_same, u1_same] at h; omega
      · rw [u2_same, u1_same] at h; omega
  · rw [if_neg q] at h
    exact absurd h q
theorem en1_P {V : dp_V} (i1 : I1 V) : (∀ t, t < 10 → en1 0 10 V (t + 6) 6 = 1 → en1 0 10 V 0 0 < en1 0 10 V (t + 6) 9 ∧ (en1 0 10 V (t + 6) 13 = 0 → en1 0 10 V 0 0 < en1 0 10 V (t + 6) 8)) ∧ I1 (en1 0 10 V) ∧ (∀ t k, t < 10 → k ≠ 6 → k ≠ 10 → k ≠ 13 → en1 0 10 V (t + 6) k = V (t + 6) k) := by
  rcases en1_I i1 with ⟨a, b, c⟩ | ⟨t, h1, h2, h3, o, c⟩
  · rw [c]
    exact ⟨fun t q r => absurd r (b t q), i1, fun _ _ _ _ _ _ => rfl⟩
  · rw [c]
    have e0 : goV V t 0 0 = V 0 0 := by rw [goV_0]
    have n : ∀ u, u ≠ t → goV V t (u + 6) = V (u + 6) := fun u hu => goV_ne (by omega) (by omega)
    refine ⟨fun u hu q => ?_, fun u v hu hv q1 q2 => ?_, fun u k _ k6 k10 k13 => ?_⟩
    · by_cases e : u = t
      · subst e
        rw [e0]
        unfold goV at q ⊢
        have f0 : lkV V u 0 0 = V 0 0 := by rw [lkV_0]
        by_cases r : lkV V u 0 0 < lkV V u (u + 6) 9
        · rw [if_pos r]
          refine ⟨by omega, fun z => ?_⟩
          rw [lkV_k (by decide)]
          exact lkV_13 z
        · rw [if_neg r, u2_same, u1_ne (by decide), u2_same, u1_same] at q
          omega
      · rw [n u e] at q
        exact absurd q (o u hu e)
    · by_cases e : u = t
      · by_cases f : v = t
        · rw [e, f]
        · rw [n v f] at q2
          exact absurd q2 (o v hv f)
      · rw [n u e] at q1
        exact absurd q1 (o u hu e)
    · by_cases e : u = t
      · subst e
        unfold goV
        split
        · exact lkV_k k13
        · rw [u2_same, u1_ne k10, u2_same, u1_ne k6]
          exact lkV_k k13
      · rw [n u e]
theorem enV_P {V : dp_V} (i1 : I1 V) : (∀ t, t < 10 → enV V (t + 6) 6 = 1 → enV V 0 0 < enV V (t + 6) 9 ∧ (enV V (t + 6) 13 = 0 → enV V 0 0 < enV V (t + 6) 8)) ∧ (∀ t, t < 10 → enV V (t + 6) 6 = 0 → enV V 0 0 < enV V (t + 6) 3) ∧ I1 (enV V) := by
  obtain ⟨a, b, -⟩ := en1_P i1
  have e0 : enV V 0 0 = en1 0 10 V 0 0 := by
    unfold enV
    rw [en2_row, if_neg (by omega)]
  have r1 : ∀ t, enV V (t + 6) 6 = 1 → enV V (t + 6) = en1 0 10 V (t + 6) ∧ en1 0 10 V (t + 6) 6 = 1 := by
    intro t
    unfold enV
    rw [en2_row]
    split
    · intro q; rw [u1_same] at q; omega
    · intro q; exact ⟨rfl, q⟩
  refine ⟨fun t ht q => ?_, fun t ht q => ?_, fun t u ht hu q1 q2 => b t u ht hu (r1 t q1).2 (r1 u q2).2⟩
  · obtain ⟨x, y⟩ := r1 t q
    rw [x, e0]
    exact a t ht y
  · rw [e0]
    unfold enV at q ⊢
    rw [en2_row] at q ⊢
    by_cases r : ((0 + 6 ≤ t + 6 ∧ t + 6 < 0 + 10 + 6) ∧ en1 0 10 V (t + 6) 6 = 0) ∧ ¬ en1 0 10 V 0 0 < en1 0 10 V (t + 6) 3
    · rw [if_pos r, u1_same] at q
      omega
    · rw [if_neg r] at q ⊢
      by_cases z : en1 0 10 V 0 0 < en1 0 10 V (t + 6) 3
      · exact z
      · exact absurd ⟨⟨by omega, q⟩, z⟩ r
theorem lkV_ne {V : dp_V} {t c : Nat} (h : c ≠ t + 6) (h3 : c ≠ 3) : lkV V t c = V c := by
  unfold lkV
  repeat' split
  all_goals first | rfl | (rw [u2_ne h3, u2_ne h]) | (rw [u2_ne h])
theorem beV_ne {V : dp_V} {t u : Nat} (h : u ≠ t) : beV V t (u + 6) = V (u + 6) := by
  unfold beV
  rw [lkV_ne (by omega) (by omega), b7V_ne h]
theorem m4V_P {V : dp_V} (hv : ivC V) (i1 : I1 V) : PM (m4V V) := by
  obtain ⟨a, b, c⟩ := enV_P i1
  unfold m4V
  split
  · next q => exact ⟨a, b, bsF_no q, c⟩
  · next q =>
    rcases @bsF_sp (enV V) with z | ⟨z1, z2, z3⟩
    · exact absurd z q
    · have hE := (enV_iv hv).1
      generalize hb : (bsF (enV V)).toNat = t at z3
      have ht : t < 10 := by omega
      generalize enV V = E at a b c hE z3
      obtain ⟨r1, r2, -⟩ := rsF_0 z3
      have no : ∀ u, u < 10 → ¬ E (u + 6) 6 = 1 := by
        rcases @uwF_spV E with ⟨_, y⟩ | ⟨u, _, y2, _⟩
        · exact y
        · omega
      obtain ⟨e6, e8, e9, e13⟩ := @b7V_at E t
      have hb2 := beg_bd hE ht z3
      have f0 : beV E t 0 0 = E 0 0 := (beV_iv hE ht z3).2
      have f6 : beV E t (t + 6) 6 = 1 := by
        unfold beV
        rw [lkV_6]
        exact e6
      have f9 : beV E t (t + 6) 9 = b7V E t (t + 6) 9 := by
        unfold beV
        exact lkV_k (by decide)
      have f8 : beV E t (t + 6) 8 = b7V E t (t + 6) 8 := by
        unfold beV
        exact lkV_k (by decide)
      refine ⟨fun u hu q1 => ?_, fun u hu q1 => ?_, fun u hu q1 => ?_, fun u v hu hv q1 q2 => ?_⟩
      · by_cases e : u = t
        · subst e
          rw [f0, f9, e9, f8]
          refine ⟨by omega, fun y => ?_⟩
          have y2 := lkV_13 (V := b7V E u) (t := u) y
          rw [b7V_0] at y2
          exact y2
        · rw [beV_ne e] at q1
          exact absurd q1 (no u hu)
      · by_cases e : u = t
        · subst e; omega
        · rw [f0]
          rw [beV_ne e] at q1 ⊢
          exact b u hu q1
      · have y := (rsF_0 q1).2.1
        rcases @uwF_spV (beV E t) with ⟨_, y2⟩ | ⟨w, _, y2, _⟩
        · exact y2 t ht f6
        · omega
      · by_cases e : u = t
        · by_cases f : v = t
          · rw [e, f]
          · rw [beV_ne f] at q2
            exact absurd q2 (no v hv)
        · rw [beV_ne e] at q1
          exact absurd q1 (no u hu)
/-! the next event -/
theorem soF_le {V : dp_V} {ev m : Int} : soF V ev m ≤ ev ∧ (V 0 0 < m → soF V ev m ≤ m) ∧ (V 0 0 < ev → V 0 0 < soF V ev m) := by
  unfold soF
  repeat' split
  all_goals omega
theorem neG_le {V : dp_V} : ∀ (n k : Nat) (ev : Int), neG V k n ev ≤ ev ∧ (V 0 0 < ev → V 0 0 < neG V k n ev) := by
  intro n
  induction n with
  | zero => intro k ev; exact ⟨Int.le_refl _, fun h => h⟩
  | succ n ih =>
    intro k ev
    have key : ∀ Z y : Int, (Z ≤ y ∧ (V 0 0 < y → V 0 0 < Z)) → (y ≤ ev ∧ (V 0 0 < ev → V 0 0 < y)) → Z ≤ ev ∧ (V 0 0 < ev → V 0 0 < Z) := fun Z y a b => ⟨by omega, fun q => by omega⟩
    show neG V (k + 1) n (if V (k + 6) 6 = 1 then soF V (soF V ev (V (k + 6) 8)) (V (k + 6) 9) else if V (k + 6) 6 = 0 then soF V (soF V ev (V (k + 6) 2)) (V (k + 6) 3) else ev) ≤ ev ∧ (V 0 0 < ev → V 0 0 < neG V (k + 1) n (if V (k + 6) 6 = 1 then soF V (soF V ev (V (k + 6) 8)) (V (k + 6) 9) else if V (k + 6) 6 = 0 then soF V (soF V ev (V (k + 6) 2)) (V (k + 6) 3) else ev))
    refine key _ _ (ih (k + 1) _) ?_
    have h8 := @soF_le V ev (V (k + 6) 8)
    have h9 := @soF_le V (soF V ev (V (k + 6) 8)) (V (k + 6) 9)
    have h2 := @soF_le V ev (V (k + 6) 2)
    have h3 := @soF_le V (soF V ev (V (k + 6) 2)) (V (k + 6) 3)
    split
    · exact ⟨by omega, fun q => by omega⟩
    · split
      · exact ⟨by omega, fun q => by omega⟩
      · exact ⟨by omega, fun q => q⟩
theorem neG_at {V : dp_V} : ∀ (n k : Nat) (ev : Int) (t : Nat), k ≤ t → t < k + n → (V (t + 6) 6 = 1 → (V 0 0 < V (t + 6) 8 → neG V k n ev ≤ V (t + 6) 8) ∧ (V 0 0 < V (t + 6) 9 → neG V k n ev ≤ V (t + 6) 9)) ∧ (V (t + 6) 6 = 0 → (V 0 0 < V (t + 6) 2 → neG V k n ev ≤ V (t + 6) 2) ∧ (V 0 0 < V (t + 6) 3 → neG V k n ev ≤ V (t + 6) 3)) := by
  intro n
  induction n with
  | zero => intro k ev t h1 h2; omega
  | succ n ih =>
    intro k ev t h1 h2
    have e : neG V k (n + 1) ev = neG V (k + 1) n (if V (k + 6) 6 = 1 then soF V (soF V ev (V (k + 6) 8)) (V (k + 6) 9) else if V (k + 6) 6 = 0 then soF V (soF V ev (V (k + 6) 2)) (V (k + 6) 3) else ev) := rfl
    rw [e]
    by_cases q : t = k
    · subst q
      have h8 := @soF_le V ev (V (t + 6) 8)
      have h9 := @soF_le V (soF V ev (V (t + 6) 8)) (V (t + 6) 9)
      have h2 := @soF_le V ev (V (t + 6) 2)
      have h3 := @soF_le V (soF V ev (V (t + 6) 2)) (V (t + 6) 3)
      refine ⟨fun s => ?_, fun s => ?_⟩
      · rw [if_pos s]
        have a := (neG_le (V := V) n (t + 1) (soF V (soF V ev (V (t + 6) 8)) (V (t + 6) 9))).1
        exact ⟨fun _ => by omega, fun _ => by omega⟩
      · rw [if_neg (by omega), if_pos s]
        have a := (neG_le (V := V) n (t + 1) (soF V (soF V ev (V (t + 6) 2)) (V (t + 6) 3))).1
        exact ⟨fun _ => by omega, fun _ => by omega⟩
    · exact ih (k + 1) _ t (by omega) (by omega)
theorem neF_gt {V : dp_V} (h : 0 ≤ V 0 0) : V 0 0 < neF V ∧ neF V ≤ (V 0 0 / 1440 + 1) * 1440 := by
  obtain ⟨a, b⟩ := neG_le (V := V) 10 0 ((V 0 0 / 1440 + 1) * 1440)
  exact ⟨b (by omega), a⟩
theorem neF_at {V : dp_V} {t : Nat} (ht : t < 10) : (V (t + 6) 6 = 1 → (V 0 0 < V (t + 6) 8 → neF V ≤ V (t + 6) 8) ∧ (V 0 0 < V (t + 6) 9 → neF V ≤ V (t + 6) 9)) ∧ (V (t + 6) 6 = 0 → (V 0 0 < V (t + 6) 2 → neF V ≤ V (t + 6) 2) ∧ (V 0 0 < V (t + 6) 3 → neF V ≤ V (t + 6) 3)) := neG_at 10 0 _ t (by omega) (by omega)
