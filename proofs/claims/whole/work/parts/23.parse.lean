/-! THE TEXT AS TARGETS: where the i-th begins, its numbers, the reason against it -/
def posT (T : dp_V) : Nat → Int
  | 0 => 0
  | i + 1 => rdR T (posT T i)
def nuv (T : dp_V) (s : Int) (i : Nat) : Int := if i < 5 then (rpG T (rtA T s i) 5 0 0).2 else if sgF T (rtA T s 5) = 112 then (rpG T (rtA T s 5) 5 0 0).2 else 0
def iru (T : dp_V) (s : Int) : Int := irF (nuv T s 0) (nuv T s 1) (nuv T s 2) (nuv T s 3) (nuv T s 4) (nuv T s 5)
def rsT (T : dp_V) (room : Int) (m : Nat) : Int := if rdR T (posT T m) = -1 then 1 else if iru T (posT T m) = 0 then 2 else if (m : Int) < room then 0 else 3
/-- m targets are good; the next one has the reason r, or there is none: r = 0 -/
def SC (T : dp_V) (room : Int) (m : Nat) (r : Int) : Prop := (∀ i, i < m → posT T i < T 3 0 ∧ rsT T room i = 0) ∧ ((r = 0 ∧ T 3 0 ≤ posT T m) ∨ (posT T m < T 3 0 ∧ r = rsT T room m ∧ ¬ r = 0))
theorem sgF_neg {T : dp_V} : sgF T (-1) = 0 := by
  unfold sgF
  rw [if_pos (by omega)]
theorem rpR_neg {T : dp_V} {q : Nat} : rpR T (-1) q = -1 := by
  unfold rpR
  rw [sgF_neg, if_neg]
  have := @dp_pl_bd q
  omega
theorem rpR_g {T : dp_V} {s : Int} {q : Nat} (h : ¬ rpR T s q = -1) : sgF T s = dp_pl q := by
  unfold rpR at h
  split at h
  · assumption
  · exact absurd rfl h
theorem rtA_neg {T : dp_V} {s : Int} {k : Nat} (h : rtA T s k = -1) : rtA T s (k + 1) = -1 := by
  show rpR T (rtA T s k) k = -1
  rw [h]
  exact rpR_neg
theorem rdR_5 {T : dp_V} {s : Int} (h : ¬ rdR T s = -1) : ¬ rtA T s 5 = -1 := by
  intro q
  apply h
  have e : rdA T s = -1 := by
    unfold rdA
    rw [q, sgF_neg, if_neg (by omega)]
  unfold rdR
  rw [e, sgF_neg, if_neg (by omega)]
theorem rtX_nu {T X : dp_V} {s : Int} : ∀ {k : Nat}, ¬ rtA T s k = -1 → ∀ i, i < k → rtX T X s k 5 i = (rpG T (rtA T s i) 5 0 0).2 := by
  intro k
  induction k with
  | zero => intro _ i hi; omega
  | succ k ih =>
    intro h i hi
    have h1 : ¬ rtA T s k = -1 := fun q => h (rtA_neg q)
    have h2 := rpR_g (q := k) h
    show rpX T (rtX T X s k) (rtA T s k) k 5 i = _
    unfold rpX
    rw [if_pos h2, u2_same]
    unfold u1
    by_cases e : i = k
    · rw [if_pos e, e]
    · rw [if_neg e]
      exact ih h1 i (by omega)
theorem rdX_nu {T X : dp_V} {s : Int} (h : ¬ rdR T s = -1) {i : Nat} (hi : i < 6) : rdX T X s 5 i = nuv T s i := by
  have h5 := rdR_5 h
  have ha : ¬ rdA T s = -1 := fun q => h (by unfold rdR; rw [q, sgF_neg, if_neg (by omega)])
  unfold rdX nuv
  by_cases c : sgF T (rtA T s 5) = 112
  · rw [if_pos c, if_pos c]
    unfold rdA at ha
    rw [if_pos c] at ha
    have hg := rpR_g ha
    unfold rpX
    rw [if_pos hg, u2_same]
    unfold u1
    by_cases e : i = 5
    · subst e
      rfl
    · rw [if_neg e, if_pos (show i < 5 by omega), u2_same, u1_ne e]
      exact rtX_nu h5 i (by omega)
  · rw [if_neg c, if_neg c, u2_same]
    unfold u1
    by_cases e : i = 5
    · subst e
      rfl
    · rw [if_neg e, if_pos (show i < 5 by omega)]
      exact rtX_nu h5 i (by omega)
theorem reF_T {T X : dp_V} {s room : Int} {m : Nat} (hs : s = posT T m) (h31 : X 3 1 = m) (hX : txS X T ∨ X 3 1 = m) : reF (rdX T X s) (rdR T s) room = rsT T room m := by
  have e31 : rdX T X s 3 1 = m := by rw [rdX_S.1, h31]
  unfold reF rsT
  rw [e31, ← hs]
  by_cases c : rdR T s = -1
  · rw [if_pos c, if_pos c]
  · rw [if_neg c, if_neg c, rdX_nu c (by omega), rdX_nu c (by omega), rdX_nu c (by omega), rdX_nu c (by omega), rdX_nu c (by omega), rdX_nu c (by omega)]
    rfl
/-- a good target ends behind its begin -/
theorem rpR_lt {T : dp_V} {s : Int} {q : Nat} (h : ¬ rpR T s q = -1) : s < rpR T s q := by
  have g := rpR_g h
  have := @rpG_d T s 5 0 0
  unfold rpR at h ⊢
  rw [if_pos g] at h ⊢
  split at h
  · exact absurd rfl h
  · next c =>
    rw [if_neg c]
    omega
theorem rdR_lt {T : dp_V} {s : Int} (h : ¬ rdR T s = -1) : s < rdR T s := by
  have h5 := rdR_5 h
  have hk : ∀ k, k ≤ 5 → ¬ rtA T s k = -1 → s ≤ rtA T s k := by
    intro k
    induction k with
    | zero => intro _ _; exact Int.le_refl s
    | succ k ih =>
      intro hk hn
      have h1 : ¬ rtA T s k = -1 := fun q => hn (rtA_neg q)
      have := ih (by omega) h1
      have h2 : rtA T s k < rtA T s (k + 1) := rpR_lt hn
      omega
  have e5 := hk 5 (by omega) h5
  have hA : s ≤ rdA T s := by
    by_cases c : sgF T (rtA T s 5) = 112
    · have ha : ¬ rdA T s = -1 := fun q => h (by unfold rdR; rw [q, sgF_neg, if_neg (by omega)])
      have e : rdA T s = rpR T (rtA T s 5) 5 := by
        unfold rdA
        rw [if_pos c]
      rw [e] at ha ⊢
      have := rpR_lt ha
      omega
    · have e : rdA T s = rtA T s 5 := by
        unfold rdA
        rw [if_neg c]
      omega
  unfold rdR at h ⊢
  split at h
  · next c =>
    rw [if_pos c]
    omega
  · exact absurd rfl h
theorem rsT_0 {T : dp_V} {room : Int} {m : Nat} (h : rsT T room m = 0) : ¬ rdR T (posT T m) = -1 ∧ ¬ iru T (posT T m) = 0 ∧ (m : Int) < room := by
  unfold rsT at h
  repeat' split at h
  all_goals first | omega | exact ⟨by assumption, by assumption, by assumption⟩
theorem posT_ge {T : dp_V} {room : Int} : ∀ {m : Nat}, (∀ i, i < m → rsT T room i = 0) → (m : Int) ≤ posT T m := by
  intro m
  induction m with
  | zero => intro _; exact Int.le_refl 0
  | succ m ih =>
    intro h
    have h1 := ih (fun i hi => h i (by omega))
    have h2 := rdR_lt (rsT_0 (h m (by omega))).1
    show ((m + 1 : Nat) : Int) ≤ rdR T (posT T m)
    omega
theorem SC_uniq {T : dp_V} {room r r' : Int} {m m' : Nat} (h : SC T room m r) (h' : SC T room m' r') : m = m' ∧ r = r' := by
  obtain ⟨a, b⟩ := h
  obtain ⟨a', b'⟩ := h'
  have key : ∀ {m m' : Nat} {r r' : Int}, (∀ i, i < m → posT T i < T 3 0 ∧ rsT T room i = 0) → ((r' = 0 ∧ T 3 0 ≤ posT T m') ∨ (posT T m' < T 3 0 ∧ r' = rsT T room m' ∧ ¬ r' = 0)) → ¬ m' < m := by
    intro m m' r r' a b' hlt
    have := a m' hlt
    rcases b' with ⟨-, q⟩ | ⟨-, q1, q2⟩
    · omega
    · omega
  have e : m = m' := by
    have h1 := key (r := r) a b'
    have h2 := key (r := r') a' b
    omega
  subst e
  refine ⟨rfl, ?_⟩
  rcases b with ⟨b1, b2⟩ | ⟨b1, b2, b3⟩ <;> rcases b' with ⟨c1, c2⟩ | ⟨c1, c2, c3⟩ <;> omega
/-- what the check leaves -/
theorem ckG_sc {T : dp_V} {room : Int} (hT : T 3 0 ≤ 100) : ∀ {n : Nat} {X : dp_V} {m : Nat}, n + m = 100 → X 3 3 = 0 → X 3 1 = m → (∀ i, i < m → posT T i < T 3 0 ∧ rsT T room i = 0) → ∃ m' : Nat, ckG T room n X (posT T m) 3 1 = m' ∧ SC T room m' (ckG T room n X (posT T m) 3 3) ∧ (¬ ckG T room n X (posT T m) 3 3 = 0 → ckG T room n X (posT T m) 3 2 = posT T m') := by
  intro n
  induction n with
  | zero =>
    intro X m hm h33 h31 hg
    refine ⟨m, h31, ⟨hg, Or.inl ⟨h33, ?_⟩⟩, fun q => absurd h33 q⟩
    have := posT_ge (T := T) (room := room) (m := m) (fun i hi => (hg i hi).2)
    omega
  | succ n ih =>
    intro X m hm h33 h31 hg
    have hr := reF_T (T := T) (X := X) (room := room) (m := m) rfl h31 (Or.inr h31)
    unfold ckG
    by_cases c : posT T m < T 3 0
    · rw [if_pos c]
      by_cases c2 : reF (rdX T X (posT T m)) (rdR T (posT T m)) room = 0
      · rw [if_pos c2]
        rw [hr] at c2
        refine ih (m := m + 1) (by omega) ?_ ?_ (fun i hi => ?_)
        · rw [u2_same, u1_ne (by decide), u2_same, u1_same, hr]
          exact c2
        · rw [u2_same, u1_same, rdX_S.1, h31]
          omega
        · by_cases e : i = m
          · subst e
            exact ⟨c, c2⟩
          · exact hg i (by omega)
      · rw [if_neg c2]
        have e33 : u2 (u2 (rdX T X (posT T m)) 3 3 (reF (rdX T X (posT T m)) (rdR T (posT T m)) room)) 3 2 (posT T m) 3 3 = rsT T room m := by
          rw [u2_same, u1_ne (by decide), u2_same, u1_same, hr]
        rw [hr] at c2
        refine ⟨m, ?_, ⟨hg, Or.inr ⟨c, ?_, ?_⟩⟩, fun _ => ?_⟩
        · rw [u2_same, u1_ne (by decide), u2_same, u1_ne (by decide), rdX_S.1, h31]
        · exact e33
        · rw [e33]
          exact c2
        · rw [u2_same, u1_same]
    · rw [if_neg c]
      exact ⟨m, h31, ⟨hg, Or.inl ⟨h33, by omega⟩⟩, fun q => absurd h33 q⟩
theorem ckX_sc {X : dp_V} {room : Int} (h : tOK X) : ∃ m : Nat, ckX X room 3 1 = m ∧ SC X room m (ckX X room 3 3) ∧ (¬ ckX X room 3 3 = 0 → ckX X room 3 2 = posT X m) := by
  unfold ckX
  exact ckG_sc h.2.1 (n := 100) (m := 0) (by omega) (by rw [u2_same, u1_same]) (by rw [u2_same, u1_ne (by decide), u2_same, u1_same]; rfl) (fun i hi => by omega)
theorem ckG_S {T : dp_V} {room : Int} : ∀ {n : Nat} {X : dp_V} {s : Int}, nOK X → nOK (ckG T room n X s) ∧ ckG T room n X s 3 0 = X 3 0 ∧ ∀ c, c ≠ 3 → c ≠ 5 → ckG T room n X s c = X c := by
  intro n
  induction n with
  | zero => intro X s h; exact ⟨h, rfl, fun _ _ _ => rfl⟩
  | succ n ih =>
    intro X s h
    have hn : nOK (rdX T X s) := rdX_n h
    have hS := @rdX_S T X s
    have hc : ∀ c, c ≠ 5 → rdX T X s c = X c := by
      intro c hc
      unfold rdX
      have h1 : ∀ k, rtX T X s k c = X c := by
        intro k
        induction k with
        | zero => rfl
        | succ k ih =>
          show rpX T (rtX T X s k) (rtA T s k) k c = X c
          unfold rpX
          split
          · rw [u2_ne hc, ih]
          · exact ih
      split
      · unfold rpX
        split
        · rw [u2_ne hc, u2_ne hc, h1]
        · rw [u2_ne hc, h1]
      · rw [u2_ne hc, h1]
    unfold ckG
    split
    · split
      · obtain ⟨a, b, c⟩ := ih (X := u2 (u2 (rdX T X s) 3 3 (reF (rdX T X s) (rdR T s) room)) 3 1 (rdX T X s 3 1 + 1)) (s := rdR T s) hn.u3.u3
        refine ⟨a, ?_, fun c9 h3 h5 => ?_⟩
        · rw [b, u2_same, u1_ne (by decide), u2_same, u1_ne (by decide), hS.1]
        · rw [c c9 h3 h5, u2_ne h3, u2_ne h3, hc c9 h5]
      · refine ⟨hn.u3.u3, ?_, fun c9 h3 h5 => ?_⟩
        · rw [u2_same, u1_ne (by decide), u2_same, u1_ne (by decide), hS.1]
        · rw [u2_ne h3, u2_ne h3, hc c9 h5]
    · exact ⟨h, rfl, fun _ _ _ => rfl⟩
theorem ckX_S {X : dp_V} {room : Int} (h : nOK X) : nOK (ckX X room) ∧ ckX X room 3 0 = X 3 0 ∧ ∀ c, c ≠ 3 → c ≠ 5 → ckX X room c = X c := by
  obtain ⟨a, b, c⟩ := ckG_S (T := X) (room := room) (n := 100) (X := u2 (u2 X 3 1 0) 3 3 0) (s := 0) h.u3.u3
  refine ⟨a, ?_, fun c9 h3 h5 => ?_⟩
  · unfold ckX
    rw [b, u2_same, u1_ne (by decide), u2_same, u1_ne (by decide)]
  · unfold ckX
    rw [c c9 h3 h5, u2_ne h3, u2_ne h3]
/-! the targets are the first n -/
def ctO (V : dp_V) (n : Nat) : Prop := n ≤ 10 ∧ (∀ t, t < n → ¬ V (t + 6) 6 = 4) ∧ ∀ t, n ≤ t → t < 10 → V (t + 6) 6 = 4
theorem cnG_ct {V : dp_V} {n : Nat} (h : ctO V n) : ∀ {k m : Nat}, k + m = 10 → cnG V 4 k m = if n ≤ k then (m : Int) else 10 - n := by
  intro k m
  induction m generalizing k with
  | zero =>
    intro hk
    have := h.1
    show (0 : Int) = _
    split <;> omega
  | succ m ih =>
    intro hk
    have := ih (k := k + 1) (by omega)
    unfold cnG
    rw [this]
    by_cases c : n ≤ k
    · rw [if_pos (h.2.2 k c (by omega)), if_pos (by omega), if_pos c]
      omega
    · rw [if_neg (h.2.1 k (by omega)), if_neg c]
      split <;> omega
theorem ctO.cn {V : dp_V} {n : Nat} (h : ctO V n) : cnF V 4 = 10 - n := by
  have := cnG_ct h (k := 0) (m := 10) (by omega)
  unfold cnF
  rw [this]
  split <;> omega
theorem aqV_f {V : dp_V} {n : Nat} {a0 a1 a2 a3 a4 a5 : Int} : aqV V n a0 a1 a2 a3 a4 a5 (n + 6) = u1 (u1 (u1 (u1 (u1 (u1 (u1 (u1 (V (n + 6)) 0 a0) 1 a1) 2 a2) 3 a3) 4 a4) 5 a5) 6 0) 11 0 := by
  unfold aqV
  rw [u2_same, u2_same, u2_same, u2_same, u2_same, u2_same, u2_same, u2_same]
theorem aqV_ne {V : dp_V} {n c : Nat} {a0 a1 a2 a3 a4 a5 : Int} (h : c ≠ n + 6) : aqV V n a0 a1 a2 a3 a4 a5 c = V c := by
  unfold aqV
  rw [u2_ne h, u2_ne h, u2_ne h, u2_ne h, u2_ne h, u2_ne h, u2_ne h, u2_ne h]
theorem irF_1 {a b c d e f : Int} (h : ¬ irF a b c d e f = 0) : 0 ≤ a ∧ a ≤ 35999 ∧ 500 ≤ b ∧ b ≤ 8500 ∧ 0 ≤ c ∧ c ≤ 43200 ∧ 0 ≤ d ∧ d ≤ 43200 ∧ c < d ∧ 1 ≤ e ∧ e ≤ 600 ∧ 0 ≤ f ∧ f ≤ 9 := by
  unfold irF dp_b at h
  split at h
  · assumption
  · exact absurd rfl h
theorem aqV_iv {V : dp_V} {n : Nat} {a0 a1 a2 a3 a4 a5 : Int} (h : ivC V) (hn : n < 10) (hi : ¬ irF a0 a1 a2 a3 a4 a5 = 0) : ivC (aqV V n a0 a1 a2 a3 a4 a5) := by
  have hr := irF_1 hi
  refine ivC_mk (ivS_of h.1 (by rw [aqV_ne (by omega)]) (aqV_ne (by omega)) (aqV_ne (by omega)) (aqV_ne (by omega)) (aqV_ne (by omega))) (fun t ht => ?_)
  by_cases e : t = n
  · subst e
    rw [aqV_f]
    refine ⟨Or.inr ?_, ?_⟩
    · unfold ivT
      refine ⟨?_, ?_, ?_, ?_, ?_, ?_, ?_, ?_, ?_, ?_, ?_, ?_, ?_, fun q => ?_⟩
      all_goals (try simp (decide := true) only [u1, reduceIte] at q)
      all_goals (try simp (decide := true) only [u1, reduceIte])
      all_goals omega
    · simp (decide := true) only [u1, reduceIte]
      exact h.2.2 t ht
  · rw [aqV_ne (by omega)]
    exact ⟨h.2.1 t ht, h.2.2 t ht⟩
theorem aqV_ct {V : dp_V} {n : Nat} {a0 a1 a2 a3 a4 a5 : Int} (h : ctO V n) (hn : n < 10) : ctO (aqV V n a0 a1 a2 a3 a4 a5) (n + 1) := by
  refine ⟨by omega, fun t ht => ?_, fun t h1 h2 => ?_⟩
  · by_cases e : t = n
    · subst e
      rw [aqV_f]
      simp (decide := true) only [u1, reduceIte]
    · rw [aqV_ne (by omega)]
      exact h.2.1 t (by omega)
  · rw [aqV_ne (by omega)]
    exact h.2.2 t (by omega) h2
/-- the first i targets of the text appended -/
def etV (V T : dp_V) (n : Nat) : Nat → dp_V
  | 0 => V
  | i + 1 => aqV (etV V T n i) (n + i) (nuv T (posT T i) 0) (nuv T (posT T i) 1) (nuv T (posT T i) 2) (nuv T (posT T i) 3) (nuv T (posT T i) 4) (nuv T (posT T i) 5)
theorem etV_iv {V T : dp_V} {n : Nat} {room : Int} (h : ivC V) (hc : ctO V n) : ∀ {m : Nat}, n + m ≤ 10 → (∀ i, i < m → rsT T room i = 0) → ivC (etV V T n m) ∧ ctO (etV V T n m) (n + m) := by
  intro m
  induction m with
  | zero => intro _ _; exact ⟨h, hc⟩
  | succ m ih =>
    intro hm hg
    obtain ⟨a, b⟩ := ih (by omega) (fun i hi => hg i (by omega))
    exact ⟨aqV_iv a (by omega) (rsT_0 (hg m (by omega))).2.1, aqV_ct b (by omega)⟩
theorem rdX_c {T X : dp_V} {s : Int} {c : Nat} (hc : c ≠ 5) : rdX T X s c = X c := by
  have h1 : ∀ k, rtX T X s k c = X c := by
    intro k
    induction k with
    | zero => rfl
    | succ k ih =>
      show rpX T (rtX T X s k) (rtA T s k) k c = X c
      unfold rpX
      split
      · rw [u2_ne hc, ih]
      · exact ih
  unfold rdX
  split
  · unfold rpX
    split
    · rw [u2_ne hc, u2_ne hc, h1]
    · rw [u2_ne hc, h1]
  · rw [u2_ne hc, h1]
