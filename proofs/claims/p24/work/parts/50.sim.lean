/-! CLASS AND REFERENCE ALIKE: V the class's state, W the reference's, N targets -/
/-- a target alike -/
def TS (f g : Nat → Int) : Prop := (∀ k, k < 7 → f k = g k) ∧ f 11 = g 11 ∧ (f 6 = 1 ∨ f 6 = 2 → f 7 = g 7 ∧ f 8 = g 8 ∧ f 9 = g 9 ∧ f 12 = g 12) ∧ (f 6 = 1 → f 13 = g 13) ∧ (f 6 = 2 → f 10 = g 10)
def Sim (V W : dp_V) (N : Nat) : Prop := (V 0 0 = W 0 0 ∧ V 0 1 = W 0 1 ∧ V 0 2 = W 0 2) ∧ (V 1 = W 1 ∧ V 2 = W 2 ∧ V 3 = W 3 ∧ V 4 = W 4) ∧ W 0 3 = (N : Int) ∧ ctO V N ∧ ∀ t, t < N → TS (V (t + 6)) (W (t + 6))
theorem Sim.kd {V W : dp_V} {N : Nat} (h : Sim V W N) : kdF V = kdF W := by
  obtain ⟨⟨a, -, -⟩, ⟨b, c, -, -⟩, -, -, -⟩ := h
  unfold kdF guF
  rw [a, b, c]
theorem Sim.tm {V W : dp_V} {N : Nat} (h : Sim V W N) (p el : Int) : tmF V p el = tmF W p el := by
  obtain ⟨-, ⟨b, -, c, d⟩, -, -, -⟩ := h
  unfold tmF
  rw [b, c, d]
theorem Sim.lt {V W : dp_V} {N : Nat} (h : Sim V W N) (z : Int) : ltF V z = ltF W z := by
  obtain ⟨-, ⟨b, -, c, d⟩, -, -, -⟩ := h
  unfold ltF
  rw [b, c]
theorem Sim.ap {V W : dp_V} {N : Nat} (h : Sim V W N) (z : Int) : apF V z = apF W z := by
  have hl := h.lt z
  obtain ⟨-, ⟨b, -, c, d⟩, -, -, -⟩ := h
  unfold apF arW
  rw [b, c, hl]
theorem Sim.pf {V W : dp_V} {N : Nat} (h : Sim V W N) (z : Int) : pfF V z = pfF W z := by
  have hl := h.ap z
  obtain ⟨-, ⟨b, -, c, d⟩, -, -, -⟩ := h
  unfold pfF
  rw [b, c, hl]
theorem Sim.st {V W : dp_V} {N t : Nat} (h : Sim V W N) (ht : t < N) {k : Nat} (hk : k < 7) : V (t + 6) k = W (t + 6) k := (h.2.2.2.2 t ht).1 k hk
theorem Sim.uG {V W : dp_V} {N : Nat} (h : Sim V W N) : ∀ n k : Nat, k + n ≤ N → uwG V k n = uwG W k n := by
  intro n
  induction n with
  | zero => intro k _; rfl
  | succ n ih =>
    intro k hk
    show (if V (k + 6) 6 = 1 then (k : Int) else uwG V (k + 1) n) = (if W (k + 6) 6 = 1 then (k : Int) else uwG W (k + 1) n)
    rw [h.st (by omega) (by decide), ih (k + 1) (by omega)]
theorem uwG_tail {V : dp_V} {N : Nat} (h : ctO V N) : ∀ n k : Nat, N ≤ k → k + n ≤ 10 → uwG V k n = -1 := by
  intro n
  induction n with
  | zero => intro k _ _; rfl
  | succ n ih =>
    intro k h1 h2
    show (if V (k + 6) 6 = 1 then (k : Int) else uwG V (k + 1) n) = -1
    rw [h.2.2 k h1 (by omega), if_neg (by decide), ih (k + 1) (by omega) (by omega)]
theorem uwG_cut {V : dp_V} {N : Nat} (h : ctO V N) : ∀ m k : Nat, k + m = N → uwG V k (10 - k) = uwG V k m := by
  intro m
  induction m with
  | zero => intro k hk; exact uwG_tail h _ k (by omega) (by have := h.1; omega)
  | succ m ih =>
    intro k hk
    have e : 10 - k = (10 - (k + 1)) + 1 := by have := h.1; omega
    rw [e]
    show (if V (k + 6) 6 = 1 then (k : Int) else uwG V (k + 1) (10 - (k + 1))) = (if V (k + 6) 6 = 1 then (k : Int) else uwG V (k + 1) m)
    rw [ih (k + 1) (by omega)]
theorem Sim.uw {V W : dp_V} {N : Nat} (h : Sim V W N) : uwF V = uwG W 0 N := (uwG_cut h.2.2.2.1 N 0 (by omega)).trans (h.uG N 0 (by omega))
theorem Sim.uN {V W : dp_V} {N : Nat} (h : Sim V W N) : ftF (uwF V) = uwN W N := by rw [h.uw]; rfl
theorem Sim.cG {V W : dp_V} {N : Nat} (h : Sim V W N) (s : Int) : ∀ n k : Nat, k + n ≤ N → cnG V s k n = cnG W s k n := by
  intro n
  induction n with
  | zero => intro k _; rfl
  | succ n ih =>
    intro k hk
    show (if V (k + 6) 6 = s then 1 else 0) + cnG V s (k + 1) n = (if W (k + 6) 6 = s then 1 else 0) + cnG W s (k + 1) n
    rw [h.st (by omega) (by decide), ih (k + 1) (by omega)]
theorem cnG_tail {V : dp_V} {N : Nat} {s : Int} (h : ctO V N) (hs : ¬ (4 : Int) = s) : ∀ n k : Nat, N ≤ k → k + n ≤ 10 → cnG V s k n = 0 := by
  intro n
  induction n with
  | zero => intro k _ _; rfl
  | succ n ih =>
    intro k h1 h2
    show (if V (k + 6) 6 = s then 1 else 0) + cnG V s (k + 1) n = 0
    rw [h.2.2 k h1 (by omega), if_neg hs, ih (k + 1) (by omega) (by omega)]
    rfl
theorem cnG_cut {V : dp_V} {N : Nat} {s : Int} (h : ctO V N) (hs : ¬ (4 : Int) = s) : ∀ m k : Nat, k + m = N → cnG V s k (10 - k) = cnG V s k m := by
  intro m
  induction m with
  | zero => intro k hk; exact cnG_tail h hs _ k (by omega) (by have := h.1; omega)
  | succ m ih =>
    intro k hk
    have e : 10 - k = (10 - (k + 1)) + 1 := by have := h.1; omega
    rw [e]
    show (if V (k + 6) 6 = s then 1 else 0) + cnG V s (k + 1) (10 - (k + 1)) = (if V (k + 6) 6 = s then 1 else 0) + cnG V s (k + 1) m
    rw [ih (k + 1) (by omega)]
theorem Sim.cn {V W : dp_V} {N : Nat} {s : Int} (h : Sim V W N) (hs : ¬ (4 : Int) = s) : cnF V s = cnG W s 0 N := (cnG_cut h.2.2.2.1 hs N 0 (by omega)).trans (h.cG s N 0 (by omega))
theorem Sim.rs {V W : dp_V} {N t : Nat} (h : Sim V W N) (ht : t < N) : rsF V t = rsM W N t := by
  have s := fun k hk => h.st ht (k := k) hk
  have ha := h.ap
  have htm := h.tm
  have hu := h.uw
  have hk := h.kd
  obtain ⟨⟨a, -, -⟩, ⟨b, -, c, d⟩, -, -, -⟩ := h
  unfold rsF rsM
  rw [s 0 (by decide), s 1 (by decide), s 2 (by decide), s 3 (by decide), s 4 (by decide), s 6 (by decide), hu, hk, a, b, c, d, ha, htm]
theorem Sim.bt {V W : dp_V} {N t u : Nat} (h : Sim V W N) (ht : t < N) (hu : u < N) : btF (V (t + 6)) (V (u + 6)) = btF (W (t + 6)) (W (u + 6)) := by
  unfold btF
  rw [h.st ht (by decide), h.st hu (by decide), h.st ht (by decide), h.st hu (by decide)]
