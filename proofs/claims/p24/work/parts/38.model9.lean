/-- the one under way goes on -/
def fnV (V : dp_V) (t : Nat) : dp_V := if puV V t (t + 6) 9 ≤ puV V t 0 0 then u2 (u2 (puV V t) (t + 6) 6 2) (t + 6) 10 (puV V t 3 3 - puV V t 3 4 - puV V t (t + 6) 12) else puV V t
def fnC (V : dp_V) (t : Nat) : Int := if puV V t (t + 6) 9 ≤ puV V t 0 0 then 1 else 0
def ms1 (V : dp_V) (N : Nat) : dp_V := if uwN V N = -100004 then V else fnV V (uwN V N).toNat
def mc (V : dp_V) (N : Nat) : Int := if uwN V N = -100004 then 0 else fnC V (uwN V N).toNat
def miM (V : dp_V) (N : Nat) : dp_V := if bnM (en2 0 N (ms1 V N)) N = -1 then en2 0 N (ms1 V N) else bgV (en2 0 N (ms1 V N)) (bnM (en2 0 N (ms1 V N)) N).toNat
theorem ms1_t {V : dp_V} {N t : Nat} (h : uwN V N = t) : ms1 V N = fnV V t ∧ mc V N = fnC V t := by
  unfold ms1 mc
  rw [if_neg (by omega), if_neg (by omega), h]
  exact ⟨rfl, rfl⟩
theorem fnV_iv {V : dp_V} {N t : Nat} (h : ivM V N) (ht : t < N) (h6 : V (t + 6) 6 = 1) : ivM (fnV V t) N ∧ fnV V t 0 0 = V 0 0 := by
  obtain ⟨a, b, c⟩ := puV_iv h ht
  have hT := a.2.2.2 t ht
  unfold fnV
  split
  · have a2 := ivM_uT (k := 6) (x := 2) a ht (ivT_st hT (by omega))
    refine ⟨ivM_uT a2 ht (by rw [u2_same]; exact ivT_10 (ivT_st hT (by omega))), ?_⟩
    rw [u2_ne (by omega), u2_ne (by omega), b]
  · exact ⟨a, by rw [b]⟩
theorem ms1_iv {V : dp_V} {N : Nat} (h : ivM V N) : ivM (ms1 V N) N ∧ ms1 V N 0 0 = V 0 0 := by
  rcases @uwN_sp V N with ⟨a, _⟩ | ⟨t, h1, h2, _, h4⟩
  · unfold ms1
    rw [if_pos a]
    exact ⟨h, rfl⟩
  · rw [(ms1_t h2).1]
    exact fnV_iv h h1 h4
theorem en2M_iv {N : Nat} : ∀ {n k : Nat} {V : dp_V}, k + n ≤ N → ivM V N → ivM (en2 k n V) N ∧ en2 k n V 0 = V 0 := by
  intro n
  induction n with
  | zero => intro k V _ h; exact ⟨h, rfl⟩
  | succ n ih =>
    intro k V hk h
    rw [show en2 k (n + 1) V = en2 (k + 1) n (if V (k + 6) 6 = 0 then (if V 0 0 < V (k + 6) 3 then V else u2 V (k + 6) 6 3) else V) from rfl]
    split
    · split
      · exact ih (by omega) h
      · obtain ⟨a, b⟩ := ih (k := k + 1) (V := u2 V (k + 6) 6 3) (by omega) (ivM_uT h (by omega) (ivT_st (h.2.2.2 k (by omega)) (by omega)))
        exact ⟨a, b.trans (u2_ne (by omega))⟩
    · exact ih (by omega) h
theorem bsM_sp {V : dp_V} {N : Nat} : ∀ {n k : Nat} {b : Int}, k + n ≤ N → (b = -1 ∨ ∃ t : Nat, t < N ∧ b = t ∧ rsM V N t = 0) → (bsM V N k n b = -1 ∨ ∃ t : Nat, t < N ∧ bsM V N k n b = t ∧ rsM V N t = 0) := by
  intro n
  induction n with
  | zero => intro k b _ h; exact h
  | succ n ih =>
    intro k b hk h
    rw [show bsM V N k (n + 1) b = bsM V N (k + 1) n (if rsM V N k = 0 then (if b = -1 then (k : Int) else if btF (V (k + 6)) (V (b.toNat + 6)) = 0 then b else (k : Int)) else b) from rfl]
    split
    · rename_i q
      split
      · exact ih (by omega) (Or.inr ⟨k, by omega, rfl, q⟩)
      · split
        · exact ih (by omega) h
        · exact ih (by omega) (Or.inr ⟨k, by omega, rfl, q⟩)
    · exact ih (by omega) h
theorem bnM_sp {V : dp_V} {N : Nat} : bnM V N = -1 ∨ ∃ t : Nat, t < N ∧ bnM V N = t ∧ rsM V N t = 0 := bsM_sp (by omega) (Or.inl rfl)
theorem miM_iv {V : dp_V} {N : Nat} (h : ivM V N) : ivM (miM V N) N ∧ miM V N 0 0 = V 0 0 := by
  obtain ⟨a, b⟩ := ms1_iv h
  obtain ⟨c, d⟩ := en2M_iv (n := N) (k := 0) (by omega) a
  have e : en2 0 N (ms1 V N) 0 0 = V 0 0 := by rw [d, b]
  unfold miM
  rcases @bnM_sp (en2 0 N (ms1 V N)) N with q | ⟨t, h1, h2, h3⟩
  · rw [if_pos q]
    exact ⟨c, e⟩
  · rw [if_neg (by omega), h2]
    obtain ⟨f, g⟩ := bgV_iv c h1 (rsM_0 h3).1
    exact ⟨f, g.trans e⟩
theorem hd1_iv {V : dp_V} {N : Nat} (h : ivM V N) : ivM (hd1 V N) N ∧ hd1 V N 0 = V 0 := by
  unfold hd1
  rcases @uwN_sp V N with ⟨a, _⟩ | ⟨t, h1, h2, _, h4⟩
  · rw [if_pos a]
    exact ⟨h, rfl⟩
  · rw [if_neg (by omega), h2, Int.toNat_natCast]
    have hT := h.2.2.2 t h1
    have a2 := ivM_uT (k := 6) (x := 0) h h1 (ivT_st hT (by omega))
    refine ⟨ivM_uT a2 h1 (by rw [u2_same]; exact ivT_11 (ivT_st hT (by omega))), ?_⟩
    rw [u2_ne (by omega), u2_ne (by omega)]
theorem hdM_iv {V : dp_V} {N : Nat} (h : ivM V N) : ivM (hdM V N) N ∧ hdM V N 0 0 = V 0 0 := by
  obtain ⟨a, b⟩ := hd1_iv h
  have hs := a.2.2.1
  have e0 : ∀ c, c ≠ 4 → mvV (hd1 V N) 4 9000 c = hd1 V N c := fun c hc => mvV_ne hc
  have hA : ivA 4 (mvV (hd1 V N) 4 9000 4) := mvV_iv hs.2.2.2.2 (by decide)
  have hs2 : ivS (mvV (hd1 V N) 4 9000) := ⟨by rw [e0 0 (by decide)]; exact hs.1, by rw [e0 1 (by decide)]; exact hs.2.1, by rw [e0 2 (by decide)]; exact hs.2.2.1, by rw [e0 3 (by decide)]; exact hs.2.2.2.1, hA⟩
  have a2 : ivM (mvV (hd1 V N) 4 9000) N := ivM_uS a hs2 (by rw [e0 0 (by decide)]) (fun t _ => e0 _ (by omega))
  unfold hdM
  refine ⟨ivM_uS a2 (ivS_of hs2 (by rw [u2_same, u1_ne (by decide)]) (u2_ne (by decide)) (u2_ne (by decide)) (u2_ne (by decide)) (u2_ne (by decide))) (by rw [u2_same, u1_ne (by decide)]) (fun t _ => u2_ne (by omega)), ?_⟩
  rw [u2_same, u1_ne (by decide), e0 0 (by decide), b]
/-- a minute more -/
def hsM (V : dp_V) (N : Nat) : dp_V := if (V 0 0 + 1) % 1440 = 0 then (if kdF (u2 V 0 0 (V 0 0 + 1)) = 0 then hdM (u2 V 0 0 (V 0 0 + 1)) N else u2 V 0 0 (V 0 0 + 1)) else u2 V 0 0 (V 0 0 + 1)
def stM (V : dp_V) (N : Nat) : dp_V := miM (hsM V N) N
def rnG (N : Nat) : Nat → dp_V → dp_V
  | 0, V => V
  | n + 1, V => rnG N n (stM V N)
def rcG (N : Nat) : Nat → dp_V → Int
  | 0, _ => 0
  | n + 1, V => mc (hsM V N) N + rcG N n (stM V N)
theorem ivM_00 {V : dp_V} {N : Nat} {x : Int} (h : ivM V N) (hx : 0 ≤ x ∧ x ≤ 43200) : ivM (u2 V 0 0 x) N := by
  have hs := h.2.2.1
  refine ivM_uS h ⟨by rw [u2_same, u1_same]; exact hx, by rw [u2_ne (by decide)]; exact hs.2.1, by rw [u2_ne (by decide)]; exact hs.2.2.1, by rw [u2_ne (by decide)]; exact hs.2.2.2.1, by rw [u2_ne (by decide)]; exact hs.2.2.2.2⟩ (by rw [u2_same, u1_ne (by decide)]) (fun t _ => u2_ne (by omega))
theorem hsM_iv {V : dp_V} {N : Nat} (h : ivM V N) (hx : V 0 0 + 1 ≤ 43200) : ivM (hsM V N) N ∧ hsM V N 0 0 = V 0 0 + 1 := by
  have h0 := h.2.2.1.1
  have a := ivM_00 (x := V 0 0 + 1) h (by omega)
  have e : u2 V 0 0 (V 0 0 + 1) 0 0 = V 0 0 + 1 := by rw [u2_same, u1_same]
  unfold hsM
  split
  · split
    · obtain ⟨b, c⟩ := hdM_iv a
      exact ⟨b, c.trans e⟩
    · exact ⟨a, e⟩
  · exact ⟨a, e⟩
theorem stM_iv {V : dp_V} {N : Nat} (h : ivM V N) (hx : V 0 0 + 1 ≤ 43200) : ivM (stM V N) N ∧ stM V N 0 0 = V 0 0 + 1 := by
  obtain ⟨a, b⟩ := hsM_iv h hx
  obtain ⟨c, d⟩ := miM_iv a
  exact ⟨c, d.trans b⟩
