/-! THE QUEUE, THE MINUTES: what the methods make of a region's numbers (the class's side) -/
theorem ivS_of {V V' : dp_V} (h : ivS V) (h0 : V' 0 0 = V 0 0) (h1 : V' 1 = V 1) (h2 : V' 2 = V 2) (h3 : V' 3 = V 3) (h4 : V' 4 = V 4) : ivS V' := by
  unfold ivS at *
  rw [h0, h1, h2, h3, h4]
  exact h
theorem ivC_mk {V : dp_V} (h : ivS V) (ht : ∀ t, t < 10 → (V (t + 6) 6 = 4 ∨ ivT (V (t + 6))) ∧ (V (t + 6) 13 = 0 ∨ V (t + 6) 13 = 1)) : ivC V := ⟨h, fun t q => (ht t q).1, fun t q => (ht t q).2⟩
theorem guF_of {V V' : dp_V} (h0 : V' 0 0 = V 0 0) (h2 : V' 2 = V 2) : guF V' = guF V := by unfold guF; rw [h0, h2]
theorem kdF_of {V V' : dp_V} (h0 : V' 0 0 = V 0 0) (h1 : V' 1 = V 1) (h2 : V' 2 = V 2) : kdF V' = kdF V := by unfold kdF; rw [guF_of h0 h2, h1]
theorem kdF_bd {V : dp_V} : 0 ≤ kdF V ∧ kdF V ≤ 2 := by
  unfold kdF
  repeat' split
  all_goals omega
/-- the target under way, from k on, n more; none: -1 -/
def uwG (V : dp_V) : Nat → Nat → Int
  | _, 0 => -1
  | k, n + 1 => if V (k + 6) 6 = 1 then (k : Int) else uwG V (k + 1) n
def uwF (V : dp_V) : Int := uwG V 0 10
/-- how many of a state, from k on, n more -/
def cnG (V : dp_V) (s : Int) : Nat → Nat → Int
  | _, 0 => 0
  | k, n + 1 => (if V (k + 6) 6 = s then 1 else 0) + cnG V s (k + 1) n
def cnF (V : dp_V) (s : Int) : Int := cnG V s 0 10
def muG (V : dp_V) : Nat → Nat → Int
  | _, 0 => -100004
  | k, n + 1 => if V (k + 6) 6 = 1 then V (k + 6) 9 - V 0 0 else muG V (k + 1) n
/-- the time of a slew -/
def tmF (V : dp_V) (p el : Int) : Int := mx (wyM (V 3) p (V 1 0)) (wyM (V 4) el (V 1 0))
/-- why a target can not be begun -/
def rsF (V : dp_V) (t : Nat) : Int := if V (t + 6) 6 = 0 then (if uwF V = -1 then (if kdF V = 0 then 3 else if V 0 0 < V (t + 6) 2 then 4 else if wyP 4 (V 4) (V (t + 6) 1) (V 1 0) = 0 then 5 else if wyP 3 (V 3) (apF V (V (t + 6) 0)) (V 1 0) = 0 then 6 else if V (t + 6) 3 < V 0 0 + tmF V (apF V (V (t + 6) 0)) (V (t + 6) 1) + V (t + 6) 4 then 7 else 0) else 2) else 1
/-- the best one to begin -/
def bsG (V : dp_V) : Nat → Nat → Int → Int
  | _, 0, b => b
  | k, n + 1, b => bsG V (k + 1) n (if rsF V k = 0 then (if b = -1 then (k : Int) else if btF (V (k + 6)) (V (b.toNat + 6)) = 0 then b else (k : Int)) else b)
def bsF (V : dp_V) : Int := bsG V 0 10 (-1)
/-- a slew is looked at -/
def lkV (V : dp_V) (t : Nat) : dp_V := if V (t + 6) 13 = 0 then (if V 0 0 < V (t + 6) 8 then V else if kdF V = 1 then u2 (u2 V (t + 6) 13 1) 3 4 (if V 0 0 / 1440 % 2 = 0 then 0 else V 3 0) else u2 V (t + 6) 13 1) else V
/-- the one under way goes on -/
def goV (V : dp_V) (t : Nat) : dp_V := if lkV V t 0 0 < lkV V t (t + 6) 9 then lkV V t else u2 (u2 (lkV V t) (t + 6) 6 2) (t + 6) 10 (lkV V t 3 3 - lkV V t 3 4 - lkV V t (t + 6) 12)
def en1 : Nat → Nat → dp_V → dp_V
  | _, 0, V => V
  | k, n + 1, V => en1 (k + 1) n (if V (k + 6) 6 = 1 then goV V k else V)
def en2 : Nat → Nat → dp_V → dp_V
  | _, 0, V => V
  | k, n + 1, V => en2 (k + 1) n (if V (k + 6) 6 = 0 then (if V 0 0 < V (k + 6) 3 then V else u2 V (k + 6) 6 3) else V)
def enV (V : dp_V) : dp_V := en2 0 10 (en1 0 10 V)
/-- a target is begun -/
def b3V (V : dp_V) (t : Nat) : dp_V := u2 (u2 (u2 V (t + 6) 6 1) (t + 6) 12 (apF V (V (t + 6) 0))) (t + 6) 7 (V 0 0)
def b7V (V : dp_V) (t : Nat) : dp_V := u2 (u2 (u2 (slV (b3V V t) (apF V (V (t + 6) 0)) (V (t + 6) 1)) (t + 6) 8 (V 0 0 + tmF V (apF V (V (t + 6) 0)) (V (t + 6) 1))) (t + 6) 9 (V 0 0 + tmF V (apF V (V (t + 6) 0)) (V (t + 6) 1) + V (t + 6) 4)) (t + 6) 13 0
def beV (V : dp_V) (t : Nat) : dp_V := lkV (b7V V t) t
/-- a hold begins -/
def hoG : Nat → Nat → dp_V → dp_V
  | _, 0, V => V
  | k, n + 1, V => hoG (k + 1) n (if V (k + 6) 6 = 1 then u2 (u2 V (k + 6) 6 0) (k + 6) 11 (V (k + 6) 11 + 1) else V)
def hoV (V : dp_V) : dp_V := mvV (hoG 0 10 (u2 V 0 2 (V 0 2 + 1))) 4 9000
/-- the next minute at which something can happen -/
def soF (V : dp_V) (ev m : Int) : Int := if V 0 0 < m then (if m < ev then m else ev) else ev
def neG (V : dp_V) : Nat → Nat → Int → Int
  | _, 0, ev => ev
  | k, n + 1, ev => neG V (k + 1) n (if V (k + 6) 6 = 1 then soF V (soF V ev (V (k + 6) 8)) (V (k + 6) 9) else if V (k + 6) 6 = 0 then soF V (soF V ev (V (k + 6) 2)) (V (k + 6) 3) else ev)
def neF (V : dp_V) : Int := neG V 0 10 ((V 0 0 / 1440 + 1) * 1440)
/-- a minute that is done -/
def m2V (first mi : Int) (V : dp_V) : dp_V := if first < mi then (if mi % 1440 = 0 then (if kdF (u2 V 0 0 mi) = 0 then hoV (u2 V 0 0 mi) else u2 V 0 0 mi) else u2 V 0 0 mi) else u2 V 0 0 mi
def m4V (V : dp_V) : dp_V := if bsF (enV V) = -1 then enV V else beV (enV V) (bsF (enV V)).toNat
def mnV (first mi : Int) (V : dp_V) : dp_V := m4V (m2V first mi V)
/-- the minutes from mi on, n of them -/
def lpG (first : Int) : Nat → Int → dp_V → Int → dp_V
  | 0, _, V, _ => V
  | n + 1, mi, V, wk => if mi < wk then lpG first n (mi + 1) V wk else lpG first n (mi + 1) (mnV first mi V) (neF (mnV first mi V))
def lpV (V : dp_V) (k : Nat) : dp_V := u2 (lpG (V 0 0) (k + 1) (V 0 0) V (V 0 0)) 0 0 (V 0 0 + k)
/-! the ranges hold on -/
theorem apF_bd {V : dp_V} {z : Int} (hz : 0 ≤ z ∧ z ≤ 35999) : -36000 ≤ apF V z ∧ apF V z ≤ 36000 := by
  unfold apF
  split <;> omega
theorem tmF_bd {V : dp_V} {p el : Int} (hv : ivS V) (hp : -40000 ≤ p ∧ p ≤ 40000) (hq : -40000 ≤ el ∧ el ≤ 40000) : 0 ≤ tmF V p el ∧ tmF V p el ≤ 200000 := by
  have h1 := hv.2.1
  have a1 := wyM_bd hv.2.2.2.1 hp (show 0 ≤ V 1 0 ∧ V 1 0 ≤ 500 by omega)
  have a2 := wyM_bd hv.2.2.2.2 hq (show 0 ≤ V 1 0 ∧ V 1 0 ≤ 500 by omega)
  unfold tmF mx
  split <;> omega
theorem uwG_bd {V : dp_V} : ∀ {n k : Nat}, k + n ≤ 10 → -1 ≤ uwG V k n ∧ uwG V k n ≤ 9 := by
  intro n
  induction n with
  | zero =>
    intro k h
    exact ⟨by show (-1 : Int) ≤ -1; omega, by show (-1 : Int) ≤ 9; omega⟩
  | succ n ih =>
    intro k h
    unfold uwG
    split
    · omega
    · exact ih (by omega)
theorem uwF_bd {V : dp_V} : -1 ≤ uwF V ∧ uwF V ≤ 9 := uwG_bd (by omega)
theorem cnG_bd {V : dp_V} {s : Int} : ∀ {n k : Nat}, 0 ≤ cnG V s k n ∧ cnG V s k n ≤ n := by
  intro n
  induction n with
  | zero =>
    intro k
    exact ⟨Int.le_refl 0, Int.le_refl 0⟩
  | succ n ih =>
    intro k
    have := @ih (k + 1)
    unfold cnG
    split <;> omega
theorem cnF_bd {V : dp_V} {s : Int} : 0 ≤ cnF V s ∧ cnF V s ≤ 10 := cnG_bd
theorem ivT_13 {f : Nat → Int} {x : Int} (h : ivT f) (hx : 0 ≤ x ∧ x ≤ 1) : ivT (u1 f 13 x) := by
  unfold ivT at *
  simp (decide := true) only [u1, reduceIte]
  omega
theorem ivT_st {f : Nat → Int} {x : Int} (h : ivT f) (hx : x = 0 ∨ x = 2 ∨ x = 3) : ivT (u1 f 6 x) := by
  unfold ivT at *
  simp (decide := true) only [u1, reduceIte]
  omega
theorem ivT_10 {f : Nat → Int} {x : Int} (h : ivT f) : ivT (u1 f 10 x) := by
  unfold ivT at *
  simp (decide := true) only [u1, reduceIte]
  omega
theorem ivT_11 {f : Nat → Int} {x : Int} (h : ivT f) : ivT (u1 f 11 x) := by
  unfold ivT at *
  simp (decide := true) only [u1, reduceIte]
  omega
/-- one target of a region is another -/
theorem ivC_uT {V : dp_V} {t k : Nat} {x : Int} (h : ivC V) (h1 : u1 (V (t + 6)) k x 6 = 4 ∨ ivT (u1 (V (t + 6)) k x)) (h2 : u1 (V (t + 6)) k x 13 = 0 ∨ u1 (V (t + 6)) k x 13 = 1) : ivC (u2 V (t + 6) k x) := by
  refine ivC_mk (ivS_of h.1 (by rw [u2_ne (by omega)]) (u2_ne (by omega)) (u2_ne (by omega)) (u2_ne (by omega)) (u2_ne (by omega))) (fun t' ht' => ?_)
  by_cases e : t' = t
  · subst e
    rw [u2_same]
    exact ⟨h1, h2⟩
  · rw [u2_ne (by omega)]
    exact ⟨h.2.1 t' ht', h.2.2 t' ht'⟩
/-- the targets stay, the state of the dish changes within its ranges -/
theorem ivC_uS {V V' : dp_V} (h : ivC V) (hs : ivS V') (ht : ∀ t, t < 10 → V' (t + 6) = V (t + 6)) : ivC V' := ivC_mk hs (fun t q => by rw [ht t q]; exact ⟨h.2.1 t q, h.2.2 t q⟩)
theorem ivS_sl {V : dp_V} {x : Int} (h : ivS V) (hx : 0 ≤ x ∧ x ≤ V 3 0) : ivS (u2 V 3 4 x) := by
  unfold ivS at *
  rw [show u2 V 3 4 x 0 = V 0 from u2_ne (by decide), show u2 V 3 4 x 1 = V 1 from u2_ne (by decide), show u2 V 3 4 x 2 = V 2 from u2_ne (by decide), show u2 V 3 4 x 4 = V 4 from u2_ne (by decide), u2_same]
  refine ⟨h.1, h.2.1, h.2.2.1, ?_, h.2.2.2.2⟩
  have := h.2.2.2.1
  unfold ivA at *
  simp (decide := true) only [u1, reduceIte]
  omega
theorem lkV_0 {V : dp_V} {t : Nat} : lkV V t 0 = V 0 := by
  unfold lkV
  repeat' split
  all_goals first | rfl | (rw [u2_ne (by decide), u2_ne (by omega)]) | (rw [u2_ne (by omega)])
theorem lkV_iv {V : dp_V} {t : Nat} (h : ivC V) (ht : t < 10) (h1 : ivT (V (t + 6))) : ivC (lkV V t) ∧ ivT (lkV V t (t + 6)) := by
  have hA := h.1.2.2.2.1
  have hu : ivC (u2 V (t + 6) 13 1) := ivC_uT h (Or.inr (ivT_13 h1 (by omega))) (Or.inr (u1_same _ _ _))
  have hu1 : ivT (u2 V (t + 6) 13 1 (t + 6)) := by
    rw [u2_same]
    exact ivT_13 h1 (by omega)
  unfold lkV
  split
  · split
    · exact ⟨h, h1⟩
    · split
      · refine ⟨ivC_uS hu (ivS_sl hu.1 ?_) (fun t' _ => u2_ne (by omega)), by rw [u2_ne (by omega)]; exact hu1⟩
        rw [u2_ne (by omega)]
        unfold ivA at hA
        split <;> omega
      · exact ⟨hu, hu1⟩
  · exact ⟨h, h1⟩
theorem goV_iv {V : dp_V} {t : Nat} (h : ivC V) (ht : t < 10) (h1 : ivT (V (t + 6))) : ivC (goV V t) := by
  obtain ⟨a, b⟩ := lkV_iv h ht h1
  have hz := a.2.2 t ht
  unfold goV
  split
  · exact a
  · have b2 : ivT (u2 (lkV V t) (t + 6) 6 2 (t + 6)) := by
      rw [u2_same]
      exact ivT_st b (by omega)
    refine ivC_uT (ivC_uT a (Or.inr (ivT_st b (by omega))) (by rw [u1_ne (by decide)]; exact hz)) (Or.inr (ivT_10 b2)) ?_
    rw [u1_ne (by decide), u2_same, u1_ne (by decide)]
    exact hz
theorem goV_0 {V : dp_V} {t : Nat} : goV V t 0 = V 0 := by
  unfold goV
  split
  · exact lkV_0
  · rw [u2_ne (by omega), u2_ne (by omega), lkV_0]
theorem en1_iv : ∀ {n k : Nat} {V : dp_V}, k + n ≤ 10 → ivC V → ivC (en1 k n V) ∧ en1 k n V 0 = V 0 := by
  intro n
  induction n with
  | zero => intro k V hk h; exact ⟨h, rfl⟩
  | succ n ih =>
    intro k V hk h
    unfold en1
    split
    · next q =>
      have h1 : ivT (V (k + 6)) := by
        rcases h.2.1 k (by omega) with a | a
        · omega
        · exact a
      obtain ⟨a, b⟩ := ih (k := k + 1) (by omega) (goV_iv h (by omega) h1)
      exact ⟨a, b.trans goV_0⟩
    · exact ih (by omega) h
theorem en2_iv : ∀ {n k : Nat} {V : dp_V}, k + n ≤ 10 → ivC V → ivC (en2 k n V) ∧ en2 k n V 0 = V 0 := by
  intro n
  induction n with
  | zero => intro k V hk h; exact ⟨h, rfl⟩
  | succ n ih =>
    intro k V hk h
    unfold en2
    split
    · next q =>
      split
      · exact ih (by omega) h
      · have h1 : ivT (V (k + 6)) := by
          rcases h.2.1 k (by omega) with a | a
          · omega
          · exact a
        have hz := h.2.2 k (by omega)
        obtain ⟨a, b⟩ := ih (k := k + 1) (by omega) (ivC_uT (k := 6) (x := 3) h (Or.inr (ivT_st h1 (by omega))) (by rw [u1_ne (by decide)]; exact hz))
        exact ⟨a, b.trans (u2_ne (by omega))⟩
    · exact ih (by omega) h
theorem enV_iv {V : dp_V} (h : ivC V) : ivC (enV V) ∧ enV V 0 = V 0 := by
  obtain ⟨a, b⟩ := en1_iv (k := 0) (n := 10) (by omega) h
  obtain ⟨c, d⟩ := en2_iv (k := 0) (n := 10) (by omega) a
  exact ⟨c, d.trans b⟩
theorem rsF_0 {V : dp_V} {t : Nat} (h : rsF V t = 0) : V (t + 6) 6 = 0 ∧ uwF V = -1 ∧ ¬ kdF V = 0 ∧ V (t + 6) 2 ≤ V 0 0 ∧ ¬ wyP 4 (V 4) (V (t + 6) 1) (V 1 0) = 0 ∧ ¬ wyP 3 (V 3) (apF V (V (t + 6) 0)) (V 1 0) = 0 ∧ V 0 0 + tmF V (apF V (V (t + 6) 0)) (V (t + 6) 1) + V (t + 6) 4 ≤ V (t + 6) 3 := by
  unfold rsF at h
  repeat' split at h
  all_goals first | omega | (refine ⟨by assumption, by assumption, by assumption, by omega, by assumption, by assumption, by omega⟩)
theorem bsG_sp {V : dp_V} : ∀ {n k : Nat} {b : Int}, k + n ≤ 10 → (b = -1 ∨ (0 ≤ b ∧ b < 10 ∧ rsF V b.toNat = 0)) → (bsG V k n b = -1 ∨ (0 ≤ bsG V k n b ∧ bsG V k n b < 10 ∧ rsF V (bsG V k n b).toNat = 0)) := by
  intro n
  induction n with
  | zero => intro k b hk h; exact h
  | succ n ih =>
    intro k b hk h
    unfold bsG
    refine ih (by omega) ?_
    split
    · next q =>
      have hk2 : (0 : Int) ≤ (k : Int) ∧ (k : Int) < 10 ∧ rsF V ((k : Int)).toNat = 0 := ⟨by omega, by omega, by rw [Int.toNat_natCast]; exact q⟩
      split
      · exact Or.inr hk2
      · split
        · exact h
        · exact Or.inr hk2
    · exact h
theorem bsF_sp {V : dp_V} : bsF V = -1 ∨ (0 ≤ bsF V ∧ bsF V < 10 ∧ rsF V (bsF V).toNat = 0) := bsG_sp (by omega) (Or.inl rfl)
theorem slV_0 {V : dp_V} {z el : Int} : slV V z el 0 0 = V 0 0 := by
  unfold slV
  rw [u2_same, u1_ne (by decide), foV_ne (by decide), foV_ne (by decide)]
theorem slV_ne {V : dp_V} {z el : Int} {c : Nat} (h0 : c ≠ 0) (h3 : c ≠ 3) (h4 : c ≠ 4) : slV V z el c = V c := by
  unfold slV
  rw [u2_ne h0, foV_ne h4, foV_ne h3]
theorem foV_iv {V : dp_V} {c : Nat} {to : Int} (hi : ivA c (V c)) (h : ¬ wyP c (V c) to (V 1 0) = 0) : ivA c (foV V c to c) := by
  have hy := wyP_yes h
  exact mvV_iv (mvV_iv hi hy.1) hy.2
theorem slV_iv {V : dp_V} {z el : Int} (h : ivS V) (h3 : ¬ wyP 3 (V 3) z (V 1 0) = 0) (h4 : ¬ wyP 4 (V 4) el (V 1 0) = 0) : ivS (slV V z el) := by
  have e3 : slV V z el 3 = foV V 3 z 3 := by
    unfold slV
    rw [u2_ne (by decide), foV_ne (by decide)]
  have e4 : slV V z el 4 = foV (foV V 3 z) 4 el 4 := by
    unfold slV
    rw [u2_ne (by decide)]
  have i4 : ivA 4 (foV (foV V 3 z) 4 el 4) := by
    refine foV_iv ?_ ?_
    · rw [foV_ne (by decide)]
      exact h.2.2.2.2
    · rw [foV_ne (by decide), foV_ne (by decide)]
      exact h4
  have i3 := foV_iv h.2.2.2.1 h3
  unfold ivS at *
  rw [slV_0, slV_ne (by decide) (by decide) (by decide), slV_ne (by decide) (by decide) (by decide), e3, e4]
  exact ⟨h.1, h.2.1, h.2.2.1, i3, i4⟩
theorem b3V_ne {V : dp_V} {t c : Nat} (h : c ≠ t + 6) : b3V V t c = V c := by
  unfold b3V
  rw [u2_ne h, u2_ne h, u2_ne h]
theorem b7V_0 {V : dp_V} {t : Nat} : b7V V t 0 0 = V 0 0 := by
  unfold b7V
  rw [u2_ne (by omega), u2_ne (by omega), u2_ne (by omega), slV_0, b3V_ne (by omega)]
theorem b7V_iv {V : dp_V} {t : Nat} (h : ivC V) (ht : t < 10) (hr : rsF V t = 0) : ivC (b7V V t) ∧ ivT (b7V V t (t + 6)) := by
  obtain ⟨r1, r2, r3, r4, r5, r6, r7⟩ := rsF_0 hr
  have hT : ivT (V (t + 6)) := by
    rcases h.2.1 t ht with a | a
    · omega
    · exact a
  have hT' := hT
  unfold ivT at hT'
  have hb := @apF_bd V (V (t + 6) 0) (by omega)
  have htm := @tmF_bd V (apF V (V (t + 6) 0)) (V (t + 6) 1) h.1 (by omega) (by omega)
  have h0 := h.1.1
  have e3 : b3V V t 3 = V 3 := b3V_ne (by omega)
  have e4 : b3V V t 4 = V 4 := b3V_ne (by omega)
  have e1 : b3V V t 1 = V 1 := b3V_ne (by omega)
  have e0 : b3V V t 0 = V 0 := b3V_ne (by omega)
  have s3 : ivS (b3V V t) := ivS_of h.1 (by rw [e0]) e1 (b3V_ne (by omega)) e3 e4
  have s4 : ivS (slV (b3V V t) (apF V (V (t + 6) 0)) (V (t + 6) 1)) := slV_iv s3 (by rw [e3, e1]; exact r6) (by rw [e4, e1]; exact r5)
  have hne : ∀ c, c ≠ t + 6 → b7V V t c = slV (b3V V t) (apF V (V (t + 6) 0)) (V (t + 6) 1) c := fun c hc => by
    unfold b7V
    rw [u2_ne hc, u2_ne hc, u2_ne hc]
  have ef : b7V V t (t + 6) = u1 (u1 (u1 (u1 (u1 (u1 (V (t + 6)) 6 1) 12 (apF V (V (t + 6) 0))) 7 (V 0 0)) 8 (V 0 0 + tmF V (apF V (V (t + 6) 0)) (V (t + 6) 1))) 9 (V 0 0 + tmF V (apF V (V (t + 6) 0)) (V (t + 6) 1) + V (t + 6) 4)) 13 0 := by
    unfold b7V
    rw [u2_same, u2_same, u2_same, slV_ne (by omega) (by omega) (by omega)]
    unfold b3V
    rw [u2_same, u2_same, u2_same]
  have iT : ivT (b7V V t (t + 6)) := by
    rw [ef]
    unfold ivT
    simp (decide := true) only [u1, reduceIte]
    refine ⟨?_, ?_, ?_, ?_, ?_, ?_, ?_, ?_, ?_, ?_, ?_, ?_, ?_, fun _ => ⟨?_, ?_, ?_, ?_, ?_, ?_, ?_⟩⟩ <;> first | trivial | omega
  refine ⟨ivC_mk (ivS_of s4 (by rw [hne 0 (by omega)]) (hne 1 (by omega)) (hne 2 (by omega)) (hne 3 (by omega)) (hne 4 (by omega))) (fun t' ht' => ?_), iT⟩
  by_cases e : t' = t
  · subst e
    exact ⟨Or.inr iT, Or.inl (by rw [ef, u1_same])⟩
  · rw [hne (t' + 6) (by omega), slV_ne (by omega) (by omega) (by omega), b3V_ne (by omega)]
    exact ⟨h.2.1 t' ht', h.2.2 t' ht'⟩
theorem beV_iv {V : dp_V} {t : Nat} (h : ivC V) (ht : t < 10) (hr : rsF V t = 0) : ivC (beV V t) ∧ beV V t 0 0 = V 0 0 := by
  obtain ⟨a, b⟩ := b7V_iv h ht hr
  refine ⟨(lkV_iv a ht b).1, ?_⟩
  unfold beV
  rw [lkV_0, b7V_0]
theorem hoG_iv : ∀ {n k : Nat} {V : dp_V}, k + n ≤ 10 → ivC V → ivC (hoG k n V) ∧ ∀ c, c < 6 → hoG k n V c = V c := by
  intro n
  induction n with
  | zero => intro k V hk h; exact ⟨h, fun _ _ => rfl⟩
  | succ n ih =>
    intro k V hk h
    unfold hoG
    split
    · next q =>
      have h1 : ivT (V (k + 6)) := by
        rcases h.2.1 k (by omega) with a | a
        · omega
        · exact a
      have hz := h.2.2 k (by omega)
      have h2 : ivC (u2 V (k + 6) 6 0) := ivC_uT h (Or.inr (ivT_st h1 (by omega))) (by rw [u1_ne (by decide)]; exact hz)
      have h3 : ivT (u2 V (k + 6) 6 0 (k + 6)) := by
        rw [u2_same]
        exact ivT_st h1 (by omega)
      obtain ⟨a, b⟩ := ih (k := k + 1) (by omega) (ivC_uT (k := 11) (x := V (k + 6) 11 + 1) h2 (Or.inr (ivT_11 h3)) (by rw [u1_ne (by decide), u2_same, u1_ne (by decide)]; exact hz))
      exact ⟨a, fun c hc => by rw [b c hc, u2_ne (by omega), u2_ne (by omega)]⟩
    · exact ih (by omega) h
theorem ivC_02 {V : dp_V} {k : Nat} {x : Int} (h : ivC V) (hk : 1 ≤ k) : ivC (u2 V 0 k x) := ivC_uS h (ivS_of h.1 (by rw [u2_same, u1_ne (by omega)]) (u2_ne (by decide)) (u2_ne (by decide)) (u2_ne (by decide)) (u2_ne (by decide))) (fun t _ => u2_ne (by omega))
theorem hoV_iv {V : dp_V} (h : ivC V) : ivC (hoV V) ∧ hoV V 0 0 = V 0 0 := by
  obtain ⟨a, b⟩ := hoG_iv (k := 0) (n := 10) (by omega) (ivC_02 (k := 2) (x := V 0 2 + 1) h (by omega))
  unfold hoV
  have hne : ∀ c, c ≠ 4 → mvV (hoG 0 10 (u2 V 0 2 (V 0 2 + 1))) 4 9000 c = hoG 0 10 (u2 V 0 2 (V 0 2 + 1)) c := fun c hc => mvV_ne hc
  refine ⟨ivC_uS a ?_ (fun t _ => hne _ (by omega)), by rw [hne 0 (by decide), b 0 (by decide), u2_same, u1_ne (by decide)]⟩
  have i4 := mvV_iv (p := 9000) a.1.2.2.2.2 (by unfold axL axH; decide)
  have hs := a.1
  unfold ivS at hs ⊢
  rw [hne 0 (by decide), hne 1 (by decide), hne 2 (by decide), hne 3 (by decide)]
  exact ⟨hs.1, hs.2.1, hs.2.2.1, hs.2.2.2.1, i4⟩
theorem ivC_00 {V : dp_V} {x : Int} (h : ivC V) (hx : 0 ≤ x ∧ x ≤ 43200) : ivC (u2 V 0 0 x) := by
  refine ivC_uS h ?_ (fun t _ => u2_ne (by omega))
  have hs := h.1
  unfold ivS at hs ⊢
  rw [u2_same, u1_same, u2_ne (by decide), u2_ne (by decide), u2_ne (by decide), u2_ne (by decide)]
  exact ⟨hx, hs.2⟩
theorem m2V_iv {V : dp_V} {first mi : Int} (h : ivC V) (hx : 0 ≤ mi ∧ mi ≤ 43200) : ivC (m2V first mi V) ∧ m2V first mi V 0 0 = mi := by
  have a := ivC_00 h hx
  have b := hoV_iv a
  have e : u2 V 0 0 mi 0 0 = mi := by rw [u2_same, u1_same]
  unfold m2V
  repeat' split
  all_goals first | exact ⟨a, e⟩ | exact ⟨b.1, b.2.trans e⟩
theorem m4V_iv {V : dp_V} (h : ivC V) : ivC (m4V V) ∧ m4V V 0 0 = V 0 0 := by
  obtain ⟨a, b⟩ := enV_iv h
  unfold m4V
  split
  · exact ⟨a, by rw [b]⟩
  · next q =>
    rcases @bsF_sp (enV V) with z | ⟨z1, z2, z3⟩
    · exact absurd z q
    · obtain ⟨c, d⟩ := beV_iv a (by omega) z3
      exact ⟨c, d.trans (by rw [b])⟩
theorem mnV_iv {V : dp_V} {first mi : Int} (h : ivC V) (hx : 0 ≤ mi ∧ mi ≤ 43200) : ivC (mnV first mi V) ∧ mnV first mi V 0 0 = mi := by
  obtain ⟨a, b⟩ := m2V_iv (first := first) h hx
  obtain ⟨c, d⟩ := m4V_iv a
  exact ⟨c, d.trans b⟩
theorem soF_bd {V : dp_V} {ev m : Int} (h1 : 0 ≤ ev ∧ ev ≤ 50000) (h2 : 0 ≤ V 0 0) : 0 ≤ soF V ev m ∧ soF V ev m ≤ 50000 := by
  unfold soF
  repeat' split
  all_goals omega
theorem neG_bd {V : dp_V} (h : 0 ≤ V 0 0) : ∀ {n k : Nat} {ev : Int}, (0 ≤ ev ∧ ev ≤ 50000) → 0 ≤ neG V k n ev ∧ neG V k n ev ≤ 50000 := by
  intro n
  induction n with
  | zero => intro k ev he; exact he
  | succ n ih =>
    intro k ev he
    unfold neG
    refine ih ?_
    repeat' split
    · exact soF_bd (soF_bd he h) h
    · exact soF_bd (soF_bd he h) h
    · exact he
theorem neF_bd {V : dp_V} (h : 0 ≤ V 0 0 ∧ V 0 0 ≤ 43200) : 0 ≤ neF V ∧ neF V ≤ 50000 := neG_bd h.1 (by omega)
theorem rsF_bd {V : dp_V} {t : Nat} : 0 ≤ rsF V t ∧ rsF V t ≤ 7 := by
  unfold rsF
  repeat' split
  all_goals omega
theorem btF_bd {f g : Nat → Int} : 0 ≤ btF f g ∧ btF f g ≤ 1 := by
  unfold btF
  split
  · exact dp_b_bd
  · exact dp_b_bd
theorem dp_ind {P : Nat → Prop} (h : ∀ n, (∀ m, m < n → P m) → P n) : ∀ n, P n := fun n => Nat.strongRecOn n h
