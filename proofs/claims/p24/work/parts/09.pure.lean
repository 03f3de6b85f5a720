/-! WHAT THE METHODS ANSWER, over a region's numbers. An axis: 0 play, 1 side, 2 speed, 3 motor, 4 slack, 5 up, 6 down. Cells of a region: 0 time slews holds (targets); 1 settings; 2 gusts; 3, 4 the axes; t + 6 target t. -/
def ab (x : Int) : Int := if x < 0 then -x else x
def mx (x y : Int) : Int := if x < y then y else x
def mn (x y : Int) : Int := if y < x then y else x
/-- a row of cell c put in place of another -/
def uc (V : dp_V) (c : Nat) (f : Nat → Int) : dp_V := fun c' => if c' = c then f else V c'
theorem uc_same (V : dp_V) (c : Nat) (f : Nat → Int) : uc V c f c = f := by simp [uc]
theorem uc_ne {V : dp_V} {c c' : Nat} {f : Nat → Int} (h : c' ≠ c) : uc V c f c' = V c' := by simp [uc, h]
theorem u2_uc (V : dp_V) (c k : Nat) (x : Int) : u2 V c k x = uc V c (u1 (V c) k x) := rfl
theorem uc_uc (V : dp_V) (c : Nat) (f g : Nat → Int) : uc (uc V c f) c g = uc V c g := by
  funext c'
  unfold uc
  split <;> rfl
/-- a way from the axis f to the place to: does it turn (wyT), its end, where it turns or the motor, its length, its time, is it possible -/
def wyT (f : Nat → Int) (to : Int) : Int := if f 1 = 1 then (if f 3 - f 4 < to then 0 else if f 3 - f 4 = to then (if f 4 = f 0 then 0 else 1) else 1) else if f 1 = 2 then (if to < f 3 - f 4 then 0 else if f 3 - f 4 = to then (if f 4 = 0 then 0 else 1) else 1) else 0
def wyE (f : Nat → Int) (to : Int) : Int := if f 1 = 1 then (if f 3 - f 4 = to then (if f 4 = f 0 then f 3 else to + f 0) else to + f 0) else if f 1 = 2 then (if f 3 - f 4 = to then (if f 4 = 0 then f 3 else to) else to) else (if f 3 - f 4 = to then f 3 else if f 3 - f 4 < to then to + f 0 else to)
def wyU (f : Nat → Int) (to ov : Int) : Int := if wyT f to = 0 then f 3 else if f 1 = 1 then to - ov else to + f 0 + ov
def wyL (f : Nat → Int) (to ov : Int) : Int := ab (wyU f to ov - f 3) + ab (wyE f to - wyU f to ov)
def wyM (f : Nat → Int) (to ov : Int) : Int := (wyL f to ov + f 2 - 1) / f 2
def wyP (c : Nat) (f : Nat → Int) (to ov : Int) : Int := dp_b ((axL c ≤ wyU f to ov ∧ wyU f to ov ≤ axH c) ∧ axL c ≤ wyE f to ∧ wyE f to ≤ axH c)
/-- what a way's cell holds, planned -/
def wyOK (c : Nat) (f : Nat → Int) (to ov : Int) (g : Nat → Int) : Prop := g 0 = to ∧ g 1 = wyU f to ov ∧ g 2 = wyE f to ∧ g 3 = wyL f to ov ∧ g 4 = wyM f to ov ∧ g 5 = wyT f to ∧ g 6 = wyP c f to ov
/-- an axis within its ranges -/
def ivA (c : Nat) (f : Nat → Int) : Prop := 0 ≤ f 0 ∧ f 0 ≤ 300 ∧ 0 ≤ f 1 ∧ f 1 ≤ 2 ∧ 1 ≤ f 2 ∧ f 2 ≤ 2000 ∧ axL c ≤ f 3 ∧ f 3 ≤ axH c ∧ 0 ≤ f 4 ∧ f 4 ≤ f 0
theorem ax_bd {c : Nat} : -27000 ≤ axL c ∧ axL c ≤ 500 ∧ 9000 ≤ axH c ∧ axH c ≤ 27000 ∧ 0 ≤ axS c ∧ axS c ≤ 9000 := by
  unfold axL axH axS
  split <;> omega
/-- what tell says of an axis -/
def axT (c : Nat) (f : Nat → Int) (k : Int) : Int := if k = 0 then f 0 else if k = 1 then f 1 else if k = 2 then f 2 else if k = 3 then f 3 else if k = 4 then f 4 else if k = 5 then f 3 - f 4 else if k = 6 then f 5 else if k = 7 then f 6 else if k = 8 then axS c + f 5 - f 6 else -100001
/-- the motor of the axis c goes to p -/
def mvV (V : dp_V) (c : Nat) (p : Int) : dp_V := if p - V c 3 < 0 then u2 (u2 (u2 V c 3 p) c 6 (V c 6 - (p - V c 3))) c 4 (mx (V c 4 + (p - V c 3)) 0) else u2 (u2 (u2 V c 3 p) c 5 (V c 5 + (p - V c 3))) c 4 (mn (V c 4 + (p - V c 3)) (V c 0))
/-- a play, a side or a speed is set -/
def chV (V : dp_V) (c : Nat) (k x : Int) : dp_V := if k = 0 then u2 (u2 V c 0 x) c 4 (mn (V c 4) x) else if k = 1 then u2 V c 1 x else if k = 2 then u2 V c 2 x else V
theorem u2_ap (V : dp_V) (c k : Nat) (x : Int) (c' k' : Nat) : u2 V c k x c' k' = if c' = c then (if k' = k then x else V c' k') else V c' k' := by
  unfold u2 u1
  by_cases h : c' = c
  · subst h
    simp
  · simp [h]
theorem dp_fb {P : Prop} {_ : Decidable P} : fits .boolean (.int (dp_I (dp_b P))) = true := by
  unfold dp_b
  by_cases h : P
  · rw [if_pos h]; decide
  · rw [if_neg h]; decide
theorem wyU_bd {c : Nat} {f : Nat → Int} {to ov : Int} (hi : ivA c f) (h1 : -40000 ≤ to ∧ to ≤ 40000) (h2 : 0 ≤ ov ∧ ov ≤ 500) : -41000 ≤ wyU f to ov ∧ wyU f to ov ≤ 41000 := by
  have hb := @ax_bd c
  unfold ivA at hi
  unfold wyU
  repeat' split
  all_goals omega
theorem wyE_bd {c : Nat} {f : Nat → Int} {to : Int} (hi : ivA c f) (h1 : -40000 ≤ to ∧ to ≤ 40000) : -41000 ≤ wyE f to ∧ wyE f to ≤ 41000 := by
  have hb := @ax_bd c
  unfold ivA at hi
  unfold wyE
  repeat' split
  all_goals omega
theorem wyL_bd {c : Nat} {f : Nat → Int} {to ov : Int} (hi : ivA c f) (h1 : -40000 ≤ to ∧ to ≤ 40000) (h2 : 0 ≤ ov ∧ ov ≤ 500) : 0 ≤ wyL f to ov ∧ wyL f to ov ≤ 200000 := by
  have hb := @ax_bd c
  have a1 := wyU_bd hi h1 h2
  have a2 := wyE_bd hi h1
  unfold ivA at hi
  unfold wyL ab
  repeat' split
  all_goals omega
theorem wyT_b {f : Nat → Int} {to : Int} : wyT f to = 0 ∨ wyT f to = 1 := by
  unfold wyT
  repeat' split
  all_goals first | exact Or.inl rfl | exact Or.inr rfl
/-- a state of the class within its ranges, its targets apart -/
def ivS (V : dp_V) : Prop := (0 ≤ V 0 0 ∧ V 0 0 ≤ 43200) ∧ (0 ≤ V 1 0 ∧ V 1 0 ≤ 500 ∧ 0 ≤ V 1 1 ∧ V 1 1 ≤ 27000 ∧ 0 ≤ V 1 2 ∧ V 1 2 ≤ 100 ∧ 0 ≤ V 1 3 ∧ V 1 3 ≤ 100) ∧ (∀ d, d < 31 → 0 ≤ V 2 d ∧ V 2 d ≤ 99) ∧ ivA 3 (V 3) ∧ ivA 4 (V 4)
/-- a target (0 azimuth, 1 elevation, 2 from, 3 to, 4 dwell, 5 priority, 6 state, 7 begun, 8 slewed, 9 done, 10 error, 11 breaks, 12 place, 13 looked at) within its ranges -/
def ivT (f : Nat → Int) : Prop := 0 ≤ f 0 ∧ f 0 ≤ 35999 ∧ 500 ≤ f 1 ∧ f 1 ≤ 8500 ∧ 0 ≤ f 2 ∧ f 2 < f 3 ∧ f 3 ≤ 43200 ∧ 1 ≤ f 4 ∧ f 4 ≤ 600 ∧ 0 ≤ f 5 ∧ f 5 ≤ 9 ∧ 0 ≤ f 6 ∧ f 6 ≤ 3 ∧ (f 6 = 1 → 0 ≤ f 7 ∧ f 7 ≤ f 8 ∧ f 8 ≤ f 9 ∧ f 9 ≤ 43200 ∧ -36000 ≤ f 12 ∧ f 12 ≤ 36000 ∧ 0 ≤ f 13 ∧ f 13 ≤ 1)
def ivC (V : dp_V) : Prop := ivS V ∧ (∀ t, t < 10 → V (t + 6) 6 = 4 ∨ ivT (V (t + 6))) ∧ ∀ t, t < 10 → V (t + 6) 13 = 0 ∨ V (t + 6) 13 = 1
theorem ivC.st {V : dp_V} (h : ivC V) {t : Nat} (ht : t < 10) : 0 ≤ V (t + 6) 6 ∧ V (t + 6) 6 ≤ 4 := by
  rcases h.2.1 t ht with q | q
  · omega
  · unfold ivT at q
    omega
/-- what a target tells -/
def ibF (s v : Int) : Int := if s = 1 then v else if s = 2 then v else -100004
def tgT (f : Nat → Int) (k : Int) : Int := if k = 0 then f 0 else if k = 1 then f 1 else if k = 2 then f 2 else if k = 3 then f 3 else if k = 4 then f 4 else if k = 5 then f 5 else if k = 6 then f 6 else if k = 7 then ibF (f 6) (f 7) else if k = 8 then ibF (f 6) (f 8) else if k = 9 then ibF (f 6) (f 9) else if k = 10 then (if f 6 = 2 then f 10 else -100004) else if k = 11 then f 11 else if k = 12 then ibF (f 6) (f 12) else -100001
def btF (f g : Nat → Int) : Int := if f 5 = g 5 then dp_b (f 3 < g 3) else dp_b (g 5 < f 5)
/-- what a way tells -/
def wyS (g : Nat → Int) (k : Int) : Int := if g 6 = 0 then -100004 else if k = 0 then g 2 else if k = 1 then g 3 else if k = 2 then g 4 else if g 5 = 0 then -100004 else g 1
/-- gust and kind of the day -/
def guF (V : dp_V) : Int := V 2 (V 0 0 / 1440).toNat
def kdF (V : dp_V) : Int := if guF V < V 1 3 then (if guF V < V 1 2 then 2 else 1) else 0
def stT (V : dp_V) (k : Int) : Int := if k = 0 then V 0 0 else if k = 1 then V 0 0 / 1440 else if k = 2 then guF V else if k = 3 then kdF V else if k = 12 then V 1 0 else if k = 13 then V 1 1 else if k = 14 then V 1 2 else if k = 15 then V 1 3 else if k = 16 then V 0 1 else if k = 17 then V 0 2 else if k = 18 then (V 3 3 - V 3 4) % 36000 else -100001
theorem guF_bd {V : dp_V} (h : ivS V) : 0 ≤ guF V ∧ guF V ≤ 99 := h.2.2.1 _ (by have := h.1; omega)
/-- which of the two ways around is taken: 1 the lower -/
def ltF (V : dp_V) (z : Int) : Int := if dp_b (ab (z - 36000) ≤ V 1 1) = dp_b (ab z ≤ V 1 1) then (if wyL (V 3) (z - 36000) (V 1 0) = wyL (V 3) z (V 1 0) then dp_b (ab (z - 36000) ≤ ab z) else dp_b (wyL (V 3) (z - 36000) (V 1 0) < wyL (V 3) z (V 1 0))) else dp_b (ab (z - 36000) ≤ V 1 1)
def arW (V : dp_V) (z : Int) : Int := if wyP 3 (V 3) (z - 36000) (V 1 0) = 0 then 0 else if wyP 3 (V 3) z (V 1 0) = 0 then 1 else ltF V z
def apF (V : dp_V) (z : Int) : Int := if arW V z = 0 then z else z - 36000
/-- the motor led along a way; both, and counted -/
def foV (V : dp_V) (c : Nat) (to : Int) : dp_V := mvV (mvV V c (wyU (V c) to (V 1 0))) c (wyE (V c) to)
def slV (V : dp_V) (p el : Int) : dp_V := u2 (foV (foV V 3 p) 4 el) 0 1 (foV (foV V 3 p) 4 el 0 1 + 1)
theorem mvV_ne {V : dp_V} {c c' : Nat} {p : Int} (h : c' ≠ c) : mvV V c p c' = V c' := by
  unfold mvV
  split <;> simp [u2, h]
theorem foV_ne {V : dp_V} {c c' : Nat} {p : Int} (h : c' ≠ c) : foV V c p c' = V c' := by
  unfold foV
  rw [mvV_ne h, mvV_ne h]
theorem mvV_iv {V : dp_V} {c : Nat} {p : Int} (hi : ivA c (V c)) (h : axL c ≤ p ∧ p ≤ axH c) : ivA c (mvV V c p c) := by
  unfold ivA at hi
  unfold mvV ivA mx mn
  split
  · simp (decide := true) only [u2_ap, reduceIte]
    split <;> omega
  · simp (decide := true) only [u2_ap, reduceIte]
    split <;> omega
theorem dp_b01 {P : Prop} {_ : Decidable P} : dp_b P = 0 ∨ dp_b P = 1 := by
  unfold dp_b
  by_cases h : P
  · rw [if_pos h]; exact Or.inr rfl
  · rw [if_neg h]; exact Or.inl rfl
theorem dp_b_bd {P : Prop} {_ : Decidable P} : 0 ≤ dp_b P ∧ dp_b P ≤ 1 := by
  rcases @dp_b01 P _ with h | h <;> omega
theorem dp_b_t {P : Prop} {_ : Decidable P} (h : P) : dp_b P = 1 := if_pos h
theorem dp_b_f {P : Prop} {_ : Decidable P} (h : ¬ P) : dp_b P = 0 := if_neg h
theorem wyP_yes {c : Nat} {f : Nat → Int} {to ov : Int} (h : ¬ wyP c f to ov = 0) : (axL c ≤ wyU f to ov ∧ wyU f to ov ≤ axH c) ∧ axL c ≤ wyE f to ∧ wyE f to ≤ axH c := by
  unfold wyP dp_b at h
  split at h
  · assumption
  · exact absurd rfl h
theorem ltF_b {V : dp_V} {z : Int} : ltF V z = 0 ∨ ltF V z = 1 := by
  unfold ltF
  repeat' split
  all_goals exact dp_b01
theorem arW_b {V : dp_V} {z : Int} : arW V z = 0 ∨ arW V z = 1 := by
  unfold arW
  repeat' split
  · exact Or.inl rfl
  · exact Or.inr rfl
  · exact ltF_b
theorem wyM_bd {c : Nat} {f : Nat → Int} {to ov : Int} (hi : ivA c f) (h1 : -40000 ≤ to ∧ to ≤ 40000) (h2 : 0 ≤ ov ∧ ov ≤ 500) : 0 ≤ wyM f to ov ∧ wyM f to ov ≤ 200000 := by
  have a1 := wyL_bd hi h1 h2
  unfold ivA at hi
  have hs : 0 < f 2 := by omega
  unfold wyM
  refine ⟨Int.ediv_nonneg (by omega) (by omega), ?_⟩
  refine Int.le_of_lt_add_one (Int.ediv_lt_of_lt_mul hs ?_)
  have h3 : f 2 * 200001 ≥ f 2 + 200000 := by omega
  rw [Int.mul_comm]
  omega
theorem wyP_bd {c : Nat} {f : Nat → Int} {to ov : Int} : 0 ≤ wyP c f to ov ∧ wyP c f to ov ≤ 1 := dp_b_bd
