/-! WHAT THE METHODS ANSWER, over a region's numbers. An axis: 0 play, 1 side, 2 speed, 3 motor, 4 slack, 5 up, 6 down. Cells of a region: 0 time slews holds (targets); 1 settings; 2 gusts; 3, 4 the axes; t + 6 target t. -/
def ab (x : Int) : Int := if x < 0 then -x else x
def mx (x y : Int) : Int := if x < y then y else x
def mn (x y : Int) : Int := if y < x then y else x
/-- a row of cell c put in place of another -/
def uc (V : dp_V) (c : Nat) (f : Nat → Int) : dp_V := fun c' => if c' = c then f else V c'
theorem uc_same (V : dp_V) (c : Nat) (f : Nat → Int) : uc V c f c = f := by simp [uc]
theorem uc_ne {V : dp_V} {c c' : Nat} {f : Nat → Int} (h : c' ≠ c) : uc V c f c' = V c' := by simp [uc, h]
theorem u2_uc (V : dp_V) (c k : Nat) (x : Int) : u2 V c k x = uc V c (u1 (V c) k x) := rfl
theorem uc_uc (V : dp_V) (c : Nat) (f g : Nat → Int) : uc (uc V c f) c g = uc V c g := by
  funext c'
  unfold uc
  split <;> rfl
/-- a way from the axis f to the place to: does it turn (wyT), its end, where it turns or the motor, its length, its time, is it possible -/
def wyT (f : Nat → Int) (to : Int) : Int := if f 1 = 1 then (if f 3 - f 4 < to then 0 else if f 3 - f 4 = to then (if f 4 = f 0 then 0 else 1) else 1) else if f 1 = 2 then (if to < f 3 - f 4 then 0 else if f 3 - f 4 = to then (if f 4 = 0 then 0 else 1) else 1) else 0
def wyE (f : Nat → Int) (to : Int) : Int := if f 1 = 1 then (if f 3 - f 4 = to then (if f 4 = f 0 then f 3 else to + f 0) else to + f 0) else if f 1 = 2 then (if f 3 - f 4 = to then (if f 4 = 0 then f 3 else to) else to) else (if f 3 - f 4 = to then f 3 else if f 3 - f 4 < to then to + f 0 else to)
def wyU (f : Nat → Int) (to ov : Int) : Int := if wyT f to = 0 then f 3 else if f 1 = 1 then to - ov else to + f 0 + ov
def wyL (f : Nat → Int) (to ov : Int) : Int := ab (wyU f to ov - f 3) + ab (wyE f to - wyU f to ov)
def wyM (f : Nat → Int) (to ov : Int) : Int := (wyL f to ov + f 2 - 1) / f 2
def wyP (c : Nat) (f : Nat → Int) (to ov : Int) : Int := dp_b ((axL c ≤ wyU f to ov ∧ wyU f to ov ≤ axH c) ∧ axL c ≤ wyE f to ∧ wyE f to ≤ axH c)
/-- what a way's cell holds, planned -/
def wyOK (c : Nat) (f : Nat → Int) (to ov : Int) (g : Nat → Int) : Prop := g 0 = to ∧ g 1 = wyU f to ov ∧ g 2 = wyE f to ∧ g 3 = wyL f to ov ∧ g 4 = wyM f to ov ∧ g 5 = wyT f to ∧ g 6 = wyP c f to ov
/-- an axis within its ranges -/
def ivA (c : Nat) (f : Nat → Int) : Prop := 0 ≤ f 0 ∧ f 0 ≤ 300 ∧ 0 ≤ f 1 ∧ f 1 ≤ 2 ∧ 1 ≤ f 2 ∧ f 2 ≤ 2000 ∧ axL c ≤ f 3 ∧ f 3 ≤ axH c ∧ 0 ≤ f 4 ∧ f 4 ≤ f 0
theorem ax_bd {c : Nat} : -27000 ≤ axL c ∧ axL c ≤ 500 ∧ 9000 ≤ axH c ∧ axH c ≤ 27000 ∧ 0 ≤ axS c ∧ axS c ≤ 9000 := by
  unfold axL axH axS
  split <;> omega
/-- what tell says of an axis -/
def axT (c : Nat) (f : Nat → Int) (k : Int) : Int := if k = 0 then f 0 else if k = 1 then f 1 else if k = 2 then f 2 else if k = 3 then f 3 else if k = 4 then f 4 else if k = 5 then f 3 - f 4 else if k = 6 then f 5 else if k = 7 then f 6 else if k = 8 then axS c + f 5 - f 6 else -100001
/-- the motor of the axis c goes to p -/
def mvV (V : dp_V) (c : Nat) (p : Int) : dp_V := if p - V c 3 < 0 then u2 (u2 (u2 V c 3 p) c 6 (V c 6 - (p - V c 3))) c 4 (mx (V c 4 + (p - V c 3)) 0) else u2 (u2 (u2 V c 3 p) c 5 (V c 5 + (p - V c 3))) c 4 (mn (V c 4 + (p - V c 3)) (V c 0))
/-- a play, a side or a speed is set -/
def chV (V : dp_V) (c : Nat) (k x : Int) : dp_V := if k = 0 then u2 (u2 V c 0 x) c 4 (mn (V c 4) x) else if k = 1 then u2 V c 1 x else if k = 2 then u2 V c 2 x else V
theorem u2_ap (V : dp_V) (c k : Nat) (x : Int) (c' k' : Nat) : u2 V c k x c' k' = if c' = c then (if k' = k then x else V c' k') else V c' k' := by
  unfold u2 u1
  by_cases h : c' = c
  · subst h
    simp
  · simp [h]
theorem dp_fb {P : Prop} {_ : Decidable P} : fits .boolean (.int (dp_I (dp_b P))) = true := by
  unfold dp_b
  by_cases h : P
  · rw [if_pos h]; decide
  · rw [if_neg h]; decide
theorem wyU_bd {c : Nat} {f : Nat → Int} {to ov : Int} (hi : ivA c f) (h1 : -40000 ≤ to ∧ to ≤ 40000) (h2 : 0 ≤ ov ∧ ov ≤ 500) : -41000 ≤ wyU f to ov ∧ wyU f to ov ≤ 41000 := by
  have hb := @ax_bd c
  unfold ivA at hi
  unfold wyU
  repeat' split
  all_goals omega
theorem wyE_bd {c : Nat} {f : Nat → Int} {to : Int} (hi : ivA c f) (h1 : -40000 ≤ to ∧ to ≤ 40000) : -41000 ≤ wyE f to ∧ wyE f to ≤ 41000 := by
  have hb := @ax_bd c
  unfold ivA at hi
  unfold wyE
  repeat' split
  all_goals omega
theorem wyL_bd {c : Nat} {f : Nat → Int} {to ov : Int} (hi : ivA c f) (h1 : -40000 ≤ to ∧ to ≤ 40000) (h2 : 0 ≤ ov ∧ ov ≤ 500) : 0 ≤ wyL f to ov ∧ wyL f to ov ≤ 200000 := by
  have hb := @ax_bd c
  have a1 := wyU_bd hi h1 h2
  have a2 := wyE_bd hi h1
  unfold ivA at hi
  unfold wyL ab
  repeat' split
  all_goals omega
theorem wyT_b {f : Nat → Int} {to : Int} : wyT f to = 0 ∨ wyT f to = 1 := by
  unfold wyT
  repeat' split
  all_goals first | exact Or.inl rfl | exact Or.inr rfl
