theorem dp_bc {P Q : Prop} {_ : Decidable P} {_ : Decidable Q} (h : P ↔ Q) : dp_b P = dp_b Q := by
  unfold dp_b
  by_cases p : P
  · rw [if_pos p, if_pos (h.1 p)]
  · rw [if_neg p, if_neg (fun q => p (h.2 q))]
theorem axC_n {b : Nat} (h : b < 2) : axC (b : Int) = b + 3 := by
  unfold axC
  split <;> omega
theorem axT_lo {c j : Nat} {f : Nat → Int} (h : j < 5) : axT c f (j : Int) = f j := by
  rcases (by omega : j = 0 ∨ j = 1 ∨ j = 2 ∨ j = 3 ∨ j = 4) with q | q | q | q | q <;> subst q <;> rfl
theorem axT_hi {c j : Nat} {f : Nat → Int} (h : 5 < j ∧ j < 8) : axT c f (j : Int) = f (j - 1) := by
  rcases (by omega : j = 6 ∨ j = 7) with q | q <;> subst q <;> rfl
theorem axT_5 {c : Nat} {f : Nat → Int} {x : Int} (h : x = 5) : axT c f x = f 3 - f 4 := by subst h; rfl
theorem axT_8 {b : Nat} {f : Nat → Int} {x : Int} (h : x = 8) : axT (b + 3) f x = axS (b + 3) + f 5 - f 6 := by subst h; rfl
theorem axT_no {c : Nat} {f : Nat → Int} {x : Int} (h : x < 0 ∨ 8 < x) : axT c f x = -100001 := by
  unfold axT
  repeat (first | rw [if_neg (by omega)] | rw [if_pos (by omega)])
theorem pfF_ne {V : dp_V} {z : Int} (h : ¬ pfF V z = -100004) : pfF V z = apF V z ∧ ¬ wyP 3 (V 3) (apF V z) (V 1 0) = 0 := by
  unfold pfF at h ⊢
  split at h
  · exact absurd rfl h
  · rename_i q
    rw [if_neg q]
    exact ⟨rfl, q⟩
theorem pfF_eq {V : dp_V} {z : Int} (hz : 0 ≤ z ∧ z ≤ 35999) (h : pfF V z = -100004) : wyP 3 (V 3) (apF V z) (V 1 0) = 0 := by
  have := @apF_bd V z hz
  unfold pfF at h
  split at h
  · assumption
  · omega
theorem pfF_bd {V : dp_V} {z : Int} (hz : 0 ≤ z ∧ z ≤ 35999) : -100004 ≤ pfF V z ∧ pfF V z ≤ 36000 := by
  have := @apF_bd V z hz
  unfold pfF
  split <;> omega
/-- why a target can not be begun -/
def rsM (V : dp_V) (N t : Nat) : Int := if V (t + 6) 6 = 0 then (if uwG V 0 N = -1 then (if kdF V = 0 then 3 else if V 0 0 < V (t + 6) 2 then 4 else if wyP 4 (V 4) (V (t + 6) 1) (V 1 0) = 0 then 5 else if wyP 3 (V 3) (apF V (V (t + 6) 0)) (V 1 0) = 0 then 6 else if V (t + 6) 3 < V 0 0 + tmF V (apF V (V (t + 6) 0)) (V (t + 6) 1) + V (t + 6) 4 then 7 else 0) else 2) else 1
theorem rsM_bd {V : dp_V} {N t : Nat} : 0 ≤ rsM V N t ∧ rsM V N t ≤ 7 := by
  unfold rsM
  repeat' split
  all_goals omega
/-- the best one to begin -/
def bsM (V : dp_V) (N : Nat) : Nat → Nat → Int → Int
  | _, 0, b => b
  | k, n + 1, b => bsM V N (k + 1) n (if rsM V N k = 0 then (if b = -1 then (k : Int) else if btF (V (k + 6)) (V (b.toNat + 6)) = 0 then b else (k : Int)) else b)
def bnM (V : dp_V) (N : Nat) : Int := bsM V N 0 N (-1)
theorem ftF_n {k : Nat} : ftF (k : Int) = k := by unfold ftF; rw [if_neg (by omega)]
theorem ftF_ne {b : Int} (h : ¬ ftF b = -100004) : ¬ b = -1 ∧ ftF b = b := by
  unfold ftF at h ⊢
  split at h
  · exact absurd rfl h
  · rename_i q
    rw [if_neg q]
    exact ⟨q, rfl⟩
theorem ftF_eq {b : Int} (hb : b = -1 ∨ 0 ≤ b) (h : ftF b = -100004) : b = -1 := by
  unfold ftF at h
  split at h
  · assumption
  · omega
