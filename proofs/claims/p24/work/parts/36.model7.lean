/-- the first k numbers of a row nothing -/
def zf (f : Nat → Int) (k : Nat) : Nat → Int := fun i => if i < k then 0 else f i
theorem zf_0 {f : Nat → Int} : zf f 0 = f := by
  funext i
  unfold zf
  rw [if_neg (by omega)]
theorem zf_s {V : dp_V} {c k : Nat} {f : Nat → Int} : u2 (uc V c (zf f k)) c k 0 = uc V c (zf f (k + 1)) := by
  rw [u2_uc, uc_uc, uc_same]
  congr 1
  funext i
  unfold u1 zf
  by_cases h : i = k
  · rw [if_pos h, if_pos (by omega)]
  · rw [if_neg h]
    by_cases h2 : i < k
    · rw [if_pos h2, if_pos (by omega)]
    · rw [if_neg h2, if_neg (by omega)]
theorem uc_id {V : dp_V} {c : Nat} : uc V c (V c) = V := by
  funext c'
  unfold uc
  split
  · rename_i h; rw [h]
  · rfl
/-- a target more -/
def adV (V : dp_V) (n : Nat) (a0 a1 a2 a3 a4 a5 : Int) : dp_V := u2 (u2 (u2 (u2 (u2 (u2 (u2 (uc V (n + 6) (zf (V (n + 6)) 14)) (n + 6) 0 a0) (n + 6) 1 a1) (n + 6) 2 a2) (n + 6) 3 a3) (n + 6) 4 a4) (n + 6) 5 a5) 0 3 (V 0 3 + 1)
/-- a target less -/
def rmM (V : dp_V) (N t0 : Nat) : dp_V := fun c k => if t0 + 6 ≤ c ∧ c < N + 5 then V (c + 1) k else u2 V 0 3 ((N : Int) - 1) c k
