/-- what reading leaves of the rest -/
def txM (X X' : dp_V) : Prop := (∀ c, c ≠ 0 → c ≠ 5 → X' c = X c) ∧ ∀ k, k ≠ 5 → X' 0 k = X 0 k
theorem txM.rf {X : dp_V} : txM X X := ⟨fun _ _ _ => rfl, fun _ _ => rfl⟩
theorem txM.tr {X Y Z : dp_V} (h : txM X Y) (h2 : txM Y Z) : txM X Z := ⟨fun c a b => (h2.1 c a b).trans (h.1 c a b), fun k a => (h2.2 k a).trans (h.2 k a)⟩
theorem txM.u5 {X Y : dp_V} {k : Nat} {x : Int} (h : txM X Y) : txM X (u2 Y 5 k x) := ⟨fun c a b => (u2_ne b).trans (h.1 c a b), fun j a => by rw [u2_ne (by decide)]; exact h.2 j a⟩
theorem txM.u0 {X Y : dp_V} {x : Int} (h : txM X Y) : txM X (u2 Y 0 5 x) := ⟨fun c a b => (u2_ne a).trans (h.1 c a b), fun j a => by rw [u2_same, u1_ne a]; exact h.2 j a⟩
theorem txM.sg {X X' : dp_V} (h : txM X X') : sgF (mT X') = sgF (mT X) := by
  funext i
  have e3 : ∀ Z : dp_V, mT Z 3 0 = Z 0 1 := fun _ => rfl
  have e4 : ∀ Z : dp_V, mT Z 4 = Z 4 := fun _ => rfl
  unfold sgF
  rw [e3, e3, e4, e4, h.2 1 (by decide), h.1 4 (by decide) (by decide)]
theorem txM.ok {X X' : dp_V} (h : txM X X') (hT : tOK (mT X)) : tOK (mT X') := by
  have e3 : ∀ Z : dp_V, mT Z 3 0 = Z 0 1 := fun _ => rfl
  have e4 : ∀ Z : dp_V, mT Z 4 = Z 4 := fun _ => rfl
  unfold tOK at hT ⊢
  rw [e3, e4] at *
  rw [h.2 1 (by decide), h.1 4 (by decide) (by decide)]
  exact hT
theorem rpG_len {T : dp_V} {s : Int} : ∀ {n : Nat} {d v : Int}, s + 1 + d ≤ T 3 0 → s + 1 + (rpG T s n d v).1 ≤ T 3 0 := by
  intro n
  induction n with
  | zero => intro d v h; exact h
  | succ n ih =>
    intro d v h
    by_cases g : 48 ≤ sgF T (s + 1 + d) ∧ sgF T (s + 1 + d) ≤ 57
    · rw [rpG_go g]
      have := sgF_at (X := T) (i := s + 1 + d) (by omega)
      exact ih (by omega)
    · rw [rpG_end g]
      exact h
theorem ipX_tx {X : dp_V} {q : Nat} : txM X (ipX X q) := by
  unfold ipX
  split
  · exact txM.rf.u0.u5
  · exact txM.rf
theorem rtA_m {T : dp_V} {s : Int} {k : Nat} (h : rtA T s k = -1) : ∀ j, rtA T s (k + j) = -1 := by
  intro j
  induction j with
  | zero => exact h
  | succ j ih => exact rtA_neg ih
/-- k parts are read -/
def PK (X X' : dp_V) (k : Nat) : Prop := txM X X' ∧ X' 0 5 = rtA (mT X) (X 0 5) k ∧ (0 ≤ X' 0 5 ∧ X' 0 5 ≤ X 0 1) ∧ ∀ i, i < k → X' 5 i = (rpG (mT X) (rtA (mT X) (X 0 5) i) 5 0 0).2
theorem PK_s {X X' : dp_V} {k : Nat} (h : PK X X' k) (hT : tOK (mT X)) : tOK (mT X') ∧ (0 ≤ X' 0 5 ∧ X' 0 5 ≤ X' 0 1) ∧ ipB X' k = dp_b (¬ rtA (mT X) (X 0 5) (k + 1) = -1) ∧ txM X (ipX X' k) ∧ (¬ rtA (mT X) (X 0 5) (k + 1) = -1 → PK X (ipX X' k) (k + 1)) := by
  obtain ⟨h1, h2, h3, h4⟩ := h
  have e1 : X' 0 1 = X 0 1 := h1.2 1 (by decide)
  have eR : rpR (mT X') (X' 0 5) k = rtA (mT X) (X 0 5) (k + 1) := by rw [rpR_tx h1.sg, h2]; rfl
  refine ⟨h1.ok hT, by rw [e1]; exact h3, by unfold ipB; rw [eR], h1.tr ipX_tx, fun hn => ?_⟩
  have hn2 : ¬ rpR (mT X') (X' 0 5) k = -1 := by rw [eR]; exact hn
  have g := rpR_g hn2
  have hp := @dp_pl_bd k
  have ga := sgF_at (X := mT X') (i := X' 0 5) (by omega)
  have gl := rpG_len (T := mT X') (s := X' 0 5) (n := 5) (d := 0) (v := 0) (by omega)
  have gd := @rpG_d (mT X') (X' 0 5) 5 0 0
  have e3 : mT X' 3 0 = X' 0 1 := rfl
  have ea : X' 0 5 + 1 + (rpG (mT X') (X' 0 5) 5 0 0).1 = rtA (mT X) (X 0 5) (k + 1) := by
    rw [← eR]
    unfold rpR at hn2 ⊢
    rw [if_pos g] at hn2 ⊢
    split at hn2
    · exact absurd rfl hn2
    · rename_i q
      rw [if_neg q]
  unfold ipX
  rw [if_pos g]
  have e5 : u2 (u2 X' 0 5 (X' 0 5 + 1 + (rpG (mT X') (X' 0 5) 5 0 0).1)) 5 k (rpG (mT X') (X' 0 5) 5 0 0).2 0 5 = X' 0 5 + 1 + (rpG (mT X') (X' 0 5) 5 0 0).1 := by rw [u2_ne (by decide), u2_same, u1_same]
  refine ⟨h1.u0.u5, by rw [e5, ea], by rw [e5]; omega, fun i hi => ?_⟩
  rw [u2_same]
  by_cases e : i = k
  · subst e
    rw [u1_same, h2, rpG_tx h1.sg]
  · rw [u1_ne e, u2_ne (by decide)]
    exact h4 i (by omega)
theorem PK_0 {X : dp_V} (h : 0 ≤ X 0 5 ∧ X 0 5 ≤ X 0 1) : PK X X 0 := ⟨txM.rf, rfl, h, fun i hi => absurd hi (by omega)⟩
theorem PK_5 {X X' : dp_V} (h : PK X X' 5) : PK X (u2 X' 5 5 0) 5 := ⟨h.1.u5, by rw [u2_ne (by decide)]; exact h.2.1, by rw [u2_ne (by decide)]; exact h.2.2.1, fun i hi => by rw [u2_same, u1_ne (by omega)]; exact h.2.2.2 i hi⟩
