/-! THE TEXT: cell 3 of region 7: length, entries, place and reason of the fault; cell 4 its signs; cell 5 the numbers read last -/
def sgF (X : dp_V) (i : Int) : Int := if i < 0 then 0 else if i < X 3 0 then (if i < 100 then X 4 i.toNat else 0) else 0
def tOK (X : dp_V) : Prop := 0 ≤ X 3 0 ∧ X 3 0 ≤ 100 ∧ ∀ i, i < 100 → 0 ≤ X 4 i ∧ X 4 i ≤ 126
def nOK (X : dp_V) : Prop := ∀ i, i < 6 → 0 ≤ X 5 i ∧ X 5 i ≤ 99999
def rpG (X : dp_V) (s : Int) : Nat → Int → Int → Int × Int
  | 0, d, v => (d, v)
  | n + 1, d, v => if 48 ≤ sgF X (s + 1 + d) ∧ sgF X (s + 1 + d) ≤ 57 then rpG X s n (d + 1) (v * 10 + (sgF X (s + 1 + d) - 48)) else (d, v)
/-- a part of the text T from s on: where it ends, or -1; the numbers behind it -/
def rpR (T : dp_V) (s : Int) (q : Nat) : Int := if sgF T s = dp_pl q then (if (rpG T s 5 0 0).1 = 0 then -1 else s + 1 + (rpG T s 5 0 0).1) else -1
def rpX (T X : dp_V) (s : Int) (q : Nat) : dp_V := if sgF T s = dp_pl q then u2 X 5 q (rpG T s 5 0 0).2 else X
def rtA (T : dp_V) (s : Int) : Nat → Int
  | 0 => s
  | k + 1 => rpR T (rtA T s k) k
def rtX (T X : dp_V) (s : Int) : Nat → dp_V
  | 0 => X
  | k + 1 => rpX T (rtX T X s k) (rtA T s k) k
def rdA (T : dp_V) (s : Int) : Int := if sgF T (rtA T s 5) = 112 then rpR T (rtA T s 5) 5 else rtA T s 5
/-- a target of the text: where the next one begins, or -1; the numbers behind it -/
def rdR (T : dp_V) (s : Int) : Int := if sgF T (rdA T s) = 59 then rdA T s + 1 else -1
def rdX (T X : dp_V) (s : Int) : dp_V := if sgF T (rtA T s 5) = 112 then rpX T (u2 (rtX T X s 5) 5 5 0) (rtA T s 5) 5 else u2 (rtX T X s 5) 5 5 0
def irF (a b c d e f : Int) : Int := dp_b (0 ≤ a ∧ a ≤ 35999 ∧ 500 ≤ b ∧ b ≤ 8500 ∧ 0 ≤ c ∧ c ≤ 43200 ∧ 0 ≤ d ∧ d ≤ 43200 ∧ c < d ∧ 1 ≤ e ∧ e ≤ 600 ∧ 0 ≤ f ∧ f ≤ 9)
def reF (X : dp_V) (en room : Int) : Int := if en = -1 then 1 else if irF (X 5 0) (X 5 1) (X 5 2) (X 5 3) (X 5 4) (X 5 5) = 0 then 2 else if X 3 1 < room then 0 else 3
def ckG (T : dp_V) (room : Int) : Nat → dp_V → Int → dp_V
  | 0, X, _ => X
  | n + 1, X, s => if s < T 3 0 then (if reF (rdX T X s) (rdR T s) room = 0 then ckG T room n (u2 (u2 (rdX T X s) 3 3 (reF (rdX T X s) (rdR T s) room)) 3 1 (rdX T X s 3 1 + 1)) (rdR T s) else u2 (u2 (rdX T X s) 3 3 (reF (rdX T X s) (rdR T s) room)) 3 2 s) else X
/-- the text checked -/
def ckX (X : dp_V) (room : Int) : dp_V := ckG X room 100 (u2 (u2 X 3 1 0) 3 3 0) 0
theorem sgF_bd {X : dp_V} {i : Int} (h : tOK X) : 0 ≤ sgF X i ∧ sgF X i ≤ 126 := by
  unfold sgF
  split
  · omega
  · split
    · split
      · exact h.2.2 _ (by omega)
      · omega
    · omega
theorem sgF_at {X : dp_V} {i : Int} (h : ¬ sgF X i = 0) : 0 ≤ i ∧ i < 100 ∧ i < X 3 0 := by
  unfold sgF at h
  repeat' split at h
  all_goals omega
theorem sgF_tx {X T : dp_V} (h0 : X 3 0 = T 3 0) (h4 : X 4 = T 4) : sgF X = sgF T := by
  funext i
  unfold sgF
  rw [h0, h4]
theorem rpG_tx {X T : dp_V} {s : Int} (h : sgF X = sgF T) : rpG X s = rpG T s := by
  funext n
  induction n with
  | zero => rfl
  | succ n ih =>
    funext d v
    show (if _ then _ else _) = (if _ then _ else _)
    rw [h, ih]
theorem rpR_tx {X T : dp_V} {s : Int} {q : Nat} (h : sgF X = sgF T) : rpR X s q = rpR T s q := by
  unfold rpR
  rw [rpG_tx h, h]
theorem rpX_tx {X T Z : dp_V} {s : Int} {q : Nat} (h : sgF X = sgF T) : rpX X Z s q = rpX T Z s q := by
  unfold rpX
  rw [rpG_tx h, h]
theorem rpG_d {X : dp_V} {s : Int} : ∀ {n : Nat} {d v : Int}, d ≤ (rpG X s n d v).1 ∧ (rpG X s n d v).1 ≤ d + n := by
  intro n
  induction n with
  | zero =>
    intro d v
    exact ⟨Int.le_refl d, by show d ≤ d + 0; omega⟩
  | succ n ih =>
    intro d v
    unfold rpG
    split
    · have := @ih (d + 1) (v * 10 + (sgF X (s + 1 + d) - 48))
      omega
    · show d ≤ d ∧ d ≤ d + _
      omega
theorem rpG_v1 {X : dp_V} {s : Int} {n : Nat} {d v b : Int} (hb : ∀ d' v', 0 ≤ v' → v' ≤ v * 10 + 9 → 0 ≤ (rpG X s n d' v').2 ∧ (rpG X s n d' v').2 ≤ b) (h0 : 0 ≤ v) (h1 : v ≤ b) : 0 ≤ (rpG X s (n + 1) d v).2 ∧ (rpG X s (n + 1) d v).2 ≤ b := by
  unfold rpG
  split
  · exact hb _ _ (by omega) (by omega)
  · exact ⟨h0, h1⟩
theorem rpG_v {X : dp_V} {s : Int} : 0 ≤ (rpG X s 5 0 0).2 ∧ (rpG X s 5 0 0).2 ≤ 99999 := by
  refine rpG_v1 (fun d1 v1 a1 b1 => ?_) (by omega) (by omega)
  refine rpG_v1 (fun d2 v2 a2 b2 => ?_) (by omega) (by omega)
  refine rpG_v1 (fun d3 v3 a3 b3 => ?_) (by omega) (by omega)
  refine rpG_v1 (fun d4 v4 a4 b4 => ?_) (by omega) (by omega)
  refine rpG_v1 (fun d5 v5 a5 b5 => ?_) (by omega) (by omega)
  show 0 ≤ v5 ∧ v5 ≤ 99999
  omega
theorem rpR_bd {T : dp_V} {s : Int} {q : Nat} (hp : dp_pl q ≠ 0) : -1 ≤ rpR T s q ∧ rpR T s q ≤ 105 := by
  unfold rpR
  split
  · next h =>
    have := @sgF_at T s (by omega)
    have := @rpG_d T s 5 0 0
    split <;> omega
  · omega
theorem dp_pl_ne {q : Nat} : dp_pl q ≠ 0 := by
  unfold dp_pl
  split <;> decide
theorem dp_pl_bd {q : Nat} : 97 ≤ dp_pl q ∧ dp_pl q ≤ 116 := by
  unfold dp_pl
  split <;> decide
theorem rtA_bd {T : dp_V} {s : Int} (hs : -1 ≤ s ∧ s ≤ 200) : ∀ {k : Nat}, -1 ≤ rtA T s k ∧ rtA T s k ≤ 200 := by
  intro k
  cases k with
  | zero => exact hs
  | succ k =>
    have := @rpR_bd T (rtA T s k) k dp_pl_ne
    unfold rtA
    omega
/-- the cells of the text itself stay -/
def txS (X T : dp_V) : Prop := X 3 = T 3 ∧ X 4 = T 4
theorem rpX_S {T X : dp_V} {s : Int} {q : Nat} {Z : dp_V} (h : txS X Z) : txS (rpX T X s q) Z := by
  unfold rpX
  split
  · exact ⟨(u2_ne (by decide)).trans h.1, (u2_ne (by decide)).trans h.2⟩
  · exact h
theorem rtX_S {T X : dp_V} {s : Int} : ∀ {k : Nat}, txS (rtX T X s k) X := by
  intro k
  induction k with
  | zero => exact ⟨rfl, rfl⟩
  | succ k ih => exact rpX_S ih
theorem txS.u5 {X Z : dp_V} {k : Nat} {x : Int} (h : txS X Z) : txS (u2 X 5 k x) Z := ⟨(u2_ne (by decide)).trans h.1, (u2_ne (by decide)).trans h.2⟩
theorem txS.sg {X T : dp_V} (h : txS X T) : sgF X = sgF T := sgF_tx (by rw [h.1]) h.2
theorem txS.ok {X T : dp_V} (h : txS X T) (hT : tOK T) : tOK X := by
  unfold tOK at *
  rw [h.1, h.2]
  exact hT
theorem rdX_S {T X : dp_V} {s : Int} : txS (rdX T X s) X := by
  unfold rdX
  split
  · exact rpX_S (txS.u5 rtX_S)
  · exact txS.u5 rtX_S
theorem nOK.u5 {X : dp_V} {k : Nat} {x : Int} (h : nOK X) (hx : 0 ≤ x ∧ x ≤ 99999) : nOK (u2 X 5 k x) := fun i hi => by
  rw [u2_same]
  unfold u1
  split
  · exact hx
  · exact h i hi
theorem rpX_n {T X : dp_V} {s : Int} {q : Nat} (h : nOK X) : nOK (rpX T X s q) := by
  unfold rpX
  split
  · exact h.u5 rpG_v
  · exact h
theorem rtX_n {T X : dp_V} {s : Int} (h : nOK X) : ∀ {k : Nat}, nOK (rtX T X s k) := by
  intro k
  induction k with
  | zero => exact h
  | succ k ih => exact rpX_n ih
theorem rdX_n {T X : dp_V} {s : Int} (h : nOK X) : nOK (rdX T X s) := by
  unfold rdX
  split
  · exact rpX_n ((rtX_n h).u5 (by omega))
  · exact (rtX_n h).u5 (by omega)
theorem nOK.u3 {X : dp_V} {k : Nat} {x : Int} (h : nOK X) : nOK (u2 X 3 k x) := fun i hi => by
  rw [u2_ne (by decide)]
  exact h i hi
theorem rdR_bd {T : dp_V} {s : Int} : rdR T s = -1 ∨ (1 ≤ rdR T s ∧ rdR T s ≤ 100) := by
  unfold rdR
  split
  · next h =>
    have := @sgF_at T (rdA T s) (by omega)
    omega
  · exact Or.inl rfl
theorem rdA_bd {T : dp_V} {s : Int} (hs : -1 ≤ s ∧ s ≤ 200) : -1 ≤ rdA T s ∧ rdA T s ≤ 200 := by
  unfold rdA
  split
  · have := @rpR_bd T (rtA T s 5) 5 dp_pl_ne
    omega
  · exact rtA_bd hs
theorem rtA_tx {X T : dp_V} {s : Int} (h : sgF X = sgF T) : ∀ k, rtA X s k = rtA T s k := by
  intro k
  induction k with
  | zero => rfl
  | succ k ih =>
    show rpR X _ k = rpR T _ k
    rw [ih, rpR_tx h]
theorem rtX_tx {X T Z : dp_V} {s : Int} (h : sgF X = sgF T) : ∀ k, rtX X Z s k = rtX T Z s k := by
  intro k
  induction k with
  | zero => rfl
  | succ k ih =>
    show rpX X _ _ k = rpX T _ _ k
    rw [ih, rtA_tx h, rpX_tx h]
theorem rdA_tx {X T : dp_V} {s : Int} (h : sgF X = sgF T) : rdA X s = rdA T s := by
  unfold rdA
  rw [rtA_tx h, h, rpR_tx h]
theorem rdR_tx {X T : dp_V} {s : Int} (h : sgF X = sgF T) : rdR X s = rdR T s := by
  unfold rdR
  rw [rdA_tx h, h]
theorem rdX_tx {X T Z : dp_V} {s : Int} (h : sgF X = sgF T) : rdX X Z s = rdX T Z s := by
  unfold rdX
  rw [rtA_tx h, rtX_tx h, h, rpX_tx h]
theorem reF_bd {X : dp_V} {en room : Int} : 0 ≤ reF X en room ∧ reF X en room ≤ 3 := by
  unfold reF
  repeat' split
  all_goals omega
theorem reF_0 {X : dp_V} {en room : Int} (h : reF X en room = 0) : ¬ en = -1 ∧ X 3 1 < room ∧ ¬ irF (X 5 0) (X 5 1) (X 5 2) (X 5 3) (X 5 4) (X 5 5) = 0 := by
  unfold reF at h
  repeat' split at h
  all_goals first | omega | exact ⟨by assumption, by assumption, by assumption⟩
theorem yyX6_isBetween : yX6_isBetween.cls ≠ "java/lang/invoke/MethodHandle" ∧ yX6_isBetween.cls ≠ "java/lang/invoke/VarHandle" ∧ (parseMethodDescriptor yX6_isBetween.desc).map (fun d => d.parameters.length) = some 3 := by decide +kernel
set_option maxHeartbeats 4000000 in
set_option maxRecDepth 100000 in
theorem c_X6_isBetween {E : dp_E} (hE : dp_OK E) (l : Launch) {M : dp_M} {x lo hi : Int} (hx : dp_R x) (hl : dp_R lo) (hh : dp_R hi) : dp_met E l yX6_isBetween wsX6_isBetween 0 0 [.int (dp_I x), .int (dp_I lo), .int (dp_I hi)] (M) (dp_qi E (fun y M1 => y = dp_b (lo ≤ x ∧ x ≤ hi) ∧ M1 = M)) := by
  refine dp_of (cc := cX6_isBetween) (nL := 3) (own := RX6) (ret := some (.boolean)) (by decide +kernel) rfl rfl hE (by simp [Value.category]) (Nat.le_of_ble_eq_true rfl) ?_
  intro p e s m below meth co C hret
  show dp_G _ _ _ _ _ _ _ _ _ _ _ _ _ _ _ _ _ [some (.int (dp_I x)), some (.int (dp_I lo)), some (.int (dp_I hi))] _
  unfold dp_R at hx hl hh
  refine dp_iload_n C dX6_isBetween_0 rfl ?_
  refine dp_iload_n C dX6_isBetween_1 rfl ?_
  refine dp_icmp_lt (tgt := 14) C dX6_isBetween_2 (by decide) ⟨by omega, by omega⟩ ⟨by omega, by omega⟩ (fun c2 => ?_) (fun c2 => ?_)
  · skip
    refine dp_iconst C dX6_isBetween_14 ?_
    refine dp_zret C hret (by first | decide | exact dp_nb) dX6_isBetween_15 ?_
    exact ⟨by first | exact (dp_b_t (by omega)).symm | exact (dp_b_f (by omega)).symm, rfl⟩
  · skip
    refine dp_iload_n C dX6_isBetween_5 rfl ?_
    refine dp_iload_n C dX6_isBetween_6 rfl ?_
    refine dp_icmp_gt (tgt := 14) C dX6_isBetween_7 (by decide) ⟨by omega, by omega⟩ ⟨by omega, by omega⟩ (fun c7 => ?_) (fun c7 => ?_)
    · skip
      refine dp_iconst C dX6_isBetween_14 ?_
      refine dp_zret C hret (by first | decide | exact dp_nb) dX6_isBetween_15 ?_
      exact ⟨by first | exact (dp_b_t (by omega)).symm | exact (dp_b_f (by omega)).symm, rfl⟩
    · skip
      refine dp_iconst C dX6_isBetween_10 ?_
      refine dp_goto (tgt := 15) C dX6_isBetween_11 (by decide) ?_
      refine dp_zret C hret (by first | decide | exact dp_nb) dX6_isBetween_15 ?_
      exact ⟨by first | exact (dp_b_t (by omega)).symm | exact (dp_b_f (by omega)).symm, rfl⟩
theorem yyX6_isTargetInRange : yX6_isTargetInRange.cls ≠ "java/lang/invoke/MethodHandle" ∧ yX6_isTargetInRange.cls ≠ "java/lang/invoke/VarHandle" ∧ (parseMethodDescriptor yX6_isTargetInRange.desc).map (fun d => d.parameters.length) = some 6 := by decide +kernel
set_option maxHeartbeats 4000000 in
set_option maxRecDepth 100000 in
theorem c_X6_isTargetInRange {E : dp_E} (hE : dp_OK E) (l : Launch) {M : dp_M} {a0 a1 a2 a3 a4 a5 : Int} (ha0 : dp_R a0) (ha1 : dp_R a1) (ha2 : dp_R a2) (ha3 : dp_R a3) (ha4 : dp_R a4) (ha5 : dp_R a5) : dp_met E l yX6_isTargetInRange wsX6_isTargetInRange 1 22 [.int (dp_I a0), .int (dp_I a1), .int (dp_I a2), .int (dp_I a3), .int (dp_I a4), .int (dp_I a5)] (M) (dp_qi E (fun y M1 => y = irF a0 a1 a2 a3 a4 a5 ∧ M1 = M)) := by
  refine dp_of (cc := cX6_isTargetInRange) (nL := 6) (own := RX6) (ret := some (.boolean)) (by decide +kernel) rfl rfl hE (by simp [Value.category]) (Nat.le_of_ble_eq_true rfl) ?_
  intro p e s m below meth co C hret
  show dp_G _ _ _ _ _ _ _ _ _ _ _ _ _ _ _ _ _ [some (.int (dp_I a0)), some (.int (dp_I a1)), some (.int (dp_I a2)), some (.int (dp_I a3)), some (.int (dp_I a4)), some (.int (dp_I a5))] _
  unfold dp_R at ha0 ha1 ha2 ha3 ha4 ha5
  refine dp_iload_n C dX6_isTargetInRange_0 rfl ?_
  refine dp_iconst C dX6_isTargetInRange_1 ?_
  refine dp_ldc C (35999) (List.mem_of_getElem? (i := 1) rfl) rfl dX6_isTargetInRange_2 ?_
  refine dp_cSi C (c_X6_isBetween C.2.2.1 l ⟨by omega, by omega⟩ ⟨by omega, by omega⟩ ⟨by omega, by omega⟩) gX6_isTargetInRange_X6_isBetween rfl yyX6_isBetween rfl ⟨Nat.le_of_ble_eq_true rfl, Nat.le_of_ble_eq_true rfl⟩ rfl (Nat.le_of_ble_eq_true rfl) rfl ⟨Nat.zero_le _, Nat.zero_le _⟩ dX6_isTargetInRange_4 (fun x4 M4 h4 => ?_)
  obtain ⟨rfl, rfl⟩ := h4
  refine dp_ifz_eq (tgt := 75) C dX6_isTargetInRange_7 (by decide) (fun c7 => ?_) (fun c7 => ?_)
  · skip
    refine dp_iconst C dX6_isTargetInRange_75 ?_
    refine dp_zret C hret (by first | decide | exact dp_nb) dX6_isTargetInRange_76 ?_
    unfold irF
    exact ⟨by first | exact (dp_b_t (by omega)).symm | exact (dp_b_f (by omega)).symm, rfl⟩
  · skip
    refine dp_iload_n C dX6_isTargetInRange_10 rfl ?_
    refine dp_sipush C dX6_isTargetInRange_11 (by decide) ?_
    refine dp_sipush C dX6_isTargetInRange_14 (by decide) ?_
    refine dp_cSi C (c_X6_isBetween C.2.2.1 l ⟨by omega, by omega⟩ ⟨by omega, by omega⟩ ⟨by omega, by omega⟩) gX6_isTargetInRange_X6_isBetween rfl yyX6_isBetween rfl ⟨Nat.le_of_ble_eq_true rfl, Nat.le_of_ble_eq_true rfl⟩ rfl (Nat.le_of_ble_eq_true rfl) rfl ⟨Nat.zero_le _, Nat.zero_le _⟩ dX6_isTargetInRange_17 (fun x17 M17 h17 => ?_)
    obtain ⟨rfl, rfl⟩ := h17
    refine dp_ifz_eq (tgt := 75) C dX6_isTargetInRange_20 (by decide) (fun c20 => ?_) (fun c20 => ?_)
    · skip
      refine dp_iconst C dX6_isTargetInRange_75 ?_
      refine dp_zret C hret (by first | decide | exact dp_nb) dX6_isTargetInRange_76 ?_
      unfold irF
      exact ⟨by first | exact (dp_b_t (by omega)).symm | exact (dp_b_f (by omega)).symm, rfl⟩
    · skip
      refine dp_iload_n C dX6_isTargetInRange_23 rfl ?_
      refine dp_iconst C dX6_isTargetInRange_24 ?_
      refine dp_ldc C (43200) (List.mem_of_getElem? (i := 2) rfl) rfl dX6_isTargetInRange_25 ?_
      refine dp_cSi C (c_X6_isBetween C.2.2.1 l ⟨by omega, by omega⟩ ⟨by omega, by omega⟩ ⟨by omega, by omega⟩) gX6_isTargetInRange_X6_isBetween rfl yyX6_isBetween rfl ⟨Nat.le_of_ble_eq_true rfl, Nat.le_of_ble_eq_true rfl⟩ rfl (Nat.le_of_ble_eq_true rfl) rfl ⟨Nat.zero_le _, Nat.zero_le _⟩ dX6_isTargetInRange_27 (fun x27 M27 h27 => ?_)
      obtain ⟨rfl, rfl⟩ := h27
      refine dp_ifz_eq (tgt := 75) C dX6_isTargetInRange_30 (by decide) (fun c30 => ?_) (fun c30 => ?_)
      · skip
        refine dp_iconst C dX6_isTargetInRange_75 ?_
        refine dp_zret C hret (by first | decide | exact dp_nb) dX6_isTargetInRange_76 ?_
        unfold irF
        exact ⟨by first | exact (dp_b_t (by omega)).symm | exact (dp_b_f (by omega)).symm, rfl⟩
      · skip
        refine dp_iload_n C dX6_isTargetInRange_33 rfl ?_
        refine dp_iconst C dX6_isTargetInRange_34 ?_
        refine dp_ldc C (43200) (List.mem_of_getElem? (i := 2) rfl) rfl dX6_isTargetInRange_35 ?_
        refine dp_cSi C (c_X6_isBetween C.2.2.1 l ⟨by omega, by omega⟩ ⟨by omega, by omega⟩ ⟨by omega, by omega⟩) gX6_isTargetInRange_X6_isBetween rfl yyX6_isBetween rfl ⟨Nat.le_of_ble_eq_true rfl, Nat.le_of_ble_eq_true rfl⟩ rfl (Nat.le_of_ble_eq_true rfl) rfl ⟨Nat.zero_le _, Nat.zero_le _⟩ dX6_isTargetInRange_37 (fun x37 M37 h37 => ?_)
        obtain ⟨rfl, rfl⟩ := h37
        refine dp_ifz_eq (tgt := 75) C dX6_isTargetInRange_40 (by decide) (fun c40 => ?_) (fun c40 => ?_)
        · skip
          refine dp_iconst C dX6_isTargetInRange_75 ?_
          refine dp_zret C hret (by first | decide | exact dp_nb) dX6_isTargetInRange_76 ?_
          unfold irF
          exact ⟨by first | exact (dp_b_t (by omega)).symm | exact (dp_b_f (by omega)).symm, rfl⟩
        · skip
          refine dp_iload_n C dX6_isTargetInRange_43 rfl ?_
          refine dp_iload_n C dX6_isTargetInRange_44 rfl ?_
          refine dp_icmp_ge (tgt := 75) C dX6_isTargetInRange_45 (by decide) ⟨by omega, by omega⟩ ⟨by omega, by omega⟩ (fun c45 => ?_) (fun c45 => ?_)
          · skip
            refine dp_iconst C dX6_isTargetInRange_75 ?_
            refine dp_zret C hret (by first | decide | exact dp_nb) dX6_isTargetInRange_76 ?_
            unfold irF
            exact ⟨by first | exact (dp_b_t (by omega)).symm | exact (dp_b_f (by omega)).symm, rfl⟩
          · skip
            refine dp_iload C dX6_isTargetInRange_48 rfl ?_
            refine dp_iconst C dX6_isTargetInRange_50 ?_
            refine dp_sipush C dX6_isTargetInRange_51 (by decide) ?_
            refine dp_cSi C (c_X6_isBetween C.2.2.1 l ⟨by omega, by omega⟩ ⟨by omega, by omega⟩ ⟨by omega, by omega⟩) gX6_isTargetInRange_X6_isBetween rfl yyX6_isBetween rfl ⟨Nat.le_of_ble_eq_true rfl, Nat.le_of_ble_eq_true rfl⟩ rfl (Nat.le_of_ble_eq_true rfl) rfl ⟨Nat.zero_le _, Nat.zero_le _⟩ dX6_isTargetInRange_54 (fun x54 M54 h54 => ?_)
            obtain ⟨rfl, rfl⟩ := h54
            refine dp_ifz_eq (tgt := 75) C dX6_isTargetInRange_57 (by decide) (fun c57 => ?_) (fun c57 => ?_)
            · skip
              refine dp_iconst C dX6_isTargetInRange_75 ?_
              refine dp_zret C hret (by first | decide | exact dp_nb) dX6_isTargetInRange_76 ?_
              unfold irF
              exact ⟨by first | exact (dp_b_t (by omega)).symm | exact (dp_b_f (by omega)).symm, rfl⟩
            · skip
              refine dp_iload C dX6_isTargetInRange_60 rfl ?_
              refine dp_iconst C dX6_isTargetInRange_62 ?_
              refine dp_bipush C dX6_isTargetInRange_63 (by decide) ?_
              refine dp_cSi C (c_X6_isBetween C.2.2.1 l ⟨by omega, by omega⟩ ⟨by omega, by omega⟩ ⟨by omega, by omega⟩) gX6_isTargetInRange_X6_isBetween rfl yyX6_isBetween rfl ⟨Nat.le_of_ble_eq_true rfl, Nat.le_of_ble_eq_true rfl⟩ rfl (Nat.le_of_ble_eq_true rfl) rfl ⟨Nat.zero_le _, Nat.zero_le _⟩ dX6_isTargetInRange_65 (fun x65 M65 h65 => ?_)
              obtain ⟨rfl, rfl⟩ := h65
              refine dp_ifz_eq (tgt := 75) C dX6_isTargetInRange_68 (by decide) (fun c68 => ?_) (fun c68 => ?_)
              · skip
                refine dp_iconst C dX6_isTargetInRange_75 ?_
                refine dp_zret C hret (by first | decide | exact dp_nb) dX6_isTargetInRange_76 ?_
                unfold irF
                exact ⟨by first | exact (dp_b_t (by omega)).symm | exact (dp_b_f (by omega)).symm, rfl⟩
              · skip
                refine dp_iconst C dX6_isTargetInRange_71 ?_
                refine dp_goto (tgt := 76) C dX6_isTargetInRange_72 (by decide) ?_
                refine dp_zret C hret (by first | decide | exact dp_nb) dX6_isTargetInRange_76 ?_
                unfold irF
                exact ⟨by first | exact (dp_b_t (by omega)).symm | exact (dp_b_f (by omega)).symm, rfl⟩
theorem yyX4_signAt : yX4_signAt.cls = RX4 ∧ yX4_signAt.cls ≠ "java/lang/invoke/MethodHandle" ∧ yX4_signAt.cls ≠ "java/lang/invoke/VarHandle" ∧ (parseMethodDescriptor yX4_signAt.desc).map (fun d => d.parameters.length) = some 1 := by decide +kernel
set_option maxHeartbeats 4000000 in
set_option maxRecDepth 100000 in
theorem c_X4_signAt {E : dp_E} (hE : dp_OK E) (l : Launch) {M : dp_M} {X : dp_V} (h : tOK X) {i : Int} (hi : dp_R i) : dp_met E l yX4_signAt wsX4_signAt 0 0 [.ref (eAd E 7 3), .int (dp_I i)] (dR M 7 X) (dp_qi E (fun y M1 => y = sgF X i ∧ M1 = dR M 7 X)) := by
  refine dp_of (cc := cX4_signAt) (nL := 2) (own := RX4) (ret := some (.char)) (by decide +kernel) rfl rfl hE (by simp [Value.category]) (Nat.le_of_ble_eq_true rfl) ?_
  intro p e s m below meth co C hret
  show dp_G _ _ _ _ _ _ _ _ _ _ _ _ _ _ _ _ _ [some (.ref (eAd E 7 3)), some (.int (dp_I i))] _
  have hX4 : ∀ w ∈ u_ws RX4 TX4 6, w ∈ wsX4_signAt := fun w h => List.mem_cons_of_mem _ (List.mem_append_right _ (h))
  unfold dp_R at hi
  have h0 := h.1
  have h1 := h.2.1
  have h2 : 0 ≤ i → i < 100 → 0 ≤ X 4 i.toNat ∧ X 4 i.toNat ≤ 126 := fun a b => h.2.2 _ (by omega)
  refine dp_iload_n C dX4_signAt_0 rfl ?_
  refine dp_if_lt (tgt := 30) C dX4_signAt_1 (by decide) ⟨by omega, by omega⟩ (fun c1 => ?_) (fun c1 => ?_)
  · skip
    refine dp_iconst C dX4_signAt_30 ?_
    refine dp_zret C hret (dp_nc (by omega) (by omega)) dX4_signAt_31 ?_
    refine ⟨?_, rfl⟩
    unfold sgF
    repeat (first | rw [if_neg (by omega)] | rw [if_pos (by omega)])
  · skip
    refine dp_iload_n C dX4_signAt_4 rfl ?_
    refine dp_aload_n C dX4_signAt_5 rfl ?_
    refine dp_getf C (k := 1) (dp_mC (by decide)) dp_xtx rfl hX4 (by decide) (List.mem_of_getElem? (i := 1) rfl) rfl dX4_signAt_6 ?_
    refine dp_icmp_ge (tgt := 30) C dX4_signAt_9 (by decide) ⟨by omega, by omega⟩ ⟨by omega, by omega⟩ (fun c9 => ?_) (fun c9 => ?_)
    · skip
      refine dp_iconst C dX4_signAt_30 ?_
      refine dp_zret C hret (dp_nc (by omega) (by omega)) dX4_signAt_31 ?_
      refine ⟨?_, rfl⟩
      unfold sgF
      repeat (first | rw [if_neg (by omega)] | rw [if_pos (by omega)])
    · skip
      refine dp_iload_n C dX4_signAt_12 rfl ?_
      refine dp_aload_n C dX4_signAt_13 rfl ?_
      refine dp_getf C (k := 0) (dp_mC (by decide)) dp_xtx rfl hX4 (by decide) (List.mem_of_getElem? (i := 2) rfl) rfl dX4_signAt_14 ?_
      refine dp_alen C (t0 := 1) (dp_mC (by decide)) 100 dp_xsg rfl rfl dX4_signAt_17 ?_
      refine dp_icmp_ge (tgt := 30) C dX4_signAt_18 (by decide) ⟨by omega, by omega⟩ ⟨by omega, by omega⟩ (fun c18 => ?_) (fun c18 => ?_)
      · skip
        refine dp_iconst C dX4_signAt_30 ?_
        refine dp_zret C hret (dp_nc (by omega) (by omega)) dX4_signAt_31 ?_
        refine ⟨?_, rfl⟩
        unfold sgF
        repeat (first | rw [if_neg (by omega)] | rw [if_pos (by omega)])
      · skip
        refine dp_aload_n C dX4_signAt_21 rfl ?_
        refine dp_getf C (k := 0) (dp_mC (by decide)) dp_xtx rfl hX4 (by decide) (List.mem_of_getElem? (i := 2) rfl) rfl dX4_signAt_22 ?_
        refine dp_iload_n C dX4_signAt_25 rfl ?_
        refine dp_ald_sg C ⟨by omega, by omega⟩ rfl dX4_signAt_26 ?_
        refine dp_goto (tgt := 31) C dX4_signAt_27 (by decide) ?_
        refine dp_zret C hret (dp_nc (by omega) (by omega)) dX4_signAt_31 ?_
        refine ⟨?_, rfl⟩
        unfold sgF
        repeat (first | rw [if_neg (by omega)] | rw [if_pos (by omega)])
theorem yyX4_isDigit : yX4_isDigit.cls ≠ "java/lang/invoke/MethodHandle" ∧ yX4_isDigit.cls ≠ "java/lang/invoke/VarHandle" ∧ (parseMethodDescriptor yX4_isDigit.desc).map (fun d => d.parameters.length) = some 1 := by decide +kernel
set_option maxHeartbeats 4000000 in
set_option maxRecDepth 100000 in
theorem c_X4_isDigit {E : dp_E} (hE : dp_OK E) (l : Launch) {M : dp_M} {x : Int} (hx : 0 ≤ x ∧ x ≤ 126) : dp_met E l yX4_isDigit wsX4_isDigit 0 0 [.int (dp_I x)] (M) (dp_qi E (fun y M1 => y = dp_b (48 ≤ x ∧ x ≤ 57) ∧ M1 = M)) := by
  refine dp_of (cc := cX4_isDigit) (nL := 1) (own := RX4) (ret := some (.boolean)) (by decide +kernel) rfl rfl hE (by simp [Value.category]) (Nat.le_of_ble_eq_true rfl) ?_
  intro p e s m below meth co C hret
  show dp_G _ _ _ _ _ _ _ _ _ _ _ _ _ _ _ _ _ [some (.int (dp_I x))] _
  refine dp_iload_n C dX4_isDigit_0 rfl ?_
  refine dp_bipush C dX4_isDigit_1 (by decide) ?_
  refine dp_icmp_lt (tgt := 16) C dX4_isDigit_3 (by decide) ⟨by omega, by omega⟩ ⟨by omega, by omega⟩ (fun c3 => ?_) (fun c3 => ?_)
  · skip
    refine dp_iconst C dX4_isDigit_16 ?_
    refine dp_zret C hret (by first | decide | exact dp_nb) dX4_isDigit_17 ?_
    exact ⟨by first | exact (dp_b_t (by omega)).symm | exact (dp_b_f (by omega)).symm, rfl⟩
  · skip
    refine dp_iload_n C dX4_isDigit_6 rfl ?_
    refine dp_bipush C dX4_isDigit_7 (by decide) ?_
    refine dp_icmp_gt (tgt := 16) C dX4_isDigit_9 (by decide) ⟨by omega, by omega⟩ ⟨by omega, by omega⟩ (fun c9 => ?_) (fun c9 => ?_)
    · skip
      refine dp_iconst C dX4_isDigit_16 ?_
      refine dp_zret C hret (by first | decide | exact dp_nb) dX4_isDigit_17 ?_
      exact ⟨by first | exact (dp_b_t (by omega)).symm | exact (dp_b_f (by omega)).symm, rfl⟩
    · skip
      refine dp_iconst C dX4_isDigit_12 ?_
      refine dp_goto (tgt := 17) C dX4_isDigit_13 (by decide) ?_
      refine dp_zret C hret (by first | decide | exact dp_nb) dX4_isDigit_17 ?_
      exact ⟨by first | exact (dp_b_t (by omega)).symm | exact (dp_b_f (by omega)).symm, rfl⟩
theorem yyX4_readPart : yX4_readPart.cls = RX4 ∧ yX4_readPart.cls ≠ "java/lang/invoke/MethodHandle" ∧ yX4_readPart.cls ≠ "java/lang/invoke/VarHandle" ∧ (parseMethodDescriptor yX4_readPart.desc).map (fun d => d.parameters.length) = some 2 := by decide +kernel
set_option maxHeartbeats 4000000 in
set_option maxRecDepth 100000 in
theorem c_X4_readPart {E : dp_E} (hE : dp_OK E) (l : Launch) {M : dp_M} {X : dp_V} (h : tOK X) {s9 : Int} {q : Nat} (hs : -1 ≤ s9 ∧ s9 ≤ 200) (hq : q < 6) : dp_met E l yX4_readPart wsX4_readPart 1 21 [.ref (eAd E 7 3), .int (dp_I s9), .int (dp_I (q : Int))] (dR M 7 X) (dp_qi E (fun y M1 => y = rpR X s9 q ∧ M1 = dR M 7 (rpX X X s9 q))) := by
  refine dp_of (cc := cX4_readPart) (nL := 5) (own := RX4) (ret := some (.int)) (by decide +kernel) rfl rfl hE (by simp [Value.category]) (Nat.le_of_ble_eq_true rfl) ?_
  intro p e s m below meth co C hret
  show dp_G _ _ _ _ _ _ _ _ _ _ _ _ _ _ _ _ _ [some (.ref (eAd E 7 3)), some (.int (dp_I s9)), some (.int (dp_I (q : Int))), none, none] _
  have hX4 : ∀ w ∈ u_ws RX4 TX4 6, w ∈ wsX4_readPart := fun w h => List.mem_cons_of_mem _ (List.mem_append_right _ (h))
  have hl := @dp_pl_bd q
  have hc := @sgF_bd X s9 h
  have J67 : ∀ (d v : Int), 0 ≤ d → d ≤ 5 → (rpG X s9 5 0 0).1 = d → (rpG X s9 5 0 0).2 = v → sgF X s9 = dp_pl q → dp_G E (dp_A E) p l e (dp_rm 1 21) s m [.ref (eAd E 7 3), .int (dp_I s9), .int (dp_I (q : Int))].toArray below meth co 0 0 (MQ below (dp_qi E (fun y M1 => y = rpR X s9 q ∧ M1 = dR M 7 (rpX X X s9 q))) [.ref (eAd E 7 3), .int (dp_I s9), .int (dp_I (q : Int))].toArray s 0 0 (dp_A E)) (dR M 7 X) 67 [some (.ref (eAd E 7 3)), some (.int (dp_I s9)), some (.int (dp_I (q : Int))), some (.int (dp_I v)), some (.int (dp_I d))] [] := by
    intro d v hd0 hd5 e1 e2 hg
    refine dp_aload_n C dX4_readPart_67 rfl ?_
    refine dp_getf C (k := 2) (dp_mC (by decide)) dp_xtx rfl hX4 (by decide) (List.mem_of_getElem? (i := 1) rfl) rfl dX4_readPart_68 ?_
    refine dp_iload_n C dX4_readPart_71 rfl ?_
    refine dp_iload_n C dX4_readPart_72 rfl ?_
    refine dp_ast_nu C ⟨by omega, by omega⟩ (Int.toNat_natCast _) dX4_readPart_73 ?_
    refine dp_iload C dX4_readPart_74 rfl ?_
    refine dp_if_ne (tgt := 83) C dX4_readPart_76 (by decide) ⟨by omega, by omega⟩ (fun c76 => ?_) (fun c76 => ?_)
    · skip
      refine dp_iload_n C dX4_readPart_83 rfl ?_
      refine dp_iconst C dX4_readPart_84 ?_
      refine dp_iadd C dX4_readPart_85 ?_
      refine dp_iload C dX4_readPart_86 rfl ?_
      refine dp_iadd C dX4_readPart_88 ?_
      refine dp_iret C hret dX4_readPart_89 ?_
      unfold rpR rpX
      rw [if_pos hg, if_pos hg, e1, e2]
      first | (rw [if_pos (by assumption)]; exact ⟨rfl, rfl⟩) | (rw [if_neg (by assumption)]; exact ⟨rfl, rfl⟩)
    · skip
      refine dp_iconst C dX4_readPart_79 ?_
      refine dp_goto (tgt := 89) C dX4_readPart_80 (by decide) ?_
      refine dp_iret C hret dX4_readPart_89 ?_
      unfold rpR rpX
      rw [if_pos hg, if_pos hg, e1, e2]
      first | (rw [if_pos (by assumption)]; exact ⟨rfl, rfl⟩) | (rw [if_neg (by assumption)]; exact ⟨rfl, rfl⟩)
  have J20 : ∀ (n : Nat) (d v : Int), d + n = 5 → 0 ≤ d → sgF X s9 = dp_pl q → rpG X s9 n d v = rpG X s9 5 0 0 → dp_G E (dp_A E) p l e (dp_rm 1 21) s m [.ref (eAd E 7 3), .int (dp_I s9), .int (dp_I (q : Int))].toArray below meth co 0 0 (MQ below (dp_qi E (fun y M1 => y = rpR X s9 q ∧ M1 = dR M 7 (rpX X X s9 q))) [.ref (eAd E 7 3), .int (dp_I s9), .int (dp_I (q : Int))].toArray s 0 0 (dp_A E)) (dR M 7 X) 20 [some (.ref (eAd E 7 3)), some (.int (dp_I s9)), some (.int (dp_I (q : Int))), some (.int (dp_I v)), some (.int (dp_I d))] [] := by
    refine dp_ind (fun n ih => ?_)
    intro d v hdn hd0 hq9 hf
    refine dp_iload C dX4_readPart_20 rfl ?_
    refine dp_iconst C dX4_readPart_22 ?_
    refine dp_icmp_ge (tgt := 67) C dX4_readPart_23 (by decide) ⟨by omega, by omega⟩ ⟨by omega, by omega⟩ (fun c23 => ?_) (fun c23 => ?_)
    · skip
      obtain rfl : n = 0 := by omega
      have e1 : (rpG X s9 5 0 0).1 = d := by rw [← hf]; rfl
      have e2 : (rpG X s9 5 0 0).2 = v := by rw [← hf]; rfl
      exact J67 _ _ (by omega) (by omega) e1 e2 (by assumption)
    · skip
      obtain ⟨n, rfl⟩ : ∃ n', n = n' + 1 := ⟨n - 1, by omega⟩
      rw [show rpG X s9 (n + 1) d v = (if 48 ≤ sgF X (s9 + 1 + d) ∧ sgF X (s9 + 1 + d) ≤ 57 then rpG X s9 n (d + 1) (v * 10 + (sgF X (s9 + 1 + d) - 48)) else (d, v)) from rfl] at hf
      have hg := @sgF_bd X (s9 + 1 + d) h
      refine dp_aload_n C dX4_readPart_26 rfl ?_
      refine dp_iload_n C dX4_readPart_27 rfl ?_
      refine dp_iconst C dX4_readPart_28 ?_
      refine dp_iadd C dX4_readPart_29 ?_
      refine dp_iload C dX4_readPart_30 rfl ?_
      refine dp_iadd C dX4_readPart_32 ?_
      refine dp_cVi C (c_X4_signAt C.2.2.1 l h ⟨by omega, by omega⟩) gX4_readPart_X4_signAt rfl (dp_mC (by decide)) dp_xtx rfl yyX4_signAt rfl ⟨Nat.le_of_ble_eq_true rfl, Nat.le_of_ble_eq_true rfl⟩ rfl (Nat.le_of_ble_eq_true rfl) rfl ⟨Nat.zero_le _, Nat.zero_le _⟩ dX4_readPart_33 (fun x33 M33 h33 => ?_)
      obtain ⟨rfl, rfl⟩ := h33
      refine dp_cSi C (c_X4_isDigit C.2.2.1 l ⟨by omega, by omega⟩) gX4_readPart_X4_isDigit rfl yyX4_isDigit rfl ⟨Nat.le_of_ble_eq_true rfl, Nat.le_of_ble_eq_true rfl⟩ rfl (Nat.le_of_ble_eq_true rfl) rfl ⟨Nat.zero_le _, Nat.zero_le _⟩ dX4_readPart_36 (fun x36 M36 h36 => ?_)
      obtain ⟨rfl, rfl⟩ := h36
      refine dp_ifz_eq (tgt := 67) C dX4_readPart_39 (by decide) (fun c39 => ?_) (fun c39 => ?_)
      · skip
        rw [if_neg c39] at hf
        have e1 : (rpG X s9 5 0 0).1 = d := by rw [← hf]
        have e2 : (rpG X s9 5 0 0).2 = v := by rw [← hf]
        exact J67 _ _ (by omega) (by omega) e1 e2 (by assumption)
      · skip
        rw [if_pos c39] at hf
        refine dp_iload_n C dX4_readPart_42 rfl ?_
        refine dp_bipush C dX4_readPart_43 (by decide) ?_
        refine dp_imul C dX4_readPart_45 ?_
        refine dp_aload_n C dX4_readPart_46 rfl ?_
        refine dp_iload_n C dX4_readPart_47 rfl ?_
        refine dp_iconst C dX4_readPart_48 ?_
        refine dp_iadd C dX4_readPart_49 ?_
        refine dp_iload C dX4_readPart_50 rfl ?_
        refine dp_iadd C dX4_readPart_52 ?_
        refine dp_cVi C (c_X4_signAt C.2.2.1 l h ⟨by omega, by omega⟩) gX4_readPart_X4_signAt rfl (dp_mC (by decide)) dp_xtx rfl yyX4_signAt rfl ⟨Nat.le_of_ble_eq_true rfl, Nat.le_of_ble_eq_true rfl⟩ rfl (Nat.le_of_ble_eq_true rfl) rfl ⟨Nat.zero_le _, Nat.zero_le _⟩ dX4_readPart_53 (fun x53 M53 h53 => ?_)
        obtain ⟨rfl, rfl⟩ := h53
        refine dp_bipush C dX4_readPart_56 (by decide) ?_
        refine dp_isub C dX4_readPart_58 ?_
        refine dp_iadd C dX4_readPart_59 ?_
        refine dp_istore_n C dX4_readPart_60 (Nat.le_of_ble_eq_true rfl) ?_
        dsimp only [List.set]
        refine dp_iinc C dX4_readPart_61 rfl ?_
        dsimp only [List.set]
        refine dp_goto (tgt := 20) C dX4_readPart_64 (by decide) ?_
        exact ih n (by omega) _ _ (by omega) (by omega) hq9 hf
  refine dp_aload_n C dX4_readPart_0 rfl ?_
  refine dp_iload_n C dX4_readPart_1 rfl ?_
  refine dp_cVi C (c_X4_signAt C.2.2.1 l h ⟨by omega, by omega⟩) gX4_readPart_X4_signAt rfl (dp_mC (by decide)) dp_xtx rfl yyX4_signAt rfl ⟨Nat.le_of_ble_eq_true rfl, Nat.le_of_ble_eq_true rfl⟩ rfl (Nat.le_of_ble_eq_true rfl) rfl ⟨Nat.zero_le _, Nat.zero_le _⟩ dX4_readPart_2 (fun x2 M2 h2 => ?_)
  obtain ⟨rfl, rfl⟩ := h2
  refine dp_getsN C C.2.2.2.2.2.2.2.2.1 C.2.2.2.2.2.2.2.2.2.1 dX4_readPart_5 ?_
  refine dp_iload_n C dX4_readPart_8 rfl ?_
  refine dp_tcld (j := q) C C.2.2.2.2.2.2.2.2.1 ⟨by omega, by omega⟩ (by decide) (Int.toNat_natCast _) dX4_readPart_9 ?_
  refine dp_icmp_eq (tgt := 15) C dX4_readPart_10 (by decide) ⟨by omega, by omega⟩ ⟨by omega, by omega⟩ (fun c10 => ?_) (fun c10 => ?_)
  · skip
    refine dp_iconst C dX4_readPart_15 ?_
    refine dp_istore_n C dX4_readPart_16 (Nat.le_of_ble_eq_true rfl) ?_
    dsimp only [List.set]
    refine dp_iconst C dX4_readPart_17 ?_
    refine dp_istore C dX4_readPart_18 (Nat.le_of_ble_eq_true rfl) ?_
    dsimp only [List.set]
    exact J20 5 0 0 (by omega) (by omega) (by assumption) rfl
  · skip
    refine dp_iconst C dX4_readPart_13 ?_
    refine dp_iret C hret dX4_readPart_14 ?_
    unfold rpR rpX
    rw [if_neg (by assumption), if_neg (by assumption)]
    exact ⟨rfl, rfl⟩
theorem yyX4_readTarget : yX4_readTarget.cls = RX4 ∧ yX4_readTarget.cls ≠ "java/lang/invoke/MethodHandle" ∧ yX4_readTarget.cls ≠ "java/lang/invoke/VarHandle" ∧ (parseMethodDescriptor yX4_readTarget.desc).map (fun d => d.parameters.length) = some 1 := by decide +kernel
set_option maxHeartbeats 4000000 in
set_option maxRecDepth 100000 in
theorem c_X4_readTarget {E : dp_E} (hE : dp_OK E) (l : Launch) {M : dp_M} {X : dp_V} (h : tOK X) {s9 : Int} (hs : 0 ≤ s9 ∧ s9 ≤ 100) : dp_met E l yX4_readTarget wsX4_readTarget 2 45 [.ref (eAd E 7 3), .int (dp_I s9)] (dR M 7 X) (dp_qi E (fun y M1 => y = rdR X s9 ∧ M1 = dR M 7 (rdX X X s9))) := by
  refine dp_of (cc := cX4_readTarget) (nL := 4) (own := RX4) (ret := some (.int)) (by decide +kernel) rfl rfl hE (by simp [Value.category]) (Nat.le_of_ble_eq_true rfl) ?_
  intro p e s m below meth co C hret
  show dp_G _ _ _ _ _ _ _ _ _ _ _ _ _ _ _ _ _ [some (.ref (eAd E 7 3)), some (.int (dp_I s9)), none, none] _
  have hX4 : ∀ w ∈ u_ws RX4 TX4 6, w ∈ wsX4_readTarget := fun w h => List.mem_cons_of_mem _ (List.mem_append_right _ (h))
  have J49 : ∀ (at9 : Int) (X' : dp_V), at9 = rdA X s9 → X' = rdX X X s9 → dp_G E (dp_A E) p l e (dp_rm 2 45) s m [.ref (eAd E 7 3), .int (dp_I s9)].toArray below meth co 0 0 (MQ below (dp_qi E (fun y M1 => y = rdR X s9 ∧ M1 = dR M 7 (rdX X X s9))) [.ref (eAd E 7 3), .int (dp_I s9)].toArray s 0 0 (dp_A E)) (dR M 7 X') 49 [some (.ref (eAd E 7 3)), some (.int (dp_I s9)), some (.int (dp_I at9)), some (.int (dp_I 5))] [] := by
    intro at9 X' ha hX
    subst ha
    subst hX
    have hS : txS (rdX X X s9) X := rdX_S
    have hb := @rdA_bd X s9 (by omega)
    have hg := @sgF_bd X (rdA X s9) h
    refine dp_aload_n C dX4_readTarget_49 rfl ?_
    refine dp_iload_n C dX4_readTarget_50 rfl ?_
    refine dp_cVi C (c_X4_signAt C.2.2.1 l (hS.ok h) ⟨by omega, by omega⟩) gX4_readTarget_X4_signAt rfl (dp_mC (by decide)) dp_xtx rfl yyX4_signAt rfl ⟨Nat.le_of_ble_eq_true rfl, Nat.le_of_ble_eq_true rfl⟩ rfl (Nat.le_of_ble_eq_true rfl) rfl ⟨Nat.zero_le _, Nat.zero_le _⟩ dX4_readTarget_51 (fun x51 M51 h51 => ?_)
    obtain ⟨rfl, rfl⟩ := h51
    rw [hS.sg]
    refine dp_bipush C dX4_readTarget_54 (by decide) ?_
    refine dp_icmp_ne (tgt := 65) C dX4_readTarget_56 (by decide) ⟨by omega, by omega⟩ ⟨by omega, by omega⟩ (fun c56 => ?_) (fun c56 => ?_)
    · skip
      refine dp_iconst C dX4_readTarget_65 ?_
      refine dp_iret C hret dX4_readTarget_66 ?_
      refine ⟨?_, rfl⟩
      unfold rdR
      repeat (first | rw [if_neg (by omega)] | rw [if_pos (by omega)])
    · skip
      refine dp_iload_n C dX4_readTarget_59 rfl ?_
      refine dp_iconst C dX4_readTarget_60 ?_
      refine dp_iadd C dX4_readTarget_61 ?_
      refine dp_goto (tgt := 66) C dX4_readTarget_62 (by decide) ?_
      refine dp_iret C hret dX4_readTarget_66 ?_
      refine ⟨?_, rfl⟩
      unfold rdR
      repeat (first | rw [if_neg (by omega)] | rw [if_pos (by omega)])
  have J4 : ∀ (n k : Nat) (ki : Int), k + n = 5 → ki = k → dp_G E (dp_A E) p l e (dp_rm 2 45) s m [.ref (eAd E 7 3), .int (dp_I s9)].toArray below meth co 0 0 (MQ below (dp_qi E (fun y M1 => y = rdR X s9 ∧ M1 = dR M 7 (rdX X X s9))) [.ref (eAd E 7 3), .int (dp_I s9)].toArray s 0 0 (dp_A E)) (dR M 7 (rtX X X s9 k)) 4 [some (.ref (eAd E 7 3)), some (.int (dp_I s9)), some (.int (dp_I (rtA X s9 k))), some (.int (dp_I ki))] [] := by
    refine dp_ind (fun n ih => ?_)
    intro k ki hkn hki
    subst hki
    have hS : txS (rtX X X s9 k) X := rtX_S
    have hb := @rtA_bd X s9 (by omega) k
    refine dp_iload_n C dX4_readTarget_4 rfl ?_
    refine dp_iconst C dX4_readTarget_5 ?_
    refine dp_icmp_ge (tgt := 22) C dX4_readTarget_6 (by decide) ⟨by omega, by omega⟩ ⟨by omega, by omega⟩ (fun c6 => ?_) (fun c6 => ?_)
    · skip
      obtain rfl : n = 0 := by omega
      obtain rfl : k = 5 := by omega
      have hS5 : txS (u2 (rtX X X s9 5) 5 5 0) X := hS.u5
      have hg := @sgF_bd X (rtA X s9 5) h
      refine dp_aload_n C dX4_readTarget_22 rfl ?_
      refine dp_getf C (k := 2) (dp_mC (by decide)) dp_xtx rfl hX4 (by decide) (List.mem_of_getElem? (i := 1) rfl) rfl dX4_readTarget_23 ?_
      refine dp_iconst C dX4_readTarget_26 ?_
      refine dp_iconst C dX4_readTarget_27 ?_
      refine dp_ast_nu C ⟨by omega, by omega⟩ rfl dX4_readTarget_28 ?_
      refine dp_aload_n C dX4_readTarget_29 rfl ?_
      refine dp_iload_n C dX4_readTarget_30 rfl ?_
      refine dp_cVi C (c_X4_signAt C.2.2.1 l (hS5.ok h) ⟨by omega, by omega⟩) gX4_readTarget_X4_signAt rfl (dp_mC (by decide)) dp_xtx rfl yyX4_signAt rfl ⟨Nat.le_of_ble_eq_true rfl, Nat.le_of_ble_eq_true rfl⟩ rfl (Nat.le_of_ble_eq_true rfl) rfl ⟨Nat.zero_le _, Nat.zero_le _⟩ dX4_readTarget_31 (fun x31 M31 h31 => ?_)
      obtain ⟨rfl, rfl⟩ := h31
      rw [hS5.sg]
      refine dp_getsN C C.2.2.2.2.2.2.2.2.1 C.2.2.2.2.2.2.2.2.2.1 dX4_readTarget_34 ?_
      refine dp_iconst C dX4_readTarget_37 ?_
      refine dp_tcld (j := 5) C C.2.2.2.2.2.2.2.2.1 ⟨by omega, by omega⟩ (by decide) rfl dX4_readTarget_38 ?_
      refine dp_icmp_ne (tgt := 49) C dX4_readTarget_39 (by decide) ⟨by omega, by omega⟩ ⟨by decide, by decide⟩ (fun c39 => ?_) (fun c39 => ?_)
      · skip
        have c9 : ¬ sgF X (rtA X s9 5) = 112 := c39
        exact J49 _ _ (by unfold rdA; first | (rw [if_pos (by assumption)]; done) | (rw [if_neg (by assumption)])) (by unfold rdX; first | (rw [if_pos (by assumption)]; done) | (rw [if_neg (by assumption)]))
      · skip
        have c9 : sgF X (rtA X s9 5) = 112 := c39
        refine dp_aload_n C dX4_readTarget_42 rfl ?_
        refine dp_iload_n C dX4_readTarget_43 rfl ?_
        refine dp_iconst C dX4_readTarget_44 ?_
        refine dp_cVi C (c_X4_readPart C.2.2.1 l (hS5.ok h) (by omega) (show 5 < 6 by decide)) gX4_readTarget_X4_readPart rfl (dp_mC (by decide)) dp_xtx rfl yyX4_readPart rfl ⟨Nat.le_of_ble_eq_true rfl, Nat.le_of_ble_eq_true rfl⟩ rfl (Nat.le_of_ble_eq_true rfl) rfl ⟨Nat.zero_le _, Nat.zero_le _⟩ dX4_readTarget_45 (fun x45 M45 h45 => ?_)
        obtain ⟨rfl, rfl⟩ := h45
        rw [rpR_tx hS5.sg, rpX_tx hS5.sg]
        refine dp_istore_n C dX4_readTarget_48 (Nat.le_of_ble_eq_true rfl) ?_
        dsimp only [List.set]
        exact J49 _ _ (by unfold rdA; first | (rw [if_pos (by assumption)]; done) | (rw [if_neg (by assumption)])) (by unfold rdX; first | (rw [if_pos (by assumption)]; done) | (rw [if_neg (by assumption)]))
    · skip
      obtain ⟨n, rfl⟩ : ∃ n', n = n' + 1 := ⟨n - 1, by omega⟩
      refine dp_aload_n C dX4_readTarget_9 rfl ?_
      refine dp_iload_n C dX4_readTarget_10 rfl ?_
      refine dp_iload_n C dX4_readTarget_11 rfl ?_
      refine dp_cVi C (c_X4_readPart C.2.2.1 l (hS.ok h) (by omega) (show k < 6 by omega)) gX4_readTarget_X4_readPart rfl (dp_mC (by decide)) dp_xtx rfl yyX4_readPart rfl ⟨Nat.le_of_ble_eq_true rfl, Nat.le_of_ble_eq_true rfl⟩ rfl (Nat.le_of_ble_eq_true rfl) rfl ⟨Nat.zero_le _, Nat.zero_le _⟩ dX4_readTarget_12 (fun x12 M12 h12 => ?_)
      obtain ⟨rfl, rfl⟩ := h12
      rw [rpR_tx hS.sg, rpX_tx hS.sg]
      rw [show rpR X (rtA X s9 k) k = rtA X s9 (k + 1) from rfl, show rpX X (rtX X X s9 k) (rtA X s9 k) k = rtX X X s9 (k + 1) from rfl]
      refine dp_istore_n C dX4_readTarget_15 (Nat.le_of_ble_eq_true rfl) ?_
      dsimp only [List.set]
      refine dp_iinc C dX4_readTarget_16 rfl ?_
      dsimp only [List.set]
      refine dp_goto (tgt := 4) C dX4_readTarget_19 (by decide) ?_
      exact ih n (by omega) (k + 1) _ (by omega) (by omega)
  refine dp_iload_n C dX4_readTarget_0 rfl ?_
  refine dp_istore_n C dX4_readTarget_1 (Nat.le_of_ble_eq_true rfl) ?_
  dsimp only [List.set]
  refine dp_iconst C dX4_readTarget_2 ?_
  refine dp_istore_n C dX4_readTarget_3 (Nat.le_of_ble_eq_true rfl) ?_
  dsimp only [List.set]
  exact J4 5 0 0 (by omega) rfl
theorem yyX4_reasonAgainstEntry : yX4_reasonAgainstEntry.cls = RX4 ∧ yX4_reasonAgainstEntry.cls ≠ "java/lang/invoke/MethodHandle" ∧ yX4_reasonAgainstEntry.cls ≠ "java/lang/invoke/VarHandle" ∧ (parseMethodDescriptor yX4_reasonAgainstEntry.desc).map (fun d => d.parameters.length) = some 2 := by decide +kernel
set_option maxHeartbeats 4000000 in
set_option maxRecDepth 100000 in
theorem c_X4_reasonAgainstEntry {E : dp_E} (hE : dp_OK E) (l : Launch) {M : dp_M} {X : dp_V} (hn : nOK X) {en room : Int} (he : dp_R en) (hr : 0 ≤ room ∧ room ≤ 10) (h31 : 0 ≤ X 3 1 ∧ X 3 1 ≤ 100) : dp_met E l yX4_reasonAgainstEntry wsX4_reasonAgainstEntry 2 47 [.ref (eAd E 7 3), .int (dp_I en), .int (dp_I room)] (dR M 7 X) (dp_qi E (fun y M1 => y = reF X en room ∧ M1 = dR M 7 X)) := by
  refine dp_of (cc := cX4_reasonAgainstEntry) (nL := 3) (own := RX4) (ret := some (.int)) (by decide +kernel) rfl rfl hE (by simp [Value.category]) (Nat.le_of_ble_eq_true rfl) ?_
  intro p e s m below meth co C hret
  show dp_G _ _ _ _ _ _ _ _ _ _ _ _ _ _ _ _ _ [some (.ref (eAd E 7 3)), some (.int (dp_I en)), some (.int (dp_I room))] _
  have hX4 : ∀ w ∈ u_ws RX4 TX4 6, w ∈ wsX4_reasonAgainstEntry := fun w h => List.mem_cons_of_mem _ (List.mem_append_right _ (h))
  unfold dp_R at he
  have n0 := hn 0 (by decide)
  have n1 := hn 1 (by decide)
  have n2 := hn 2 (by decide)
  have n3 := hn 3 (by decide)
  have n4 := hn 4 (by decide)
  have n5 := hn 5 (by decide)
  refine dp_iload_n C dX4_reasonAgainstEntry_0 rfl ?_
  refine dp_iconst C dX4_reasonAgainstEntry_1 ?_
  refine dp_icmp_ne (tgt := 7) C dX4_reasonAgainstEntry_2 (by decide) ⟨by omega, by omega⟩ ⟨by omega, by omega⟩ (fun c2 => ?_) (fun c2 => ?_)
  · skip
    refine dp_aload_n C dX4_reasonAgainstEntry_7 rfl ?_
    refine dp_getf C (k := 2) (dp_mC (by decide)) dp_xtx rfl hX4 (by decide) (List.mem_of_getElem? (i := 1) rfl) rfl dX4_reasonAgainstEntry_8 ?_
    refine dp_iconst C dX4_reasonAgainstEntry_11 ?_
    refine dp_ald_nu C (j := 0) ⟨by omega, by omega⟩ rfl dX4_reasonAgainstEntry_12 ?_
    refine dp_aload_n C dX4_reasonAgainstEntry_13 rfl ?_
    refine dp_getf C (k := 2) (dp_mC (by decide)) dp_xtx rfl hX4 (by decide) (List.mem_of_getElem? (i := 1) rfl) rfl dX4_reasonAgainstEntry_14 ?_
    refine dp_iconst C dX4_reasonAgainstEntry_17 ?_
    refine dp_ald_nu C (j := 1) ⟨by omega, by omega⟩ rfl dX4_reasonAgainstEntry_18 ?_
    refine dp_aload_n C dX4_reasonAgainstEntry_19 rfl ?_
    refine dp_getf C (k := 2) (dp_mC (by decide)) dp_xtx rfl hX4 (by decide) (List.mem_of_getElem? (i := 1) rfl) rfl dX4_reasonAgainstEntry_20 ?_
    refine dp_iconst C dX4_reasonAgainstEntry_23 ?_
    refine dp_ald_nu C (j := 2) ⟨by omega, by omega⟩ rfl dX4_reasonAgainstEntry_24 ?_
    refine dp_aload_n C dX4_reasonAgainstEntry_25 rfl ?_
    refine dp_getf C (k := 2) (dp_mC (by decide)) dp_xtx rfl hX4 (by decide) (List.mem_of_getElem? (i := 1) rfl) rfl dX4_reasonAgainstEntry_26 ?_
    refine dp_iconst C dX4_reasonAgainstEntry_29 ?_
    refine dp_ald_nu C (j := 3) ⟨by omega, by omega⟩ rfl dX4_reasonAgainstEntry_30 ?_
    refine dp_aload_n C dX4_reasonAgainstEntry_31 rfl ?_
    refine dp_getf C (k := 2) (dp_mC (by decide)) dp_xtx rfl hX4 (by decide) (List.mem_of_getElem? (i := 1) rfl) rfl dX4_reasonAgainstEntry_32 ?_
    refine dp_iconst C dX4_reasonAgainstEntry_35 ?_
    refine dp_ald_nu C (j := 4) ⟨by omega, by omega⟩ rfl dX4_reasonAgainstEntry_36 ?_
    refine dp_aload_n C dX4_reasonAgainstEntry_37 rfl ?_
    refine dp_getf C (k := 2) (dp_mC (by decide)) dp_xtx rfl hX4 (by decide) (List.mem_of_getElem? (i := 1) rfl) rfl dX4_reasonAgainstEntry_38 ?_
    refine dp_iconst C dX4_reasonAgainstEntry_41 ?_
    refine dp_ald_nu C (j := 5) ⟨by omega, by omega⟩ rfl dX4_reasonAgainstEntry_42 ?_
    refine dp_cNi C (c_X6_isTargetInRange C.2.2.1 l ⟨by omega, by omega⟩ ⟨by omega, by omega⟩ ⟨by omega, by omega⟩ ⟨by omega, by omega⟩ ⟨by omega, by omega⟩ ⟨by omega, by omega⟩) gX4_reasonAgainstEntry_X6_isTargetInRange_n40 rfl C.2.2.2.2.2.2.2.2.2.2.1 (List.mem_of_getElem? (i := 3) rfl) (List.mem_of_getElem? (i := 4) rfl) yyX6_isTargetInRange rfl ⟨Nat.le_of_ble_eq_true rfl, Nat.le_of_ble_eq_true rfl⟩ rfl (Nat.le_of_ble_eq_true rfl) rfl ⟨Nat.zero_le _, Nat.zero_le _⟩ dX4_reasonAgainstEntry_43 (fun x43 M43 h43 => ?_)
    obtain ⟨rfl, rfl⟩ := h43
    refine dp_if_ne (tgt := 51) C dX4_reasonAgainstEntry_46 (by decide) dp_Rb (fun c46 => ?_) (fun c46 => ?_)
    · skip
      refine dp_aload_n C dX4_reasonAgainstEntry_51 rfl ?_
      refine dp_getf C (k := 3) (dp_mC (by decide)) dp_xtx rfl hX4 (by decide) (List.mem_of_getElem? (i := 2) rfl) rfl dX4_reasonAgainstEntry_52 ?_
      refine dp_iload_n C dX4_reasonAgainstEntry_55 rfl ?_
      refine dp_icmp_lt (tgt := 63) C dX4_reasonAgainstEntry_56 (by decide) ⟨by omega, by omega⟩ ⟨by omega, by omega⟩ (fun c56 => ?_) (fun c56 => ?_)
      · skip
        refine dp_iconst C dX4_reasonAgainstEntry_63 ?_
        refine dp_iret C hret dX4_reasonAgainstEntry_64 ?_
        refine ⟨?_, rfl⟩
        unfold reF
        repeat (first | rw [if_neg (by omega)] | rw [if_pos (by omega)])
      · skip
        refine dp_iconst C dX4_reasonAgainstEntry_59 ?_
        refine dp_goto (tgt := 64) C dX4_reasonAgainstEntry_60 (by decide) ?_
        refine dp_iret C hret dX4_reasonAgainstEntry_64 ?_
        refine ⟨?_, rfl⟩
        unfold reF
        repeat (first | rw [if_neg (by omega)] | rw [if_pos (by omega)])
    · skip
      refine dp_iconst C dX4_reasonAgainstEntry_49 ?_
      refine dp_iret C hret dX4_reasonAgainstEntry_50 ?_
      refine ⟨?_, rfl⟩
      unfold reF
      repeat (first | rw [if_neg (by omega)] | rw [if_pos (by omega)])
  · skip
    refine dp_iconst C dX4_reasonAgainstEntry_5 ?_
    refine dp_iret C hret dX4_reasonAgainstEntry_6 ?_
    refine ⟨?_, rfl⟩
    unfold reF
    repeat (first | rw [if_neg (by omega)] | rw [if_pos (by omega)])
theorem yyX4_check : yX4_check.cls = RX4 ∧ yX4_check.cls ≠ "java/lang/invoke/MethodHandle" ∧ yX4_check.cls ≠ "java/lang/invoke/VarHandle" ∧ (parseMethodDescriptor yX4_check.desc).map (fun d => d.parameters.length) = some 1 := by decide +kernel
set_option maxHeartbeats 4000000 in
set_option maxRecDepth 100000 in
theorem c_X4_check {E : dp_E} (hE : dp_OK E) (l : Launch) {M : dp_M} {X : dp_V} (h : tOK X) (hn : nOK X) {room : Int} (hr : 0 ≤ room ∧ room ≤ 10) : dp_met E l yX4_check wsX4_check 3 69 [.ref (eAd E 7 3), .int (dp_I room)] (dR M 7 X) (dp_qv E (fun M1 => M1 = dR M 7 (ckX X room))) := by
  refine dp_of (cc := cX4_check) (nL := 5) (own := RX4) (ret := none) (by decide +kernel) rfl rfl hE (by simp [Value.category]) (Nat.le_of_ble_eq_true rfl) ?_
  intro p e s m below meth co C hret
  show dp_G _ _ _ _ _ _ _ _ _ _ _ _ _ _ _ _ _ [some (.ref (eAd E 7 3)), some (.int (dp_I room)), none, none, none] _
  have hX4 : ∀ w ∈ u_ws RX4 TX4 6, w ∈ wsX4_check := fun w h => List.mem_cons_of_mem _ (List.mem_append_right _ (h))
  have J14 : ∀ (n : Nat) (X' : dp_V) (s9 ki : Int) (o : Option Value), ki + n = 100 → 0 ≤ ki → 0 ≤ s9 ∧ s9 ≤ 100 → X' 3 0 = X 3 0 → X' 4 = X 4 → nOK X' → 0 ≤ X' 3 1 ∧ X' 3 1 ≤ ki → ckG X room n X' s9 = ckX X room → dp_G E (dp_A E) p l e (dp_rm 3 69) s m [.ref (eAd E 7 3), .int (dp_I room)].toArray below meth co 0 0 (MQ below (dp_qv E (fun M1 => M1 = dR M 7 (ckX X room))) [.ref (eAd E 7 3), .int (dp_I room)].toArray s 0 0 (dp_A E)) (dR M 7 X') 14 [some (.ref (eAd E 7 3)), some (.int (dp_I room)), some (.int (dp_I s9)), some (.int (dp_I ki)), o] [] := by
    refine dp_ind (fun n ih => ?_)
    intro X' s9 ki o hkn hk0 hs e30 e4 hn' h31 hf
    have hg : sgF X' = sgF X := sgF_tx e30 e4
    have h' : tOK X' := by
      unfold tOK at h ⊢
      rw [e30, e4]
      exact h
    have hlen := h'.2.1
    have hlen0 := h'.1
    refine dp_iload_n C dX4_check_14 rfl ?_
    refine dp_bipush C dX4_check_15 (by decide) ?_
    refine dp_icmp_ge (tgt := 78) C dX4_check_17 (by decide) ⟨by omega, by omega⟩ ⟨by omega, by omega⟩ (fun c17 => ?_) (fun c17 => ?_)
    · skip
      obtain rfl : n = 0 := by omega
      refine dp_vret C hret dX4_check_78 ?_
      rw [← hf]
      try rfl
    · skip
      obtain ⟨n, rfl⟩ : ∃ n', n = n' + 1 := ⟨n - 1, by omega⟩
      rw [show ckG X room (n + 1) X' s9 = (if s9 < X 3 0 then (if reF (rdX X X' s9) (rdR X s9) room = 0 then ckG X room n (u2 (u2 (rdX X X' s9) 3 3 (reF (rdX X X' s9) (rdR X s9) room)) 3 1 (rdX X X' s9 3 1 + 1)) (rdR X s9) else u2 (u2 (rdX X X' s9) 3 3 (reF (rdX X X' s9) (rdR X s9) room)) 3 2 s9) else X') from rfl] at hf
      refine dp_iload_n C dX4_check_20 rfl ?_
      refine dp_aload_n C dX4_check_21 rfl ?_
      refine dp_getf C (k := 1) (dp_mC (by decide)) dp_xtx rfl hX4 (by decide) (List.mem_of_getElem? (i := 3) rfl) rfl dX4_check_22 ?_
      refine dp_icmp_ge (tgt := 78) C dX4_check_25 (by decide) ⟨by omega, by omega⟩ ⟨by omega, by omega⟩ (fun c25 => ?_) (fun c25 => ?_)
      · skip
        rw [if_neg (by omega)] at hf
        refine dp_vret C hret dX4_check_78 ?_
        rw [← hf]
        try rfl
      · skip
        rw [if_pos (by omega)] at hf
        have eR : rdR X' s9 = rdR X s9 := rdR_tx hg
        have eX : rdX X' X' s9 = rdX X X' s9 := rdX_tx hg
        have hS : txS (rdX X X' s9) X' := rdX_S
        have hn2 : nOK (rdX X X' s9) := rdX_n hn'
        have h312 : rdX X X' s9 3 1 = X' 3 1 := by rw [hS.1]
        have hR := @rdR_bd X s9
        have hF := @reF_bd (rdX X X' s9) (rdR X s9) room
        refine dp_aload_n C dX4_check_28 rfl ?_
        refine dp_iload_n C dX4_check_29 rfl ?_
        refine dp_cVi C (c_X4_readTarget C.2.2.1 l h' (by omega)) gX4_check_X4_readTarget rfl (dp_mC (by decide)) dp_xtx rfl yyX4_readTarget rfl ⟨Nat.le_of_ble_eq_true rfl, Nat.le_of_ble_eq_true rfl⟩ rfl (Nat.le_of_ble_eq_true rfl) rfl ⟨Nat.zero_le _, Nat.zero_le _⟩ dX4_check_30 (fun x30 M30 h30 => ?_)
        obtain ⟨rfl, rfl⟩ := h30
        rw [eR, eX]
        refine dp_istore C dX4_check_33 (Nat.le_of_ble_eq_true rfl) ?_
        dsimp only [List.set]
        refine dp_aload_n C dX4_check_35 rfl ?_
        refine dp_aload_n C dX4_check_36 rfl ?_
        refine dp_iload C dX4_check_37 rfl ?_
        refine dp_iload_n C dX4_check_39 rfl ?_
        refine dp_cVi C (c_X4_reasonAgainstEntry C.2.2.1 l hn2 ⟨by omega, by omega⟩ (by omega) (by rw [h312]; omega)) gX4_check_X4_reasonAgainstEntry rfl (dp_mC (by decide)) dp_xtx rfl yyX4_reasonAgainstEntry rfl ⟨Nat.le_of_ble_eq_true rfl, Nat.le_of_ble_eq_true rfl⟩ rfl (Nat.le_of_ble_eq_true rfl) rfl ⟨Nat.zero_le _, Nat.zero_le _⟩ dX4_check_40 (fun x40 M40 h40 => ?_)
        obtain ⟨rfl, rfl⟩ := h40
        refine dp_putX C  (k := 3) hX4 (by decide) (List.mem_of_getElem? (i := 2) rfl) rfl (tyX4_ok _ (by decide)) rfl rfl dX4_check_43 ?_
        refine dp_aload_n C dX4_check_46 rfl ?_
        refine dp_getf C (k := 5) (dp_mC (by decide)) dp_xtx rfl hX4 (by decide) (List.mem_of_getElem? (i := 2) rfl) rfl dX4_check_47 ?_
        refine dp_if_eq (tgt := 59) C dX4_check_50 (by decide) (by rw [u2_same, u1_same]; exact ⟨by omega, by omega⟩) (fun c50 => ?_) (fun c50 => ?_)
        · skip
          rw [u2_same, u1_same] at c50
          rw [if_pos c50] at hf
          have hR2 := reF_0 c50
          have e31 : u2 (rdX X X' s9) 3 3 (reF (rdX X X' s9) (rdR X s9) room) 3 1 = rdX X X' s9 3 1 := by rw [u2_same, u1_ne (by decide)]
          have e31' := h312
          refine dp_aload_n C dX4_check_59 rfl ?_
          refine dp_dup C dX4_check_60 rfl ?_
          refine dp_getf C (k := 3) (dp_mC (by decide)) dp_xtx rfl hX4 (by decide) (List.mem_of_getElem? (i := 1) rfl) rfl dX4_check_61 ?_
          rw [e31]
          refine dp_iconst C dX4_check_64 ?_
          refine dp_iadd C dX4_check_65 ?_
          refine dp_putX C  (k := 1) hX4 (by decide) (List.mem_of_getElem? (i := 1) rfl) rfl (tyX4_ok _ (by decide)) rfl rfl dX4_check_66 ?_
          refine dp_iload C dX4_check_69 rfl ?_
          refine dp_istore_n C dX4_check_71 (Nat.le_of_ble_eq_true rfl) ?_
          dsimp only [List.set]
          refine dp_iinc C dX4_check_72 rfl ?_
          dsimp only [List.set]
          refine dp_goto (tgt := 14) C dX4_check_75 (by decide) ?_
          refine ih n (by omega) _ _ _ _ (by omega) (by omega) (by omega) ?_ ?_ hn2.u3.u3 ?_ hf
          · rw [u2_same, u1_ne (by decide), u2_same, u1_ne (by decide), hS.1, e30]
          · rw [u2_ne (by decide), u2_ne (by decide), hS.2, e4]
          · rw [u2_same, u1_same]
            omega
        · skip
          rw [u2_same, u1_same] at c50
          rw [if_neg c50] at hf
          refine dp_aload_n C dX4_check_53 rfl ?_
          refine dp_iload_n C dX4_check_54 rfl ?_
          refine dp_putX C  (k := 2) hX4 (by decide) (List.mem_of_getElem? (i := 4) rfl) rfl (tyX4_ok _ (by decide)) rfl rfl dX4_check_55 ?_
          refine dp_vret C hret dX4_check_58 ?_
          rw [← hf]
  refine dp_aload_n C dX4_check_0 rfl ?_
  refine dp_iconst C dX4_check_1 ?_
  refine dp_putX C  (k := 1) hX4 (by decide) (List.mem_of_getElem? (i := 1) rfl) rfl (tyX4_ok _ (by decide)) rfl rfl dX4_check_2 ?_
  refine dp_aload_n C dX4_check_5 rfl ?_
  refine dp_iconst C dX4_check_6 ?_
  refine dp_putX C  (k := 3) hX4 (by decide) (List.mem_of_getElem? (i := 2) rfl) rfl (tyX4_ok _ (by decide)) rfl rfl dX4_check_7 ?_
  refine dp_iconst C dX4_check_10 ?_
  refine dp_istore_n C dX4_check_11 (Nat.le_of_ble_eq_true rfl) ?_
  dsimp only [List.set]
  refine dp_iconst C dX4_check_12 ?_
  refine dp_istore_n C dX4_check_13 (Nat.le_of_ble_eq_true rfl) ?_
  dsimp only [List.set]
  refine J14 100 _ 0 0 _ (by omega) (by omega) (by omega) ?_ ?_ hn.u3.u3 ?_ rfl
  · rw [u2_same, u1_ne (by decide), u2_same, u1_ne (by decide)]
  · rw [u2_ne (by decide), u2_ne (by decide)]
  · rw [u2_same, u1_ne (by decide), u2_same, u1_same]
    omega
