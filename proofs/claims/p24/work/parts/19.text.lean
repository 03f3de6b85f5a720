/-! THE TEXT: cell 3 of region 7: length, entries, place and reason of the fault; cell 4 its signs; cell 5 the numbers read last -/
def sgF (X : dp_V) (i : Int) : Int := if i < 0 then 0 else if i < X 3 0 then (if i < 100 then X 4 i.toNat else 0) else 0
def tOK (X : dp_V) : Prop := 0 ≤ X 3 0 ∧ X 3 0 ≤ 100 ∧ ∀ i, i < 100 → 0 ≤ X 4 i ∧ X 4 i ≤ 126
def nOK (X : dp_V) : Prop := ∀ i, i < 6 → 0 ≤ X 5 i ∧ X 5 i ≤ 99999
def rpG (X : dp_V) (s : Int) : Nat → Int → Int → Int × Int
  | 0, d, v => (d, v)
  | n + 1, d, v => if 48 ≤ sgF X (s + 1 + d) ∧ sgF X (s + 1 + d) ≤ 57 then rpG X s n (d + 1) (v * 10 + (sgF X (s + 1 + d) - 48)) else (d, v)
def irF (a b c d e f : Int) : Int := dp_b (0 ≤ a ∧ a ≤ 35999 ∧ 500 ≤ b ∧ b ≤ 8500 ∧ 0 ≤ c ∧ c ≤ 43200 ∧ 0 ≤ d ∧ d ≤ 43200 ∧ c < d ∧ 1 ≤ e ∧ e ≤ 600 ∧ 0 ≤ f ∧ f ≤ 9)
def reF (X : dp_V) (en room : Int) : Int := if en = -1 then 1 else if irF (X 5 0) (X 5 1) (X 5 2) (X 5 3) (X 5 4) (X 5 5) = 0 then 2 else if X 3 1 < room then 0 else 3
theorem sgF_bd {X : dp_V} {i : Int} (h : tOK X) : 0 ≤ sgF X i ∧ sgF X i ≤ 126 := by
  unfold sgF
  split
  · omega
  · split
    · split
      · exact h.2.2 _ (by omega)
      · omega
    · omega
theorem sgF_at {X : dp_V} {i : Int} (h : ¬ sgF X i = 0) : 0 ≤ i ∧ i < 100 ∧ i < X 3 0 := by
  unfold sgF at h
  repeat' split at h
  all_goals omega
theorem sgF_tx {X T : dp_V} (h0 : X 3 0 = T 3 0) (h4 : X 4 = T 4) : sgF X = sgF T := by
  funext i
  unfold sgF
  rw [h0, h4]
theorem rpG_tx {X T : dp_V} {s : Int} (h : sgF X = sgF T) : rpG X s = rpG T s := by
  funext n
  induction n with
  | zero => rfl
  | succ n ih =>
    funext d v
    show (if _ then _ else _) = (if _ then _ else _)
    rw [h, ih]
theorem rpG_d {X : dp_V} {s : Int} : ∀ {n : Nat} {d v : Int}, d ≤ (rpG X s n d v).1 ∧ (rpG X s n d v).1 ≤ d + n := by
  intro n
  induction n with
  | zero =>
    intro d v
    exact ⟨Int.le_refl d, by show d ≤ d + 0; omega⟩
  | succ n ih =>
    intro d v
    unfold rpG
    split
    · have := @ih (d + 1) (v * 10 + (sgF X (s + 1 + d) - 48))
      omega
    · show d ≤ d ∧ d ≤ d + _
      omega
theorem rpG_v1 {X : dp_V} {s : Int} {n : Nat} {d v b : Int} (hb : ∀ d' v', 0 ≤ v' → v' ≤ v * 10 + 9 → 0 ≤ (rpG X s n d' v').2 ∧ (rpG X s n d' v').2 ≤ b) (h0 : 0 ≤ v) (h1 : v ≤ b) : 0 ≤ (rpG X s (n + 1) d v).2 ∧ (rpG X s (n + 1) d v).2 ≤ b := by
  unfold rpG
  split
  · exact hb _ _ (by omega) (by omega)
  · exact ⟨h0, h1⟩
theorem rpG_v {X : dp_V} {s : Int} : 0 ≤ (rpG X s 5 0 0).2 ∧ (rpG X s 5 0 0).2 ≤ 99999 := by
  refine rpG_v1 (fun d1 v1 a1 b1 => ?_) (by omega) (by omega)
  refine rpG_v1 (fun d2 v2 a2 b2 => ?_) (by omega) (by omega)
  refine rpG_v1 (fun d3 v3 a3 b3 => ?_) (by omega) (by omega)
  refine rpG_v1 (fun d4 v4 a4 b4 => ?_) (by omega) (by omega)
  refine rpG_v1 (fun d5 v5 a5 b5 => ?_) (by omega) (by omega)
  show 0 ≤ v5 ∧ v5 ≤ 99999
  omega
/-- the cells of the text itself stay -/
def txS (X T : dp_V) : Prop := X 3 = T 3 ∧ X 4 = T 4
theorem txS.u5 {X Z : dp_V} {k : Nat} {x : Int} (h : txS X Z) : txS (u2 X 5 k x) Z := ⟨(u2_ne (by decide)).trans h.1, (u2_ne (by decide)).trans h.2⟩
theorem txS.sg {X T : dp_V} (h : txS X T) : sgF X = sgF T := sgF_tx (by rw [h.1]) h.2
theorem txS.ok {X T : dp_V} (h : txS X T) (hT : tOK T) : tOK X := by
  unfold tOK at *
  rw [h.1, h.2]
  exact hT
theorem nOK.u5 {X : dp_V} {k : Nat} {x : Int} (h : nOK X) (hx : 0 ≤ x ∧ x ≤ 99999) : nOK (u2 X 5 k x) := fun i hi => by
  rw [u2_same]
  unfold u1
  split
  · exact hx
  · exact h i hi
theorem nOK.u3 {X : dp_V} {k : Nat} {x : Int} (h : nOK X) : nOK (u2 X 3 k x) := fun i hi => by
  rw [u2_ne (by decide)]
  exact h i hi
theorem reF_bd {X : dp_V} {en room : Int} : 0 ≤ reF X en room ∧ reF X en room ≤ 3 := by
  unfold reF
  repeat' split
  all_goals omega
theorem reF_0 {X : dp_V} {en room : Int} (h : reF X en room = 0) : ¬ en = -1 ∧ X 3 1 < room ∧ ¬ irF (X 5 0) (X 5 1) (X 5 2) (X 5 3) (X 5 4) (X 5 5) = 0 := by
  unfold reF at h
  repeat' split at h
  all_goals first | omega | exact ⟨by assumption, by assumption, by assumption⟩
theorem yyX6_isBetween : yX6_isBetween.cls ≠ "java/lang/invoke/MethodHandle" ∧ yX6_isBetween.cls ≠ "java/lang/invoke/VarHandle" ∧ (parseMethodDescriptor yX6_isBetween.desc).map (fun d => d.parameters.length) = some 3 := by decide +kernel
set_option maxHeartbeats 4000000 in
set_option maxRecDepth 100000 in
theorem c_X6_isBetween {E : dp_E} (hE : dp_OK E) (l : Launch) {M : dp_M} {x lo hi : Int} (hx : dp_R x) (hl : dp_R lo) (hh : dp_R hi) : dp_met E l yX6_isBetween wsX6_isBetween 0 0 [.int (dp_I x), .int (dp_I lo), .int (dp_I hi)] (M) (dp_qi E (fun y M1 => y = dp_b (lo ≤ x ∧ x ≤ hi) ∧ M1 = M)) := by
  refine dp_of (cc := cX6_isBetween) (nL := 3) (own := RX6) (ret := some (.boolean)) (by decide +kernel) rfl rfl hE (by simp [Value.category]) (Nat.le_of_ble_eq_true rfl) ?_
  intro p e s m below meth co C hret
  show dp_G _ _ _ _ _ _ _ _ _ _ _ _ _ _ _ _ _ [some (.int (dp_I x)), some (.int (dp_I lo)), some (.int (dp_I hi))] _
  unfold dp_R at hx hl hh
  refine dp_iload_n C dX6_isBetween_0 rfl ?_
  refine dp_iload_n C dX6_isBetween_1 rfl ?_
  refine dp_icmp_lt (tgt := 14) C dX6_isBetween_2 (by decide) ⟨by omega, by omega⟩ ⟨by omega, by omega⟩ (fun c2 => ?_) (fun c2 => ?_)
  · skip
    refine dp_iconst C dX6_isBetween_14 ?_
    refine dp_zret C hret (by first | decide | exact dp_nb) dX6_isBetween_15 ?_
    exact ⟨by first | exact (dp_b_t (by omega)).symm | exact (dp_b_f (by omega)).symm, rfl⟩
  · skip
    refine dp_iload_n C dX6_isBetween_5 rfl ?_
    refine dp_iload_n C dX6_isBetween_6 rfl ?_
    refine dp_icmp_gt (tgt := 14) C dX6_isBetween_7 (by decide) ⟨by omega, by omega⟩ ⟨by omega, by omega⟩ (fun c7 => ?_) (fun c7 => ?_)
    · skip
      refine dp_iconst C dX6_isBetween_14 ?_
      refine dp_zret C hret (by first | decide | exact dp_nb) dX6_isBetween_15 ?_
      exact ⟨by first | exact (dp_b_t (by omega)).symm | exact (dp_b_f (by omega)).symm, rfl⟩
    · skip
      refine dp_iconst C dX6_isBetween_10 ?_
      refine dp_goto (tgt := 15) C dX6_isBetween_11 (by decide) ?_
      refine dp_zret C hret (by first | decide | exact dp_nb) dX6_isBetween_15 ?_
      exact ⟨by first | exact (dp_b_t (by omega)).symm | exact (dp_b_f (by omega)).symm, rfl⟩
theorem yyX6_isTargetInRange : yX6_isTargetInRange.cls ≠ "java/lang/invoke/MethodHandle" ∧ yX6_isTargetInRange.cls ≠ "java/lang/invoke/VarHandle" ∧ (parseMethodDescriptor yX6_isTargetInRange.desc).map (fun d => d.parameters.length) = some 6 := by decide +kernel
set_option maxHeartbeats 4000000 in
set_option maxRecDepth 100000 in
theorem c_X6_isTargetInRange {E : dp_E} (hE : dp_OK E) (l : Launch) {M : dp_M} {a0 a1 a2 a3 a4 a5 : Int} (ha0 : dp_R a0) (ha1 : dp_R a1) (ha2 : dp_R a2) (ha3 : dp_R a3) (ha4 : dp_R a4) (ha5 : dp_R a5) : dp_met E l yX6_isTargetInRange wsX6_isTargetInRange 1 22 [.int (dp_I a0), .int (dp_I a1), .int (dp_I a2), .int (dp_I a3), .int (dp_I a4), .int (dp_I a5)] (M) (dp_qi E (fun y M1 => y = irF a0 a1 a2 a3 a4 a5 ∧ M1 = M)) := by
  refine dp_of (cc := cX6_isTargetInRange) (nL := 6) (own := RX6) (ret := some (.boolean)) (by decide +kernel) rfl rfl hE (by simp [Value.category]) (Nat.le_of_ble_eq_true rfl) ?_
  intro p e s m below meth co C hret
  show dp_G _ _ _ _ _ _ _ _ _ _ _ _ _ _ _ _ _ [some (.int (dp_I a0)), some (.int (dp_I a1)), some (.int (dp_I a2)), some (.int (dp_I a3)), some (.int (dp_I a4)), some (.int (dp_I a5))] _
  unfold dp_R at ha0 ha1 ha2 ha3 ha4 ha5
  refine dp_iload_n C dX6_isTargetInRange_0 rfl ?_
  refine dp_iconst C dX6_isTargetInRange_1 ?_
  refine dp_ldc C (35999) (List.mem_of_getElem? (i := 1) rfl) rfl dX6_isTargetInRange_2 ?_
  refine dp_cSi C (c_X6_isBetween C.2.2.1 l ⟨by omega, by omega⟩ ⟨by omega, by omega⟩ ⟨by omega, by omega⟩) gX6_isTargetInRange_X6_isBetween rfl yyX6_isBetween rfl ⟨Nat.le_of_ble_eq_true rfl, Nat.le_of_ble_eq_true rfl⟩ rfl (Nat.le_of_ble_eq_true rfl) rfl ⟨Nat.zero_le _, Nat.zero_le _⟩ dX6_isTargetInRange_4 (fun x4 M4 h4 => ?_)
  obtain ⟨rfl, rfl⟩ := h4
  refine dp_ifz_eq (tgt := 75) C dX6_isTargetInRange_7 (by decide) (fun c7 => ?_) (fun c7 => ?_)
  · skip
    refine dp_iconst C dX6_isTargetInRange_75 ?_
    refine dp_zret C hret (by first | decide | exact dp_nb) dX6_isTargetInRange_76 ?_
    unfold irF
    exact ⟨by first | exact (dp_b_t (by omega)).symm | exact (dp_b_f (by omega)).symm, rfl⟩
  · skip
    refine dp_iload_n C dX6_isTargetInRange_10 rfl ?_
    refine dp_sipush C dX6_isTargetInRange_11 (by decide) ?_
    refine dp_sipush C dX6_isTargetInRange_14 (by decide) ?_
    refine dp_cSi C (c_X6_isBetween C.2.2.1 l ⟨by omega, by omega⟩ ⟨by omega, by omega⟩ ⟨by omega, by omega⟩) gX6_isTargetInRange_X6_isBetween rfl yyX6_isBetween rfl ⟨Nat.le_of_ble_eq_true rfl, Nat.le_of_ble_eq_true rfl⟩ rfl (Nat.le_of_ble_eq_true rfl) rfl ⟨Nat.zero_le _, Nat.zero_le _⟩ dX6_isTargetInRange_17 (fun x17 M17 h17 => ?_)
    obtain ⟨rfl, rfl⟩ := h17
    refine dp_ifz_eq (tgt := 75) C dX6_isTargetInRange_20 (by decide) (fun c20 => ?_) (fun c20 => ?_)
    · skip
      refine dp_iconst C dX6_isTargetInRange_75 ?_
      refine dp_zret C hret (by first | decide | exact dp_nb) dX6_isTargetInRange_76 ?_
      unfold irF
      exact ⟨by first | exact (dp_b_t (by omega)).symm | exact (dp_b_f (by omega)).symm, rfl⟩
    · skip
      refine dp_iload_n C dX6_isTargetInRange_23 rfl ?_
      refine dp_iconst C dX6_isTargetInRange_24 ?_
      refine dp_ldc C (43200) (List.mem_of_getElem? (i := 2) rfl) rfl dX6_isTargetInRange_25 ?_
      refine dp_cSi C (c_X6_isBetween C.2.2.1 l ⟨by omega, by omega⟩ ⟨by omega, by omega⟩ ⟨by omega, by omega⟩) gX6_isTargetInRange_X6_isBetween rfl yyX6_isBetween rfl ⟨Nat.le_of_ble_eq_true rfl, Nat.le_of_ble_eq_true rfl⟩ rfl (Nat.le_of_ble_eq_true rfl) rfl ⟨Nat.zero_le _, Nat.zero_le _⟩ dX6_isTargetInRange_27 (fun x27 M27 h27 => ?_)
      obtain ⟨rfl, rfl⟩ := h27
      refine dp_ifz_eq (tgt := 75) C dX6_isTargetInRange_30 (by decide) (fun c30 => ?_) (fun c30 => ?_)
      · skip
        refine dp_iconst C dX6_isTargetInRange_75 ?_
        refine dp_zret C hret (by first | decide | exact dp_nb) dX6_isTargetInRange_76 ?_
        unfold irF
        exact ⟨by first | exact (dp_b_t (by omega)).symm | exact (dp_b_f (by omega)).symm, rfl⟩
      · skip
        refine dp_iload_n C dX6_isTargetInRange_33 rfl ?_
        refine dp_iconst C dX6_isTargetInRange_34 ?_
        refine dp_ldc C (43200) (List.mem_of_getElem? (i := 2) rfl) rfl dX6_isTargetInRange_35 ?_
        refine dp_cSi C (c_X6_isBetween C.2.2.1 l ⟨by omega, by omega⟩ ⟨by omega, by omega⟩ ⟨by omega, by omega⟩) gX6_isTargetInRange_X6_isBetween rfl yyX6_isBetween rfl ⟨Nat.le_of_ble_eq_true rfl, Nat.le_of_ble_eq_true rfl⟩ rfl (Nat.le_of_ble_eq_true rfl) rfl ⟨Nat.zero_le _, Nat.zero_le _⟩ dX6_isTargetInRange_37 (fun x37 M37 h37 => ?_)
        obtain ⟨rfl, rfl⟩ := h37
        refine dp_ifz_eq (tgt := 75) C dX6_isTargetInRange_40 (by decide) (fun c40 => ?_) (fun c40 => ?_)
        · skip
          refine dp_iconst C dX6_isTargetInRange_75 ?_
          refine dp_zret C hret (by first | decide | exact dp_nb) dX6_isTargetInRange_76 ?_
          unfold irF
          exact ⟨by first | exact (dp_b_t (by omega)).symm | exact (dp_b_f (by omega)).symm, rfl⟩
        · skip
          refine dp_iload_n C dX6_isTargetInRange_43 rfl ?_
          refine dp_iload_n C dX6_isTargetInRange_44 rfl ?_
          refine dp_icmp_ge (tgt := 75) C dX6_isTargetInRange_45 (by decide) ⟨by omega, by omega⟩ ⟨by omega, by omega⟩ (fun c45 => ?_) (fun c45 => ?_)
          · skip
            refine dp_iconst C dX6_isTargetInRange_75 ?_
            refine dp_zret C hret (by first | decide | exact dp_nb) dX6_isTargetInRange_76 ?_
            unfold irF
            exact ⟨by first | exact (dp_b_t (by omega)).symm | exact (dp_b_f (by omega)).symm, rfl⟩
          · skip
            refine dp_iload C dX6_isTargetInRange_48 rfl ?_
            refine dp_iconst C dX6_isTargetInRange_50 ?_
            refine dp_sipush C dX6_isTargetInRange_51 (by decide) ?_
            refine dp_cSi C (c_X6_isBetween C.2.2.1 l ⟨by omega, by omega⟩ ⟨by omega, by omega⟩ ⟨by omega, by omega⟩) gX6_isTargetInRange_X6_isBetween rfl yyX6_isBetween rfl ⟨Nat.le_of_ble_eq_true rfl, Nat.le_of_ble_eq_true rfl⟩ rfl (Nat.le_of_ble_eq_true rfl) rfl ⟨Nat.zero_le _, Nat.zero_le _⟩ dX6_isTargetInRange_54 (fun x54 M54 h54 => ?_)
            obtain ⟨rfl, rfl⟩ := h54
            refine dp_ifz_eq (tgt := 75) C dX6_isTargetInRange_57 (by decide) (fun c57 => ?_) (fun c57 => ?_)
            · skip
              refine dp_iconst C dX6_isTargetInRange_75 ?_
              refine dp_zret C hret (by first | decide | exact dp_nb) dX6_isTargetInRange_76 ?_
              unfold irF
              exact ⟨by first | exact (dp_b_t (by omega)).symm | exact (dp_b_f (by omega)).symm, rfl⟩
            · skip
              refine dp_iload C dX6_isTargetInRange_60 rfl ?_
              refine dp_iconst C dX6_isTargetInRange_62 ?_
              refine dp_bipush C dX6_isTargetInRange_63 (by decide) ?_
              refine dp_cSi C (c_X6_isBetween C.2.2.1 l ⟨by omega, by omega⟩ ⟨by omega, by omega⟩ ⟨by omega, by omega⟩) gX6_isTargetInRange_X6_isBetween rfl yyX6_isBetween rfl ⟨Nat.le_of_ble_eq_true rfl, Nat.le_of_ble_eq_true rfl⟩ rfl (Nat.le_of_ble_eq_true rfl) rfl ⟨Nat.zero_le _, Nat.zero_le _⟩ dX6_isTargetInRange_65 (fun x65 M65 h65 => ?_)
              obtain ⟨rfl, rfl⟩ := h65
              refine dp_ifz_eq (tgt := 75) C dX6_isTargetInRange_68 (by decide) (fun c68 => ?_) (fun c68 => ?_)
              · skip
                refine dp_iconst C dX6_isTargetInRange_75 ?_
                refine dp_zret C hret (by first | decide | exact dp_nb) dX6_isTargetInRange_76 ?_
                unfold irF
                exact ⟨by first | exact (dp_b_t (by omega)).symm | exact (dp_b_f (by omega)).symm, rfl⟩
              · skip
                refine dp_iconst C dX6_isTargetInRange_71 ?_
                refine dp_goto (tgt := 76) C dX6_isTargetInRange_72 (by decide) ?_
                refine dp_zret C hret (by first | decide | exact dp_nb) dX6_isTargetInRange_76 ?_
                unfold irF
                exact ⟨by first | exact (dp_b_t (by omega)).symm | exact (dp_b_f (by omega)).symm, rfl⟩
