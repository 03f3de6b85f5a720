/-! EACH CALL: the texts -/
theorem posT_tx {T T' : dp_V} (h : sgF T = sgF T') : ∀ i : Nat, posT T i = posT T' i := by
  intro i
  induction i with
  | zero => rfl
  | succ i ih =>
    show rdR T (posT T i) = rdR T' (posT T' i)
    rw [ih, rdR_tx h]
theorem rsT_tx {T T' : dp_V} {room : Int} (h : sgF T = sgF T') (m : Nat) : rsT T room m = rsT T' room m := by
  unfold rsT
  rw [posT_tx h, rdR_tx h, iru_tx h]
theorem SC_tx {T T' : dp_V} {room r : Int} {m : Nat} (h : sgF T = sgF T') (h3 : T 3 0 = T' 3 0) (hs : SC T room m r) : SC T' room m r := by
  unfold SC at hs ⊢
  obtain ⟨a, b⟩ := hs
  refine ⟨fun i hi => ?_, ?_⟩
  · rw [← posT_tx h, ← rsT_tx h, ← h3]; exact a i hi
  · rw [← posT_tx h, ← rsT_tx h, ← h3]; exact b
theorem op_type {M M1 M2 : dp_M} {k y y2 : Int} (h : iM M) (h1 : y = (if 32 ≤ k ∧ k ≤ 126 then (if M 7 3 0 < 100 then M 7 3 0 + 1 else -100003) else -100001) ∧ M1 = (if (32 ≤ k ∧ k ≤ 126) ∧ M 7 3 0 < 100 then dS (dR M 7 (apX (M 7) k)) 0 (M 0) (M 20) else dS (dR M 7 (M 7)) 0 (M 0) (M 20))) (e : M1 8 = M 8 ∧ M1 9 = M 9) (h2 : y2 = (if 32 ≤ k ∧ k ≤ 126 then (if M1 8 0 1 < 100 then M1 8 0 1 + 1 else -100003) else -100001) ∧ M2 = (if (32 ≤ k ∧ k ≤ 126) ∧ M1 8 0 1 < 100 then dN M1 (M1 9) (u2 (u2 (M1 8) 4 (M1 8 0 1).toNat k) 0 1 (M1 8 0 1 + 1)) else dN M1 (M1 9) (M1 8))) : y = y2 ∧ iM M2 := by
  obtain ⟨rfl, hM1⟩ := h1
  obtain ⟨rfl, rfl⟩ := h2
  rw [e.1, e.2]
  obtain ⟨t1, t2, t3, t4⟩ := h.2.2.2.1
  rw [← t4.1]
  refine ⟨rfl, ?_⟩
  by_cases c : (32 ≤ k ∧ k ≤ 126) ∧ M 7 3 0 < 100
  · rw [if_pos c] at hM1 ⊢
    subst hM1
    have hl := t1.1
    refine h.kp ⟨?_, ?_⟩ ⟨?_, ?_, ?_, ?_⟩ ?_
    · unfold apX; rw [u2_ne (by decide), u2_ne (by decide)]
    · unfold apX; rw [u2_ne (by decide), u2_ne (by decide)]
    · have e3 : apX (M 7) k 3 0 = M 7 3 0 + 1 := by unfold apX; rw [u2_same, u1_same]
      have e4 : apX (M 7) k 4 = u1 (M 7 4) (M 7 3 0).toNat k := by unfold apX; rw [u2_ne (by decide), u2_same]
      unfold tOK at t1 ⊢
      rw [e3, e4]
      refine ⟨by omega, by omega, fun i hi => ?_⟩
      unfold u1
      split
      · omega
      · exact t1.2.2 i hi
    · have e5 : apX (M 7) k 5 = M 7 5 := by unfold apX; rw [u2_ne (by decide), u2_ne (by decide)]
      unfold nOK at t2 ⊢
      rw [e5]; exact t2
    · have e3 : mT (u2 (u2 (M 8) 4 (M 7 3 0).toNat k) 0 1 (M 7 3 0 + 1)) 3 0 = M 7 3 0 + 1 := by
        show u2 (u2 (M 8) 4 (M 7 3 0).toNat k) 0 1 (M 7 3 0 + 1) 0 1 = _
        rw [u2_same, u1_same]
      have e4 : mT (u2 (u2 (M 8) 4 (M 7 3 0).toNat k) 0 1 (M 7 3 0 + 1)) 4 = u1 (M 8 4) (M 7 3 0).toNat k := by
        show u2 (u2 (M 8) 4 (M 7 3 0).toNat k) 0 1 (M 7 3 0 + 1) 4 = _
        rw [u2_ne (by decide), u2_same]
      have e5 : mT (M 8) 4 = M 8 4 := rfl
      unfold tOK at t3 ⊢
      rw [e3, e4]
      rw [e5] at t3
      refine ⟨by omega, by omega, fun i hi => ?_⟩
      unfold u1
      split
      · omega
      · exact t3.2.2 i hi
    · have e3 : apX (M 7) k 3 0 = M 7 3 0 + 1 := by unfold apX; rw [u2_same, u1_same]
      have e4 : apX (M 7) k 4 = u1 (M 7 4) (M 7 3 0).toNat k := by unfold apX; rw [u2_ne (by decide), u2_same]
      unfold TX
      rw [e3, e4, u2_same, u1_same, u2_ne (by decide), u2_same]
      refine ⟨rfl, fun i hi => ?_⟩
      by_cases q : i = (M 7 3 0).toNat
      · subst q
        rw [u1_same, u1_same]
      · rw [u1_ne q, u1_ne q]
        exact t4.2 i (by omega)
    · rw [u2_same, u1_ne (by decide), u2_ne (by decide)]
  · rw [if_neg c] at hM1 ⊢
    subst hM1
    exact h.kz zz.rf
theorem op_clearText {M M1 M2 : dp_M} {y y2 : Int} (h : iM M) (h1 : y = M 7 3 0 ∧ M1 = dS (dR M 7 (u2 (M 7) 3 0 0)) 0 (M 0) (M 20)) (e : M1 8 = M 8 ∧ M1 9 = M 9) (h2 : y2 = M1 8 0 1 ∧ M2 = dN M1 (M1 9) (u2 (M1 8) 0 1 0)) : y = y2 ∧ iM M2 := by
  obtain ⟨rfl, hM1⟩ := h1
  obtain ⟨rfl, rfl⟩ := h2
  rw [e.1, e.2]
  obtain ⟨t1, t2, t3, t4⟩ := h.2.2.2.1
  refine ⟨t4.1, ?_⟩
  subst hM1
  refine h.kp ⟨by rw [u2_ne (by decide)], by rw [u2_ne (by decide)]⟩ ⟨?_, ?_, ?_, ?_⟩ (by rw [u2_same, u1_ne (by decide)])
  · unfold tOK at t1 ⊢
    rw [u2_same, u1_same, u2_ne (by decide)]
    exact ⟨by omega, by omega, t1.2.2⟩
  · exact nOK.u3 t2
  · have e3 : mT (u2 (M 8) 0 1 0) 3 0 = 0 := by
      show u2 (M 8) 0 1 0 0 1 = 0
      rw [u2_same, u1_same]
    have e4 : mT (u2 (M 8) 0 1 0) 4 = M 8 4 := by
      show u2 (M 8) 0 1 0 4 = M 8 4
      rw [u2_ne (by decide)]
    have e5 : mT (M 8) 4 = M 8 4 := rfl
    unfold tOK at t3 ⊢
    rw [e3, e4]
    rw [e5] at t3
    exact ⟨by omega, by omega, t3.2.2⟩
  · unfold TX
    rw [u2_same, u1_same, u2_same, u1_same]
    exact ⟨rfl, fun i hi => by omega⟩
/-- the class's text behind a check -/
theorem ck_kp {X Z : dp_V} {room : Int} (h : tOK X ∧ nOK X ∧ TX X Z) : (ckX X room 1 0 = X 1 0 ∧ ckX X room 2 = X 2) ∧ tOK (ckX X room) ∧ nOK (ckX X room) ∧ TX (ckX X room) Z := by
  obtain ⟨a, b, c⟩ := ckX_S (X := X) (room := room) h.2.1
  have e4 := c 4 (by decide) (by decide)
  refine ⟨⟨by rw [c 1 (by decide) (by decide)], c 2 (by decide) (by decide)⟩, ?_, a, ?_⟩
  · have t := h.1
    unfold tOK at t ⊢
    rw [b, e4]; exact t
  · have t := h.2.2
    unfold TX at t ⊢
    rw [b, e4]; exact t
theorem op_fault {M M1 M2 : dp_M} {N : Nat} {k y y2 : Int} (h : iM M) (hs : Sim (M 0) (M 9) N) (h1 : y = (if 0 ≤ k ∧ k ≤ 1 then (if ckX (M 7) (cnF (M 0) 4) 3 3 = 0 then -100004 else if k = 0 then ckX (M 7) (cnF (M 0) 4) 3 2 else ckX (M 7) (cnF (M 0) 4) 3 3) else -100001) ∧ M1 = (if 0 ≤ k ∧ k ≤ 1 then dS (dR M 7 (ckX (M 7) (cnF (M 0) 4))) 0 (M 0) (M 20) else dS (dR M 7 (M 7)) 0 (M 0) (M 20))) (e : M1 8 = M 8 ∧ M1 9 = M 9) (h2 : (¬ (0 ≤ k ∧ k ≤ 1) ∧ y2 = -100001 ∧ M2 = dN M1 (M1 9) (M1 8)) ∨ ((0 ≤ k ∧ k ≤ 1) ∧ ∃ (mm : Nat) (r : Int) (X' : dp_V), SC (mT (M1 8)) (10 - (N : Int)) mm r ∧ y2 = (if r = 0 then -100004 else if k = 0 then posT (mT (M1 8)) mm else r) ∧ M2 = dN M1 (M1 9) X' ∧ txF (M1 8) X')) : y = y2 ∧ iM M2 := by
  obtain ⟨rfl, hM1⟩ := h1
  rw [e.1, e.2] at h2
  obtain ⟨t1, t2, t3, t4⟩ := h.2.2.2.1
  rw [hs.2.2.2.1.cn] at hM1 ⊢
  rcases h2 with ⟨c, rfl, rfl⟩ | ⟨c, mm, r, X', hS, rfl, rfl, hz⟩
  · rw [if_neg c] at hM1 ⊢
    subst hM1
    exact ⟨rfl, h.kz zz.rf⟩
  · rw [if_pos c] at hM1 ⊢
    subst hM1
    obtain ⟨m', -, hS2, hp⟩ := ckX_sc (X := M 7) (room := 10 - (N : Int)) t1
    have hS3 := SC_tx t4.sg (T' := mT (M 8)) t4.1 hS2
    obtain ⟨rfl, hr⟩ := SC_uniq hS hS3
    obtain ⟨k1, k2, k3, k4⟩ := ck_kp (room := 10 - (N : Int)) ⟨t1, t2, t4⟩
    refine ⟨?_, h.kp k1 ⟨k2, k3, hz.zz.ok t3, hz.zz.tx k4⟩ hz.zz.1⟩
    rw [hr]
    by_cases q : ckX (M 7) (10 - (N : Int)) 3 3 = 0
    · rw [if_pos q, if_pos q]
    · rw [if_neg q, if_neg q, hp q, posT_tx t4.sg]
theorem etV_I {V T : dp_V} {n : Nat} (i1 : I1 V) (i2 : I2 V) : ∀ m : Nat, I1 (etV V T n m) ∧ I2 (etV V T n m) := by
  intro m
  induction m with
  | zero => exact ⟨i1, i2⟩
  | succ m ih => exact I12_aq ih.1 ih.2
theorem op_enter {M M1 M2 : dp_M} {N : Nat} {y y2 : Int} (h : iM M) (hs : Sim (M 0) (M 9) N) (i1 : I1 (M 0)) (i2 : I2 (M 0)) (h1 : ∃ X', nOK X' ∧ ((¬ ckX (M 7) (10 - (N : Int)) 3 3 = 0 ∧ y = -100002 ∧ X' = ckX (M 7) (10 - (N : Int)) ∧ M1 = dS (dR M 7 X') 0 (M 0) (M 20)) ∨ (∃ mm : Nat, ckX (M 7) (10 - (N : Int)) 3 3 = 0 ∧ SC (M 7) (10 - (N : Int)) mm 0 ∧ y = mm ∧ (∀ c, c ≠ 5 → X' c = rcX1 (ckX (M 7) (10 - (N : Int))) c) ∧ M1 = dS (dR (dR M (rcJ (M 7)) (M 0)) 7 X') 0 (etV (M 0) (M 7) N mm) (M 20)))) (e : M1 8 = M 8 ∧ M1 9 = M 9) (h2 : ∃ (mm : Nat) (r : Int) (X' : dp_V), SC (mT (M1 8)) (10 - (N : Int)) mm r ∧ ((¬ r = 0 ∧ y2 = -100002 ∧ M2 = dN M1 (M1 9) X' ∧ txF (M1 8) X') ∨ (r = 0 ∧ y2 = mm ∧ M2 = dN (rnW M1 (M1 9) (M1 8)) (emV (M1 9) (mT (M1 8)) N mm) X' ∧ txF (rsX (M1 8)) X'))) : y = y2 ∧ iM M2 := by
  obtain ⟨X1, hn, h1⟩ := h1
  obtain ⟨mm, r, X', hS, h2⟩ := h2
  rw [e.1] at hS
  rw [e.1, e.2] at h2
  obtain ⟨t1, t2, t3, t4⟩ := h.2.2.2.1
  obtain ⟨m', -, hS2, -⟩ := ckX_sc (X := M 7) (room := 10 - (N : Int)) t1
  have hS3 := SC_tx t4.sg (T' := mT (M 8)) t4.1 hS2
  obtain ⟨rfl, hr⟩ := SC_uniq hS hS3
  obtain ⟨k1, k2, k3, k4⟩ := ck_kp (room := 10 - (N : Int)) ⟨t1, t2, t4⟩
  rcases h1 with ⟨c, rfl, rfl, hM1⟩ | ⟨m2, c, hSm, rfl, hX, hM1⟩
  · rcases h2 with ⟨d, rfl, rfl, hz⟩ | ⟨d, -⟩
    · subst hM1
      exact ⟨rfl, h.kp k1 ⟨k2, k3, hz.zz.ok t3, hz.zz.tx k4⟩ hz.zz.1⟩
    · exact absurd (hr.symm.trans d) c
  · rcases h2 with ⟨d, -⟩ | ⟨d, rfl, rfl, hz⟩
    · exact absurd (hr.trans c) d
    · rw [c] at hS2
      obtain ⟨rfl, -⟩ := SC_uniq hS2 hSm
      have h10 := hs.2.2.2.1.1
      have hle : N + mm ≤ 10 := by
        by_cases q : mm = 0
        · omega
        · have z := (hSm.1 (mm - 1) (by omega)).2
          unfold rsT at z
          repeat' split at z
          all_goals omega
      have hg : ∀ i, i < mm → rsT (M 7) (10 - (N : Int)) i = 0 := fun i hi => (hSm.1 i hi).2
      have hE := etV_I (T := M 7) (n := N) i1 i2 mm
      have hiv := (etV_iv (T := M 7) (h.1 0 (by decide)) hs.2.2.2.1 hle hg).1
      have r1 : rsX (M 8) 0 1 = M 8 0 1 := by unfold rsX; rw [u2_same, u1_ne (by decide)]
      have r4 : rsX (M 8) 4 = M 8 4 := by unfold rsX; rw [u2_ne (by decide)]
      obtain ⟨ca, cb, cc⟩ := ckX_S (X := M 7) (room := 10 - (N : Int)) t2
      have c1 := cc 1 (by decide) (by decide)
      have c2 := cc 2 (by decide) (by decide)
      generalize ckX (M 7) (10 - (N : Int)) = K at c1 c2 cb cc hX
      have hd : ∀ d, d ≠ 1 → d ≠ 2 → rcX1 K d = K d := fun d a b => by
        unfold rcX1 rcX
        rw [u2_ne a]
        split
        · rfl
        · unfold drX
          rw [u2_ne a, uc_ne b]
      have g1 : rcX K 1 0 = rcX (M 7) 1 0 ∧ rcX K 2 = rcX (M 7) 2 := by
        by_cases q : M 7 1 0 < 5
        · rw [rcX_lt q, rcX_lt (by rw [c1]; exact q), c1, c2]
          exact ⟨rfl, rfl⟩
        · rw [(rcX_ge q).1, (rcX_ge q).2, (rcX_ge (X := K) (by rw [c1]; exact q)).1, (rcX_ge (X := K) (by rw [c1]; exact q)).2, c2]
          exact ⟨rfl, rfl⟩
      refine ⟨rfl, ?_⟩
      subst hM1
      refine h.rec hiv ⟨N + mm, hs.et t4.sg mm hle, hE.1, hE.2⟩ ⟨?_, ?_, ?_, ?_⟩ hn ⟨hz.zz.1, hz.zz.2.1.trans r1, hz.zz.2.2.trans r4⟩
      · rw [hX 1 (by decide), rcX1_1, rcX1_1, g1.1]
      · rw [hX 2 (by decide), rcX1_2, rcX1_2, g1.2]
      · rw [hX 3 (by decide), hd 3 (by decide) (by decide), cb]
      · rw [hX 4 (by decide), hd 4 (by decide) (by decide), cc 4 (by decide) (by decide)]
/-! what the reference's contracts want, behind the class's call -/
theorem dp_hiq {M M1 : dp_M} {C : Prop} {_ : Decidable C} {V' Y1 Y2 X2 : dp_V} (h : iM M) (h1 : M1 = if C then rM M (M 0) Y1 (M 7) V' else dS (dR M 7 X2) 0 (M 0) Y2) : M1 8 = M 8 ∧ M1 9 = M 9 := by
  subst h1
  split
  · exact rM_at h.2.1
  · exact kp_at (Z' := M 8)
theorem iM.g {M : dp_M} (h : iM M) : ∃ N, Sim (M 0) (M 9) N ∧ I1 (M 0) ∧ I2 (M 0) := h.2.2.2.2.2.1
