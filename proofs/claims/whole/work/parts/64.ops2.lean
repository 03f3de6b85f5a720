/-! EACH CALL: the targets, the minutes, undo -/
theorem aqV_6 {V : dp_V} {n : Nat} {a0 a1 a2 a3 a4 a5 : Int} : aqV V n a0 a1 a2 a3 a4 a5 (n + 6) 6 = 0 := by
  unfold aqV
  simp (decide := true) only [u2_ap, reduceIte]
theorem I12_aq {V : dp_V} {n : Nat} {a0 a1 a2 a3 a4 a5 : Int} (i1 : I1 V) (i2 : I2 V) : I1 (aqV V n a0 a1 a2 a3 a4 a5) ∧ I2 (aqV V n a0 a1 a2 a3 a4 a5) := by
  have key : ∀ t, aqV V n a0 a1 a2 a3 a4 a5 (t + 6) 6 = 1 → aqV V n a0 a1 a2 a3 a4 a5 (t + 6) = V (t + 6) := fun t q => by
    by_cases e : t = n
    · subst e; rw [aqV_6] at q; omega
    · exact aqV_ne (by omega)
  exact ⟨i1.of (fun t _ q => by rw [key t q] at q; exact q), i2.of (by rw [aqV_ne (by omega)]) (fun t _ q => key t q)⟩
theorem op_add {M M1 M2 : dp_M} {N : Nat} {a0 a1 a2 a3 a4 a5 y y2 : Int} (h : iM M) (hs : Sim (M 0) (M 9) N) (i1 : I1 (M 0)) (i2 : I2 (M 0)) (h1 : y = (if irF a0 a1 a2 a3 a4 a5 = 0 then -100001 else if N = 10 then -100003 else (N : Int)) ∧ M1 = (if irF a0 a1 a2 a3 a4 a5 = 0 then dS (dR M 7 (M 7)) 0 (M 0) (M 20) else if N = 10 then dS (dR M 7 (M 7)) 0 (M 0) (M 20) else rM M (M 0) (M 20) (M 7) (aqV (M 0) N a0 a1 a2 a3 a4 a5))) (e : M1 8 = M 8 ∧ M1 9 = M 9) (h2 : y2 = (if irF a0 a1 a2 a3 a4 a5 = 0 then -100001 else if N = 10 then -100003 else (N : Int)) ∧ M2 = (if irF a0 a1 a2 a3 a4 a5 = 0 then dN M1 (M1 9) (M1 8) else if N = 10 then dN M1 (M1 9) (M1 8) else rnM M1 (M1 9) (M1 8) (adV (M1 9) N a0 a1 a2 a3 a4 a5))) : y = y2 ∧ iM M2 := by
  obtain ⟨rfl, rfl⟩ := h1
  obtain ⟨rfl, rfl⟩ := h2
  rw [e.1, e.2]
  refine ⟨rfl, ?_⟩
  by_cases c : irF a0 a1 a2 a3 a4 a5 = 0
  · simp only [if_pos c]
    exact h.kz zz.rf
  · by_cases d : N = 10
    · simp only [if_neg c, if_pos d]
      exact h.kz zz.rf
    · simp only [if_neg c, if_neg d]
      have hN : N < 10 := by have := hs.2.2.2.1.1; omega
      exact h.rc (aqV_iv (h.1 0 (by decide)) hN c) ⟨N + 1, hs.aq hN, I12_aq i1 i2⟩ zz.rf
theorem ctO_has {V : dp_V} {N : Nat} {x : Int} (h : ctO V N) : ((0 ≤ x ∧ x < 10) ∧ ¬ V (x.toNat + 6) 6 = 4) ↔ (0 ≤ x ∧ x < N) := by
  constructor
  · rintro ⟨⟨a, b⟩, c⟩
    refine ⟨a, ?_⟩
    rcases (by omega : x < N ∨ ¬ x < N) with q | q
    · exact q
    · exact absurd (h.2.2 x.toNat (by omega) (by omega)) c
  · rintro ⟨a, b⟩
    exact ⟨⟨a, by have := h.1; omega⟩, h.2.1 x.toNat (by omega)⟩
theorem rmV_row {V : dp_V} {t0 c : Nat} (hc : c ≠ 15) : rmV V t0 c = if t0 + 6 ≤ c ∧ c < 15 then V (c + 1) else V c := by
  unfold rmV
  rw [u2_ne hc, rmG_row]
  by_cases q : t0 + 6 ≤ c ∧ c < 15
  · rw [if_pos q, if_pos (by omega)]
  · rw [if_neg q, if_neg (by omega)]
theorem I12_rm {V : dp_V} {t0 : Nat} (i1 : I1 V) (i2 : I2 V) : I1 (rmV V t0) ∧ I2 (rmV V t0) := by
  have key : ∀ t, t < 10 → rmV V t0 (t + 6) 6 = 1 → ∃ u, u < 10 ∧ rmV V t0 (t + 6) = V (u + 6) ∧ ((t0 ≤ t ∧ u = t + 1) ∨ (t < t0 ∧ u = t)) := fun t ht q => by
    by_cases e : t = 9
    · subst e
      unfold rmV at q
      rw [u2_same, u1_same] at q
      omega
    · by_cases f : t0 ≤ t
      · exact ⟨t + 1, by omega, by rw [rmV_row (by omega), if_pos (by omega)], Or.inl ⟨f, rfl⟩⟩
      · exact ⟨t, by omega, by rw [rmV_row (by omega), if_neg (by omega)], Or.inr ⟨by omega, rfl⟩⟩
  refine ⟨fun t u ht hu q1 q2 => ?_, fun t ht q1 q2 => ?_⟩
  · obtain ⟨t', a1, a2, a3⟩ := key t ht q1
    obtain ⟨u', b1, b2, b3⟩ := key u hu q2
    rw [a2] at q1
    rw [b2] at q2
    have := i1 t' u' a1 b1 q1 q2
    omega
  · obtain ⟨t', a1, a2, a3⟩ := key t ht q1
    rw [a2] at q1 q2 ⊢
    rw [rmV_row (by omega), if_neg (by omega)]
    exact i2 t' a1 q1 q2
theorem op_drop {M M1 M2 : dp_M} {N : Nat} {x y y2 : Int} (h : iM M) (hs : Sim (M 0) (M 9) N) (i1 : I1 (M 0)) (i2 : I2 (M 0)) (h1 : y = (if (0 ≤ x ∧ x < 10) ∧ ¬ M 0 (x.toNat + 6) 6 = 4 then (if M 0 (x.toNat + 6) 6 = 1 then -100002 else 10 - cnF (rmV (M 0) x.toNat) 4) else -100001) ∧ M1 = (if ((0 ≤ x ∧ x < 10) ∧ ¬ M 0 (x.toNat + 6) 6 = 4) ∧ ¬ M 0 (x.toNat + 6) 6 = 1 then rM M (M 0) (M 20) (M 7) (rmV (M 0) x.toNat) else dS (dR M 7 (M 7)) 0 (M 0) (M 20))) (e : M1 8 = M 8 ∧ M1 9 = M 9) (h2 : y2 = (if 0 ≤ x ∧ x < N then (if M1 9 (x.toNat + 6) 6 = 1 then -100002 else (N : Int) - 1) else -100001) ∧ M2 = (if (0 ≤ x ∧ x < N) ∧ ¬ M1 9 (x.toNat + 6) 6 = 1 then rnM M1 (M1 9) (M1 8) (rmM (M1 9) N x.toNat) else dN M1 (M1 9) (M1 8))) : y = y2 ∧ iM M2 := by
  obtain ⟨rfl, rfl⟩ := h1
  obtain ⟨rfl, rfl⟩ := h2
  rw [e.1, e.2]
  simp only [ctO_has hs.2.2.2.1]
  by_cases c : 0 ≤ x ∧ x < N
  · have e6 : M 0 (x.toNat + 6) 6 = M 9 (x.toNat + 6) 6 := hs.st (by omega) (by decide)
    rw [← e6]
    by_cases d : M 0 (x.toNat + 6) 6 = 1
    · simp only [if_pos c, if_pos d, if_neg (show ¬ ((0 ≤ x ∧ x < N) ∧ ¬ M 0 (x.toNat + 6) 6 = 1) from fun z => z.2 d)]
      exact ⟨trivial, h.kz zz.rf⟩
    · simp only [if_pos c, if_neg d, if_pos (show (0 ≤ x ∧ x < N) ∧ ¬ M 0 (x.toNat + 6) 6 = 1 from ⟨c, d⟩)]
      have hr := hs.rm (t0 := x.toNat) (by omega)
      refine ⟨?_, h.rc (rmV_iv (h.1 0 (by decide)) (by have := hs.2.2.2.1.1; omega)) ⟨N - 1, hr, I12_rm i1 i2⟩ zz.rf⟩
      rw [hr.2.2.2.1.cn]
      omega
  · simp only [if_neg c, if_neg (show ¬ ((0 ≤ x ∧ x < N) ∧ ¬ M 0 (x.toNat + 6) 6 = 1) from fun z => c z.1), if_neg (show ¬ ((0 ≤ x ∧ x < N) ∧ ¬ M 9 (x.toNat + 6) 6 = 1) from fun z => c z.1)]
    exact ⟨trivial, h.kz zz.rf⟩
theorem op_target {M M1 M2 : dp_M} {N : Nat} {x k y y2 : Int} (h : iM M) (hs : Sim (M 0) (M 9) N) (h1 : y = (if (0 ≤ x ∧ x < 10) ∧ ¬ M 0 (x.toNat + 6) 6 = 4 then tgT (M 0 (x.toNat + 6)) k else -100001) ∧ M1 = dS (dR M 7 (M 7)) 0 (M 0) (M 20)) (e : M1 8 = M 8 ∧ M1 9 = M 9) (h2 : y2 = (if 0 ≤ x ∧ x < N then tgT (M1 9 (x.toNat + 6)) k else -100001) ∧ M2 = dN M1 (M1 9) (M1 8)) : y = y2 ∧ iM M2 := by
  refine ⟨?_, op_same h h1.2 e h2.2⟩
  rw [h1.1, h2.1, e.2]
  simp only [ctO_has hs.2.2.2.1]
  by_cases c : 0 ≤ x ∧ x < N
  · rw [if_pos c, if_pos c]
    exact (hs.2.2.2.2 x.toNat (by omega)).tg k
  · rw [if_neg c, if_neg c]
theorem op_why {M M1 M2 : dp_M} {N : Nat} {x y y2 : Int} (h : iM M) (hs : Sim (M 0) (M 9) N) (h1 : y = (if (0 ≤ x ∧ x < 10) ∧ ¬ M 0 (x.toNat + 6) 6 = 4 then rsF (M 0) x.toNat else -100001) ∧ ∃ Y', M1 = dS (dR M 7 (M 7)) 0 (M 0) Y') (e : M1 8 = M 8 ∧ M1 9 = M 9) (h2 : y2 = (if 0 ≤ x ∧ x < N then rsM (M1 9) N x.toNat else -100001) ∧ ∃ X', M2 = dN M1 (M1 9) X' ∧ scr (M1 8) X') : y = y2 ∧ iM M2 := by
  refine ⟨?_, op_scr h h1.2 e h2.2⟩
  rw [h1.1, h2.1, e.2]
  simp only [ctO_has hs.2.2.2.1]
  by_cases c : 0 ≤ x ∧ x < N
  · rw [if_pos c, if_pos c]
    exact hs.rs (by omega)
  · rw [if_neg c, if_neg c]
theorem op_next {M M1 M2 : dp_M} {N : Nat} {y y2 : Int} (h : iM M) (hs : Sim (M 0) (M 9) N) (h1 : y = ftF (bsF (M 0)) ∧ ∃ Y', M1 = dS (dR M 7 (M 7)) 0 (M 0) Y') (e : M1 8 = M 8 ∧ M1 9 = M 9) (h2 : y2 = ftF (bnM (M1 9) N) ∧ ∃ X', M2 = dN M1 (M1 9) X' ∧ scr (M1 8) X') : y = y2 ∧ iM M2 := by
  refine ⟨?_, op_scr h h1.2 e h2.2⟩
  rw [h1.1, h2.1, e.2, hs.bs]
theorem op_run {M M1 M2 : dp_M} {N : Nat} {k y y2 : Int} (h : iM M) (hs : Sim (M 0) (M 9) N) (i1 : I1 (M 0)) (i2 : I2 (M 0)) (h1 : y = (if 0 ≤ k ∧ k ≤ 2000 then (if 43200 < M 0 0 0 + k then -100003 else cnF (lpV (M 0) k.toNat) 2 - cnF (M 0) 2) else -100001) ∧ ∃ Y', M1 = (if (0 ≤ k ∧ k ≤ 2000) ∧ ¬ 43200 < M 0 0 0 + k then rM M (M 0) Y' (M 7) (lpV (M 0) k.toNat) else dS (dR M 7 (M 7)) 0 (M 0) Y')) (e : M1 8 = M 8 ∧ M1 9 = M 9) (h2 : y2 = (if 0 ≤ k ∧ k ≤ 2000 then (if 43200 < M1 9 0 0 + k then -100003 else ruC (M1 9) N k.toNat) else -100001) ∧ ((¬ ((0 ≤ k ∧ k ≤ 2000) ∧ ¬ 43200 < M1 9 0 0 + k) ∧ M2 = dN M1 (M1 9) (M1 8)) ∨ (((0 ≤ k ∧ k ≤ 2000) ∧ ¬ 43200 < M1 9 0 0 + k) ∧ ∃ X', M2 = dN (rnW M1 (M1 9) (M1 8)) (ruM (M1 9) N k.toNat) X' ∧ scr (rsX (M1 8)) X'))) : y = y2 ∧ iM M2 := by
  obtain ⟨rfl, Y', hM1⟩ := h1
  obtain ⟨rfl, h2⟩ := h2
  rw [e.1, e.2, ← hs.1.1] at h2
  rw [e.2, ← hs.1.1]
  rcases h2 with ⟨c, rfl⟩ | ⟨c, X', rfl, hz⟩
  · rw [if_neg c] at hM1
    subst hM1
    refine ⟨?_, h.kz zz.rf⟩
    by_cases d : 0 ≤ k ∧ k ≤ 2000
    · by_cases d2 : 43200 < M 0 0 0 + k
      · simp only [if_pos d, if_pos d2]
      · exact absurd ⟨d, d2⟩ c
    · simp only [if_neg d]
  · rw [if_pos c] at hM1
    subst hM1
    have hk : M 0 0 0 + (k.toNat : Int) ≤ 43200 := by omega
    obtain ⟨r1, r2, r3, r4⟩ := hs.run (h.1 0 (by decide)) i1 i2 hk
    simp only [if_pos c.1, if_neg c.2]
    exact ⟨r4.symm, h.rc (lpV_iv (h.1 0 (by decide)) hk) ⟨N, r1, r2, r3⟩ hz.zz⟩
theorem op_ifRun {M M1 M2 : dp_M} {N : Nat} {k y y2 : Int} (h : iM M) (hs : Sim (M 0) (M 9) N) (i1 : I1 (M 0)) (i2 : I2 (M 0)) (h1 : y = (if 0 ≤ k ∧ k ≤ 2000 then (if 43200 < M 0 0 0 + k then -100003 else cnF (lpV (M 0) k.toNat) 2) else -100001) ∧ ∃ Y', M1 = (if (0 ≤ k ∧ k ≤ 2000) ∧ ¬ 43200 < M 0 0 0 + k then dS (dR (dS M 1 (lpV (M 0) k.toNat) Y') 7 (M 7)) 0 (M 0) (M 20) else dS (dR M 7 (M 7)) 0 (M 0) (M 20))) (e : M1 8 = M 8 ∧ M1 9 = M 9) (h2 : y2 = (if 0 ≤ k ∧ k ≤ 2000 then (if 43200 < M1 9 0 0 + k then -100003 else cnG (ruM (M1 9) N k.toNat) 2 0 N) else -100001) ∧ ((¬ ((0 ≤ k ∧ k ≤ 2000) ∧ ¬ 43200 < M1 9 0 0 + k) ∧ M2 = dN M1 (M1 9) (M1 8)) ∨ (((0 ≤ k ∧ k ≤ 2000) ∧ ¬ 43200 < M1 9 0 0 + k) ∧ ∃ X', M2 = dN (dR M1 10 (M1 9)) (M1 9) X' ∧ scr (M1 8) X'))) : y = y2 ∧ iM M2 := by
  obtain ⟨rfl, Y', hM1⟩ := h1
  obtain ⟨rfl, h2⟩ := h2
  rw [e.1, e.2, ← hs.1.1] at h2
  rw [e.2, ← hs.1.1]
  rcases h2 with ⟨c, rfl⟩ | ⟨c, X', rfl, hz⟩
  · rw [if_neg c] at hM1
    subst hM1
    refine ⟨?_, h.kz zz.rf⟩
    by_cases d : 0 ≤ k ∧ k ≤ 2000
    · by_cases d2 : 43200 < M 0 0 0 + k
      · simp only [if_pos d, if_pos d2]
      · exact absurd ⟨d, d2⟩ c
    · simp only [if_neg d]
  · rw [if_pos c] at hM1
    have hk : M 0 0 0 + (k.toNat : Int) ≤ 43200 := by omega
    obtain ⟨r1, r2, r3, r4⟩ := hs.run (h.1 0 (by decide)) i1 i2 hk
    simp only [if_pos c.1, if_neg c.2]
    refine ⟨r1.cn (by decide), ?_⟩
    have m0 : M1 0 = M 0 := by rw [hM1]; exact dS_V _ _ _ _
    have m1 : M1 1 = lpV (M 0) k.toNat := by rw [hM1, dS_ne (by decide) (by decide), dR_ne (by decide)]; exact dS_V _ _ _ _
    have m7 : M1 7 = M 7 := by rw [hM1, dS_ne (by decide) (by decide), dR_same]
    have mr : ∀ r, r ≠ 0 → r ≠ 1 → r ≠ 7 → r ≠ 20 → r ≠ 21 → M1 r = M r := fun r a b c d f => by
      rw [hM1, dS_ne a (by omega), dR_ne c, dS_ne b (by omega)]
    have m2 : ∀ r, r ≠ 8 → r ≠ 9 → r ≠ 10 → dN (dR M1 10 (M 9)) (M 9) X' r = M1 r := fun r a b c => by rw [dN_ne b a, dR_ne c]
    have t := h.2.2.2.1
    refine h.keep (by rw [m2 0 (by decide) (by decide) (by decide), m0]) ?_ (fun r a b => by rw [m2 r (by omega) (by omega) (by omega), mr r (by omega) (by omega) (by omega) (by omega) (by omega)]) ?_ ?_ ?_ ?_ (fun i => by rw [m2 _ (by omega) (by omega) (by omega), mr _ (by omega) (by omega) (by omega) (by omega) (by omega)])
    · rw [m2 1 (by decide) (by decide) (by decide), m1]
      exact lpV_iv (h.1 0 (by decide)) hk
    · rw [m2 7 (by decide) (by decide) (by decide), m7]
      exact ⟨rfl, rfl⟩
    · rw [m2 7 (by decide) (by decide) (by decide), m7, dN_X]
      exact ⟨t.1, t.2.1, hz.zz.ok t.2.2.1, hz.zz.tx t.2.2.2⟩
    · rw [dN_X]; exact hz.zz.1
    · rw [dN_V]
theorem op_undo {M M1 M2 : dp_M} {y y2 : Int} (h : iM M) (h1 : y = (if M 7 1 0 = 0 then -100002 else M 7 1 0 - 1) ∧ M1 = (if M 7 1 0 = 0 then dS (dR M 7 (M 7)) 0 (M 0) (M 20) else dS (dR M 7 (u2 (M 7) 1 0 (M 7 1 0 - 1))) 0 (M (reJ (M 7))) (M 20))) (e : M1 8 = M 8 ∧ M1 9 = M 9) (h2 : y2 = (if M1 8 0 0 = 0 then -100002 else M1 8 0 0 - 1) ∧ M2 = (if M1 8 0 0 = 0 then dN M1 (M1 9) (M1 8) else unM M1 (M1 8))) : y = y2 ∧ iM M2 := by
  obtain ⟨rfl, hM1⟩ := h1
  obtain ⟨rfl, rfl⟩ := h2
  rw [e.1, e.2]
  obtain ⟨a, b, c, t, ez, g0, g⟩ := id h
  rw [← ez]
  refine ⟨rfl, ?_⟩
  by_cases q : M 7 1 0 = 0
  · simp only [if_pos q] at hM1 ⊢
    subst hM1
    exact h.kz zz.rf
  · simp only [if_neg q] at hM1 ⊢
    have hb := b.1
    have hb5 := b.2.1
    have hj := b.2.2 (M 7 1 0 - 1).toNat (by omega)
    have hJ : 2 ≤ reJ (M 7) ∧ reJ (M 7) ≤ 6 := by unfold reJ; omega
    have m0 : M1 0 = M (reJ (M 7)) := by rw [hM1]; exact dS_V _ _ _ _
    have m7 : M1 7 = u2 (M 7) 1 0 (M 7 1 0 - 1) := by rw [hM1, dS_ne (by decide) (by decide), dR_same]
    have mr : ∀ r, r ≠ 0 → r ≠ 7 → r ≠ 20 → M1 r = M r := fun r a b c => by rw [hM1, dS_ne a (by omega), dR_ne b]
    have gl := g (M 7 1 0 - 1).toNat (by omega)
    unfold unM
    rw [e.1, ← ez] at *
    generalize hM2 : dN M1 (M1 (40 + (M 7 1 0 - 1).toNat)) (u2 (M 8) 0 0 (M 7 1 0 - 1)) = M2
    have lo : ∀ r, r ≠ 8 → r ≠ 9 → M2 r = M1 r := fun r a b => by rw [← hM2, dN_ne b a]
    have n8 : M2 8 = u2 (M 8) 0 0 (M 7 1 0 - 1) := by rw [← hM2, dN_X]
    have n9 : M2 9 = M (40 + (M 7 1 0 - 1).toNat) := by rw [← hM2, dN_V, mr _ (by omega) (by omega) (by omega)]
    have x1 : M2 7 1 0 = M 7 1 0 - 1 := by rw [lo 7 (by decide) (by decide), m7, u2_same, u1_same]
    have xc : ∀ c, c ≠ 1 → M2 7 c = M 7 c := fun c hc => by rw [lo 7 (by decide) (by decide), m7, u2_ne hc]
    have hz : zz (u2 (M 8) 0 0 5) (u2 (M 8) 0 0 5) := zz.rf
    refine ⟨fun r hr => ?_, ?_, ?_, ⟨?_, ?_, ?_, ?_⟩, ?_, ?_, fun i hi => ?_⟩
    · rw [lo r (by omega) (by omega)]
      by_cases r0 : r = 0
      · subst r0; rw [m0]; exact a _ (by omega)
      · rw [mr r r0 (by omega) (by omega)]; exact a r hr
    · unfold hOK
      rw [x1, xc 2 (by decide)]
      exact ⟨by omega, by omega, b.2.2⟩
    · rw [xc 2 (by decide)]; exact c
    · have t1 := t.1
      unfold tOK at t1 ⊢
      rw [xc 3 (by decide), xc 4 (by decide)]; exact t1
    · have t2 := t.2.1
      unfold nOK at t2 ⊢
      rw [xc 5 (by decide)]; exact t2
    · have t3 := t.2.2.1
      have e1 : mT (M2 8) 3 0 = mT (M 8) 3 0 := by
        show M2 8 0 1 = M 8 0 1
        rw [n8, u2_same, u1_ne (by decide)]
      have e2 : mT (M2 8) 4 = mT (M 8) 4 := by
        show M2 8 4 = M 8 4
        rw [n8, u2_ne (by decide)]
      unfold tOK at t3 ⊢
      rw [e1, e2]; exact t3
    · have t4 := t.2.2.2
      unfold TX at t4 ⊢
      rw [xc 3 (by decide), xc 4 (by decide), n8, u2_same, u1_ne (by decide), u2_ne (by decide)]
      exact t4
    · rw [x1, n8, u2_same, u1_same]
    · rw [lo 0 (by decide) (by decide), m0, n9]
      exact gl
    · rw [x1] at hi
      have hbi := b.2.2 i (by omega)
      rw [xc 2 (by decide), lo _ (by omega) (by omega), lo _ (by omega) (by omega), mr _ (by omega) (by omega) (by omega), mr _ (by omega) (by omega) (by omega)]
      exact g i (by omega)
