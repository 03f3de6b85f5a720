/-! EACH CALL: answers alike, and what holds holds on -/
def zz (Z Z' : dp_V) : Prop := Z' 0 0 = Z 0 0 ∧ Z' 0 1 = Z 0 1 ∧ Z' 4 = Z 4
theorem zz.rf {Z : dp_V} : zz Z Z := ⟨rfl, rfl, rfl⟩
theorem scr.zz {Z Z' : dp_V} (h : scr Z Z') : zz Z Z' := ⟨h.2 0 (by decide) (by decide) (by decide), h.2 1 (by decide) (by decide) (by decide), h.1 4 (by decide)⟩
theorem txF.zz {Z Z' : dp_V} (h : txF Z Z') : zz Z Z' := ⟨h.2 0 (by decide) (by decide), h.2 1 (by decide) (by decide), h.1 4 (by decide) (by decide)⟩
theorem zz.ok {Z Z' : dp_V} (h : zz Z Z') (ht : tOK (mT Z)) : tOK (mT Z') := by
  have e1 : mT Z' 3 0 = mT Z 3 0 := h.2.1
  have e2 : mT Z' 4 = mT Z 4 := h.2.2
  unfold tOK at ht ⊢
  rw [e1, e2]
  exact ht
theorem zz.tx {X Z Z' : dp_V} (h : zz Z Z') (ht : TX X Z) : TX X Z' := by
  unfold TX at ht ⊢
  rw [h.2.1, h.2.2]
  exact ht
theorem eCls {M : dp_M} : dS (dR M 7 (M 7)) 0 (M 0) (M 20) = M := by
  rw [dR_self]
  exact dS_self M 0
/-- what both hold of a memory with class's X', Y' and reference's Z' put -/
theorem kp_at {M : dp_M} {X' Y' Z' : dp_V} : dS (dR M 7 X') 0 (M 0) Y' 8 = M 8 ∧ dS (dR M 7 X') 0 (M 0) Y' 9 = M 9 := ⟨by rw [dS_ne (by decide) (by decide), dR_ne (by decide)], by rw [dS_ne (by decide) (by decide), dR_ne (by decide)]⟩
theorem iM.kp {M : dp_M} (h : iM M) {X' Y' Z' : dp_V} (hX : X' 1 0 = M 7 1 0 ∧ X' 2 = M 7 2) (ht : tOK X' ∧ nOK X' ∧ tOK (mT Z') ∧ TX X' Z') (hZ : Z' 0 0 = M 8 0 0) : iM (dN (dS (dR M 7 X') 0 (M 0) Y') (M 9) Z') := by
  have e : ∀ r, r ≠ 8 → r ≠ 9 → r ≠ 7 → r ≠ 20 → dN (dS (dR M 7 X') 0 (M 0) Y') (M 9) Z' r = M r := fun r a b c d => by
    rw [dN_ne b a]
    by_cases r0 : r = 0
    · subst r0; exact dS_V _ _ _ _
    · rw [dS_ne r0 (by omega), dR_ne c]
  have e7 : dN (dS (dR M 7 X') 0 (M 0) Y') (M 9) Z' 7 = X' := by rw [dN_ne (by decide) (by decide), dS_ne (by decide) (by decide), dR_same]
  refine h.keep (e 0 (by decide) (by decide) (by decide) (by decide)) ?_ (fun r a b => e r (by omega) (by omega) (by omega) (by omega)) ?_ ?_ ?_ ?_ (fun i => e _ (by omega) (by omega) (by omega) (by omega))
  · rw [e 1 (by decide) (by decide) (by decide) (by decide)]; exact h.1 1 (by decide)
  · rw [e7]; exact hX
  · rw [e7, dN_X]; exact ht
  · rw [dN_X]; exact hZ
  · rw [dN_V]
theorem iM.kz {M : dp_M} (h : iM M) {Y' Z' : dp_V} (hz : zz (M 8) Z') : iM (dN (dS (dR M 7 (M 7)) 0 (M 0) Y') (M 9) Z') := h.kp ⟨rfl, rfl⟩ ⟨h.2.2.2.1.1, h.2.2.2.1.2.1, hz.ok h.2.2.2.1.2.2.1, hz.tx h.2.2.2.1.2.2.2⟩ hz.1
theorem iM.rc {M : dp_M} (h : iM M) {V' W' Y' Z1 : dp_V} (hv : ivC V') (hg : Gd V' W') (hZ : zz (rsX (M 8)) Z1) : iM (dN (rnW (rM M (M 0) Y' (M 7) V') (M 9) (M 8)) W' Z1) := by
  have hn := h.2.2.2.1.2.1
  have e : ∀ c, c ≠ 1 → c ≠ 2 → rcX1 (M 7) c = M 7 c := fun c a b => by
    unfold rcX1 rcX
    rw [u2_ne a]
    split
    · rfl
    · unfold drX
      rw [u2_ne a, uc_ne b]
  have r1 : rsX (M 8) 0 1 = M 8 0 1 := by unfold rsX; rw [u2_same, u1_ne (by decide)]
  have r4 : rsX (M 8) 4 = M 8 4 := by unfold rsX; rw [u2_ne (by decide)]
  refine h.rec (X1 := rcX1 (M 7)) hv hg ⟨rfl, rfl, by rw [e 3 (by decide) (by decide)], e 4 (by decide) (by decide)⟩ (fun i hi => by rw [e 5 (by decide) (by decide)]; exact hn i hi) ⟨hZ.1, hZ.2.1.trans r1, hZ.2.2.trans r4⟩
theorem rM_at {M : dp_M} {V Y X V' : dp_V} (h : hOK X) : rM M V Y X V' 8 = M 8 ∧ rM M V Y X V' 9 = M 9 := by
  have hJ := rcJ_ok h
  unfold rM
  exact ⟨by rw [dS_ne (by decide) (by decide), dR_ne (by decide), dR_ne (by omega)], by rw [dS_ne (by decide) (by decide), dR_ne (by decide), dR_ne (by omega)]⟩
theorem I1.of {V V' : dp_V} (h : I1 V) (ht : ∀ t, t < 10 → V' (t + 6) 6 = 1 → V (t + 6) 6 = 1) : I1 V' := fun t u a b c d => h t u a b (ht t a c) (ht u b d)
theorem I2.of {V V' : dp_V} (h : I2 V) (h0 : V' 0 0 = V 0 0) (ht : ∀ t, t < 10 → V' (t + 6) 6 = 1 → V' (t + 6) = V (t + 6)) : I2 V' := fun t a b c => by
  have e := ht t a b
  rw [e] at b c ⊢
  rw [h0]
  exact h t a b c
/-- a setting, a gust -/
theorem ivC_set {V : dp_V} {k : Nat} {x : Int} (h : ivC V) (hk : k < 4) (hx : 0 ≤ x ∧ x ≤ dp_sm k) : ivC (u2 V 1 k x) := by
  refine ivC_uS h ?_ (fun t _ => u2_ne (by omega))
  have hs := h.1
  unfold ivS at hs ⊢
  rw [u2_same, u2_ne (by decide), u2_ne (by decide), u2_ne (by decide), u2_ne (by decide)]
  refine ⟨hs.1, ?_, hs.2.2⟩
  have := hs.2.1
  rcases (by omega : k = 0 ∨ k = 1 ∨ k = 2 ∨ k = 3) with rfl | rfl | rfl | rfl
  · have h1 : 0 ≤ x ∧ x ≤ 500 := hx
    simp (decide := true) only [u1, reduceIte]; omega
  · have h1 : 0 ≤ x ∧ x ≤ 27000 := hx
    simp (decide := true) only [u1, reduceIte]; omega
  · have h1 : 0 ≤ x ∧ x ≤ 100 := hx
    simp (decide := true) only [u1, reduceIte]; omega
  · have h1 : 0 ≤ x ∧ x ≤ 100 := hx
    simp (decide := true) only [u1, reduceIte]; omega
theorem ivC_gust {V : dp_V} {d : Nat} {x : Int} (h : ivC V) (hx : 0 ≤ x ∧ x ≤ 99) : ivC (u2 V 2 d x) := by
  refine ivC_uS h ?_ (fun t _ => u2_ne (by omega))
  have hs := h.1
  unfold ivS at hs ⊢
  rw [u2_same, u2_ne (by decide), u2_ne (by decide), u2_ne (by decide), u2_ne (by decide)]
  refine ⟨hs.1, hs.2.1, fun e he => ?_, hs.2.2.2⟩
  unfold u1
  split
  · exact hx
  · exact hs.2.2.1 e he
theorem ivA_ch {V : dp_V} {c : Nat} {k x : Int} (h : ivA c (V c)) (hk : 0 ≤ k ∧ k ≤ 2) (hx : dp_al k.toNat ≤ x ∧ x ≤ dp_am k.toNat) : ivA c (chV V c k x c) := by
  unfold ivA at h
  unfold chV
  rcases (by omega : k = 0 ∨ k = 1 ∨ k = 2) with rfl | rfl | rfl
  · have h1 : 0 ≤ x ∧ x ≤ 300 := hx
    rw [if_pos rfl]
    unfold ivA mn
    simp (decide := true) only [u2_ap, reduceIte]
    split <;> omega
  · have h1 : 0 ≤ x ∧ x ≤ 2 := hx
    rw [if_neg (by decide), if_pos rfl]
    unfold ivA
    simp (decide := true) only [u2_ap, reduceIte]
    omega
  · have h1 : 1 ≤ x ∧ x ≤ 2000 := hx
    rw [if_neg (by decide), if_neg (by decide), if_pos rfl]
    unfold ivA
    simp (decide := true) only [u2_ap, reduceIte]
    omega
theorem chV_ne {V : dp_V} {c c' : Nat} {k x : Int} (h : c' ≠ c) : chV V c k x c' = V c' := by
  unfold chV
  repeat' split
  · rw [u2_ne h, u2_ne h]
  · rw [u2_ne h]
  · rw [u2_ne h]
  · rfl
theorem ivC_ch {V : dp_V} {c : Nat} {k x : Int} (h : ivC V) (hc : c = 3 ∨ c = 4) (hk : 0 ≤ k ∧ k ≤ 2) (hx : dp_al k.toNat ≤ x ∧ x ≤ dp_am k.toNat) : ivC (chV V c k x) := by
  refine ivC_uS h ?_ (fun t _ => chV_ne (by omega))
  have hs := h.1
  unfold ivS at hs ⊢
  rw [chV_ne (show 0 ≠ c by omega), chV_ne (show 1 ≠ c by omega), chV_ne (show 2 ≠ c by omega)]
  refine ⟨hs.1, hs.2.1, hs.2.2.1, ?_, ?_⟩
  · by_cases e : c = 3
    · subst e; exact ivA_ch hs.2.2.2.1 hk hx
    · rw [chV_ne (by omega)]; exact hs.2.2.2.1
  · by_cases e : c = 4
    · subst e; exact ivA_ch hs.2.2.2.2 hk hx
    · rw [chV_ne (by omega)]; exact hs.2.2.2.2
theorem ivC_sl {V : dp_V} {z el : Int} (h : ivC V) (h3 : ¬ wyP 3 (V 3) z (V 1 0) = 0) (h4 : ¬ wyP 4 (V 4) el (V 1 0) = 0) : ivC (slV V z el) := ivC_uS h (slV_iv h.1 h3 h4) (fun t _ => slV_ne (by omega) (by omega) (by omega))
theorem Gd.of {V V' W' : dp_V} {N : Nat} (i1 : I1 V) (i2 : I2 V) (h : Sim V' W' N) (h0 : V' 0 0 = V 0 0) (ht : ∀ t, t < 10 → V' (t + 6) = V (t + 6)) : Gd V' W' := ⟨N, h, i1.of (fun t a b => by rw [ht t a] at b; exact b), i2.of h0 (fun t a _ => ht t a)⟩
theorem axC_e {a : Int} : axC a = 3 ∨ axC a = 4 := axC_or
/-! the calls -/
theorem op_set {M M1 M2 : dp_M} {k x y y2 : Int} (h : iM M) (h1 : y = (if (0 ≤ k ∧ k ≤ 3) ∧ 0 ≤ x ∧ x ≤ dp_sm k.toNat then M 0 1 k.toNat else -100001) ∧ M1 = (if (0 ≤ k ∧ k ≤ 3) ∧ 0 ≤ x ∧ x ≤ dp_sm k.toNat then rM M (M 0) (M 20) (M 7) (u2 (M 0) 1 k.toNat x) else dS (dR M 7 (M 7)) 0 (M 0) (M 20))) (e : M1 8 = M 8 ∧ M1 9 = M 9) (h2 : y2 = (if (0 ≤ k ∧ k ≤ 3) ∧ 0 ≤ x ∧ x ≤ dp_sm k.toNat then M1 9 1 k.toNat else -100001) ∧ M2 = (if (0 ≤ k ∧ k ≤ 3) ∧ 0 ≤ x ∧ x ≤ dp_sm k.toNat then rnM M1 (M1 9) (M1 8) (u2 (M1 9) 1 k.toNat x) else dN M1 (M1 9) (M1 8))) : y = y2 ∧ iM M2 := by
  obtain ⟨N, hs, i1, i2⟩ := h.2.2.2.2.2.1
  obtain ⟨rfl, rfl⟩ := h1
  obtain ⟨rfl, rfl⟩ := h2
  rw [e.1, e.2]
  by_cases c : (0 ≤ k ∧ k ≤ 3) ∧ 0 ≤ x ∧ x ≤ dp_sm k.toNat
  · simp only [if_pos c]
    refine ⟨by rw [hs.2.1.1], h.rc (ivC_set (h.1 0 (by decide)) (by omega) c.2) (Gd.of i1 i2 (hs.uc (by omega)) (by rw [u2_ne (by decide)]) (fun t _ => u2_ne (by omega))) zz.rf⟩
  · simp only [if_neg c]
    exact ⟨trivial, h.kz zz.rf⟩
theorem op_setAxis {M M1 M2 : dp_M} {a k x y y2 : Int} (h : iM M) (h1 : y = (if (0 ≤ a ∧ a ≤ 1) ∧ (0 ≤ k ∧ k ≤ 2) ∧ dp_al k.toNat ≤ x ∧ x ≤ dp_am k.toNat then axT (axC a) (M 0 (axC a)) k else -100001) ∧ M1 = (if (0 ≤ a ∧ a ≤ 1) ∧ (0 ≤ k ∧ k ≤ 2) ∧ dp_al k.toNat ≤ x ∧ x ≤ dp_am k.toNat then rM M (M 0) (M 20) (M 7) (chV (M 0) (axC a) k x) else dS (dR M 7 (M 7)) 0 (M 0) (M 20))) (e : M1 8 = M 8 ∧ M1 9 = M 9) (h2 : y2 = (if (0 ≤ a ∧ a ≤ 1) ∧ (0 ≤ k ∧ k ≤ 2) ∧ dp_al k.toNat ≤ x ∧ x ≤ dp_am k.toNat then axT (axC a) (M1 9 (axC a)) k else -100001) ∧ M2 = (if (0 ≤ a ∧ a ≤ 1) ∧ (0 ≤ k ∧ k ≤ 2) ∧ dp_al k.toNat ≤ x ∧ x ≤ dp_am k.toNat then rnM M1 (M1 9) (M1 8) (chV (M1 9) (axC a) k x) else dN M1 (M1 9) (M1 8))) : y = y2 ∧ iM M2 := by
  obtain ⟨N, hs, i1, i2⟩ := h.2.2.2.2.2.1
  obtain ⟨rfl, rfl⟩ := h1
  obtain ⟨rfl, rfl⟩ := h2
  rw [e.1, e.2]
  have hc := @axC_or a
  by_cases c : (0 ≤ a ∧ a ≤ 1) ∧ (0 ≤ k ∧ k ≤ 2) ∧ dp_al k.toNat ≤ x ∧ x ≤ dp_am k.toNat
  · simp only [if_pos c]
    refine ⟨by rw [hs.row hc], h.rc (ivC_ch (h.1 0 (by decide)) hc c.2.1 c.2.2) (Gd.of i1 i2 (hs.ch hc) (by rw [chV_ne (by omega)]) (fun t _ => chV_ne (by omega))) zz.rf⟩
  · simp only [if_neg c]
    exact ⟨trivial, h.kz zz.rf⟩
theorem op_gust {M M1 M2 : dp_M} {d g y y2 : Int} (h : iM M) (h1 : y = (if (0 ≤ d ∧ d ≤ 29) ∧ 0 ≤ g ∧ g ≤ 99 then (if d * 1440 < M 0 0 0 then -100002 else M 0 2 d.toNat) else -100001) ∧ M1 = (if ((0 ≤ d ∧ d ≤ 29) ∧ 0 ≤ g ∧ g ≤ 99) ∧ ¬ d * 1440 < M 0 0 0 then rM M (M 0) (M 20) (M 7) (u2 (M 0) 2 d.toNat g) else dS (dR M 7 (M 7)) 0 (M 0) (M 20))) (e : M1 8 = M 8 ∧ M1 9 = M 9) (h2 : y2 = (if (0 ≤ d ∧ d ≤ 29) ∧ 0 ≤ g ∧ g ≤ 99 then (if d * 1440 < M1 9 0 0 then -100002 else M1 9 2 d.toNat) else -100001) ∧ M2 = (if ((0 ≤ d ∧ d ≤ 29) ∧ 0 ≤ g ∧ g ≤ 99) ∧ ¬ d * 1440 < M1 9 0 0 then rnM M1 (M1 9) (M1 8) (u2 (M1 9) 2 d.toNat g) else dN M1 (M1 9) (M1 8))) : y = y2 ∧ iM M2 := by
  obtain ⟨N, hs, i1, i2⟩ := h.2.2.2.2.2.1
  obtain ⟨rfl, rfl⟩ := h1
  obtain ⟨rfl, rfl⟩ := h2
  rw [e.1, e.2, ← hs.1.1]
  refine ⟨by rw [hs.2.1.2.1], ?_⟩
  by_cases c : ((0 ≤ d ∧ d ≤ 29) ∧ 0 ≤ g ∧ g ≤ 99) ∧ ¬ d * 1440 < M 0 0 0
  · simp only [if_pos c]
    exact h.rc (ivC_gust (h.1 0 (by decide)) c.1.2) (Gd.of i1 i2 (hs.uc (by omega)) (by rw [u2_ne (by decide)]) (fun t _ => u2_ne (by omega))) zz.rf
  · simp only [if_neg c]
    exact h.kz zz.rf
theorem op_same {M M1 M2 : dp_M} (h : iM M) (h1 : M1 = dS (dR M 7 (M 7)) 0 (M 0) (M 20)) (e : M1 8 = M 8 ∧ M1 9 = M 9) (h2 : M2 = dN M1 (M1 9) (M1 8)) : iM M2 := by
  subst h1
  subst h2
  rw [e.1, e.2]
  exact h.kz zz.rf
theorem op_scr {M M1 M2 : dp_M} (h : iM M) (h1 : ∃ Y', M1 = dS (dR M 7 (M 7)) 0 (M 0) Y') (e : M1 8 = M 8 ∧ M1 9 = M 9) (h2 : ∃ Z', M2 = dN M1 (M1 9) Z' ∧ scr (M1 8) Z') : iM M2 := by
  obtain ⟨Y', rfl⟩ := h1
  obtain ⟨Z', rfl, hz⟩ := h2
  rw [e.1] at hz
  rw [e.2]
  exact h.kz hz.zz
theorem op_count {M M1 M2 : dp_M} {N : Nat} {k y y2 : Int} (h : iM M) (hs : Sim (M 0) (M 9) N) (h1 : y = coF (M 0) (M 7) k ∧ M1 = dS (dR M 7 (M 7)) 0 (M 0) (M 20)) (e : M1 8 = M 8 ∧ M1 9 = M 9) (h2 : y2 = coM (M1 9) (M1 8) N k ∧ M2 = dN M1 (M1 9) (M1 8)) : y = y2 ∧ iM M2 := by
  refine ⟨?_, op_same h h1.2 e h2.2⟩
  rw [h1.1, h2.1, e.1, e.2]
  exact hs.co h.2.2.2.2.1 h.2.2.2.1.2.2.2.1 hs.2.2.2.1.cn
theorem op_axis {M M1 M2 : dp_M} {a k y y2 : Int} (h : iM M) (h1 : y = (if 0 ≤ a ∧ a ≤ 1 then axT (axC a) (M 0 (axC a)) k else -100001) ∧ M1 = dS (dR M 7 (M 7)) 0 (M 0) (M 20)) (e : M1 8 = M 8 ∧ M1 9 = M 9) (h2 : y2 = (if 0 ≤ a ∧ a ≤ 1 then axT (axC a) (M1 9 (axC a)) k else -100001) ∧ M2 = dN M1 (M1 9) (M1 8)) : y = y2 ∧ iM M2 := by
  obtain ⟨N, hs, -, -⟩ := h.2.2.2.2.2.1
  refine ⟨?_, op_same h h1.2 e h2.2⟩
  rw [h1.1, h2.1, e.2, hs.row axC_or]
theorem op_way {M M1 M2 : dp_M} {a z k y y2 : Int} (h : iM M) (h1 : y = (if (0 ≤ a ∧ a ≤ 1) ∧ (-27000 ≤ z ∧ z ≤ 27000) ∧ 0 ≤ k ∧ k ≤ 3 then wyR (axC a) (M 0 (axC a)) z (M 0 1 0) k else -100001) ∧ ∃ Y', M1 = dS (dR M 7 (M 7)) 0 (M 0) Y') (e : M1 8 = M 8 ∧ M1 9 = M 9) (h2 : y2 = (if (0 ≤ a ∧ a ≤ 1) ∧ (-27000 ≤ z ∧ z ≤ 27000) ∧ 0 ≤ k ∧ k ≤ 3 then wyR (axC a) (M1 9 (axC a)) z (M1 9 1 0) k else -100001) ∧ ∃ Z', M2 = dN M1 (M1 9) Z' ∧ scr (M1 8) Z') : y = y2 ∧ iM M2 := by
  obtain ⟨N, hs, -, -⟩ := h.2.2.2.2.2.1
  refine ⟨?_, op_scr h h1.2 e h2.2⟩
  rw [h1.1, h2.1, e.2, hs.row axC_or, hs.2.1.1]
theorem op_placeFor {M M1 M2 : dp_M} {z y y2 : Int} (h : iM M) (h1 : y = (if 0 ≤ z ∧ z ≤ 35999 then pfF (M 0) z else -100001) ∧ ∃ Y', M1 = dS (dR M 7 (M 7)) 0 (M 0) Y') (e : M1 8 = M 8 ∧ M1 9 = M 9) (h2 : y2 = (if 0 ≤ z ∧ z ≤ 35999 then pfF (M1 9) z else -100001) ∧ ∃ Z', M2 = dN M1 (M1 9) Z' ∧ scr (M1 8) Z') : y = y2 ∧ iM M2 := by
  obtain ⟨N, hs, -, -⟩ := h.2.2.2.2.2.1
  refine ⟨?_, op_scr h h1.2 e h2.2⟩
  rw [h1.1, h2.1, e.2, hs.pf]
theorem op_slew {M M1 M2 : dp_M} {N : Nat} {z el y y2 : Int} (h : iM M) (hs : Sim (M 0) (M 9) N) (i1 : I1 (M 0)) (i2 : I2 (M 0)) (h1 : y = (if (0 ≤ z ∧ z ≤ 35999) ∧ 500 ≤ el ∧ el ≤ 9000 then (if uwF (M 0) = -1 ∧ ¬ kdF (M 0) = 0 ∧ ¬ wyP 3 (M 0 3) (apF (M 0) z) (M 0 1 0) = 0 ∧ ¬ wyP 4 (M 0 4) el (M 0 1 0) = 0 then tmF (M 0) (apF (M 0) z) el else -100002) else -100001) ∧ ∃ Y', M1 = (if ((0 ≤ z ∧ z ≤ 35999) ∧ 500 ≤ el ∧ el ≤ 9000) ∧ uwF (M 0) = -1 ∧ ¬ kdF (M 0) = 0 ∧ ¬ wyP 3 (M 0 3) (apF (M 0) z) (M 0 1 0) = 0 ∧ ¬ wyP 4 (M 0 4) el (M 0 1 0) = 0 then rM M (M 0) Y' (M 7) (slV (M 0) (apF (M 0) z) el) else dS (dR M 7 (M 7)) 0 (M 0) Y')) (e : M1 8 = M 8 ∧ M1 9 = M 9) (h2 : (¬ ((0 ≤ z ∧ z ≤ 35999) ∧ 500 ≤ el ∧ el ≤ 9000) ∧ y2 = -100001 ∧ M2 = dN M1 (M1 9) (M1 8)) ∨ (((0 ≤ z ∧ z ≤ 35999) ∧ 500 ≤ el ∧ el ≤ 9000) ∧ ¬ (uwG (M1 9) 0 N = -1 ∧ ¬ kdF (M1 9) = 0 ∧ ¬ wyP 3 (M1 9 3) (apF (M1 9) z) (M1 9 1 0) = 0 ∧ ¬ wyP 4 (M1 9 4) el (M1 9 1 0) = 0) ∧ y2 = -100002 ∧ ∃ X', M2 = dN M1 (M1 9) X' ∧ scr (M1 8) X') ∨ (((0 ≤ z ∧ z ≤ 35999) ∧ 500 ≤ el ∧ el ≤ 9000) ∧ (uwG (M1 9) 0 N = -1 ∧ ¬ kdF (M1 9) = 0 ∧ ¬ wyP 3 (M1 9 3) (apF (M1 9) z) (M1 9 1 0) = 0 ∧ ¬ wyP 4 (M1 9 4) el (M1 9 1 0) = 0) ∧ y2 = tmF (M1 9) (apF (M1 9) z) el ∧ ∃ X', M2 = dN (rnW M1 (M1 9) (M1 8)) (slV (M1 9) (apF (M1 9) z) el) X' ∧ scr (rsX (M1 8)) X')) : y = y2 ∧ iM M2 := by
  obtain ⟨rfl, Y', hM1⟩ := h1
  rw [e.1, e.2, ← hs.uw, ← hs.kd, ← hs.ap, ← hs.tm, ← hs.2.1.1, ← hs.2.1.2.2.1, ← hs.2.1.2.2.2] at h2
  rcases h2 with ⟨c, rfl, rfl⟩ | ⟨c, d, rfl, X', rfl, hz⟩ | ⟨c, d, rfl, X', rfl, hz⟩
  · rw [if_neg (fun q => c q.1)] at hM1
    subst hM1
    rw [if_neg c]
    exact ⟨rfl, h.kz zz.rf⟩
  · rw [if_neg (fun q => d q.2)] at hM1
    subst hM1
    rw [if_pos c, if_neg d]
    exact ⟨rfl, h.kz hz.zz⟩
  · rw [if_pos ⟨c, d⟩] at hM1
    subst hM1
    rw [if_pos c, if_pos d]
    exact ⟨rfl, h.rc (ivC_sl (h.1 0 (by decide)) d.2.2.1 d.2.2.2) (Gd.of i1 i2 hs.sl slV_0 (fun t _ => slV_ne (by omega) (by omega) (by omega))) hz.zz⟩
theorem op_isWound {M M1 M2 : dp_M} {y y2 : Int} (h : iM M) (h1 : y = dp_b (M 0 1 1 < ab (M 0 3 3)) ∧ M1 = dS (dR M 7 (M 7)) 0 (M 0) (M 20)) (e : M1 8 = M 8 ∧ M1 9 = M 9) (h2 : y2 = dp_b (M1 9 1 1 < ab (M1 9 3 3)) ∧ M2 = dN M1 (M1 9) (M1 8)) : y = y2 ∧ iM M2 := by
  obtain ⟨N, hs, -, -⟩ := h.2.2.2.2.2.1
  refine ⟨?_, op_same h h1.2 e h2.2⟩
  rw [h1.1, h2.1, e.2, hs.2.1.1, hs.2.1.2.2.1]
