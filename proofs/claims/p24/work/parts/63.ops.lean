/-! EACH CALL: answers alike, and what holds holds on -/
def zz (Z Z' : dp_V) : Prop := Z' 0 0 = Z 0 0 ∧ Z' 0 1 = Z 0 1 ∧ Z' 4 = Z 4
theorem zz.rf {Z : dp_V} : zz Z Z := ⟨rfl, rfl, rfl⟩
theorem scr.zz {Z Z' : dp_V} (h : scr Z Z') : zz Z Z' := ⟨h.2 0 (by decide) (by decide) (by decide), h.2 1 (by decide) (by decide) (by decide), h.1 4 (by decide)⟩
theorem zz.tx {X Z Z' : dp_V} (h : zz Z Z') (ht : TX X Z) : TX X Z' := by
  unfold TX at ht ⊢
  rw [h.2.1, h.2.2]
  exact ht
theorem eCls {M : dp_M} : dS (dR M 7 (M 7)) 0 (M 0) (M 20) = M := by
  rw [dR_self]
  exact dS_self M 0
/-- what both hold of a memory with class's X', Y' and reference's Z' put -/
theorem kp_at {M : dp_M} {X' Y' Z' : dp_V} : dS (dR M 7 X') 0 (M 0) Y' 8 = M 8 ∧ dS (dR M 7 X') 0 (M 0) Y' 9 = M 9 := ⟨by rw [dS_ne (by decide) (by decide), dR_ne (by decide)], by rw [dS_ne (by decide) (by decide), dR_ne (by decide)]⟩
theorem rM_at {M : dp_M} {V Y X V' : dp_V} (h : hOK X) : rM M V Y X V' 8 = M 8 ∧ rM M V Y X V' 9 = M 9 := by
  have hJ := rcJ_ok h
  unfold rM
  exact ⟨by rw [dS_ne (by decide) (by decide), dR_ne (by decide), dR_ne (by omega)], by rw [dS_ne (by decide) (by decide), dR_ne (by decide), dR_ne (by omega)]⟩
theorem I1.of {V V' : dp_V} (h : I1 V) (ht : ∀ t, t < 10 → V' (t + 6) 6 = 1 → V (t + 6) 6 = 1) : I1 V' := fun t u a b c d => h t u a b (ht t a c) (ht u b d)
theorem I2.of {V V' : dp_V} (h : I2 V) (h0 : V' 0 0 = V 0 0) (ht : ∀ t, t < 10 → V' (t + 6) 6 = 1 → V' (t + 6) = V (t + 6)) : I2 V' := fun t a b c => by
  have e := ht t a b
  rw [e] at b c ⊢
  rw [h0]
  exact h t a b c
/-- a setting, a gust -/
theorem ivC_set {V : dp_V} {k : Nat} {x : Int} (h : ivC V) (hk : k < 4) (hx : 0 ≤ x ∧ x ≤ dp_sm k) : ivC (u2 V 1 k x) := by
  refine ivC_uS h ?_ (fun t _ => u2_ne (by omega))
  have hs := h.1
  unfold ivS at hs ⊢
  rw [u2_same, u2_ne (by decide), u2_ne (by decide), u2_ne (by decide), u2_ne (by decide)]
  refine ⟨hs.1, ?_, hs.2.2⟩
  have := hs.2.1
  rcases (by omega : k = 0 ∨ k = 1 ∨ k = 2 ∨ k = 3) with rfl | rfl | rfl | rfl
  · have h1 : 0 ≤ x ∧ x ≤ 500 := hx
    simp (decide := true) only [u1, reduceIte]; omega
  · have h1 : 0 ≤ x ∧ x ≤ 27000 := hx
    simp (decide := true) only [u1, reduceIte]; omega
  · have h1 : 0 ≤ x ∧ x ≤ 100 := hx
    simp (decide := true) only [u1, reduceIte]; omega
  · have h1 : 0 ≤ x ∧ x ≤ 100 := hx
    simp (decide := true) only [u1, reduceIte]; omega
theorem ivC_gust {V : dp_V} {d : Nat} {x : Int} (h : ivC V) (hx : 0 ≤ x ∧ x ≤ 99) : ivC (u2 V 2 d x) := by
  refine ivC_uS h ?_ (fun t _ => u2_ne (by omega))
  have hs := h.1
  unfold ivS at hs ⊢
  rw [u2_same, u2_ne (by decide), u2_ne (by decide), u2_ne (by decide), u2_ne (by decide)]
  refine ⟨hs.1, hs.2.1, fun e he => ?_, hs.2.2.2⟩
  unfold u1
  split
  · exact hx
  · exact hs.2.2.1 e he
theorem ivA_ch {V : dp_V} {c : Nat} {k x : Int} (h : ivA c (V c)) (hk : 0 ≤ k ∧ k ≤ 2) (hx : dp_al k.toNat ≤ x ∧ x ≤ dp_am k.toNat) : ivA c (chV V c k x c) := by
  unfold ivA at h
  unfold chV
  rcases (by omega : k = 0 ∨ k = 1 ∨ k = 2) with rfl | rfl | rfl
  · have h1 : 0 ≤ x ∧ x ≤ 300 := hx
    rw [if_pos rfl]
    unfold ivA mn
    simp (decide := true) only [u2_ap, reduceIte]
    split <;> omega
  · have h1 : 0 ≤ x ∧ x ≤ 2 := hx
    rw [if_neg (by decide), if_pos rfl]
    unfold ivA
    simp (decide := true) only [u2_ap, reduceIte]
    omega
  · have h1 : 1 ≤ x ∧ x ≤ 2000 := hx
    rw [if_neg (by decide), if_neg (by decide), if_pos rfl]
    unfold ivA
    simp (decide := true) only [u2_ap, reduceIte]
    omega
theorem chV_ne {V : dp_V} {c c' : Nat} {k x : Int} (h : c' ≠ c) : chV V c k x c' = V c' := by
  unfold chV
  repeat' split
  · rw [u2_ne h, u2_ne h]
  · rw [u2_ne h]
  · rw [u2_ne h]
  · rfl
theorem ivC_ch {V : dp_V} {c : Nat} {k x : Int} (h : ivC V) (hc : c = 3 ∨ c = 4) (hk : 0 ≤ k ∧ k ≤ 2) (hx : dp_al k.toNat ≤ x ∧ x ≤ dp_am k.toNat) : ivC (chV V c k x) := by
  refine ivC_uS h ?_ (fun t _ => chV_ne (by omega))
  have hs := h.1
  unfold ivS at hs ⊢
  rw [chV_ne (show 0 ≠ c by omega), chV_ne (show 1 ≠ c by omega), chV_ne (show 2 ≠ c by omega)]
  refine ⟨hs.1, hs.2.1, hs.2.2.1, ?_, ?_⟩
  · by_cases e : c = 3
    · subst e; exact ivA_ch hs.2.2.2.1 hk hx
    · rw [chV_ne (by omega)]; exact hs.2.2.2.1
  · by_cases e : c = 4
    · subst e; exact ivA_ch hs.2.2.2.2 hk hx
    · rw [chV_ne (by omega)]; exact hs.2.2.2.2
theorem ivC_sl {V : dp_V} {z el : Int} (h : ivC V) (h3 : ¬ wyP 3 (V 3) z (V 1 0) = 0) (h4 : ¬ wyP 4 (V 4) el (V 1 0) = 0) : ivC (slV V z el) := ivC_uS h (slV_iv h.1 h3 h4) (fun t _ => slV_ne (by omega) (by omega) (by omega))
theorem Gd.of {V V' W' : dp_V} {N : Nat} (i1 : I1 V) (i2 : I2 V) (h : Sim V' W' N) (h0 : V' 0 0 = V 0 0) (ht : ∀ t, t < 10 → V' (t + 6) = V (t + 6)) : Gd V' W' := ⟨N, h, i1.of (fun t a b => by rw [ht t a] at b; exact b), i2.of h0 (fun t a _ => ht t a)⟩
theorem axC_e {a : Int} : axC a = 3 ∨ axC a = 4 := axC_or
