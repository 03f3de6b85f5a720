/-! A TARGET BEGUN ALIKE, A HOLD, A MINUTE -/
theorem uc_comm {V : dp_V} {c d : Nat} {f g : Nat → Int} (h : c ≠ d) : uc (uc V c f) d g = uc (uc V d g) c f := by
  funext e
  unfold uc
  by_cases p : e = d
  · by_cases q : e = c
    · exact absurd (q.symm.trans p) h
    · rw [if_pos p, if_neg q, if_pos p]
  · rw [if_neg p, if_neg p]
theorem u2_ucC {V : dp_V} {c d k : Nat} {x : Int} {f : Nat → Int} (h : c ≠ d) : u2 (uc V c f) d k x = uc (u2 V d k x) c f := by
  rw [u2_uc, u2_uc, uc_ne (Ne.symm h), uc_comm h]
theorem u2_ucS {V : dp_V} {c k : Nat} {x : Int} {f : Nat → Int} : u2 (uc V c f) c k x = uc V c (u1 f k x) := by
  rw [u2_uc, uc_same, uc_uc]
theorem mvV_uc {V : dp_V} {c d : Nat} {p : Int} {f : Nat → Int} (h : c ≠ d) : mvV (uc V c f) d p = uc (mvV V d p) c f := by
  unfold mvV
  rw [uc_ne (Ne.symm h), u2_ucC h, u2_ucC h, u2_ucC h, u2_ucC h, u2_ucC h]
  split <;> rfl
theorem foV_uc {V : dp_V} {c d : Nat} {p : Int} {f : Nat → Int} (h : c ≠ d) (h1 : c ≠ 1) : foV (uc V c f) d p = uc (foV V d p) c f := by
  unfold foV
  rw [uc_ne (Ne.symm h), uc_ne (Ne.symm h1), mvV_uc h, mvV_uc h]
theorem slV_uc {V : dp_V} {t : Nat} {p el : Int} {f : Nat → Int} : slV (uc V (t + 6) f) p el = uc (slV V p el) (t + 6) f := by
  unfold slV
  rw [foV_uc (by omega) (by omega), foV_uc (by omega) (by omega), uc_ne (show 0 ≠ t + 6 by omega), u2_ucC (by omega)]
def bgR (f : Nat → Int) (T p m : Int) : Nat → Int := u1 (u1 (u1 (u1 (u1 (u1 f 6 1) 12 p) 7 T) 8 (T + m)) 9 (T + m + f 4)) 13 0
theorem b7V_uc {V : dp_V} {t : Nat} : b7V V t = uc (slV V (apF V (V (t + 6) 0)) (V (t + 6) 1)) (t + 6) (bgR (V (t + 6)) (V 0 0) (apF V (V (t + 6) 0)) (tmF V (apF V (V (t + 6) 0)) (V (t + 6) 1))) := by
  unfold b7V b3V
  rw [u2_uc V (t + 6), u2_ucS, u2_ucS, slV_uc, u2_ucS, u2_ucS, u2_ucS]
  rfl
theorem b7M_uc {V : dp_V} {t : Nat} : b7M V t = uc (slV V (apF V (V (t + 6) 0)) (V (t + 6) 1)) (t + 6) (u1 (u1 (u1 (u1 (u1 (u1 (V (t + 6)) 6 1) 7 (V 0 0)) 8 (V 0 0 + tmF V (apF V (V (t + 6) 0)) (V (t + 6) 1))) 9 (V 0 0 + tmF V (apF V (V (t + 6) 0)) (V (t + 6) 1) + V (t + 6) 4)) 12 (apF V (V (t + 6) 0))) 13 0) := by
  unfold b7M
  rw [u2_uc (slV V (apF V (V (t + 6) 0)) (V (t + 6) 1)) (t + 6), u2_ucS, u2_ucS, u2_ucS, u2_ucS, u2_ucS, slV_ne (by omega) (by omega) (by omega)]
theorem Sim.b7 {V W : dp_V} {N t : Nat} (h : Sim V W N) (ht : t < N) : Sim (b7V V t) (b7M W t) N := by
  have T := h.2.2.2.2 t ht
  rw [b7V_uc, b7M_uc, ← h.st ht (show 0 < 7 by decide), ← h.st ht (show 1 < 7 by decide), ← h.st ht (show 4 < 7 by decide), ← h.ap, ← h.tm, ← h.1.1]
  refine simUc h.sl ht ?_ ?_
  · unfold bgR
    simp (decide := true) only [u1, reduceIte]
  · unfold bgR
    refine ⟨fun k hk => ?_, ?_, fun _ => ⟨?_, ?_, ?_, ?_⟩, fun _ => ?_, fun q => ?_⟩
    · have a := T.1 k hk
      rcases (by omega : k = 0 ∨ k = 1 ∨ k = 2 ∨ k = 3 ∨ k = 4 ∨ k = 5 ∨ k = 6) with rfl | rfl | rfl | rfl | rfl | rfl | rfl
      all_goals (simp (decide := true) only [u1, reduceIte]; try exact a)
    · have a := T.2.1
      simp (decide := true) only [u1, reduceIte]
      exact a
    · simp (decide := true) only [u1, reduceIte]
    · simp (decide := true) only [u1, reduceIte]
    · simp (decide := true) only [u1, reduceIte]
    · simp (decide := true) only [u1, reduceIte]
    · simp (decide := true) only [u1, reduceIte]
    · simp (decide := true) only [u1, reduceIte] at q
/-- what holds behind the beginning, before it is looked at -/
theorem b7V_at {V : dp_V} {t : Nat} : b7V V t (t + 6) 6 = 1 ∧ b7V V t (t + 6) 8 = V 0 0 + tmF V (apF V (V (t + 6) 0)) (V (t + 6) 1) ∧ b7V V t (t + 6) 9 = V 0 0 + tmF V (apF V (V (t + 6) 0)) (V (t + 6) 1) + V (t + 6) 4 ∧ b7V V t (t + 6) 13 = 0 := by
  rw [b7V_uc, uc_same]
  unfold bgR
  simp (decide := true) only [u1, reduceIte]
  first | done | exact ⟨trivial, trivial, trivial, trivial⟩
theorem b7V_ne {V : dp_V} {t u : Nat} (h : u ≠ t) : b7V V t (u + 6) = V (u + 6) := by
  rw [b7V_uc, uc_ne (by omega), slV_ne (by omega) (by omega) (by omega)]
theorem beg_bd {V : dp_V} {t : Nat} (h : ivC V) (ht : t < 10) (hr : rsF V t = 0) : 0 ≤ tmF V (apF V (V (t + 6) 0)) (V (t + 6) 1) ∧ 1 ≤ V (t + 6) 4 := by
  obtain ⟨r1, -⟩ := rsF_0 hr
  have hT : ivT (V (t + 6)) := by
    rcases h.2.1 t ht with a | a
    · omega
    · exact a
  unfold ivT at hT
  have hb := @apF_bd V (V (t + 6) 0) (by omega)
  have htm := @tmF_bd V (apF V (V (t + 6) 0)) (V (t + 6) 1) h.1 (by omega) (by omega)
  omega
theorem Sim.be {V W : dp_V} {N t : Nat} (h : Sim V W N) (hv : ivC V) (ht : t < 10) (hr : rsF V t = 0) : Sim (beV V t) (bgV W t) N := by
  have hN := h.ltN ht (by have := (rsF_0 hr).1; omega)
  obtain ⟨a6, a8, -, -⟩ := @b7V_at V t
  have hb := beg_bd hv ht hr
  unfold beV bgV
  refine (h.b7 hN).lk hN a6 (fun _ => ?_)
  rw [a8, b7V_0]
  omega
/-- a minute, alike -/
theorem Sim.m4 {V W : dp_V} {N : Nat} (h : Sim V W N) (hv : ivC V) (i1 : I1 V) (i2 : I2 V) : Sim (m4V V) (miM W N) N := by
  have a := h.m2 i1 i2
  have b := a.bs
  unfold m4V miM
  rw [← b]
  split
  · exact a
  · next q =>
    rcases @bsF_sp (enV V) with z | ⟨z1, z2, z3⟩
    · exact absurd z q
    · exact a.be (enV_iv hv).1 (by omega) z3
/-- a hold, alike -/
theorem Sim.ho {V W : dp_V} {N : Nat} (h : Sim V W N) (i1 : I1 V) : Sim (hoV V) (hdM W N) N := by
  have hu := h.uN
  have e02 : V 0 2 = W 0 2 := h.1.2.2
  have hh : hoG 0 10 (u2 V 0 2 (V 0 2 + 1)) = u2 (hoG 0 10 V) 0 2 (V 0 2 + 1) ∧ Sim (hoG 0 10 V) (hd1 W N) N ∧ hd1 W N 0 = W 0 := by
    rcases @uwF_spV V with ⟨a, b⟩ | ⟨t, h1, h2, h3⟩
    · refine ⟨?_, ?_, ?_⟩
      · rw [hoG_no 10 0 V (fun t _ q => b t (by omega)), hoG_no 10 0 _ (fun t _ q => by rw [u2_ne (by omega)]; exact b t (by omega))]
      · rw [hoG_no 10 0 V (fun t _ q => b t (by omega))]
        unfold hd1
        rw [if_pos (by rw [← hu, a]; rfl)]
        exact h
      · unfold hd1
        rw [if_pos (by rw [← hu, a]; rfl)]
    · have o : ∀ u, u < 10 → u ≠ t → ¬ V (u + 6) 6 = 1 := fun u hu hne q => hne (i1 u t hu h1 q h3)
      have e : uwN W N = (t : Int) := by
        rw [← hu, h2]
        unfold ftF
        rw [if_neg (by omega)]
      have hN := h.ltN h1 (by omega)
      have eh : hd1 W N = u2 (u2 W (t + 6) 6 0) (t + 6) 11 (W (t + 6) 11 + 1) := by
        unfold hd1
        rw [if_neg (by omega), e, Int.toNat_natCast]
      have T := h.2.2.2.2 t hN
      refine ⟨?_, ?_, ?_⟩
      · rw [hoG_one 10 0 V t (by omega) (by omega) h3 (fun u _ q => o u (by omega)), hoG_one 10 0 _ t (by omega) (by omega) (by rw [u2_ne (by omega)]; exact h3) (fun u _ q => by rw [u2_ne (by omega)]; exact o u (by omega))]
        rw [u2_ne (show t + 6 ≠ 0 by omega), u2_two, u2_two, u2_ne (show t + 6 ≠ 0 by omega), u2_ucC (show t + 6 ≠ 0 by omega)]
      · rw [eh, hoG_one 10 0 V t (by omega) (by omega) h3 (fun u _ q => o u (by omega)), u2_two, u2_two]
        refine simUc h hN ?_ ?_
        · rw [u1_ne (by decide), u1_same]; decide
        · refine ⟨fun k hk => ?_, ?_, fun q => ?_, fun q => ?_, fun q => ?_⟩
          · have e11 : ∀ (f : Nat → Int) (x : Int), u1 f 11 x k = f k := fun f x => u1_ne (by omega)
            rw [e11, e11]
            by_cases r : k = 6
            · subst r; rw [u1_same, u1_same]
            · have e6 : ∀ (f : Nat → Int) (x : Int), u1 f 6 x k = f k := fun f x => u1_ne r
              rw [e6, e6]; exact T.1 k hk
          · rw [u1_same, u1_same, T.2.1]
          all_goals (rw [u1_ne (by decide), u1_same] at q; omega)
      · rw [eh, u2_ne (by omega), u2_ne (by omega)]
  obtain ⟨g1, g2, g3⟩ := hh
  unfold hoV hdM
  have n : ∀ (Z : dp_V), mvV Z 4 9000 0 = Z 0 := fun Z => mvV_ne (by decide)
  rw [g1, u2_uc (hoG 0 10 V) 0 2, mvV_uc (show 0 ≠ 4 by decide), n, g3, ← e02]
  have s : Sim (u2 (mvV (hoG 0 10 V) 4 9000) 0 2 (V 0 2 + 1)) (u2 (mvV (hd1 W N) 4 9000) 0 2 (V 0 2 + 1)) N := (g2.mv (Or.inr rfl)).u0 (by decide)
  rw [u2_uc (mvV (hoG 0 10 V) 4 9000) 0 2, n] at s
  exact s
