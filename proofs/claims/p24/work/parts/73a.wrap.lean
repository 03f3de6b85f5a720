/-! WHAT HOLDS BETWEEN THE LAW'S CALLS: the class's state M 0, the law's numbers W, N targets -/
theorem dp_mono {E : dp_E} {l : Launch} {y : MethodName} {ws : List Cond} {fr lo : Nat} {av : List Value} {M : dp_M} {P P' : Int → dp_M → Prop} (h : dp_met E l y ws fr lo av M (dp_qi E P)) (hp : ∀ x M1, P x M1 → P' x M1) : dp_met E l y ws fr lo av M (dp_qi E P') := by
  intro p e ha hc hk s m args below hf happ hP hK
  obtain ⟨k, o, h1, h2, h3, ⟨⟨⟨r, u, q1, ⟨x, q2, q3⟩, q4⟩, q5⟩, q6⟩⟩ := h p e ha hc hk s m args below hf happ hP hK
  exact ⟨k, o, h1, h2, h3, ⟨⟨⟨r, u, q1, ⟨x, q2, hp x u q3⟩, q4⟩, q5⟩, q6⟩⟩
theorem dp_mq {E : dp_E} {l : Launch} {y : MethodName} {ws : List Cond} {fr lo : Nat} {av : List Value} {M M' : dp_M} {Qc : Array Value → State → Outcome → State → Prop} (e : M = M') (h : dp_met E l y ws fr lo av M' Qc) : dp_met E l y ws fr lo av M Qc := by
  rw [e]
  exact h
/-! the cable told in two ways -/
def cb (W : dp_V) : Prop := ∀ c, c = 3 ∨ c = 4 → W c 3 = axS c + W c 5 - W c 6
theorem cb.row {W W' : dp_V} (h : cb W) (h3 : W' 3 = W 3) (h4 : W' 4 = W 4) : cb W' := fun c hc => by
  rcases hc with rfl | rfl
  · rw [h3]; exact h 3 (Or.inl rfl)
  · rw [h4]; exact h 4 (Or.inr rfl)
theorem cb.pt {W : dp_V} {c k : Nat} {x : Int} (h : cb W) (hc : (c ≠ 3 ∧ c ≠ 4) ∨ (k ≠ 3 ∧ k ≠ 5 ∧ k ≠ 6)) : cb (u2 W c k x) := fun d hd => by
  have e := h d hd
  rcases hc with ⟨a, b⟩ | ⟨a, b, f⟩
  · rw [u2_ne (by omega)]; exact e
  · by_cases q : d = c
    · subst q
      rw [u2_same, u1_ne (Ne.symm a), u1_ne (Ne.symm b), u1_ne (Ne.symm f)]
      exact e
    · rw [u2_ne q]; exact e
theorem cb.mv {W : dp_V} {c : Nat} {p : Int} (h : cb W) : cb (mvV W c p) := fun d hd => by
  have e := h d hd
  by_cases q : d = c
  · subst q
    unfold mvV
    split
    · rw [u2_same, u1_ne (by decide), u1_ne (by decide), u1_ne (by decide), u2_same, u1_ne (by decide), u1_ne (by decide), u1_same, u2_same, u1_same, u1_ne (by decide)]
      omega
    · rw [u2_same, u1_ne (by decide), u1_ne (by decide), u1_ne (by decide), u2_same, u1_ne (by decide), u1_same, u1_ne (by decide), u2_same, u1_same, u1_ne (by decide)]
      omega
  · rw [mvV_ne q]; exact e
theorem cb.fo {W : dp_V} {c : Nat} {p : Int} (h : cb W) : cb (foV W c p) := h.mv.mv
theorem cb.sl {W : dp_V} {p el : Int} (h : cb W) : cb (slV W p el) := h.fo.fo.pt (Or.inl ⟨by decide, by decide⟩)
theorem cb.ut {W : dp_V} {t k : Nat} {x : Int} (h : cb W) : cb (u2 W (t + 6) k x) := h.pt (Or.inl ⟨by omega, by omega⟩)
theorem cb.pu {W : dp_V} {t : Nat} (h : cb W) : cb (puV W t) := by
  unfold puV
  split
  · split
    · exact (h.pt (Or.inr ⟨by decide, by decide, by decide⟩)).ut
    · exact h
  · exact h
theorem cb.bg {W : dp_V} {t : Nat} (h : cb W) : cb (bgV W t) := by
  unfold bgV b7M
  exact h.sl.ut.ut.ut.ut.ut.ut.pu
theorem cb.m1 {W : dp_V} {N : Nat} (h : cb W) : cb (ms1 W N) := by
  unfold ms1
  split
  · exact h
  · unfold fnV
    split
    · exact h.pu.ut.ut
    · exact h.pu
theorem cb.e2 : ∀ (n k : Nat) {W : dp_V}, cb W → cb (en2 k n W) := by
  intro n
  induction n with
  | zero => intro k W h; exact h
  | succ n ih =>
    intro k W h
    show cb (en2 (k + 1) n (if W (k + 6) 6 = 0 then (if W 0 0 < W (k + 6) 3 then W else u2 W (k + 6) 6 3) else W))
    refine ih (k + 1) ?_
    split
    · split
      · exact h
      · exact h.ut
    · exact h
theorem cb.mi {W : dp_V} {N : Nat} (h : cb W) : cb (miM W N) := by
  unfold miM
  split
  · exact cb.e2 N 0 h.m1
  · exact (cb.e2 N 0 h.m1).bg
theorem cb.hd {W : dp_V} {N : Nat} (h : cb W) : cb (hdM W N) := by
  have h1 : cb (hd1 W N) := by
    unfold hd1
    split
    · exact h
    · exact h.ut.ut
  unfold hdM
  exact h1.mv.pt (Or.inl ⟨by decide, by decide⟩)
theorem cb.st {W : dp_V} {N : Nat} (h : cb W) : cb (stM W N) := by
  have h0 : cb (u2 W 0 0 (W 0 0 + 1)) := h.pt (Or.inl ⟨by decide, by decide⟩)
  unfold stM hsM
  split
  · split
    · exact h0.hd.mi
    · exact h0.mi
  · exact h0.mi
theorem cb.rn {N : Nat} : ∀ (n : Nat) {W : dp_V}, cb W → cb (rnG N n W) := by
  intro n
  induction n with
  | zero => intro W h; exact h
  | succ n ih => intro W h; exact ih h.st
theorem cb.ru {W : dp_V} {N k : Nat} (h : cb W) : cb (ruM W N k) := cb.rn k h.mi
theorem cb.ch {W : dp_V} {c : Nat} {k x : Int} (h : cb W) : cb (chV W c k x) := by
  unfold chV
  split
  · exact (h.pt (Or.inr ⟨by decide, by decide, by decide⟩)).pt (Or.inr ⟨by decide, by decide, by decide⟩)
  · split
    · exact h.pt (Or.inr ⟨by decide, by decide, by decide⟩)
    · split
      · exact h.pt (Or.inr ⟨by decide, by decide, by decide⟩)
      · exact h
/-! the invariant -/
def iC (M : dp_M) (W : dp_V) (N : Nat) : Prop := ivC (M 0) ∧ hOK (M 7) ∧ Sim (M 0) W N ∧ I1 (M 0) ∧ I2 (M 0) ∧ N ≤ 4 ∧ cb W
theorem iC.m {M : dp_M} {W : dp_V} {N : Nat} (h : iC M W N) : ivM W N := h.2.2.1.toM h.1
theorem iC.q {M : dp_M} {W : dp_V} {N : Nat} (h : iC M W N) : uq W N := fun t u a b c d => by
  have h4 := h.2.2.2.2.2.1
  rw [← h.2.2.1.st a (by decide)] at c
  rw [← h.2.2.1.st b (by decide)] at d
  exact h.2.2.2.1 t u (by omega) (by omega) c d
theorem iC.s {M : dp_M} {W : dp_V} {N : Nat} (h : iC M W N) : ivS W := h.2.2.1.toS h.1
/-- the law's memory as the class's calls see it -/
theorem eMC {M : dp_M} {V X : dp_V} : dN M V X = dS (dR (dN M V X) 7 (M 7)) 0 (M 0) (M 20) := by
  have h7 : dN M V X 7 = M 7 := dN_ne (by decide) (by decide)
  have h0 : dN M V X 0 = M 0 := dN_ne (by decide) (by decide)
  have h20 : dN M V X 20 = M 20 := dN_ne (by decide) (by decide)
  have e : dS (dR (dN M V X) 7 (dN M V X 7)) 0 (dN M V X 0) (dN M V X 20) = dN M V X := by
    rw [dR_self]
    exact dS_self _ 0
  rw [h7, h0, h20] at e
  exact e.symm
theorem eCY {M : dp_M} {V X Y' : dp_V} : dS (dR (dN M V X) 7 (M 7)) 0 (M 0) Y' = dN (dR M 20 Y') V X := by
  funext r'
  unfold dS dN dR
  (repeat' split) <;> first | rfl | omega | (subst_vars; rfl)
theorem eCM {M : dp_M} {V X Y Vn : dp_V} (h : hOK (M 7)) : rM (dN M V X) (M 0) Y (M 7) Vn = dN (rM M (M 0) Y (M 7) Vn) V X := by
  have hJ := rcJ_ok h
  unfold rM
  generalize rcJ (M 7) = j at hJ
  funext r'
  unfold dS dN dR
  (repeat' split) <;> first | rfl | omega
theorem rM_0 {M : dp_M} {V Y X V' : dp_V} : rM M V Y X V' 0 = V' := dS_V _ _ _ _
theorem rM_7 {M : dp_M} {V Y X V' : dp_V} : rM M V Y X V' 7 = rcX1 X := by
  unfold rM
  rw [dS_ne (by decide) (by decide), dR_same]
theorem hOK_rc {X : dp_V} (h : hOK X) : hOK (rcX1 X) := by
  obtain ⟨hK, hK4⟩ := rcX_ok h
  unfold rcX1 hOK
  rw [u2_same, u1_same, u2_ne (by decide)]
  exact ⟨by have := hK.1; omega, by omega, hK.2.2⟩
theorem iC.wr {M : dp_M} {W W' Vn Y : dp_V} {N N' : Nat} (h : iC M W N) (hv : ivC Vn) (hs : Sim Vn W' N') (i1 : I1 Vn) (i2 : I2 Vn) (h4 : N' ≤ 4) (hc : cb W') : iC (rM M (M 0) Y (M 7) Vn) W' N' := ⟨by rw [rM_0]; exact hv, by rw [rM_7]; exact hOK_rc h.2.1, by rw [rM_0]; exact hs, by rw [rM_0]; exact i1, by rw [rM_0]; exact i2, h4, hc⟩
theorem iC.y {M : dp_M} {W Y' : dp_V} {N : Nat} (h : iC M W N) : iC (dR M 20 Y') W N := ⟨by rw [dR_ne (by decide)]; exact h.1, by rw [dR_ne (by decide)]; exact h.2.1, by rw [dR_ne (by decide)]; exact h.2.2.1, by rw [dR_ne (by decide)]; exact h.2.2.2.1, by rw [dR_ne (by decide)]; exact h.2.2.2.2.1, h.2.2.2.2.2⟩
/-! each call of the class: what it answers of the law's numbers W; the law's rows V X as they stand -/
section WR
variable {E : dp_E} {M : dp_M} {V X W : dp_V} {N : Nat}
theorem w_count (hE : dp_OK E) (l : Launch) (h : iC M W N) {k : Int} (hk : dp_R k) (h10 : ¬ k = 10) (h11 : ¬ k = 11) : dp_met E l yX6_count wsX6_count 4 83 [.ref (eAd E 7 0), .int (dp_I k)] (dN M V X) (dp_qi E (fun y M1 => y = coM W (fun _ _ => 0) N k ∧ M1 = dN M V X)) := by
  refine dp_mono (dp_mq eMC (c_X6_count hE l h.1 hk)) (fun x M1 q => ⟨?_, q.2.trans eMC.symm⟩)
  rw [q.1, h.2.2.1.co (Z := fun _ i => if i = 0 then M 7 1 0 else M 7 3 0) rfl rfl h.2.2.1.2.2.2.1.cn]
  unfold coM
  rw [if_neg h10, if_neg h11, if_neg h10, if_neg h11]
theorem w_axis (hE : dp_OK E) (l : Launch) (h : iC M W N) {a k : Int} (ha : dp_R a) (hk : dp_R k) : dp_met E l yX6_axis wsX6_axis 2 41 [.ref (eAd E 7 0), .int (dp_I a), .int (dp_I k)] (dN M V X) (dp_qi E (fun y M1 => y = (if 0 ≤ a ∧ a ≤ 1 then axT (axC a) (W (axC a)) k else -100001) ∧ M1 = dN M V X)) := by
  refine dp_mono (dp_mq eMC (c_X6_axis hE l h.1 ha hk)) (fun x M1 q => ⟨?_, q.2.trans eMC.symm⟩)
  rw [q.1]
  by_cases z : 0 ≤ a ∧ a ≤ 1
  · rw [if_pos z, if_pos z]
    obtain ⟨b, rfl, hb⟩ : ∃ b : Nat, a = (b : Int) ∧ b < 2 := ⟨a.toNat, by omega, by omega⟩
    rw [axC_n hb, h.2.2.1.row (axC2 hb)]
  · rw [if_neg z, if_neg z]
theorem w_target (hE : dp_OK E) (l : Launch) (h : iC M W N) {x k : Int} (hx : dp_R x) (hk : dp_R k) : dp_met E l yX6_target wsX6_target 2 42 [.ref (eAd E 7 0), .int (dp_I x), .int (dp_I k)] (dN M V X) (dp_qi E (fun y M1 => y = (if 0 ≤ x ∧ x < N then tgT (W (x.toNat + 6)) k else -100001) ∧ M1 = dN M V X)) := by
  refine dp_mono (dp_mq eMC (c_X6_target hE l h.1 hx hk)) (fun y M1 q => ⟨?_, q.2.trans eMC.symm⟩)
  rw [q.1]
  simp only [ctO_has h.2.2.1.2.2.2.1]
  by_cases c : 0 ≤ x ∧ x < N
  · rw [if_pos c, if_pos c]
    exact (h.2.2.1.2.2.2.2 x.toNat (by omega)).tg k
  · rw [if_neg c, if_neg c]
theorem w_why (hE : dp_OK E) (l : Launch) (h : iC M W N) {x : Int} (hx : dp_R x) : dp_met E l yX6_why wsX6_why 4 90 [.ref (eAd E 7 0), .int (dp_I x)] (dN M V X) (dp_qi E (fun y M1 => y = (if 0 ≤ x ∧ x < N then rsM W N x.toNat else -100001) ∧ ∃ M2, M1 = dN M2 V X ∧ iC M2 W N)) := by
  refine dp_mono (dp_mq eMC (c_X6_why hE l h.1 hx)) (fun y M1 q => ⟨?_, ?_⟩)
  · rw [q.1]
    simp only [ctO_has h.2.2.1.2.2.2.1]
    by_cases c : 0 ≤ x ∧ x < N
    · rw [if_pos c, if_pos c]
      exact h.2.2.1.rs (by omega)
    · rw [if_neg c, if_neg c]
  · obtain ⟨Y', q2⟩ := q.2
    exact ⟨dR M 20 Y', q2.trans eCY, h.y⟩
theorem w_next (hE : dp_OK E) (l : Launch) (h : iC M W N) : dp_met E l yX6_next wsX6_next 5 112 [.ref (eAd E 7 0)] (dN M V X) (dp_qi E (fun y M1 => y = ftF (bnM W N) ∧ ∃ M2, M1 = dN M2 V X ∧ iC M2 W N)) := by
  refine dp_mono (dp_mq eMC (c_X6_next hE l h.1)) (fun y M1 q => ⟨?_, ?_⟩)
  · rw [q.1, h.2.2.1.bs]
  · obtain ⟨Y', q2⟩ := q.2
    exact ⟨dR M 20 Y', q2.trans eCY, h.y⟩
theorem w_isWound (hE : dp_OK E) (l : Launch) (h : iC M W N) : dp_met E l yX6_isWound wsX6_isWound 1 21 [.ref (eAd E 7 0)] (dN M V X) (dp_qi E (fun y M1 => y = dp_b (W 1 1 < ab (W 3 3)) ∧ M1 = dN M V X)) := by
  refine dp_mono (dp_mq eMC (c_X6_isWound hE l h.1)) (fun y M1 q => ⟨?_, q.2.trans eMC.symm⟩)
  rw [q.1, h.2.2.1.2.1.1, h.2.2.1.2.1.2.2.1]
theorem w_set (hE : dp_OK E) (l : Launch) (h : iC M W N) {k : Nat} {x : Int} (hk4 : k < 4) (hx4 : 0 ≤ x ∧ x ≤ dp_sm k) : dp_met E l yX6_set wsX6_set 3 64 [.ref (eAd E 7 0), .int (dp_I (k : Int)), .int (dp_I x)] (dN M V X) (dp_qi E (fun y M1 => y = W 1 k ∧ ∃ M2, M1 = dN M2 V X ∧ iC M2 (u2 W 1 k x) N)) := by
  have hk : 0 ≤ (k : Int) ∧ (k : Int) ≤ 3 := by omega
  have hx : 0 ≤ x ∧ x ≤ dp_sm (k : Int).toNat := hx4
  have hb : dp_sm k ≤ 27000 := by
    unfold dp_sm
    split <;> omega
  refine dp_mono (dp_mq eMC (c_X6_set hE l h.1 h.2.1 ⟨by omega, by omega⟩ ⟨by omega, by omega⟩)) (fun y M1 q => ⟨?_, ?_⟩)
  · rw [q.1, if_pos ⟨hk, hx⟩, h.2.2.1.2.1.1, Int.toNat_natCast]
  · refine ⟨_, by rw [q.2, if_pos ⟨hk, hx⟩]; exact eCM h.2.1, h.wr (ivC_set h.1 hk4 hx4) (h.2.2.1.uc (Or.inl rfl)) (h.2.2.2.1.of (fun t _ z => by rw [u2_ne (by omega)] at z; exact z)) (h.2.2.2.2.1.of (by rw [u2_ne (by decide)]) (fun t _ _ => u2_ne (by omega))) h.2.2.2.2.2.1 (h.2.2.2.2.2.2.pt (Or.inl ⟨by decide, by decide⟩))⟩
theorem w_setAxis (hE : dp_OK E) (l : Launch) (h : iC M W N) {a k : Nat} {x : Int} (ha : a < 2) (hk : k < 3) (hx : dp_al k ≤ x ∧ x ≤ dp_am k) : dp_met E l yX6_setAxis wsX6_setAxis 3 64 [.ref (eAd E 7 0), .int (dp_I (a : Int)), .int (dp_I (k : Int)), .int (dp_I x)] (dN M V X) (dp_qi E (fun y M1 => y = W (a + 3) k ∧ ∃ M2, M1 = dN M2 V X ∧ iC M2 (chV W (a + 3) (k : Int) x) N)) := by
  have hb : 0 ≤ dp_al k ∧ dp_am k ≤ 2000 := by
    unfold dp_al dp_am
    constructor <;> split <;> omega
  have hg : (0 ≤ (a : Int) ∧ (a : Int) ≤ 1) ∧ (0 ≤ (k : Int) ∧ (k : Int) ≤ 2) ∧ dp_al (k : Int).toNat ≤ x ∧ x ≤ dp_am (k : Int).toNat := ⟨by omega, by omega, by rw [Int.toNat_natCast]; exact hx⟩
  have hr := h.2.2.1.row (axC2 ha)
  refine dp_mono (dp_mq eMC (c_X6_setAxis hE l h.1 h.2.1 ⟨by omega, by omega⟩ ⟨by omega, by omega⟩ ⟨by omega, by omega⟩)) (fun y M1 q => ⟨?_, ?_⟩)
  · rw [q.1, if_pos hg, axC_n ha, axT_lo (by omega), hr]
  · refine ⟨_, by rw [q.2, if_pos hg, axC_n ha]; exact eCM h.2.1, h.wr (ivC_ch h.1 (axC2 ha) hg.2.1 hg.2.2) (h.2.2.1.ch (axC2 ha)) (h.2.2.2.1.of (fun t _ z => by rw [chV_ne (by omega)] at z; exact z)) (h.2.2.2.2.1.of (by rw [chV_ne (by omega)]) (fun t _ _ => chV_ne (by omega))) h.2.2.2.2.2.1 h.2.2.2.2.2.2.ch⟩
theorem w_gust0 (hE : dp_OK E) (l : Launch) (h : iC M W N) {d g : Int} (hd : 0 ≤ d ∧ d ≤ 29) (hg : 0 ≤ g ∧ g ≤ 99) (hl : 1440 * d < W 0 0) : dp_met E l yX6_gust wsX6_gust 3 64 [.ref (eAd E 7 0), .int (dp_I d), .int (dp_I g)] (dN M V X) (dp_qi E (fun y M1 => y = -100002 ∧ M1 = dN M V X)) := by
  refine dp_mono (dp_mq eMC (c_X6_gust hE l h.1 h.2.1 ⟨by omega, by omega⟩ ⟨by omega, by omega⟩)) (fun y M1 q => ⟨?_, ?_⟩)
  · rw [q.1, if_pos ⟨hd, hg⟩, if_pos (by rw [h.2.2.1.1.1]; omega)]
  · rw [q.2, if_neg (fun z => z.2 (by rw [h.2.2.1.1.1]; omega))]
    exact eMC.symm
theorem w_gust (hE : dp_OK E) (l : Launch) (h : iC M W N) {d : Nat} {g : Int} (hd4 : d < 30) (hg : 0 ≤ g ∧ g ≤ 99) (hl : ¬ 1440 * (d : Int) < W 0 0) : dp_met E l yX6_gust wsX6_gust 3 64 [.ref (eAd E 7 0), .int (dp_I (d : Int)), .int (dp_I g)] (dN M V X) (dp_qi E (fun y M1 => y = W 2 d ∧ ∃ M2, M1 = dN M2 V X ∧ iC M2 (u2 W 2 d g) N)) := by
  have hd : 0 ≤ (d : Int) ∧ (d : Int) ≤ 29 := by omega
  have hn : ¬ (d : Int) * 1440 < M 0 0 0 := by rw [h.2.2.1.1.1]; omega
  refine dp_mono (dp_mq eMC (c_X6_gust hE l h.1 h.2.1 ⟨by omega, by omega⟩ ⟨by omega, by omega⟩)) (fun y M1 q => ⟨?_, ?_⟩)
  · rw [q.1, if_pos ⟨hd, hg⟩, if_neg hn, h.2.2.1.2.1.2.1, Int.toNat_natCast]
  · refine ⟨_, by rw [q.2, if_pos ⟨⟨hd, hg⟩, hn⟩]; exact eCM h.2.1, h.wr (ivC_gust h.1 hg) (h.2.2.1.uc (Or.inr (Or.inl rfl))) (h.2.2.2.1.of (fun t _ z => by rw [u2_ne (by omega)] at z; exact z)) (h.2.2.2.2.1.of (by rw [u2_ne (by decide)]) (fun t _ _ => u2_ne (by omega))) h.2.2.2.2.2.1 (h.2.2.2.2.2.2.pt (Or.inl ⟨by decide, by decide⟩))⟩
theorem w_slew (hE : dp_OK E) (l : Launch) (h : iC M W N) {z el : Int} (hz : 0 ≤ z ∧ z ≤ 35999) (he : 500 ≤ el ∧ el ≤ 9000) : dp_met E l yX6_slew wsX6_slew 4 86 [.ref (eAd E 7 0), .int (dp_I z), .int (dp_I el)] (dN M V X) (dp_qi E (fun y M1 => (uwN W N < 0 ∧ ¬ kdF W = 0 ∧ ¬ wyP 3 (W 3) (apF W z) (W 1 0) = 0 ∧ ¬ wyP 4 (W 4) el (W 1 0) = 0 ∧ y = tmF W (apF W z) el ∧ ∃ M2, M1 = dN M2 V X ∧ iC M2 (slV W (apF W z) el) N) ∨ (¬ (uwN W N < 0 ∧ ¬ kdF W = 0 ∧ ¬ wyP 3 (W 3) (apF W z) (W 1 0) = 0 ∧ ¬ wyP 4 (W 4) el (W 1 0) = 0) ∧ y = -100002 ∧ ∃ M2, M1 = dN M2 V X ∧ iC M2 W N))) := by
  have hs := h.2.2.1
  have hu : uwF (M 0) = -1 ↔ uwN W N < 0 := by
    have e := hs.uN
    rcases @uwF_spV (M 0) with ⟨a, b⟩ | ⟨t, h1, h2, h3⟩
    · rw [← e, a]
      exact ⟨fun _ => by decide, fun _ => rfl⟩
    · rw [← e, h2]
      exact ⟨fun q => by omega, fun q => by rw [ftF_n] at q; omega⟩
  have hk := hs.kd
  have ha := hs.ap z
  have ht := hs.tm (apF W z) el
  refine dp_mono (dp_mq eMC (c_X6_slew hE l h.1 h.2.1 ⟨by omega, by omega⟩ ⟨by omega, by omega⟩)) (fun y M1 q => ?_)
  obtain ⟨q1, Y', q2⟩ := q
  simp only [hu, hk, ha, hs.2.1.1, hs.2.1.2.2.1, hs.2.1.2.2.2] at q1 q2
  by_cases c : uwN W N < 0 ∧ ¬ kdF W = 0 ∧ ¬ wyP 3 (W 3) (apF W z) (W 1 0) = 0 ∧ ¬ wyP 4 (W 4) el (W 1 0) = 0
  · rw [if_pos ⟨⟨hz, he⟩, c⟩] at q2
    rw [if_pos ⟨hz, he⟩, if_pos c, ht] at q1
    refine Or.inl ⟨c.1, c.2.1, c.2.2.1, c.2.2.2, q1, _, q2.trans (eCM h.2.1), h.wr (ivC_sl h.1 (by rw [hs.2.1.1, hs.2.1.2.2.1]; exact c.2.2.1) (by rw [hs.2.1.1, hs.2.1.2.2.2]; exact c.2.2.2)) hs.sl (h.2.2.2.1.of (fun t _ w => by rw [slV_ne (by omega) (by omega) (by omega)] at w; exact w)) (h.2.2.2.2.1.of slV_0 (fun t _ _ => slV_ne (by omega) (by omega) (by omega))) h.2.2.2.2.2.1 h.2.2.2.2.2.2.sl⟩
  · rw [if_neg (fun w => c w.2)] at q2
    rw [if_pos ⟨hz, he⟩, if_neg c] at q1
    exact Or.inr ⟨c, q1, _, q2.trans eCY, h.y⟩
theorem w_addno (hE : dp_OK E) (l : Launch) (h : iC M W N) {a0 a1 a2 a3 a4 a5 : Int} (hi : irF a0 a1 a2 a3 a4 a5 = 0) (h0 : dp_R a0) (h1 : dp_R a1) (h2 : dp_R a2) (h3 : dp_R a3) (h4 : dp_R a4) (h5 : dp_R a5) : dp_met E l yX6_add wsX6_add 3 64 [.ref (eAd E 7 0), .int (dp_I a0), .int (dp_I a1), .int (dp_I a2), .int (dp_I a3), .int (dp_I a4), .int (dp_I a5)] (dN M V X) (dp_qi E (fun y M1 => y = -100001 ∧ M1 = dN M V X)) := by
  refine dp_mono (dp_mq eMC (c_X6_add (n := N) hE l h.1 h.2.1 h.2.2.1.2.2.2.1.cn h0 h1 h2 h3 h4 h5)) (fun y M1 q => ⟨?_, ?_⟩)
  · rw [q.1, if_pos hi]
  · rw [q.2, if_pos hi]
    exact eMC.symm
theorem w_add (hE : dp_OK E) (l : Launch) (h : iC M W N) (hN : N < 4) {a0 a1 a2 a3 a4 a5 : Int} (hi : ¬ irF a0 a1 a2 a3 a4 a5 = 0) (h0 : dp_R a0) (h1 : dp_R a1) (h2 : dp_R a2) (h3 : dp_R a3) (h4 : dp_R a4) (h5 : dp_R a5) : dp_met E l yX6_add wsX6_add 3 64 [.ref (eAd E 7 0), .int (dp_I a0), .int (dp_I a1), .int (dp_I a2), .int (dp_I a3), .int (dp_I a4), .int (dp_I a5)] (dN M V X) (dp_qi E (fun y M1 => y = (N : Int) ∧ ∃ M2, M1 = dN M2 V X ∧ iC M2 (adV W N a0 a1 a2 a3 a4 a5) (N + 1))) := by
  refine dp_mono (dp_mq eMC (c_X6_add (n := N) hE l h.1 h.2.1 h.2.2.1.2.2.2.1.cn h0 h1 h2 h3 h4 h5)) (fun y M1 q => ⟨?_, ?_⟩)
  · rw [q.1, if_neg hi, if_neg (by omega)]
  · have hI := I12_aq (n := N) (a0 := a0) (a1 := a1) (a2 := a2) (a3 := a3) (a4 := a4) (a5 := a5) h.2.2.2.1 h.2.2.2.2.1
    refine ⟨_, by rw [q.2, if_neg hi, if_neg (by omega)]; exact eCM h.2.1, h.wr (aqV_iv h.1 (by omega) hi) (h.2.2.1.aq (by omega)) hI.1 hI.2 (by omega) (h.2.2.2.2.2.2.row (adV_ne (by omega) (by decide)) (adV_ne (by omega) (by decide)))⟩
theorem w_drop (hE : dp_OK E) (l : Launch) (h : iC M W N) {x : Int} (hx : dp_R x) : dp_met E l yX6_drop wsX6_drop 3 64 [.ref (eAd E 7 0), .int (dp_I x)] (dN M V X) (dp_qi E (fun y M1 => (¬ (0 ≤ x ∧ x < N) ∧ y = -100001 ∧ M1 = dN M V X) ∨ ((0 ≤ x ∧ x < N) ∧ W (x.toNat + 6) 6 = 1 ∧ y = -100002 ∧ M1 = dN M V X) ∨ ((0 ≤ x ∧ x < N) ∧ ¬ W (x.toNat + 6) 6 = 1 ∧ y = (N : Int) - 1 ∧ ∃ M2, M1 = dN M2 V X ∧ iC M2 (rmM W N x.toNat) (N - 1)))) := by
  have hs := h.2.2.1
  refine dp_mono (dp_mq eMC (c_X6_drop hE l h.1 h.2.1 hx)) (fun y M1 q => ?_)
  obtain ⟨q1, q2⟩ := q
  simp only [ctO_has hs.2.2.2.1] at q1 q2
  by_cases c : 0 ≤ x ∧ x < N
  · have e6 : M 0 (x.toNat + 6) 6 = W (x.toNat + 6) 6 := hs.st (by omega) (by decide)
    by_cases d : W (x.toNat + 6) 6 = 1
    · rw [if_pos c, if_pos (e6.trans d)] at q1
      rw [if_neg (fun z => z.2 (e6.trans d))] at q2
      exact Or.inr (Or.inl ⟨c, d, q1, q2.trans eMC.symm⟩)
    · have d2 : ¬ M 0 (x.toNat + 6) 6 = 1 := fun z => d (e6.symm.trans z)
      have h4 := h.2.2.2.2.2.1
      rw [if_pos c, if_neg d2] at q1
      rw [if_pos ⟨c, d2⟩] at q2
      have hr := hs.rm (t0 := x.toNat) (by omega)
      have hI := I12_rm (t0 := x.toNat) h.2.2.2.1 h.2.2.2.2.1
      have er : ∀ c, c = 3 ∨ c = 4 → rmM W N x.toNat c = W c := fun c hc => by
        funext k
        unfold rmM
        rw [if_neg (by omega), u2_ne (by omega)]
      refine Or.inr (Or.inr ⟨c, d, ?_, _, q2.trans (eCM h.2.1), h.wr (rmV_iv h.1 (by omega)) hr hI.1 hI.2 (by omega) (h.2.2.2.2.2.2.row (er 3 (Or.inl rfl)) (er 4 (Or.inr rfl)))⟩)
      rw [q1, hr.2.2.2.1.cn]
      omega
  · rw [if_neg c] at q1
    rw [if_neg (fun z => c z.1)] at q2
    exact Or.inl ⟨c, q1, q2.trans eMC.symm⟩
theorem w_run0 (hE : dp_OK E) (l : Launch) (h : iC M W N) {k : Int} (hk : 0 ≤ k ∧ k ≤ 2000) (hl : 43200 < W 0 0 + k) : dp_met E l yX6_run wsX6_run 7 154 [.ref (eAd E 7 0), .int (dp_I k)] (dN M V X) (dp_qi E (fun y M1 => y = -100003 ∧ ∃ M2, M1 = dN M2 V X ∧ iC M2 W N)) := by
  have hl2 : 43200 < M 0 0 0 + k := by rw [h.2.2.1.1.1]; exact hl
  refine dp_mono (dp_mq eMC (c_X6_run hE l h.1 h.2.1 ⟨by omega, by omega⟩)) (fun y M1 q => ?_)
  obtain ⟨q1, Y', q2⟩ := q
  rw [if_pos hk, if_pos hl2] at q1
  rw [if_neg (fun z => z.2 hl2)] at q2
  exact ⟨q1, _, q2.trans eCY, h.y⟩
theorem w_run (hE : dp_OK E) (l : Launch) (h : iC M W N) {k : Nat} (hk : k ≤ 2000) (hl : ¬ 43200 < W 0 0 + k) : dp_met E l yX6_run wsX6_run 7 154 [.ref (eAd E 7 0), .int (dp_I (k : Int))] (dN M V X) (dp_qi E (fun y M1 => y = ruC W N k ∧ ∃ M2, M1 = dN M2 V X ∧ iC M2 (ruM W N k) N)) := by
  have hl2 : ¬ 43200 < M 0 0 0 + (k : Int) := by rw [h.2.2.1.1.1]; exact hl
  refine dp_mono (dp_mq eMC (c_X6_run hE l h.1 h.2.1 ⟨by omega, by omega⟩)) (fun y M1 q => ?_)
  obtain ⟨q1, Y', q2⟩ := q
  rw [if_pos (by omega), if_neg hl2, Int.toNat_natCast] at q1
  rw [if_pos ⟨by omega, hl2⟩, Int.toNat_natCast] at q2
  obtain ⟨r1, r2, r3, r4⟩ := h.2.2.1.run h.1 h.2.2.2.1 h.2.2.2.2.1 (k := k) (by omega)
  exact ⟨q1.trans r4.symm, _, q2.trans (eCM h.2.1), h.wr (lpV_iv h.1 (by omega)) r1 r2 r3 h.2.2.2.2.2.1 h.2.2.2.2.2.2.ru⟩
end WR
