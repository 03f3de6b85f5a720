section DM
variable {E : dp_E} {A : Nat → Prop} {p : Program} {l : Launch} {e : Env} {R : Room} {s : State} {m : MethodId} {args : Array Value} {below : List Frame} {meth : Method} {co : Code} {ce sl : Nat} {Q : State → Prop} {cc : ByteArray} {own : String} {nL : Nat} {Ts : List Cond} {M : dp_M} {pc : Nat} {L : List (Option Value)} {st : List Value}
theorem dp_getf (C : dp_C E A p s m args meth co cc own nL Ts) {r c ci k : Nat} {fs : List Value} {Cn : String} {T : u_T} {N i : Nat} {v : Value} (hm : (r, c) ∈ dp_ps E) (hx : dp_x E M r c = .inr (ci, fs)) (hc : vwCl[ci]? = some (Cn, T, N)) (hin : ∀ w ∈ u_ws Cn T N, w ∈ Ts) (hk : k < N) (hl : Cond.fieldLink own i (T k).1 (T k).2.1 (T k).2.2.1 ∈ Ts) (hv : fs[k]? = some v) (hd : decode cc pc = .ok (.getfield i, 3)) (k9 : dp_G E A p l e R s m args below meth co ce sl Q M (pc + 3) L (v :: st)) : dp_G E A p l e R s m args below meth co ce sl Q M pc L (.ref (eAd E r c) :: st) := fun H locs ls hW hS hL => by
  obtain ⟨q0, hq⟩ := List.getElem?_of_mem hm
  refine va_get (D := E.1) (ci := ci) (v := v) (C := Cn) (T := T) (N := N) C.1.1 C.1.2.1 C.1.2.2.2.2 hin C.1.2.2.2.1 C.2.2.2.2.1 hW.P q0 (fs := fs) ?_ hc k hk (C.1.2.2.2.2 _ hl) (fun _ h => h) hv hd (k9 H locs ls hW hS hL)
  rw [dp_ws_at hq, hx]
theorem dp_putf (C : dp_C E A p s m args meth co cc own nL Ts) {r c ci k : Nat} {fs : List Value} {Cn : String} {T : u_T} {N i : Nat} {v : Value} {M' : dp_M} {ty : FieldType} (hm : (r, c) ∈ dp_ps E) (hx : dp_x E M r c = .inr (ci, fs)) (hc : vwCl[ci]? = some (Cn, T, N)) (hin : ∀ w ∈ u_ws Cn T N, w ∈ Ts) (ty0 : Nat → FieldType) (hty : ∀ k, k < N → parseFieldDescriptor (T k).2.2.1 = some (ty0 k)) (hnm : ∀ a, a < N → ∀ b, b < N → a ≠ b → (T a).2.1 ≠ (T b).2.1) (hk : k < N) (hl : Cond.fieldLink own i (T k).1 (T k).2.1 (T k).2.2.1 ∈ Ts) (hfin : (T k).2.2.2 = false) (hd0 : parseFieldDescriptor (T k).2.2.1 = some ty) (hn : narrow ty v = v) (hfit : fits ty v = true) (hlen : k < fs.length)
    (hx' : dp_x E M' r c = .inr (ci, fs.set k v)) (hf : ∀ r' c', (r', c') ∈ dp_ps E → (r', c') ≠ (r, c) → dp_x E M' r' c' = dp_x E M r' c') (hd : decode cc pc = .ok (.putfield i, 3)) (k9 : dp_G E A p l e R s m args below meth co ce sl Q M' (pc + 3) L st) : dp_G E A p l e R s m args below meth co ce sl Q M pc L (v :: .ref (eAd E r c) :: st) := fun H locs ls hW hS hL => by
  obtain ⟨q0, hq⟩ := List.getElem?_of_mem hm
  refine va_put (D := E.1) (ci := ci) (v := v) (ty := ty) (C := Cn) (T := T) (N := N) C.1.1 C.1.2.1 C.1.2.2.2.2 hin ty0 hty hnm C.1.2.2.2.1 C.2.2.2.2.1 hW.P (dp_D C.2.2.1 C.2.2.2.1) hS q0 (fs := fs) (by rw [dp_ws_at hq, hx]) hc k hk (C.1.2.2.2.2 _ hl) (fun _ h => h) hfin hd0 hn hfit hlen hd (fun H1 locs1 hP hD hS1 => k9 H1 locs1 ls ?_ hS1 hL)
  exact dp_W.of_set hq hP hx' hf
theorem dp_xS_u2 {E : dp_E} {V Y : dp_V} {r c c' k : Nat} {x : Int} (h : c' ≠ c) : dp_xS E (u2 V c k x) Y r c' = dp_xS E V Y r c' := by
  unfold dp_xS
  split <;> simp [u2, h]
theorem dp_xS_w2 {E : dp_E} {V Y : dp_V} {r c c' k : Nat} {x : Int} (h : c' ≠ c) : dp_xS E V (u2 Y c k x) r c' = dp_xS E V Y r c' := by
  unfold dp_xS
  split <;> simp [u2, h]
/-- cells of other regions hold the same, where only regions of this one are put -/
theorem dp_frX {E : dp_E} {M M' : dp_M} {r' c' : Nat} (hm : (r', c') ∈ dp_ps E) (h1 : r' < 7 → M' r' = M r' ∧ M' (r' + 20) = M (r' + 20)) (h2 : r' = 7 → M' 7 = M 7) (h3 : r' = 8 → M' 8 = M 8 ∧ M' 9 = M 9) : dp_x E M' r' c' = dp_x E M r' c' := by
  rcases dp_mem.mp hm with ⟨a, -⟩ | ⟨rfl, -⟩ | ⟨rfl, -⟩
  · rw [dp_x_S a, dp_x_S a, (h1 a).1, (h1 a).2]
  · rw [dp_x_C, dp_x_C]
    unfold dp_xC
    rw [h2 rfl]
  · obtain ⟨e8, e9⟩ := h3 rfl
    rw [dp_x_M, dp_x_M]
    unfold dp_xM
    simp only [e8, e9]
theorem dp_frS {E : dp_E} {M : dp_M} {V Y : dp_V} {r c k : Nat} {x : Int} (hr : r < 7) : ∀ r' c', (r', c') ∈ dp_ps E → (r', c') ≠ (r, c) → dp_x E (dS M r (u2 V c k x) Y) r' c' = dp_x E (dS M r V Y) r' c' := by
  intro r' c' hm hne
  by_cases e : r' = r
  · subst e
    rw [dp_x_S hr, dp_x_S hr, dS_V, dS_V, dS_Y, dS_Y, dp_xS_u2 (fun q => hne (by rw [q]))]
  · refine dp_frX hm (fun h => ?_) (fun h => ?_) (fun h => ?_)
    · rw [dS_ne e (by omega), dS_ne e (by omega), dS_ne (by omega) (by omega), dS_ne (by omega) (by omega)]
      exact ⟨rfl, rfl⟩
    · subst h
      rw [dS_ne e (by omega), dS_ne e (by omega)]
    · subst h
      refine ⟨by rw [dS_ne (by omega) (by omega), dS_ne (by omega) (by omega)], by rw [dS_ne (by omega) (by omega), dS_ne (by omega) (by omega)]⟩
theorem dp_frY {E : dp_E} {M : dp_M} {V Y : dp_V} {r c k : Nat} {x : Int} (hr : r < 7) : ∀ r' c', (r', c') ∈ dp_ps E → (r', c') ≠ (r, c) → dp_x E (dS M r V (u2 Y c k x)) r' c' = dp_x E (dS M r V Y) r' c' := by
  intro r' c' hm hne
  by_cases e : r' = r
  · subst e
    rw [dp_x_S hr, dp_x_S hr, dS_V, dS_V, dS_Y, dS_Y, dp_xS_w2 (fun q => hne (by rw [q]))]
  · refine dp_frX hm (fun h => ?_) (fun h => ?_) (fun h => ?_)
    · rw [dS_ne e (by omega), dS_ne e (by omega), dS_ne (by omega) (by omega), dS_ne (by omega) (by omega)]
      exact ⟨rfl, rfl⟩
    · subst h
      rw [dS_ne e (by omega), dS_ne e (by omega)]
    · subst h
      refine ⟨by rw [dS_ne (by omega) (by omega), dS_ne (by omega) (by omega)], by rw [dS_ne (by omega) (by omega), dS_ne (by omega) (by omega)]⟩
theorem dp_frC {E : dp_E} {M : dp_M} {X : dp_V} {c k : Nat} {x : Int} : ∀ r' c', (r', c') ∈ dp_ps E → (r', c') ≠ (7, c) → dp_x E (dR M 7 (u2 X c k x)) r' c' = dp_x E (dR M 7 X) r' c' := by
  intro r' c' hm hne
  by_cases e : r' = 7
  · subst e
    have hc : c' ≠ c := fun q => hne (by rw [q])
    have hl : c' < 6 := by
      rcases dp_mem.mp hm with ⟨a, -⟩ | ⟨-, b⟩ | ⟨a, -⟩
      · omega
      · exact b
      · omega
    rw [dp_x_C, dp_x_C]
    unfold dp_xC
    rw [dR_same, dR_same]
    rcases (by omega : c' = 0 ∨ c' = 1 ∨ c' = 2 ∨ c' = 3 ∨ c' = 4 ∨ c' = 5) with rfl | rfl | rfl | rfl | rfl | rfl
    · rfl
    all_goals simp only [u2_ne hc]
  · refine dp_frX hm (fun h => ?_) (fun h => absurd h e) (fun h => ?_)
    · exact ⟨(dR_ne e).trans (dR_ne e).symm, (dR_ne (by omega)).trans (dR_ne (by omega)).symm⟩
    · exact ⟨(dR_ne (by omega)).trans (dR_ne (by omega)).symm, (dR_ne (by omega)).trans (dR_ne (by omega)).symm⟩
/-- region 8's other numbers put: the legs (c 0), the counts (c 2) -/
theorem dp_frN {E : dp_E} {M : dp_M} {V X X' : dp_V} {c : Nat} (hX : ∀ c', c' ≠ c → X' c' = X c') (hc0 : c = 0 ∨ c = 2) : ∀ r' c', (r', c') ∈ dp_ps E → (r', c') ≠ (8, c) → dp_x E (dN M V X') r' c' = dp_x E (dN M V X) r' c' := by
  intro r' c' hm hne
  by_cases e : r' = 8
  · subst e
    have hc : c' ≠ c := fun q => hne (by rw [q])
    have hl : c' < 3 := by
      rcases dp_mem.mp hm with ⟨a, -⟩ | ⟨a, -⟩ | ⟨-, b, -⟩
      · omega
      · omega
      · exact b
    rw [dp_x_M, dp_x_M]
    unfold dp_xM
    rw [dN_X, dN_X, dN_V, dN_V]
    rcases (by omega : c' = 0 ∨ c' = 1 ∨ c' = 2) with rfl | rfl | rfl
    · simp only [hX 0 hc]
    · rfl
    · simp only [hX 2 hc]
  · refine dp_frX hm (fun h => ?_) (fun h => ?_) (fun h => absurd h e)
    · rw [dN_ne (by omega) (by omega), dN_ne (by omega) (by omega), dN_ne (by omega) (by omega), dN_ne (by omega) (by omega)]
      exact ⟨rfl, rfl⟩
    · rw [dN_ne (by omega) (by omega), dN_ne (by omega) (by omega)]
theorem gF_c {V V' : dp_V} {f : Nat → Int} (h : ∀ c, c < 5 → V' c = V c) : gF V' f = gF V f := by
  funext i
  unfold gF
  rw [h _ (dp_ce5 i)]
theorem qF_c {V V' : dp_V} (h : ∀ c, 6 ≤ c → V' c = V c) : qF V' = qF V := by
  funext i
  unfold qF
  rw [h _ (by omega)]
/-- the law's numbers put: in g, or in q -/
theorem dp_frM {E : dp_E} {M : dp_M} {V V' X X' : dp_V} {c : Nat} (h : (c = 0 ∧ (∀ c, 6 ≤ c → V' c = V c) ∧ ∀ c', c' ≠ 0 → X' c' = X c') ∨ (c = 1 ∧ (∀ c, c < 5 → V' c = V c) ∧ X' = X)) : ∀ r' c', (r', c') ∈ dp_ps E → (r', c') ≠ (8, c) → dp_x E (dN M V' X') r' c' = dp_x E (dN M V X) r' c' := by
  intro r' c' hm hne
  by_cases e : r' = 8
  · subst e
    have hc : c' ≠ c := fun q => hne (by rw [q])
    have hl : c' < 3 := by
      rcases dp_mem.mp hm with ⟨a, -⟩ | ⟨a, -⟩ | ⟨-, b, -⟩
      · omega
      · omega
      · exact b
    rw [dp_x_M, dp_x_M]
    unfold dp_xM
    rw [dN_X, dN_X, dN_V, dN_V]
    rcases h with ⟨rfl, h1, h2⟩ | ⟨rfl, h1, rfl⟩
    · rcases (by omega : c' = 1 ∨ c' = 2) with rfl | rfl
      · simp only [qF_c h1]
      · simp only [h2 2 (by decide)]
    · rcases (by omega : c' = 0 ∨ c' = 2) with rfl | rfl
      · simp only [gF_c h1]
      · rfl
  · refine dp_frX hm (fun h => ?_) (fun h => ?_) (fun h => absurd h e)
    · rw [dN_ne (by omega) (by omega), dN_ne (by omega) (by omega), dN_ne (by omega) (by omega), dN_ne (by omega) (by omega)]
      exact ⟨rfl, rfl⟩
    · rw [dN_ne (by omega) (by omega), dN_ne (by omega) (by omega)]
theorem dp_f7_set {f : Nat → Int} {k : Nat} (h : k < 7) (x : Int) : dp_f7 (u1 f k x) = (dp_f7 f).set k (.int (dp_I x)) := by
  rcases (by omega : k = 0 ∨ k = 1 ∨ k = 2 ∨ k = 3 ∨ k = 4 ∨ k = 5 ∨ k = 6) with rfl | rfl | rfl | rfl | rfl | rfl | rfl <;> rfl
theorem dp_f14_set {f : Nat → Int} {k : Nat} (h : k < 14) (x : Int) : dp_f14 (u1 f k x) = (dp_f14 f).set k (.int (dp_I x)) := by
  rcases (by omega : k = 0 ∨ k = 1 ∨ k = 2 ∨ k = 3 ∨ k = 4 ∨ k = 5 ∨ k = 6 ∨ k = 7 ∨ k = 8 ∨ k = 9 ∨ k = 10 ∨ k = 11 ∨ k = 12 ∨ k = 13) with rfl | rfl | rfl | rfl | rfl | rfl | rfl | rfl | rfl | rfl | rfl | rfl | rfl | rfl <;> rfl
theorem dp_f7_at {f : Nat → Int} {k : Nat} (h : k < 7) : (dp_f7 f)[k]? = some (.int (dp_I (f k))) := by
  rcases (by omega : k = 0 ∨ k = 1 ∨ k = 2 ∨ k = 3 ∨ k = 4 ∨ k = 5 ∨ k = 6) with rfl | rfl | rfl | rfl | rfl | rfl | rfl <;> rfl
theorem dp_xax {E : dp_E} {M : dp_M} {V Y : dp_V} {r c : Nat} (h : r < 7) (hc : c = 3 ∨ c = 4) : dp_x E (dS M r V Y) r c = .inr (0, dp_fA c (V c)) := by
  rw [dp_x_S h, dS_V]
  rcases hc with rfl | rfl <;> rfl
theorem dp_xtg {E : dp_E} {M : dp_M} {V Y : dp_V} {r t : Nat} (h : r < 7) (ht : t < 10) : dp_x E (dS M r V Y) r (t + 6) = .inr (3, dp_f14 (V (t + 6))) := by
  rw [dp_x_S h, dS_V]
  exact if_pos ht
theorem dp_xwy {E : dp_E} {M : dp_M} {V Y : dp_V} {r c : Nat} (h : r < 7) (hc : c = 16 ∨ c = 17 ∨ c = 18) : dp_x E (dS M r V Y) r c = .inr (5, dp_f7 (Y c)) := by
  rw [dp_x_S h, dS_V, dS_Y]
  rcases hc with rfl | rfl | rfl <;> rfl
theorem dp_xst {E : dp_E} {M : dp_M} {V Y : dp_V} {r : Nat} (h : r < 7) : dp_x E (dS M r V Y) r 0 = .inr (2, dp_fS E r (V 0)) := by
  rw [dp_x_S h, dS_V]
  rfl
theorem dp_xse {E : dp_E} {M : dp_M} {V Y : dp_V} {r : Nat} (h : r < 7) : dp_x E (dS M r V Y) r 1 = dp_ints (eI E) 4 (V 1) := by
  rw [dp_x_S h, dS_V]
  rfl
theorem dp_xgu {E : dp_E} {M : dp_M} {V Y : dp_V} {r : Nat} (h : r < 7) : dp_x E (dS M r V Y) r 2 = dp_ints (eI E) 31 (V 2) := by
  rw [dp_x_S h, dS_V]
  rfl
theorem dp_xta {E : dp_E} {M : dp_M} {V Y : dp_V} {r : Nat} (h : r < 7) : dp_x E (dS M r V Y) r 5 = dp_refs (eT E) 10 (fun t => eAd E r (t + 6)) := by
  rw [dp_x_S h]
  rfl
theorem dp_xst0 {E : dp_E} {M : dp_M} {r : Nat} (h : r < 7) : dp_x E M r 0 = .inr (2, dp_fS E r (M r 0)) := by
  rw [dp_x_S h]
  rfl
theorem dp_xhi {E : dp_E} {M : dp_M} {X : dp_V} : dp_x E (dR M 7 X) 7 1 = .inr (1, dp_fH E (X 1)) := by
  rw [dp_x_C]
  unfold dp_xC
  rw [dR_same]
  rfl
theorem dp_xtx {E : dp_E} {M : dp_M} {X : dp_V} : dp_x E (dR M 7 X) 7 3 = .inr (4, dp_fX E (X 3)) := by
  rw [dp_x_C]
  unfold dp_xC
  rw [dR_same]
  rfl
theorem dp_xsg {E : dp_E} {M : dp_M} {X : dp_V} : dp_x E (dR M 7 X) 7 4 = dp_ints (eC E) 100 (X 4) := by
  rw [dp_x_C]
  unfold dp_xC
  rw [dR_same]
  rfl
theorem dp_xnu {E : dp_E} {M : dp_M} {X : dp_V} : dp_x E (dR M 7 X) 7 5 = dp_ints (eI E) 6 (X 5) := by
  rw [dp_x_C]
  unfold dp_xC
  rw [dR_same]
  rfl
theorem dp_xdp {E : dp_E} {M : dp_M} : dp_x E M 7 0 = .inr (6, dp_fD E) := rfl
theorem dp_xlg {E : dp_E} {M : dp_M} {V X : dp_V} : dp_x E (dN M V X) 8 0 = dp_ints (eI E) 55 (gF V (X 0)) := by
  rw [dp_x_M]
  unfold dp_xM
  rw [dN_V, dN_X]
  rfl
theorem dp_xlq {E : dp_E} {M : dp_M} {V X : dp_V} : dp_x E (dN M V X) 8 1 = dp_ints (eI E) 56 (qF V) := by
  rw [dp_x_M]
  unfold dp_xM
  rw [dN_V]
  rfl
theorem dp_xlm {E : dp_E} {M : dp_M} {V X : dp_V} : dp_x E (dN M V X) 8 2 = dp_ints (eI E) 4 (X 2) := by
  rw [dp_x_M]
  unfold dp_xM
  rw [dN_X]
  rfl
theorem dp_cA {c : Nat} (h : c = 3 ∨ c = 4) : c < 19 := by omega
theorem dp_cW {c : Nat} (h : c = 16 ∨ c = 17 ∨ c = 18) : c < 19 := by omega
theorem dp_cT {t : Nat} (h : t < 10) : t + 6 < 19 := by omega
theorem dp_putA (C : dp_C E A p s m args meth co cc own nL Ts) {r c : Nat} (hr : r < 7) (hc : c = 3 ∨ c = 4) {V Y : dp_V} {k i : Nat} {x : Int} {ty : FieldType} (hin : ∀ w ∈ u_ws RX0 TX0 10, w ∈ Ts) (hk : k < 7) (hl : Cond.fieldLink own i (TX0 (k + 3)).1 (TX0 (k + 3)).2.1 (TX0 (k + 3)).2.2.1 ∈ Ts) (hfin : (TX0 (k + 3)).2.2.2 = false) (hd0 : parseFieldDescriptor (TX0 (k + 3)).2.2.1 = some ty) (hn : narrow ty (.int (dp_I x)) = .int (dp_I x)) (hfit : fits ty (.int (dp_I x)) = true) (hd : decode cc pc = .ok (.putfield i, 3)) (k9 : dp_G E A p l e R s m args below meth co ce sl Q (dS M r (u2 V c k x) Y) (pc + 3) L st) : dp_G E A p l e R s m args below meth co ce sl Q (dS M r V Y) pc L (.int (dp_I x) :: .ref (eAd E (r) (c)) :: st) := by
  refine dp_putf C (k := k + 3) (fs := dp_fA c (V c)) (dp_mS hr (dp_cA hc)) (dp_xax hr hc) rfl hin tyX0 tyX0_ok nmX0 (by omega) hl hfin hd0 hn hfit (by show k + 3 < 10; omega) ?_ (dp_frS hr) hd k9
  rw [dp_xax hr hc, u2_same]
  show (_ : va_E) = Sum.inr (0, _ :: _ :: _ :: (dp_f7 (V c)).set k _)
  rw [← dp_f7_set hk]
  rfl
theorem dp_putT (C : dp_C E A p s m args meth co cc own nL Ts) {r t : Nat} (hr : r < 7) (ht : t < 10) {V Y : dp_V} {k i : Nat} {x : Int} {ty : FieldType} (hin : ∀ w ∈ u_ws RX3 TX3 14, w ∈ Ts) (hk : k < 14) (hl : Cond.fieldLink own i (TX3 (k)).1 (TX3 (k)).2.1 (TX3 (k)).2.2.1 ∈ Ts) (hfin : (TX3 (k)).2.2.2 = false) (hd0 : parseFieldDescriptor (TX3 (k)).2.2.1 = some ty) (hn : narrow ty (.int (dp_I x)) = .int (dp_I x)) (hfit : fits ty (.int (dp_I x)) = true) (hd : decode cc pc = .ok (.putfield i, 3)) (k9 : dp_G E A p l e R s m args below meth co ce sl Q (dS M r (u2 V (t + 6) k x) Y) (pc + 3) L st) : dp_G E A p l e R s m args below meth co ce sl Q (dS M r V Y) pc L (.int (dp_I x) :: .ref (eAd E (r) (t + 6)) :: st) := by
  refine dp_putf C (k := k) (fs := dp_f14 (V (t + 6))) (dp_mS hr (dp_cT ht)) (dp_xtg hr ht) rfl hin tyX3 tyX3_ok nmX3 (by omega) hl hfin hd0 hn hfit (by show k < 14; omega) ?_ (dp_frS hr) hd k9
  rw [dp_xtg hr ht, u2_same, dp_f14_set hk]
theorem dp_putW (C : dp_C E A p s m args meth co cc own nL Ts) {r c : Nat} (hr : r < 7) (hc : c = 16 ∨ c = 17 ∨ c = 18) {V Y : dp_V} {k i : Nat} {x : Int} {ty : FieldType} (hin : ∀ w ∈ u_ws RX5 TX5 7, w ∈ Ts) (hk : k < 7) (hl : Cond.fieldLink own i (TX5 (k)).1 (TX5 (k)).2.1 (TX5 (k)).2.2.1 ∈ Ts) (hfin : (TX5 (k)).2.2.2 = false) (hd0 : parseFieldDescriptor (TX5 (k)).2.2.1 = some ty) (hn : narrow ty (.int (dp_I x)) = .int (dp_I x)) (hfit : fits ty (.int (dp_I x)) = true) (hd : decode cc pc = .ok (.putfield i, 3)) (k9 : dp_G E A p l e R s m args below meth co ce sl Q (dS M r V (u2 Y c k x)) (pc + 3) L st) : dp_G E A p l e R s m args below meth co ce sl Q (dS M r V Y) pc L (.int (dp_I x) :: .ref (eAd E (r) (c)) :: st) := by
  refine dp_putf C (k := k) (fs := dp_f7 (Y c)) (dp_mS hr (dp_cW hc)) (dp_xwy hr hc) rfl hin tyX5 tyX5_ok nmX5 (by omega) hl hfin hd0 hn hfit (by show k < 7; omega) ?_ (dp_frY hr) hd k9
  rw [dp_xwy hr hc, u2_same, dp_f7_set hk]
theorem dp_putS (C : dp_C E A p s m args meth co cc own nL Ts) {r : Nat} (hr : r < 7) {V Y : dp_V} {k i : Nat} {x : Int} {ty : FieldType} (hin : ∀ w ∈ u_ws RX2 TX2 11, w ∈ Ts) (hk : k < 3) (hl : Cond.fieldLink own i (TX2 (k)).1 (TX2 (k)).2.1 (TX2 (k)).2.2.1 ∈ Ts) (hfin : (TX2 (k)).2.2.2 = false) (hd0 : parseFieldDescriptor (TX2 (k)).2.2.1 = some ty) (hn : narrow ty (.int (dp_I x)) = .int (dp_I x)) (hfit : fits ty (.int (dp_I x)) = true) (hd : decode cc pc = .ok (.putfield i, 3)) (k9 : dp_G E A p l e R s m args below meth co ce sl Q (dS M r (u2 V 0 k x) Y) (pc + 3) L st) : dp_G E A p l e R s m args below meth co ce sl Q (dS M r V Y) pc L (.int (dp_I x) :: .ref (eAd E (r) (0)) :: st) := by
  refine dp_putf C (k := k) (fs := dp_fS E r (V 0)) (dp_mS hr (by omega)) (dp_xst hr) rfl hin tyX2 tyX2_ok nmX2 (by omega) hl hfin hd0 hn hfit (by show k < 11; omega) ?_ (dp_frS hr) hd k9
  rw [dp_xst hr, u2_same]
  rcases (by omega : k = 0 ∨ k = 1 ∨ k = 2) with rfl | rfl | rfl <;> rfl
theorem dp_putH (C : dp_C E A p s m args meth co cc own nL Ts) {X : dp_V}  {k i : Nat} {x : Int} {ty : FieldType} (hin : ∀ w ∈ u_ws RX1 TX1 2, w ∈ Ts) (hk : k < 1) (hl : Cond.fieldLink own i (TX1 (k + 1)).1 (TX1 (k + 1)).2.1 (TX1 (k + 1)).2.2.1 ∈ Ts) (hfin : (TX1 (k + 1)).2.2.2 = false) (hd0 : parseFieldDescriptor (TX1 (k + 1)).2.2.1 = some ty) (hn : narrow ty (.int (dp_I x)) = .int (dp_I x)) (hfit : fits ty (.int (dp_I x)) = true) (hd : decode cc pc = .ok (.putfield i, 3)) (k9 : dp_G E A p l e R s m args below meth co ce sl Q (dR M 7 (u2 X 1 k x)) (pc + 3) L st) : dp_G E A p l e R s m args below meth co ce sl Q (dR M 7 X) pc L (.int (dp_I x) :: .ref (eAd E (7) (1)) :: st) := by
  refine dp_putf C (k := k + 1) (fs := dp_fH E (X 1)) (dp_mC (by omega)) dp_xhi rfl hin tyX1 tyX1_ok nmX1 (by omega) hl hfin hd0 hn hfit (by show k + 1 < 2; omega) ?_ dp_frC hd k9
  rw [dp_xhi, u2_same]
  rcases (by omega : k = 0) with rfl
  rfl
theorem dp_putX (C : dp_C E A p s m args meth co cc own nL Ts) {X : dp_V}  {k i : Nat} {x : Int} {ty : FieldType} (hin : ∀ w ∈ u_ws RX4 TX4 6, w ∈ Ts) (hk : k < 4) (hl : Cond.fieldLink own i (TX4 (if k = 0 then 1 else k + 2)).1 (TX4 (if k = 0 then 1 else k + 2)).2.1 (TX4 (if k = 0 then 1 else k + 2)).2.2.1 ∈ Ts) (hfin : (TX4 (if k = 0 then 1 else k + 2)).2.2.2 = false) (hd0 : parseFieldDescriptor (TX4 (if k = 0 then 1 else k + 2)).2.2.1 = some ty) (hn : narrow ty (.int (dp_I x)) = .int (dp_I x)) (hfit : fits ty (.int (dp_I x)) = true) (hd : decode cc pc = .ok (.putfield i, 3)) (k9 : dp_G E A p l e R s m args below meth co ce sl Q (dR M 7 (u2 X 3 k x)) (pc + 3) L st) : dp_G E A p l e R s m args below meth co ce sl Q (dR M 7 X) pc L (.int (dp_I x) :: .ref (eAd E (7) (3)) :: st) := by
  refine dp_putf C (k := if k = 0 then 1 else k + 2) (fs := dp_fX E (X 3)) (dp_mC (by omega)) dp_xtx rfl hin tyX4 tyX4_ok nmX4 (by split <;> omega) hl hfin hd0 hn hfit (by show (if k = 0 then 1 else k + 2) < 6; split <;> omega) ?_ dp_frC hd k9
  rw [dp_xtx, u2_same]
  rcases (by omega : k = 0 ∨ k = 1 ∨ k = 2 ∨ k = 3) with rfl | rfl | rfl | rfl <;> rfl
theorem dp_asS (r : Nat) (k : dp_G E A p l e R s m args below meth co ce sl Q (dS M r (M r) (M (r + 20))) pc L st) : dp_G E A p l e R s m args below meth co ce sl Q M pc L st := by
  rw [dS_self] at k
  exact k
theorem dp_asC (k : dp_G E A p l e R s m args below meth co ce sl Q (dR M 7 (M 7)) pc L st) : dp_G E A p l e R s m args below meth co ce sl Q M pc L st := by
  rw [dR_self] at k
  exact k
theorem dp_asN (k : dp_G E A p l e R s m args below meth co ce sl Q (dN M (M 9) (M 8)) pc L st) : dp_G E A p l e R s m args below meth co ce sl Q M pc L st := by
  rw [dN_self] at k
  exact k
end DM
