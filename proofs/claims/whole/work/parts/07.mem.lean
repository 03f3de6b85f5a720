section DM
variable {E : dp_E} {A : Nat → Prop} {p : Program} {l : Launch} {e : Env} {R : Room} {s : State} {m : MethodId} {args : Array Value} {below : List Frame} {meth : Method} {co : Code} {ce sl : Nat} {Q : State → Prop} {cc : ByteArray} {own : String} {nL : Nat} {Ts : List Cond} {M : dp_M} {pc : Nat} {L : List (Option Value)} {st : List Value}
theorem dp_getf (C : dp_C E A p s m args meth co cc own nL Ts) {r c ci k : Nat} {fs : List Value} {Cn : String} {T : u_T} {N i : Nat} {v : Value} (hm : (r, c) ∈ dp_ps) (hx : dp_x E M r c = .inr (ci, fs)) (hc : vwCl[ci]? = some (Cn, T, N)) (hin : ∀ w ∈ u_ws Cn T N, w ∈ Ts) (hk : k < N) (hl : Cond.fieldLink own i (T k).1 (T k).2.1 (T k).2.2.1 ∈ Ts) (hv : fs[k]? = some v) (hd : decode cc pc = .ok (.getfield i, 3)) (k9 : dp_G E A p l e R s m args below meth co ce sl Q M (pc + 3) L (v :: st)) : dp_G E A p l e R s m args below meth co ce sl Q M pc L (.ref (eAd E r c) :: st) := fun H locs ls hW hS hL => by
  obtain ⟨q0, hq⟩ := List.getElem?_of_mem hm
  refine va_get (D := E.1) (ci := ci) (v := v) (C := Cn) (T := T) (N := N) C.1.1 C.1.2.1 C.1.2.2.2.2 hin C.1.2.2.2.1 C.2.2.2.2.1 hW.P q0 (fs := fs) ?_ hc k hk (C.1.2.2.2.2 _ hl) (fun _ h => h) hv hd (k9 H locs ls hW hS hL)
  rw [dp_ws_at hq, hx]
theorem dp_putf (C : dp_C E A p s m args meth co cc own nL Ts) {r c ci k : Nat} {fs : List Value} {Cn : String} {T : u_T} {N i : Nat} {v : Value} {M' : dp_M} {ty : FieldType} (hm : (r, c) ∈ dp_ps) (hx : dp_x E M r c = .inr (ci, fs)) (hc : vwCl[ci]? = some (Cn, T, N)) (hin : ∀ w ∈ u_ws Cn T N, w ∈ Ts) (ty0 : Nat → FieldType) (hty : ∀ k, k < N → parseFieldDescriptor (T k).2.2.1 = some (ty0 k)) (hnm : ∀ a, a < N → ∀ b, b < N → a ≠ b → (T a).2.1 ≠ (T b).2.1) (hk : k < N) (hl : Cond.fieldLink own i (T k).1 (T k).2.1 (T k).2.2.1 ∈ Ts) (hfin : (T k).2.2.2 = false) (hd0 : parseFieldDescriptor (T k).2.2.1 = some ty) (hn : narrow ty v = v) (hfit : fits ty v = true) (hlen : k < fs.length)
    (hx' : dp_x E M' r c = .inr (ci, fs.set k v)) (hf : ∀ r' c', (r', c') ∈ dp_ps → (r', c') ≠ (r, c) → dp_x E M' r' c' = dp_x E M r' c') (hd : decode cc pc = .ok (.putfield i, 3)) (k9 : dp_G E A p l e R s m args below meth co ce sl Q M' (pc + 3) L st) : dp_G E A p l e R s m args below meth co ce sl Q M pc L (v :: .ref (eAd E r c) :: st) := fun H locs ls hW hS hL => by
  obtain ⟨q0, hq⟩ := List.getElem?_of_mem hm
  refine va_put (D := E.1) (ci := ci) (v := v) (ty := ty) (C := Cn) (T := T) (N := N) C.1.1 C.1.2.1 C.1.2.2.2.2 hin ty0 hty hnm C.1.2.2.2.1 C.2.2.2.2.1 hW.P (dp_D C.2.2.1 C.2.2.2.1) hS q0 (fs := fs) (by rw [dp_ws_at hq, hx]) hc k hk (C.1.2.2.2.2 _ hl) (fun _ h => h) hfin hd0 hn hfit hlen hd (fun H1 locs1 hP hD hS1 => k9 H1 locs1 ls ?_ hS1 hL)
  exact dp_W.of_set hq hP hx' hf
theorem dp_xS_u2 {E : dp_E} {V : dp_V} {r c c' k : Nat} {x : Int} (h : c' ≠ c) : dp_xS E (u2 V c k x) r c' = dp_xS E V r c' := by
  unfold dp_xS
  split <;> simp [u2, h]
theorem dp_fr {E : dp_E} {M : dp_M} {r c k : Nat} {x : Int} (hr : r < 7 ∨ r = 7 ∨ (r = 8 ∧ (c = 0 ∨ c = 4 ∨ c = 5))) : ∀ r' c', (r', c') ∈ dp_ps → (r', c') ≠ (r, c) → dp_x E (dR M r (u2 (M r) c k x)) r' c' = dp_x E M r' c' := by
  intro r' c' hm hne
  by_cases e : r' = r
  · subst e
    have hc : c' ≠ c := fun q => hne (by rw [q])
    rcases hr with h | h | ⟨h, h2⟩
    · rw [dp_x_S h, dp_x_S h, dR_same, dp_xS_u2 hc]
    · subst h
      rw [dp_x_C, dp_x_C]
      unfold dp_xC
      split <;> simp [dR_same, u2, hc]
      next h0 h1 h2 h3 h4 =>
        have : c' = 5 := by
          rcases dp_mem.mp hm with ⟨a, -⟩ | ⟨-, b⟩ | ⟨a, -⟩
          · omega
          · have := h0; have := h1; have := h2; have := h3; have := h4; omega
          · omega
        subst this
        simp [dR_same, u2, hc]
    · subst h
      rw [dp_x_M, dp_x_M]
      unfold dp_xM
      have e9 : dR M 8 (u2 (M 8) c k x) 9 = M 9 := dR_ne (by decide)
      have e10 : dR M 8 (u2 (M 8) c k x) 10 = M 10 := dR_ne (by decide)
      have e11 : ∀ j, dR M 8 (u2 (M 8) c k x) (11 + j) = M (11 + j) := fun j => dR_ne (by omega)
      have e8 : dR M 8 (u2 (M 8) c k x) 8 = u2 (M 8) c k x := dR_same _ _ _
      split
      · rw [e8, u2_ne hc]
      · rw [e9]
      · simp only [e11]
      · rw [e10]
      · rw [e8, u2_ne hc]
      next h0 h1 h2 h3 h4 =>
        have : c' = 5 := by
          rcases dp_mem.mp hm with ⟨a, -⟩ | ⟨a, -⟩ | ⟨-, b⟩
          · omega
          · omega
          · have := h0; have := h1; have := h2; have := h3; have := h4; omega
        subst this
        rw [e8, u2_ne hc]
  · rcases Nat.lt_or_ge r' 7 with h | h
    · rw [dp_x_S h, dp_x_S h, dR_ne e]
    · rcases dp_mem.mp hm with ⟨a, -⟩ | ⟨rfl, -⟩ | ⟨rfl, -⟩
      · omega
      · rw [dp_x_C, dp_x_C]
        unfold dp_xC
        simp [dR, e]
      · rw [dp_x_M, dp_x_M]
        unfold dp_xM
        have hr8 : r < 8 := by
          rcases hr with h | h | ⟨h, -⟩ <;> omega
        have e9 : dR M r (u2 (M r) c k x) 9 = M 9 := dR_ne (by omega)
        have e10 : dR M r (u2 (M r) c k x) 10 = M 10 := dR_ne (by omega)
        have e11 : ∀ j, dR M r (u2 (M r) c k x) (11 + j) = M (11 + j) := fun j => dR_ne (by omega)
        have e8 : dR M r (u2 (M r) c k x) 8 = M 8 := dR_ne (by omega)
        simp only [e8, e9, e10, e11]
theorem dp_f7_set {f : Nat → Int} {k : Nat} (h : k < 7) (x : Int) : dp_f7 (u1 f k x) = (dp_f7 f).set k (.int (dp_I x)) := by
  rcases (by omega : k = 0 ∨ k = 1 ∨ k = 2 ∨ k = 3 ∨ k = 4 ∨ k = 5 ∨ k = 6) with rfl | rfl | rfl | rfl | rfl | rfl | rfl <;> rfl
theorem dp_f14_set {f : Nat → Int} {k : Nat} (h : k < 14) (x : Int) : dp_f14 (u1 f k x) = (dp_f14 f).set k (.int (dp_I x)) := by
  rcases (by omega : k = 0 ∨ k = 1 ∨ k = 2 ∨ k = 3 ∨ k = 4 ∨ k = 5 ∨ k = 6 ∨ k = 7 ∨ k = 8 ∨ k = 9 ∨ k = 10 ∨ k = 11 ∨ k = 12 ∨ k = 13) with rfl | rfl | rfl | rfl | rfl | rfl | rfl | rfl | rfl | rfl | rfl | rfl | rfl | rfl <;> rfl
theorem dp_f7_at {f : Nat → Int} {k : Nat} (h : k < 7) : (dp_f7 f)[k]? = some (.int (dp_I (f k))) := by
  rcases (by omega : k = 0 ∨ k = 1 ∨ k = 2 ∨ k = 3 ∨ k = 4 ∨ k = 5 ∨ k = 6) with rfl | rfl | rfl | rfl | rfl | rfl | rfl <;> rfl
theorem dp_xax {E : dp_E} {M : dp_M} {V : dp_V} {r c : Nat} (h : r < 7) (hc : c = 3 ∨ c = 4) (hV : M r = V) : dp_x E M r c = .inr (0, dp_fA c (V c)) := by
  subst hV
  rw [dp_x_S h]
  rcases hc with rfl | rfl <;> rfl
theorem dp_xtg {E : dp_E} {M : dp_M} {V : dp_V} {r t : Nat} (h : r < 7) (ht : t < 10) (hV : M r = V) : dp_x E M r (t + 6) = .inr (3, dp_f14 (V (t + 6))) := by
  subst hV
  rw [dp_x_S h]
  exact if_pos ht
theorem dp_xwy {E : dp_E} {M : dp_M} {V : dp_V} {r c : Nat} (h : r < 7) (hc : c = 16 ∨ c = 17 ∨ c = 18) (hV : M r = V) : dp_x E M r c = .inr (5, dp_f7 (V c)) := by
  subst hV
  rw [dp_x_S h]
  rcases hc with rfl | rfl | rfl <;> rfl
theorem dp_xst {E : dp_E} {M : dp_M} {V : dp_V} {r : Nat} (h : r < 7) (hV : M r = V) : dp_x E M r 0 = .inr (2, dp_fS E r (V 0)) := by
  subst hV
  rw [dp_x_S h]
  rfl
theorem dp_xhi {E : dp_E} {M : dp_M} {V : dp_V} (hV : M 7 = V) : dp_x E M 7 1 = .inr (1, dp_fH E (V 1)) := by
  subst hV
  rfl
theorem dp_xtx {E : dp_E} {M : dp_M} {V : dp_V} (hV : M 7 = V) : dp_x E M 7 3 = .inr (4, dp_fX E (V 3)) := by
  subst hV
  rfl
theorem dp_xdp {E : dp_E} {M : dp_M} : dp_x E M 7 0 = .inr (6, dp_fD E) := rfl
theorem dp_xmo {E : dp_E} {M : dp_M} {V : dp_V} (hV : M 8 = V) : dp_x E M 8 0 = .inr (7, dp_fM E (V 0)) := by
  subst hV
  rfl
theorem dp_cA {c : Nat} (h : c = 3 ∨ c = 4) : c < 19 := by omega
theorem dp_cW {c : Nat} (h : c = 16 ∨ c = 17 ∨ c = 18) : c < 19 := by omega
theorem dp_cT {t : Nat} (h : t < 10) : t + 6 < 19 := by omega
theorem dp_putA (C : dp_C E A p s m args meth co cc own nL Ts) {r c : Nat} (hr : r < 7) (hc : c = 3 ∨ c = 4) {k i : Nat} {x : Int} {ty : FieldType} (hin : ∀ w ∈ u_ws RX0 TX0 10, w ∈ Ts) (hk : k < 7) (hl : Cond.fieldLink own i (TX0 (k + 3)).1 (TX0 (k + 3)).2.1 (TX0 (k + 3)).2.2.1 ∈ Ts) (hfin : (TX0 (k + 3)).2.2.2 = false) (hd0 : parseFieldDescriptor (TX0 (k + 3)).2.2.1 = some ty) (hn : narrow ty (.int (dp_I x)) = .int (dp_I x)) (hfit : fits ty (.int (dp_I x)) = true) (hd : decode cc pc = .ok (.putfield i, 3)) (k9 : dp_G E A p l e R s m args below meth co ce sl Q (dR M (r) (u2 (M (r)) (c) k x)) (pc + 3) L st) : dp_G E A p l e R s m args below meth co ce sl Q M pc L (.int (dp_I x) :: .ref (eAd E (r) (c)) :: st) := by
  refine dp_putf C (k := k + 3) (fs := dp_fA c (M r c)) (dp_mS hr (dp_cA hc)) (dp_xax hr hc rfl) rfl hin tyX0 tyX0_ok nmX0 (by omega) hl hfin hd0 hn hfit (by show k + 3 < 10; omega) ?_ (dp_fr (Or.inl hr)) hd k9
  rw [dp_xax hr hc (dR_same _ _ _), u2_same]
  show (_ : va_E) = Sum.inr (0, _ :: _ :: _ :: (dp_f7 (M r c)).set k _)
  rw [← dp_f7_set hk]
  rfl
theorem dp_putT (C : dp_C E A p s m args meth co cc own nL Ts) {r t : Nat} (hr : r < 7) (ht : t < 10) {k i : Nat} {x : Int} {ty : FieldType} (hin : ∀ w ∈ u_ws RX3 TX3 14, w ∈ Ts) (hk : k < 14) (hl : Cond.fieldLink own i (TX3 (k)).1 (TX3 (k)).2.1 (TX3 (k)).2.2.1 ∈ Ts) (hfin : (TX3 (k)).2.2.2 = false) (hd0 : parseFieldDescriptor (TX3 (k)).2.2.1 = some ty) (hn : narrow ty (.int (dp_I x)) = .int (dp_I x)) (hfit : fits ty (.int (dp_I x)) = true) (hd : decode cc pc = .ok (.putfield i, 3)) (k9 : dp_G E A p l e R s m args below meth co ce sl Q (dR M (r) (u2 (M (r)) (t + 6) k x)) (pc + 3) L st) : dp_G E A p l e R s m args below meth co ce sl Q M pc L (.int (dp_I x) :: .ref (eAd E (r) (t + 6)) :: st) := by
  refine dp_putf C (k := k) (fs := dp_f14 (M r (t + 6))) (dp_mS hr (dp_cT ht)) (dp_xtg hr ht rfl) rfl hin tyX3 tyX3_ok nmX3 (by omega) hl hfin hd0 hn hfit (by show k < 14; omega) ?_ (dp_fr (Or.inl hr)) hd k9
  rw [dp_xtg hr ht (dR_same _ _ _), u2_same, dp_f14_set hk]
theorem dp_putW (C : dp_C E A p s m args meth co cc own nL Ts) {r c : Nat} (hr : r < 7) (hc : c = 16 ∨ c = 17 ∨ c = 18) {k i : Nat} {x : Int} {ty : FieldType} (hin : ∀ w ∈ u_ws RX5 TX5 7, w ∈ Ts) (hk : k < 7) (hl : Cond.fieldLink own i (TX5 (k)).1 (TX5 (k)).2.1 (TX5 (k)).2.2.1 ∈ Ts) (hfin : (TX5 (k)).2.2.2 = false) (hd0 : parseFieldDescriptor (TX5 (k)).2.2.1 = some ty) (hn : narrow ty (.int (dp_I x)) = .int (dp_I x)) (hfit : fits ty (.int (dp_I x)) = true) (hd : decode cc pc = .ok (.putfield i, 3)) (k9 : dp_G E A p l e R s m args below meth co ce sl Q (dR M (r) (u2 (M (r)) (c) k x)) (pc + 3) L st) : dp_G E A p l e R s m args below meth co ce sl Q M pc L (.int (dp_I x) :: .ref (eAd E (r) (c)) :: st) := by
  refine dp_putf C (k := k) (fs := dp_f7 (M r c)) (dp_mS hr (dp_cW hc)) (dp_xwy hr hc rfl) rfl hin tyX5 tyX5_ok nmX5 (by omega) hl hfin hd0 hn hfit (by show k < 7; omega) ?_ (dp_fr (Or.inl hr)) hd k9
  rw [dp_xwy hr hc (dR_same _ _ _), u2_same, dp_f7_set hk]
theorem dp_putS (C : dp_C E A p s m args meth co cc own nL Ts) {r : Nat} (hr : r < 7) {k i : Nat} {x : Int} {ty : FieldType} (hin : ∀ w ∈ u_ws RX2 TX2 11, w ∈ Ts) (hk : k < 3) (hl : Cond.fieldLink own i (TX2 (k)).1 (TX2 (k)).2.1 (TX2 (k)).2.2.1 ∈ Ts) (hfin : (TX2 (k)).2.2.2 = false) (hd0 : parseFieldDescriptor (TX2 (k)).2.2.1 = some ty) (hn : narrow ty (.int (dp_I x)) = .int (dp_I x)) (hfit : fits ty (.int (dp_I x)) = true) (hd : decode cc pc = .ok (.putfield i, 3)) (k9 : dp_G E A p l e R s m args below meth co ce sl Q (dR M (r) (u2 (M (r)) (0) k x)) (pc + 3) L st) : dp_G E A p l e R s m args below meth co ce sl Q M pc L (.int (dp_I x) :: .ref (eAd E (r) (0)) :: st) := by
  refine dp_putf C (k := k) (fs := dp_fS E r (M r 0)) (dp_mS hr (by omega)) (dp_xst hr rfl) rfl hin tyX2 tyX2_ok nmX2 (by omega) hl hfin hd0 hn hfit (by show k < 11; omega) ?_ (dp_fr (Or.inl hr)) hd k9
  rw [dp_xst hr (dR_same _ _ _), u2_same]
  rcases (by omega : k = 0 ∨ k = 1 ∨ k = 2) with rfl | rfl | rfl <;> rfl
theorem dp_putH (C : dp_C E A p s m args meth co cc own nL Ts)  {k i : Nat} {x : Int} {ty : FieldType} (hin : ∀ w ∈ u_ws RX1 TX1 2, w ∈ Ts) (hk : k < 1) (hl : Cond.fieldLink own i (TX1 (k + 1)).1 (TX1 (k + 1)).2.1 (TX1 (k + 1)).2.2.1 ∈ Ts) (hfin : (TX1 (k + 1)).2.2.2 = false) (hd0 : parseFieldDescriptor (TX1 (k + 1)).2.2.1 = some ty) (hn : narrow ty (.int (dp_I x)) = .int (dp_I x)) (hfit : fits ty (.int (dp_I x)) = true) (hd : decode cc pc = .ok (.putfield i, 3)) (k9 : dp_G E A p l e R s m args below meth co ce sl Q (dR M (7) (u2 (M (7)) (1) k x)) (pc + 3) L st) : dp_G E A p l e R s m args below meth co ce sl Q M pc L (.int (dp_I x) :: .ref (eAd E (7) (1)) :: st) := by
  refine dp_putf C (k := k + 1) (fs := dp_fH E (M 7 1)) (dp_mC (by omega)) (dp_xhi rfl) rfl hin tyX1 tyX1_ok nmX1 (by omega) hl hfin hd0 hn hfit (by show k + 1 < 2; omega) ?_ (dp_fr (Or.inr (Or.inl rfl))) hd k9
  rw [dp_xhi (dR_same _ _ _), u2_same]
  rcases (by omega : k = 0) with rfl
  rfl
theorem dp_putX (C : dp_C E A p s m args meth co cc own nL Ts)  {k i : Nat} {x : Int} {ty : FieldType} (hin : ∀ w ∈ u_ws RX4 TX4 6, w ∈ Ts) (hk : k < 4) (hl : Cond.fieldLink own i (TX4 (if k = 0 then 1 else k + 2)).1 (TX4 (if k = 0 then 1 else k + 2)).2.1 (TX4 (if k = 0 then 1 else k + 2)).2.2.1 ∈ Ts) (hfin : (TX4 (if k = 0 then 1 else k + 2)).2.2.2 = false) (hd0 : parseFieldDescriptor (TX4 (if k = 0 then 1 else k + 2)).2.2.1 = some ty) (hn : narrow ty (.int (dp_I x)) = .int (dp_I x)) (hfit : fits ty (.int (dp_I x)) = true) (hd : decode cc pc = .ok (.putfield i, 3)) (k9 : dp_G E A p l e R s m args below meth co ce sl Q (dR M (7) (u2 (M (7)) (3) k x)) (pc + 3) L st) : dp_G E A p l e R s m args below meth co ce sl Q M pc L (.int (dp_I x) :: .ref (eAd E (7) (3)) :: st) := by
  refine dp_putf C (k := if k = 0 then 1 else k + 2) (fs := dp_fX E (M 7 3)) (dp_mC (by omega)) (dp_xtx rfl) rfl hin tyX4 tyX4_ok nmX4 (by split <;> omega) hl hfin hd0 hn hfit (by show (if k = 0 then 1 else k + 2) < 6; split <;> omega) ?_ (dp_fr (Or.inr (Or.inl rfl))) hd k9
  rw [dp_xtx (dR_same _ _ _), u2_same]
  rcases (by omega : k = 0 ∨ k = 1 ∨ k = 2 ∨ k = 3) with rfl | rfl | rfl | rfl <;> rfl
def dp_km (k : Nat) : Nat := match k with
  | 0 => 3
  | 1 => 5
  | 2 => 6
  | 3 => 7
  | 4 => 8
  | 5 => 9
  | _ => 11
theorem dp_km_lt (k : Nat) : dp_km k < 12 := by
  unfold dp_km
  split <;> omega
theorem dp_putM (C : dp_C E A p s m args meth co cc own nL Ts)  {k i : Nat} {x : Int} {ty : FieldType} (hin : ∀ w ∈ u_ws RX7 TX7 12, w ∈ Ts) (hk : k < 7) (hl : Cond.fieldLink own i (TX7 (dp_km k)).1 (TX7 (dp_km k)).2.1 (TX7 (dp_km k)).2.2.1 ∈ Ts) (hfin : (TX7 (dp_km k)).2.2.2 = false) (hd0 : parseFieldDescriptor (TX7 (dp_km k)).2.2.1 = some ty) (hn : narrow ty (.int (dp_I x)) = .int (dp_I x)) (hfit : fits ty (.int (dp_I x)) = true) (hd : decode cc pc = .ok (.putfield i, 3)) (k9 : dp_G E A p l e R s m args below meth co ce sl Q (dR M (8) (u2 (M (8)) (0) k x)) (pc + 3) L st) : dp_G E A p l e R s m args below meth co ce sl Q M pc L (.int (dp_I x) :: .ref (eAd E (8) (0)) :: st) := by
  refine dp_putf C (k := dp_km k) (fs := dp_fM E (M 8 0)) (dp_mM (by omega)) (dp_xmo rfl) rfl hin tyX7 tyX7_ok nmX7 (dp_km_lt k) hl hfin hd0 hn hfit (by show dp_km k < 12; exact dp_km_lt k) ?_ (dp_fr (Or.inr (Or.inr ⟨rfl, Or.inl rfl⟩))) hd k9
  rw [dp_xmo (dR_same _ _ _), u2_same]
  rcases (by omega : k = 0 ∨ k = 1 ∨ k = 2 ∨ k = 3 ∨ k = 4 ∨ k = 5 ∨ k = 6) with rfl | rfl | rfl | rfl | rfl | rfl | rfl <;> rfl
end DM
