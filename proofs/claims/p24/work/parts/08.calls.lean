section DC
variable {E : dp_E} {A : Nat → Prop} {p : Program} {l : Launch} {e : Env} {R : Room} {s : State} {m : MethodId} {args : Array Value} {below : List Frame} {meth : Method} {co : Code} {ce sl : Nat} {Q : State → Prop} {cc : ByteArray} {own : String} {nL : Nat} {Ts : List Cond} {M : dp_M} {pc : Nat} {L : List (Option Value)} {st : List Value}
theorem dp_iald (C : dp_C E A p s m args meth co cc own nL Ts) {r c n j : Nat} {f : Nat → Int} {i : Int} (hm : (r, c) ∈ dp_ps E) (hx : dp_x E M r c = dp_ints (eI E) n f) (hi : 0 ≤ i ∧ i < n) (hn : n < 2147483648) (hj : i.toNat = j) (hd : decode cc pc = .ok (.iaload, 1)) (k : dp_G E A p l e R s m args below meth co ce sl Q M (pc + 1) L (.int (dp_I (f j)) :: st)) : dp_G E A p l e R s m args below meth co ce sl Q M pc L (.int (dp_I i) :: .ref (eAd E r c) :: st) := fun H locs ls hW hS hL => by
  obtain ⟨q0, hq⟩ := List.getElem?_of_mem hm
  subst hj
  refine va_iald C.1.1 C.1.2.1 C.2.2.2.2.1 hW.P q0 0 (cA := eI E) (n := n) (f := fun j => dp_I (f j)) (by rw [dp_ws_at hq, hx]; rfl) rfl (dp_in hi.1 hi.2 hn) hd ?_
  rw [dp_I_nat hi.1 (by omega)]
  exact k H locs ls hW hS hL
theorem dp_cald (C : dp_C E A p s m args meth co cc own nL Ts) {r c n j : Nat} {f : Nat → Int} {i : Int} (hm : (r, c) ∈ dp_ps E) (hx : dp_x E M r c = dp_ints (eC E) n f) (hi : 0 ≤ i ∧ i < n) (hn : n < 2147483648) (hj : i.toNat = j) (hd : decode cc pc = .ok (.caload, 1)) (k : dp_G E A p l e R s m args below meth co ce sl Q M (pc + 1) L (.int (dp_I (f j)) :: st)) : dp_G E A p l e R s m args below meth co ce sl Q M pc L (.int (dp_I i) :: .ref (eAd E r c) :: st) := fun H locs ls hW hS hL => by
  obtain ⟨q0, hq⟩ := List.getElem?_of_mem hm
  subst hj
  refine va_cald C.1.1 C.1.2.1 C.2.2.2.2.1 hW.P q0 1 (cA := eC E) (n := n) (f := fun j => dp_I (f j)) (by rw [dp_ws_at hq, hx]; rfl) rfl (dp_in hi.1 hi.2 hn) hd ?_
  rw [dp_I_nat hi.1 (by omega)]
  exact k H locs ls hW hS hL
theorem dp_ald_se (C : dp_C E A p s m args meth co cc own nL Ts) {r : Nat} {V Y : dp_V} (hr : r < 7) {j : Nat} {i : Int} (hi : 0 ≤ i ∧ i < 4) (hj : i.toNat = j) (hd : decode cc pc = .ok (.iaload, 1)) (k : dp_G E A p l e R s m args below meth co ce sl Q (dS M r V Y) (pc + 1) L (.int (dp_I (V 1 j)) :: st)) : dp_G E A p l e R s m args below meth co ce sl Q (dS M r V Y) pc L (.int (dp_I i) :: .ref (eAd E r 1) :: st) := dp_iald C (dp_mS hr (by decide)) (dp_xse hr) ⟨hi.1, by omega⟩ (by decide) hj hd k
theorem dp_ald_gu (C : dp_C E A p s m args meth co cc own nL Ts) {r : Nat} {V Y : dp_V} (hr : r < 7) {j : Nat} {i : Int} (hi : 0 ≤ i ∧ i < 31) (hj : i.toNat = j) (hd : decode cc pc = .ok (.iaload, 1)) (k : dp_G E A p l e R s m args below meth co ce sl Q (dS M r V Y) (pc + 1) L (.int (dp_I (V 2 j)) :: st)) : dp_G E A p l e R s m args below meth co ce sl Q (dS M r V Y) pc L (.int (dp_I i) :: .ref (eAd E r 2) :: st) := dp_iald C (dp_mS hr (by decide)) (dp_xgu hr) ⟨hi.1, by omega⟩ (by decide) hj hd k
theorem dp_ald_nu (C : dp_C E A p s m args meth co cc own nL Ts) {X : dp_V} {j : Nat} {i : Int} (hi : 0 ≤ i ∧ i < 6) (hj : i.toNat = j) (hd : decode cc pc = .ok (.iaload, 1)) (k : dp_G E A p l e R s m args below meth co ce sl Q (dR M 7 X) (pc + 1) L (.int (dp_I (X 5 j)) :: st)) : dp_G E A p l e R s m args below meth co ce sl Q (dR M 7 X) pc L (.int (dp_I i) :: .ref (eAd E 7 5) :: st) := dp_iald C (dp_mC (by decide)) dp_xnu ⟨hi.1, by omega⟩ (by decide) hj hd k
theorem dp_ald_sg (C : dp_C E A p s m args meth co cc own nL Ts) {X : dp_V} {j : Nat} {i : Int} (hi : 0 ≤ i ∧ i < 100) (hj : i.toNat = j) (hd : decode cc pc = .ok (.caload, 1)) (k : dp_G E A p l e R s m args below meth co ce sl Q (dR M 7 X) (pc + 1) L (.int (dp_I (X 4 j)) :: st)) : dp_G E A p l e R s m args below meth co ce sl Q (dR M 7 X) pc L (.int (dp_I i) :: .ref (eAd E 7 4) :: st) := dp_cald C (dp_mC (by decide)) dp_xsg ⟨hi.1, by omega⟩ (by decide) hj hd k
theorem gF_lt {V : dp_V} {f : Nat → Int} {i : Nat} (h : i < 53) : gF V f i = V (dp_ce i) (dp_sl i) := if_pos h
theorem gF_leg {V : dp_V} {f : Nat → Int} {i : Nat} (h : ¬ i < 53) : gF V f i = f (i - 53) := if_neg h
/-- g read: at j, which is number k9 of cell c9 -/
theorem dp_ald_g (C : dp_C E A p s m args meth co cc own nL Ts) {V X : dp_V} {i : Int} (j : Nat) {c9 k9 : Nat} (hi : i = j) (hlt : j < 53) (hc : dp_ce j = c9) (hk : dp_sl j = k9) (hd : decode cc pc = .ok (.iaload, 1)) (k : dp_G E A p l e R s m args below meth co ce sl Q (dN M V X) (pc + 1) L (.int (dp_I (V c9 k9)) :: st)) : dp_G E A p l e R s m args below meth co ce sl Q (dN M V X) pc L (.int (dp_I i) :: .ref (eAd E 8 0) :: st) := by
  subst hc
  subst hk
  refine dp_iald C (dp_mM (by decide)) dp_xlg (j := j) ⟨by omega, by omega⟩ (by decide) (by omega) hd ?_
  rw [gF_lt hlt]
  exact k
/-- a leg read -/
theorem dp_ald_l (C : dp_C E A p s m args meth co cc own nL Ts) {V X : dp_V} {i : Int} (j : Nat) (hi : i = 53 + j) (hlt : j < 2) (hd : decode cc pc = .ok (.iaload, 1)) (k : dp_G E A p l e R s m args below meth co ce sl Q (dN M V X) (pc + 1) L (.int (dp_I (X 0 j)) :: st)) : dp_G E A p l e R s m args below meth co ce sl Q (dN M V X) pc L (.int (dp_I i) :: .ref (eAd E 8 0) :: st) := by
  refine dp_iald C (dp_mM (by decide)) dp_xlg (j := 53 + j) ⟨by omega, by omega⟩ (by decide) (by omega) hd ?_
  rw [gF_leg (by omega), show 53 + j - 53 = j by omega]
  exact k
/-- q read: number k9 of target t -/
theorem dp_ald_q (C : dp_C E A p s m args meth co cc own nL Ts) {V X : dp_V} {i : Int} (t k9 : Nat) (hi : i = 14 * t + k9) (ht : t < 4) (hk : k9 < 14) (hd : decode cc pc = .ok (.iaload, 1)) (k : dp_G E A p l e R s m args below meth co ce sl Q (dN M V X) (pc + 1) L (.int (dp_I (V (t + 6) k9)) :: st)) : dp_G E A p l e R s m args below meth co ce sl Q (dN M V X) pc L (.int (dp_I i) :: .ref (eAd E 8 1) :: st) := by
  refine dp_iald C (dp_mM (by decide)) dp_xlq (j := 14 * t + k9) ⟨by omega, by omega⟩ (by decide) (by omega) hd ?_
  have e : qF V (14 * t + k9) = V (t + 6) k9 := by
    unfold qF
    rw [show (14 * t + k9) / 14 = t by omega, show (14 * t + k9) % 14 = k9 by omega]
  rw [e]
  exact k
/-- the counts read -/
theorem dp_ald_m (C : dp_C E A p s m args meth co cc own nL Ts) {V X : dp_V} {i : Int} (h9 : ¬ eAd E 9 0 = 0) (j : Nat) (hi : i = j) (hlt : j < 4) (hd : decode cc pc = .ok (.iaload, 1)) (k : dp_G E A p l e R s m args below meth co ce sl Q (dN M V X) (pc + 1) L (.int (dp_I (X 2 j)) :: st)) : dp_G E A p l e R s m args below meth co ce sl Q (dN M V X) pc L (.int (dp_I i) :: .ref (eAd E 8 2) :: st) := dp_iald C (dp_m2 h9) dp_xlm (j := j) ⟨by omega, by omega⟩ (by decide) (by omega) hd k
theorem dp_ints_upd {k : ClassId} {n : Nat} {f : Nat → Int} {i : Int} {x : Int} (h0 : 0 ≤ i) (h1 : i < 2147483648) : dp_ints k n (u1 f i.toNat x) = .inl (k, n, .inl (upd (fun j => dp_I (f j)) (dp_I i).toNatClampNeg (dp_I x))) := by
  unfold dp_ints
  rw [dp_I_nat h0 h1]
  congr 3
  congr 1
  funext j
  unfold u1 upd
  split <;> rfl
theorem dp_iast (C : dp_C E A p s m args meth co cc own nL Ts) {r c n : Nat} {f : Nat → Int} {i x : Int} {M' : dp_M} (hm : (r, c) ∈ dp_ps E) (hx : dp_x E M r c = dp_ints (eI E) n f) (hi : 0 ≤ i ∧ i < n) (hn : n < 2147483648) (hx' : dp_x E M' r c = dp_ints (eI E) n (u1 f i.toNat x)) (hf : ∀ r' c', (r', c') ∈ dp_ps E → (r', c') ≠ (r, c) → dp_x E M' r' c' = dp_x E M r' c') (hd : decode cc pc = .ok (.iastore, 1)) (k : dp_G E A p l e R s m args below meth co ce sl Q M' (pc + 1) L st) : dp_G E A p l e R s m args below meth co ce sl Q M pc L (.int (dp_I x) :: .int (dp_I i) :: .ref (eAd E r c) :: st) := fun H locs ls hW hS hL => by
  obtain ⟨q0, hq⟩ := List.getElem?_of_mem hm
  refine va_iast C.1.1 C.1.2.1 C.2.2.2.2.1 hW.P (dp_D C.2.2.1 C.2.2.2.1) hS q0 0 (cA := eI E) (n := n) (f := fun j => dp_I (f j)) (by rw [dp_ws_at hq, hx]; rfl) rfl (dp_in hi.1 hi.2 hn) hd (fun H1 locs1 hP hD hS1 => k H1 locs1 ls ?_ hS1 hL)
  exact dp_W.of_set hq hP (hx'.trans (dp_ints_upd hi.1 (by omega))) hf
theorem dp_nc {x : Int} (h0 : 0 ≤ x) (h1 : x < 65536) : narrow .char (.int (dp_I x)) = .int (dp_I x) := by
  show Value.int _ = Value.int _
  congr 1
  apply Int32.toBitVec_inj.mp
  apply BitVec.eq_of_toNat_eq
  have e : (dp_I x).toBitVec.toNat = x.toNat := by
    show (BitVec.ofInt 32 x).toNat = _
    rw [BitVec.toNat_ofInt]
    omega
  have e2 : (dp_I x).toUInt32.toUInt16.toUInt32.toInt32.toBitVec.toNat = ((dp_I x).toBitVec.toNat % 65536) := by
    show (((dp_I x).toBitVec.setWidth 16).setWidth 32).toNat = _
    rw [BitVec.toNat_setWidth, BitVec.toNat_setWidth]
    omega
  rw [e2, e]
  omega
theorem dp_nb {P : Prop} {_ : Decidable P} : narrow .boolean (.int (dp_I (dp_b P))) = .int (dp_I (dp_b P)) := by
  unfold dp_b
  by_cases h : P
  · rw [if_pos h]; decide
  · rw [if_neg h]; decide
theorem dp_cast (C : dp_C E A p s m args meth co cc own nL Ts) {r c n : Nat} {f : Nat → Int} {i x : Int} {M' : dp_M} (hm : (r, c) ∈ dp_ps E) (hx : dp_x E M r c = dp_ints (eC E) n f) (hi : 0 ≤ i ∧ i < n) (hn : n < 2147483648) (h0 : 0 ≤ x ∧ x < 65536) (hx' : dp_x E M' r c = dp_ints (eC E) n (u1 f i.toNat x)) (hf : ∀ r' c', (r', c') ∈ dp_ps E → (r', c') ≠ (r, c) → dp_x E M' r' c' = dp_x E M r' c') (hd : decode cc pc = .ok (.castore, 1)) (k : dp_G E A p l e R s m args below meth co ce sl Q M' (pc + 1) L st) : dp_G E A p l e R s m args below meth co ce sl Q M pc L (.int (dp_I x) :: .int (dp_I i) :: .ref (eAd E r c) :: st) := fun H locs ls hW hS hL => by
  obtain ⟨q0, hq⟩ := List.getElem?_of_mem hm
  have hnar : vp_nar .char (dp_I x) = dp_I x := Value.int.inj (dp_nc h0.1 h0.2)
  refine va_cast C.1.1 C.1.2.1 C.2.2.2.2.1 hW.P (dp_D C.2.2.1 C.2.2.2.1) hS q0 1 (cA := eC E) (n := n) (f := fun j => dp_I (f j)) (by rw [dp_ws_at hq, hx]; rfl) rfl (dp_in hi.1 hi.2 hn) hd (fun H1 locs1 hP hD hS1 => k H1 locs1 ls ?_ hS1 hL)
  rw [hnar] at hP
  exact dp_W.of_set hq hP (hx'.trans (dp_ints_upd hi.1 (by omega))) hf
theorem dp_ast_se (C : dp_C E A p s m args meth co cc own nL Ts) {r : Nat} {V Y : dp_V} (hr : r < 7) {j : Nat} {i x : Int} (hi : 0 ≤ i ∧ i < 4)  (hj : i.toNat = j) (hd : decode cc pc = .ok (.iastore, 1)) (k : dp_G E A p l e R s m args below meth co ce sl Q (dS M r (u2 V 1 j x) Y) (pc + 1) L st) : dp_G E A p l e R s m args below meth co ce sl Q (dS M r V Y) pc L (.int (dp_I x) :: .int (dp_I i) :: .ref (eAd E r 1) :: st) := by
  subst hj
  exact dp_iast C (dp_mS hr (by decide)) (dp_xse hr) ⟨hi.1, by omega⟩ (by decide)  (by rw [dp_xse hr, u2_same]) (dp_frS hr) hd k
theorem dp_ast_gu (C : dp_C E A p s m args meth co cc own nL Ts) {r : Nat} {V Y : dp_V} (hr : r < 7) {j : Nat} {i x : Int} (hi : 0 ≤ i ∧ i < 31)  (hj : i.toNat = j) (hd : decode cc pc = .ok (.iastore, 1)) (k : dp_G E A p l e R s m args below meth co ce sl Q (dS M r (u2 V 2 j x) Y) (pc + 1) L st) : dp_G E A p l e R s m args below meth co ce sl Q (dS M r V Y) pc L (.int (dp_I x) :: .int (dp_I i) :: .ref (eAd E r 2) :: st) := by
  subst hj
  exact dp_iast C (dp_mS hr (by decide)) (dp_xgu hr) ⟨hi.1, by omega⟩ (by decide)  (by rw [dp_xgu hr, u2_same]) (dp_frS hr) hd k
theorem dp_ast_nu (C : dp_C E A p s m args meth co cc own nL Ts) {X : dp_V} {j : Nat} {i x : Int} (hi : 0 ≤ i ∧ i < 6)  (hj : i.toNat = j) (hd : decode cc pc = .ok (.iastore, 1)) (k : dp_G E A p l e R s m args below meth co ce sl Q (dR M 7 (u2 X 5 j x)) (pc + 1) L st) : dp_G E A p l e R s m args below meth co ce sl Q (dR M 7 X) pc L (.int (dp_I x) :: .int (dp_I i) :: .ref (eAd E 7 5) :: st) := by
  subst hj
  exact dp_iast C (dp_mC (by decide)) dp_xnu ⟨hi.1, by omega⟩ (by decide)  (by rw [dp_xnu, u2_same]) dp_frC hd k
theorem dp_cst_sg (C : dp_C E A p s m args meth co cc own nL Ts) {X : dp_V} {j : Nat} {i x : Int} (hi : 0 ≤ i ∧ i < 100) (h0 : 0 ≤ x ∧ x < 65536) (hj : i.toNat = j) (hd : decode cc pc = .ok (.castore, 1)) (k : dp_G E A p l e R s m args below meth co ce sl Q (dR M 7 (u2 X 4 j x)) (pc + 1) L st) : dp_G E A p l e R s m args below meth co ce sl Q (dR M 7 X) pc L (.int (dp_I x) :: .int (dp_I i) :: .ref (eAd E 7 4) :: st) := by
  subst hj
  exact dp_cast C (dp_mC (by decide)) dp_xsg ⟨hi.1, by omega⟩ (by decide) h0 (by rw [dp_xsg, u2_same]) dp_frC hd k
theorem gF_put {V : dp_V} {f : Nat → Int} {j : Nat} {x : Int} (hj : j < 53) : gF (u2 V (dp_ce j) (dp_sl j) x) f = u1 (gF V f) j x := by
  funext i
  unfold u1
  by_cases h : i = j
  · subst h
    rw [if_pos rfl, gF_lt hj, u2_same, u1_same]
  · rw [if_neg h]
    by_cases hi : i < 53
    · rw [gF_lt hi, gF_lt hi]
      by_cases h1 : dp_ce i = dp_ce j
      · have h2 : dp_sl i ≠ dp_sl j := fun z => h (dp_cs_inj hi hj h1 z)
        rw [h1, u2_same, u1_ne h2]
      · rw [u2_ne h1]
    · rw [gF_leg hi, gF_leg hi]
theorem gF_pul {V : dp_V} {f : Nat → Int} {j : Nat} {x : Int} : gF V (u1 f j x) = u1 (gF V f) (53 + j) x := by
  funext i
  unfold u1
  by_cases h : i = 53 + j
  · subst h
    rw [if_pos rfl, gF_leg (by omega), if_pos (by omega)]
  · rw [if_neg h]
    by_cases hi : i < 53
    · rw [gF_lt hi, gF_lt hi]
    · rw [gF_leg hi, gF_leg hi, if_neg (by omega)]
theorem qF_put {V : dp_V} {t k9 : Nat} {x : Int} (hk : k9 < 14) : qF (u2 V (t + 6) k9 x) = u1 (qF V) (14 * t + k9) x := by
  funext i
  unfold u1 qF
  by_cases h : i = 14 * t + k9
  · subst h
    rw [if_pos rfl, show (14 * t + k9) / 14 = t by omega, show (14 * t + k9) % 14 = k9 by omega, u2_same, u1_same]
  · rw [if_neg h]
    by_cases h1 : i / 14 + 6 = t + 6
    · have h2 : i % 14 ≠ k9 := fun z => h (by omega)
      rw [h1, u2_same, u1_ne h2]
    · rw [u2_ne h1]
/-- g put -/
theorem dp_ast_g (C : dp_C E A p s m args meth co cc own nL Ts) {V X : dp_V} {i x : Int} (j : Nat) {c9 k9 : Nat} (hi : i = j) (hlt : j < 53) (hc : dp_ce j = c9) (hk : dp_sl j = k9) (hd : decode cc pc = .ok (.iastore, 1)) (k : dp_G E A p l e R s m args below meth co ce sl Q (dN M (u2 V c9 k9 x) X) (pc + 1) L st) : dp_G E A p l e R s m args below meth co ce sl Q (dN M V X) pc L (.int (dp_I x) :: .int (dp_I i) :: .ref (eAd E 8 0) :: st) := by
  subst hc
  subst hk
  refine dp_iast C (dp_mM (by decide)) dp_xlg ⟨by omega, by omega⟩ (by decide) (by rw [dp_xlg, gF_put hlt, show i.toNat = j by omega]) (dp_frM (Or.inl ⟨rfl, fun c hc => u2_ne (by have := dp_ce5 j; omega), fun _ _ => rfl⟩)) hd k
/-- a leg put -/
theorem dp_ast_l (C : dp_C E A p s m args meth co cc own nL Ts) {V X : dp_V} {i x : Int} (j : Nat) (hi : i = 53 + j) (hlt : j < 2) (hd : decode cc pc = .ok (.iastore, 1)) (k : dp_G E A p l e R s m args below meth co ce sl Q (dN M V (u2 X 0 j x)) (pc + 1) L st) : dp_G E A p l e R s m args below meth co ce sl Q (dN M V X) pc L (.int (dp_I x) :: .int (dp_I i) :: .ref (eAd E 8 0) :: st) := by
  refine dp_iast C (dp_mM (by decide)) dp_xlg ⟨by omega, by omega⟩ (by decide) (by rw [dp_xlg, u2_same, gF_pul, show i.toNat = 53 + j by omega]) (dp_frM (Or.inl ⟨rfl, fun _ _ => rfl, fun c hc => u2_ne hc⟩)) hd k
/-- q put -/
theorem dp_ast_q (C : dp_C E A p s m args meth co cc own nL Ts) {V X : dp_V} {i x : Int} (t k9 : Nat) (hi : i = 14 * t + k9) (ht : t < 4) (hk : k9 < 14) (hd : decode cc pc = .ok (.iastore, 1)) (k : dp_G E A p l e R s m args below meth co ce sl Q (dN M (u2 V (t + 6) k9 x) X) (pc + 1) L st) : dp_G E A p l e R s m args below meth co ce sl Q (dN M V X) pc L (.int (dp_I x) :: .int (dp_I i) :: .ref (eAd E 8 1) :: st) := by
  refine dp_iast C (dp_mM (by decide)) dp_xlq ⟨by omega, by omega⟩ (by decide) (by rw [dp_xlq, qF_put hk, show i.toNat = 14 * t + k9 by omega]) (dp_frM (Or.inr ⟨rfl, fun c hc => u2_ne (by omega), rfl⟩)) hd k
/-- a count put -/
theorem dp_ast_m (C : dp_C E A p s m args meth co cc own nL Ts) {V X : dp_V} {i x : Int} (h9 : ¬ eAd E 9 0 = 0) (j : Nat) (hi : i = j) (hlt : j < 4) (hd : decode cc pc = .ok (.iastore, 1)) (k : dp_G E A p l e R s m args below meth co ce sl Q (dN M V (u2 X 2 j x)) (pc + 1) L st) : dp_G E A p l e R s m args below meth co ce sl Q (dN M V X) pc L (.int (dp_I x) :: .int (dp_I i) :: .ref (eAd E 8 2) :: st) := by
  refine dp_iast C (dp_m2 h9) dp_xlm ⟨by omega, by omega⟩ (by decide) (by rw [dp_xlm, u2_same, show i.toNat = j by omega]) (dp_frN (c := 2) (fun c hc => u2_ne hc) (Or.inr rfl)) hd k
theorem dp_ceA {a k : Nat} (ha : a < 2) (hk : k < 7) : dp_ce (8 + 7 * a + k) = a + 3 ∧ dp_sl (8 + 7 * a + k) = k := by
  unfold dp_ce dp_sl
  rcases (by omega : a = 0 ∨ a = 1) with rfl | rfl
  · rw [if_neg (by omega), if_neg (by omega), if_pos (by omega), if_neg (by omega), if_neg (by omega), if_pos (by omega)]
    omega
  · rw [if_neg (by omega), if_neg (by omega), if_neg (by omega), if_pos (by omega), if_neg (by omega), if_neg (by omega), if_neg (by omega), if_pos (by omega)]
    omega
theorem dp_ceU {d : Nat} (hd : d < 31) : dp_ce (22 + d) = 2 ∧ dp_sl (22 + d) = d := by
  unfold dp_ce dp_sl
  repeat rw [if_neg (by omega)]
  exact ⟨rfl, by omega⟩
theorem dp_aald (C : dp_C E A p s m args meth co cc own nL Ts) {r c n t0 : Nat} {cA : ClassId} {Cn : String} {f : Nat → Nat} {i : Int} (hm : (r, c) ∈ dp_ps E) (hx : dp_x E M r c = dp_refs cA n f) (ht : (dp_ty E)[t0]? = some (cA, .object Cn)) (hi : 0 ≤ i ∧ i < n) (hn : n < 2147483648) (hd : decode cc pc = .ok (.aaload, 1)) (k : dp_G E A p l e R s m args below meth co ce sl Q M (pc + 1) L (.ref (f i.toNat) :: st)) : dp_G E A p l e R s m args below meth co ce sl Q M pc L (.int (dp_I i) :: .ref (eAd E r c) :: st) := fun H locs ls hW hS hL => by
  obtain ⟨q0, hq⟩ := List.getElem?_of_mem hm
  refine va_aldq C.1.1 C.1.2.1 C.2.2.2.2.1 hW.P q0 t0 (cA := cA) (C := Cn) (n := n) (f := fun j => some (f j)) (by rw [dp_ws_at hq, hx]; rfl) ht (dp_in hi.1 hi.2 hn) hd ?_
  rw [dp_I_nat hi.1 (by omega)]
  exact k H locs ls hW hS hL
theorem dp_aald_t (C : dp_C E A p s m args meth co cc own nL Ts) {r : Nat} {i : Int} (hr : r < 7) (hi : 0 ≤ i ∧ i < 10) {t : Nat} (ht : i.toNat = t) (hd : decode cc pc = .ok (.aaload, 1)) (k : dp_G E A p l e R s m args below meth co ce sl Q M (pc + 1) L (.ref (eAd E r (t + 6)) :: st)) : dp_G E A p l e R s m args below meth co ce sl Q M pc L (.int (dp_I i) :: .ref (eAd E r 5) :: st) := by
  subst ht
  exact dp_aald C (t0 := 2) (Cn := "DishPointer$Target") (f := fun t => eAd E r (t + 6)) (dp_mS hr (by omega)) (by rw [dp_x_S hr]; rfl) rfl hi (by decide) hd k
theorem dp_aald_s (C : dp_C E A p s m args meth co cc own nL Ts) {X : dp_V} {i : Int} {j : Nat} (hi : 0 ≤ i ∧ i < 5) (hj : i.toNat = j) (hd : decode cc pc = .ok (.aaload, 1)) (k : dp_G E A p l e R s m args below meth co ce sl Q (dR M 7 X) (pc + 1) L (.ref (eAd E (X 2 j).toNat 0) :: st)) : dp_G E A p l e R s m args below meth co ce sl Q (dR M 7 X) pc L (.int (dp_I i) :: .ref (eAd E 7 2) :: st) := by
  subst hj
  exact dp_aald C (t0 := 3) (Cn := "DishPointer$State") (f := fun i => eAd E (X 2 i).toNat 0) (dp_mC (by omega)) (by rw [dp_x_C]; unfold dp_xC; rw [dR_same]; rfl) rfl hi (by decide) hd k
theorem dp_aast_s (C : dp_C E A p s m args meth co cc own nL Ts) {X : dp_V} {i : Int} {r j : Nat} (hi : 0 ≤ i ∧ i < 5) (hj : i.toNat = j) (hr : r < 7) (hd : decode cc pc = .ok (.aastore, 1)) (k : dp_G E A p l e R s m args below meth co ce sl Q (dR M 7 (u2 X 2 j r)) (pc + 1) L st) : dp_G E A p l e R s m args below meth co ce sl Q (dR M 7 X) pc L (.ref (eAd E r 0) :: .int (dp_I i) :: .ref (eAd E 7 2) :: st) := fun H locs ls hW hS hL => by
  subst hj
  obtain ⟨q0, hq⟩ := List.getElem?_of_mem (dp_mC (c := 2) (by omega))
  obtain ⟨q1, hq1⟩ := List.getElem?_of_mem (dp_mS (r := r) (c := 0) hr (by omega))
  refine va_astq C.1.1 C.1.2.1 C.2.2.2.2.1 hW.P (dp_D C.2.2.1 C.2.2.2.1) hS q0 3 q1 2 (cA := eS E) (r := (RX2, TX2, 11)) (n := 5) (v := eAd E r 0) (f := fun j => some (eAd E (X 2 j).toNat 0)) (by rw [dp_ws_at hq, dp_x_C]; unfold dp_xC; rw [dR_same]; rfl) rfl (by rw [dp_ws_at hq1, dp_xst0 hr]) rfl (dp_in hi.1 hi.2 (by decide)) hd (fun H1 locs1 hP hD hS1 => k H1 locs1 ls ?_ hS1 hL)
  refine dp_W.of_set hq hP ?_ dp_frC
  rw [dp_x_C, dp_I_nat hi.1 (by omega)]
  show dp_refs _ _ _ = _
  unfold dp_refs
  congr 7
  funext j
  rw [dR_same, u2_same]
  unfold u1 va_up
  by_cases h : j = i.toNat
  · simp [h]
  · simp [h]
theorem dp_alen (C : dp_C E A p s m args meth co cc own nL Ts) {r c n t0 : Nat} {cA : ClassId} {y : (Nat → Int32) ⊕ (Nat → Int64) ⊕ (Nat → UInt32) ⊕ (Nat → UInt64) ⊕ (Nat → Option Nat)} {ty : FieldType} (hm : (r, c) ∈ dp_ps E) (n9 : Int) (hx : dp_x E M r c = .inl (cA, n, y)) (ht : (dp_ty E)[t0]? = some (cA, ty)) (hn9 : (n : Int) = n9) (hd : decode cc pc = .ok (.arraylength, 1)) (k : dp_G E A p l e R s m args below meth co ce sl Q M (pc + 1) L (.int (dp_I n9) :: st)) : dp_G E A p l e R s m args below meth co ce sl Q M pc L (.ref (eAd E r c) :: st) := fun H locs ls hW hS hL => by
  obtain ⟨q0, hq⟩ := List.getElem?_of_mem hm
  subst hn9
  refine va_alen C.1.1 C.1.2.1 C.2.2.2.2.1 hW.P q0 t0 (cA := cA) (x := (n, y)) (by rw [dp_ws_at hq, hx]) ht (v := dp_I n) ?_ hd (k H locs ls hW hS hL)
  exact Int32.ofInt_eq_ofNat.symm
theorem dp_gets (C : dp_C E A p s m args meth co cc own nL Ts) {n d : String} {ty : FieldType} {t N i : Nat} {f : Nat → Int} (hZ : dp_Z1 A n d ty t N f s s.heap) (hl : Cond.fieldLink own i "DishPointer" n d ∈ Ts) (hd : decode cc pc = .ok (.getstatic i, 3)) (k : dp_G E A p l e R s m args below meth co ce sl Q M (pc + 3) L (.ref t :: st)) : dp_G E A p l e R s m args below meth co ce sl Q M pc L st := fun H locs ls hW hS hL => va_gets C.1.1 C.1.2.1 hZ.1 hS C.1.2.2.2.1 (C.1.2.2.2.2 _ hl) (fun _ h => h) hd (k H locs ls hW hS hL)
theorem dp_tlen (C : dp_C E A p s m args meth co cc own nL Ts) {n d : String} {ty : FieldType} {t N : Nat} {f : Nat → Int} (n9 : Int) (hZ : dp_Z1 A n d ty t N f s s.heap) (hn9 : (N : Int) = n9) (hd : decode cc pc = .ok (.arraylength, 1)) (k : dp_G E A p l e R s m args below meth co ce sl Q M (pc + 1) L (.int (dp_I n9) :: st)) : dp_G E A p l e R s m args below meth co ce sl Q M pc L (.ref t :: st) := fun H locs ls hW hS hL => by
  subst hn9
  exact va_tlen C.1.1 C.1.2.1 hZ.2 hS (v := dp_I N) Int32.ofInt_eq_ofNat.symm hd (k H locs ls hW hS hL)
theorem dp_tald (C : dp_C E A p s m args meth co cc own nL Ts) {n d : String} {t N j : Nat} {f : Nat → Int} {i : Int} (hZ : dp_Z1 A n d .int t N f s s.heap) (hi : 0 ≤ i ∧ i < N) (hN : N < 2147483648) (hj : i.toNat = j) (hd : decode cc pc = .ok (.iaload, 1)) (k : dp_G E A p l e R s m args below meth co ce sl Q M (pc + 1) L (.int (dp_I (f j)) :: st)) : dp_G E A p l e R s m args below meth co ce sl Q M pc L (.int (dp_I i) :: .ref t :: st) := fun H locs ls hW hS hL => va_ti C.1.1 C.1.2.1 hZ.2 hS (dp_in hi.1 hi.2 hN) (v := .int (dp_I (f j))) (by rw [dp_I_nat hi.1 (by omega), hj]) hd (k H locs ls hW hS hL)
theorem dp_tcld (C : dp_C E A p s m args meth co cc own nL Ts) {n d : String} {t N j : Nat} {f : Nat → Int} {i : Int} (hZ : dp_Z1 A n d .char t N f s s.heap) (hi : 0 ≤ i ∧ i < N) (hN : N < 2147483648) (hj : i.toNat = j) (hd : decode cc pc = .ok (.caload, 1)) (k : dp_G E A p l e R s m args below meth co ce sl Q M (pc + 1) L (.int (dp_I (f j)) :: st)) : dp_G E A p l e R s m args below meth co ce sl Q M pc L (.int (dp_I i) :: .ref t :: st) := fun H locs ls hW hS hL => va_tc C.1.1 C.1.2.1 hZ.2 hS (dp_in hi.1 hi.2 hN) (v := .int (dp_I (f j))) (by rw [dp_I_nat hi.1 (by omega), hj]) hd (k H locs ls hW hS hL)
theorem dp_mmax (C : dp_C E A p s m args meth co cc own nL Ts) {i : Nat} {x y : Int} (hx : dp_R x) (hy : dp_R y) (h1 : Cond.methodLink own i Lib.Math.max.name ∈ Ts) (h2 : Cond.static Lib.Math.max.name ∈ Ts) (h3 : Cond.initialized "java/lang/Math" ∈ Ts) (h4 : Cond.code Lib.Math.max.name Lib.Math.max.code 2 (some .int) ∈ Ts) (hf : 1 ≤ R.frames) (hlo : 21 ≤ R.locals) (hcat : (st.map fun v => v.category).sum ≤ 8) (hL0 : L.length = nL) (hce : ce ≤ R.cells ∧ sl ≤ R.slots) (hd : decode cc pc = .ok (.invokestatic i, 3)) (k : dp_G E A p l e R s m args below meth co ce sl Q M (pc + 3) L (.int (dp_I (if x < y then y else x)) :: st)) : dp_G E A p l e R s m args below meth co ce sl Q M pc L (.int (dp_I y) :: .int (dp_I x) :: st) := fun H locs ls hW hS hL => by
  refine va_mmax C.1.1 C.1.2.1 (by rw [hL.1, hL0]; exact C.1.2.2.1) C.1.2.2.2.1 (C.1.2.2.2.2 _ h1) (C.1.2.2.2.2 _ h2) (C.1.2.2.2.2 _ h3) (C.1.2.2.2.2 _ h4) hf (by omega) hce.1 hce.2 hd ?_
  have e := k H locs ls hW hS hL
  by_cases h : x < y
  · rw [if_pos h] at e
    rw [if_pos ((dp_I_lt hx hy).mpr h)]
    exact e
  · rw [if_neg h] at e
    rw [if_neg (fun q => h ((dp_I_lt hx hy).mp q))]
    exact e
theorem dp_mmin (C : dp_C E A p s m args meth co cc own nL Ts) {i : Nat} {x y : Int} (hx : dp_R x) (hy : dp_R y) (h1 : Cond.methodLink own i Lib.Math.min.name ∈ Ts) (h2 : Cond.static Lib.Math.min.name ∈ Ts) (h3 : Cond.initialized "java/lang/Math" ∈ Ts) (h4 : Cond.code Lib.Math.min.name Lib.Math.min.code 2 (some .int) ∈ Ts) (hf : 1 ≤ R.frames) (hlo : 21 ≤ R.locals) (hcat : (st.map fun v => v.category).sum ≤ 8) (hL0 : L.length = nL) (hce : ce ≤ R.cells ∧ sl ≤ R.slots) (hd : decode cc pc = .ok (.invokestatic i, 3)) (k : dp_G E A p l e R s m args below meth co ce sl Q M (pc + 3) L (.int (dp_I (if y < x then y else x)) :: st)) : dp_G E A p l e R s m args below meth co ce sl Q M pc L (.int (dp_I y) :: .int (dp_I x) :: st) := fun H locs ls hW hS hL => by
  refine va_mmin C.1.1 C.1.2.1 (by rw [hL.1, hL0]; exact C.1.2.2.1) C.1.2.2.2.1 (C.1.2.2.2.2 _ h1) (C.1.2.2.2.2 _ h2) (C.1.2.2.2.2 _ h3) (C.1.2.2.2.2 _ h4) hf (by omega) hce.1 hce.2 hd ?_
  have e := k H locs ls hW hS hL
  by_cases h : y < x
  · rw [if_pos h] at e
    rw [if_pos ((dp_I_lt hy hx).mpr h)]
    exact e
  · rw [if_neg h] at e
    rw [if_neg (fun q => h ((dp_I_lt hy hx).mp q))]
    exact e
theorem dp_mabs (C : dp_C E A p s m args meth co cc own nL Ts) {i : Nat} {x : Int} (hx : dp_R x) (h1 : Cond.methodLink own i Lib.Math.abs.name ∈ Ts) (h2 : Cond.static Lib.Math.abs.name ∈ Ts) (h3 : Cond.initialized "java/lang/Math" ∈ Ts) (h4 : Cond.code Lib.Math.abs.name Lib.Math.abs.code 1 (some .int) ∈ Ts) (hf : 1 ≤ R.frames) (hlo : 21 ≤ R.locals) (hcat : (st.map fun v => v.category).sum ≤ 8) (hL0 : L.length = nL) (hce : ce ≤ R.cells ∧ sl ≤ R.slots) (hd : decode cc pc = .ok (.invokestatic i, 3)) (k : dp_G E A p l e R s m args below meth co ce sl Q M (pc + 3) L (.int (dp_I (if x < 0 then -x else x)) :: st)) : dp_G E A p l e R s m args below meth co ce sl Q M pc L (.int (dp_I x) :: st) := fun H locs ls hW hS hL => by
  refine va_mabs C.1.1 C.1.2.1 (by rw [hL.1, hL0]; exact C.1.2.2.1) C.1.2.2.2.1 (C.1.2.2.2.2 _ h1) (C.1.2.2.2.2 _ h2) (C.1.2.2.2.2 _ h3) (C.1.2.2.2.2 _ h4) hf (by omega) hce.1 hce.2 hd ?_
  have e := k H locs ls hW hS hL
  by_cases h : x < 0
  · rw [if_pos h] at e
    rw [if_neg (fun q => by rw [dp_I_z, dp_I_le dp_R0 hx] at q; omega), dp_I_z, dp_I_sub]
    rw [show (0 : Int) - x = -x by omega]
    exact e
  · rw [if_neg h] at e
    rw [if_pos (by rw [dp_I_z, dp_I_le dp_R0 hx]; omega)]
    exact e
def dp_qi (E : dp_E) (P : Int → dp_M → Prop) : Array Value → State → Outcome → State → Prop := va_Qi (fun (y : Int32) (M' : dp_M) => ∃ x, y = dp_I x ∧ P x M') (dp_B E) (dp_A E)
def dp_qv (E : dp_E) (P : dp_M → Prop) : Array Value → State → Outcome → State → Prop := va_Qv P (dp_B E) (dp_A E)
def dp_qr (E : dp_E) (P : Nat → Nat → dp_M → Prop) : Array Value → State → Outcome → State → Prop := va_Qr (fun (u : Nat × Nat × dp_M) => P u.1 u.2.1 u.2.2) (fun u a t => a = eAd E u.1 u.2.1 ∧ dp_B E u.2.2 t) (dp_A E)
def dp_rm (fr lo : Nat) : Room := { frames := fr, cells := 0, slots := 0, locals := lo }
def dp_met (E : dp_E) (l : Launch) (y : MethodName) (ws : List Cond) (fr lo : Nat) (av : List Value) (M : dp_M) (Qc : Array Value → State → Outcome → State → Prop) : Prop := Met l y ws (dp_rm fr lo) (va_Pc av (dp_B E M)) Qc 0 0 (dp_A E)
theorem dp_args {av : List Value} (hcat : ∀ v ∈ av, v.category = 1) : lg_sl av = av.map .val ∧ ∀ (i j : Nat) (v : Value), av[j]? = some v → (i + j, v) ∈ lv_args i av := by
  induction av with
  | nil => exact ⟨rfl, fun i j v h => by simp at h⟩
  | cons a av ih =>
    have ha : a.category = 1 := hcat a List.mem_cons_self
    obtain ⟨h1, h2⟩ := ih (fun v hv => hcat v (List.mem_cons_of_mem _ hv))
    refine ⟨?_, fun i j v h => ?_⟩
    · have e : lg_sl (a :: av) = .val a :: lg_sl av := by simp [lg_sl, ha]
      rw [e, h1]
      rfl
    · have e : lv_args i (a :: av) = (i, a) :: lv_args (i + 1) av := by simp [lv_args, ha]
      rw [e]
      cases j with
      | zero =>
        simp at h
        subst h
        exact List.mem_cons_self
      | succ j =>
        have h3 := h2 (i + 1) j v (by simpa using h)
        rw [show i + (j + 1) = i + 1 + j by omega]
        exact List.mem_cons_of_mem _ h3
theorem dp_entry {av : List Value} {n : Nat} (hcat : ∀ v ∈ av, v.category = 1) (hlen : av.length ≤ n) : dp_L ((lg_sl av ++ List.replicate (n - (lg_sl av).length) Slot.unset).toArray) (av.map some ++ List.replicate (n - av.length) none) := by
  obtain ⟨h1, h2⟩ := dp_args hcat
  have hl : (lg_sl av).length = av.length := by rw [h1, List.length_map]
  have h := lv_entry av (n := n) (by omega)
  refine ⟨by rw [h.1]; simp; omega, h.2.1, fun i v hi => ?_⟩
  have hi2 : av[i]? = some v := by
    rcases Nat.lt_or_ge i av.length with q | q
    · rw [List.getElem?_append_left (by simpa using q), List.getElem?_map] at hi
      cases hv : av[i]? with
      | none => rw [hv] at hi; cases hi
      | some w => rw [hv] at hi; cases hi; rfl
    · rw [List.getElem?_append_right (by simpa using q)] at hi
      have := List.eq_of_mem_replicate (List.mem_of_getElem? hi)
      cases this
  have h3 := h2 0 i v hi2
  rw [Nat.zero_add] at h3
  exact h.2.2 _ h3
theorem dp_of {y : MethodName} {ws ws' : List Cond} {ret : Option FieldType} {fr lo : Nat} {av : List Value} {Qc : Array Value → State → Outcome → State → Prop} (hy : plainName y.cls = true) (ho : y.cls = own) (hw : ws = Cond.code y cc nL ret :: ws') (hok : dp_OK E) (hcat : ∀ v ∈ av, v.category = 1) (hlen : av.length ≤ nL)
    (body : ∀ (p : Program) (e : Env) (s : State) (m : MethodId) (below : List Frame) (meth : Method) (co : Code), dp_C E (dp_A E) p s m av.toArray meth co cc own nL ws → meth.sig.returnType = ret → dp_G E (dp_A E) p l e (dp_rm fr lo) s m av.toArray below meth co 0 0 (MQ below Qc av.toArray s 0 0 (dp_A E)) M 0 (av.map some ++ List.replicate (nL - av.length) none) []) : dp_met E l y ws fr lo av M Qc := by
  refine Met.ofW (cc := cc) (maxL := nL) (ret := ret) hy hw ?_
  intro p e s m args below meth c s₁ B hml hv
  obtain ⟨rfl, hWd, hK, hZ⟩ := hv
  have hts := atoms_spec (ws := ws) B.pre
  have hown : s.vm.findClass own = some m.cls := by rw [← ho]; exact findClass_of_methodNamed B.named
  rw [lg_entry_eq]
  exact body p e s m below meth c ⟨⟨B.exec, B.bytes, hml, hown, hts⟩, B.notSynchronized, hok, fun _ h => h, hK, hZ⟩ B.returns s.heap [] _ hWd va_S.rf (dp_entry hcat hlen)
theorem dp_blind {E : dp_E} {M : dp_M} {av : List Value} : FrameBlind (va_Pc av (dp_B E M)) := fun a U g mk q => ⟨q.1, q.2.calling g mk a⟩
theorem dp_pre {E : dp_E} {A : Nat → Prop} {M : dp_M} {s : State} {H : Heap} {locs : List Loc} {av : List Value} (hA : ∀ q, dp_A E q → A q) (hK : dp_K E s) (hZ : dp_Z E A s s.heap) (hW : dp_W E M H) (hS : va_S A s.heap H locs) : ∀ U : State, U.heap = H → s.WarmedH U.vm → va_Pc av (dp_B E M) av.toArray U := fun U hU hWm => ⟨rfl, by rw [hU]; exact hW, va_K.moved hWm.alike hK, by rw [hU]; exact hZ.mv hWm.alike (fun q => q.warm hWm) hS.2.1 hA⟩
theorem dp_cVi (C : dp_C E A p s m args meth co cc own nL Ts) {y : MethodName} {ws ws' : List Cond} {fr lo maxL i n : Nat} {bytes : ByteArray} {ret : Option FieldType} {As rest : List Value} {r c ci N : Nat} {fs : List Value} {Cn : String} {T : u_T} {P : Int → dp_M → Prop} (hM : dp_met E l y ws fr lo (.ref (eAd E r c) :: As) M (dp_qi E P)) (hG : GoodIn Ts (wsV own i Cn y ws)) (hw : ws = Cond.code y bytes maxL ret :: ws') (hm : (r, c) ∈ dp_ps E) (hx : dp_x E M r c = .inr (ci, fs)) (hc : vwCl[ci]? = some (Cn, T, N)) (hdy : y.cls = Cn ∧ y.cls ≠ "java/lang/invoke/MethodHandle" ∧ y.cls ≠ "java/lang/invoke/VarHandle" ∧ (parseMethodDescriptor y.desc).map (fun d => d.parameters.length) = some n) (hn : As.length = n) (hR : fr + 1 ≤ R.frames ∧ 8 + (maxL + 11) + lo ≤ R.locals) (hst : st = As.reverse ++ .ref (eAd E r c) :: rest) (hcat : (rest.map fun v => v.category).sum ≤ 8) (hL0 : L.length = nL) (hce : ce ≤ R.cells ∧ sl ≤ R.slots) (hd : decode cc pc = .ok (.invokevirtual i, 3)) (k : ∀ x M1, P x M1 → dp_G E A p l e R s m args below meth co ce sl Q M1 (pc + 3) L (.int (dp_I x) :: rest)) : dp_G E A p l e R s m args below meth co ce sl Q M pc L st := fun H locs ls hW hS hL => by
  obtain ⟨q0, hq⟩ := List.getElem?_of_mem hm
  subst hst
  have hr := va_runV (e := e) (below := below) (meth := meth) (locs := locs) (cells := ce) (slots := sl) (As := As) (rest := rest) (g := F0 m pc ls (As.reverse ++ .ref (eAd E r c) :: rest)) C.1 hM (cwV n C.1.2.2.2.2 hG hw rfl rfl hdy hR) ⟨dp_blind, va_recv C.2.2.2.2.1 hW.P (q0 := q0) (fs := fs) hc (by rw [dp_ws_at hq, hx]), dp_pre C.2.2.2.1 C.2.2.2.2.1 C.2.2.2.2.2 hW hS⟩ rfl hn (by rw [hL.1, hL0]) rfl (lv_room hcat) hd ⟨hce.1, hce.2⟩
  refine va_calli hr hS (fun q _ h => C.2.2.2.1 q h) (fun q h => C.2.2.2.1 q h) (fun y9 u t H1 locs1 ht hvm hw9 hB hz1 hk1 hS1 => ?_)
  obtain ⟨x, rfl, hp⟩ := hw9
  exact k x u hp H1 locs1 ls (by rw [← ht]; exact hB.1) hS1 hL
theorem dp_cSi (C : dp_C E A p s m args meth co cc own nL Ts) {y : MethodName} {ws ws' : List Cond} {fr lo maxL i n : Nat} {bytes : ByteArray} {ret : Option FieldType} {As rest : List Value} {P : Int → dp_M → Prop} (hM : dp_met E l y ws fr lo As M (dp_qi E P)) (hG : GoodIn Ts (va_wsS own i y ws)) (hw : ws = Cond.code y bytes maxL ret :: ws') (hdy : y.cls ≠ "java/lang/invoke/MethodHandle" ∧ y.cls ≠ "java/lang/invoke/VarHandle" ∧ (parseMethodDescriptor y.desc).map (fun d => d.parameters.length) = some n) (hn : As.length = n) (hR : fr + 1 ≤ R.frames ∧ 8 + (maxL + 11) + lo ≤ R.locals) (hst : st = As.reverse ++ rest) (hcat : (rest.map fun v => v.category).sum ≤ 8) (hL0 : L.length = nL) (hce : ce ≤ R.cells ∧ sl ≤ R.slots) (hd : decode cc pc = .ok (.invokestatic i, 3)) (k : ∀ x M1, P x M1 → dp_G E A p l e R s m args below meth co ce sl Q M1 (pc + 3) L (.int (dp_I x) :: rest)) : dp_G E A p l e R s m args below meth co ce sl Q M pc L st := fun H locs ls hW hS hL => by
  subst hst
  have hr := va_runS (e := e) (below := below) (meth := meth) (locs := locs) (cells := ce) (slots := sl) (As := As) (rest := rest) (g := F0 m pc ls (As.reverse ++ rest)) C.1 hM (va_cwS n C.1.2.2.2.2 hG hw rfl rfl hdy hR) ⟨dp_blind, dp_pre C.2.2.2.1 C.2.2.2.2.1 C.2.2.2.2.2 hW hS⟩ rfl hn (by rw [hL.1, hL0]) rfl (lv_room hcat) hd ⟨hce.1, hce.2⟩
  refine va_calli hr hS (fun q _ h => C.2.2.2.1 q h) (fun q h => C.2.2.2.1 q h) (fun y9 u t H1 locs1 ht hvm hw9 hB hz1 hk1 hS1 => ?_)
  obtain ⟨x, rfl, hp⟩ := hw9
  exact k x u hp H1 locs1 ls (by rw [← ht]; exact hB.1) hS1 hL
theorem dp_cVv (C : dp_C E A p s m args meth co cc own nL Ts) {y : MethodName} {ws ws' : List Cond} {fr lo maxL i n : Nat} {bytes : ByteArray} {ret : Option FieldType} {As rest : List Value} {r c ci N : Nat} {fs : List Value} {Cn : String} {T : u_T} {P : dp_M → Prop} (hM : dp_met E l y ws fr lo (.ref (eAd E r c) :: As) M (dp_qv E P)) (hG : GoodIn Ts (wsV own i Cn y ws)) (hw : ws = Cond.code y bytes maxL ret :: ws') (hm : (r, c) ∈ dp_ps E) (hx : dp_x E M r c = .inr (ci, fs)) (hc : vwCl[ci]? = some (Cn, T, N)) (hdy : y.cls = Cn ∧ y.cls ≠ "java/lang/invoke/MethodHandle" ∧ y.cls ≠ "java/lang/invoke/VarHandle" ∧ (parseMethodDescriptor y.desc).map (fun d => d.parameters.length) = some n) (hn : As.length = n) (hR : fr + 1 ≤ R.frames ∧ 8 + (maxL + 11) + lo ≤ R.locals) (hst : st = As.reverse ++ .ref (eAd E r c) :: rest) (hcat : (rest.map fun v => v.category).sum ≤ 8) (hL0 : L.length = nL) (hce : ce ≤ R.cells ∧ sl ≤ R.slots) (hd : decode cc pc = .ok (.invokevirtual i, 3)) (k : ∀ M1, P M1 → dp_G E A p l e R s m args below meth co ce sl Q M1 (pc + 3) L rest) : dp_G E A p l e R s m args below meth co ce sl Q M pc L st := fun H locs ls hW hS hL => by
  obtain ⟨q0, hq⟩ := List.getElem?_of_mem hm
  subst hst
  have hr := va_runV (e := e) (below := below) (meth := meth) (locs := locs) (cells := ce) (slots := sl) (As := As) (rest := rest) (g := F0 m pc ls (As.reverse ++ .ref (eAd E r c) :: rest)) C.1 hM (cwV n C.1.2.2.2.2 hG hw rfl rfl hdy hR) ⟨dp_blind, va_recv C.2.2.2.2.1 hW.P (q0 := q0) (fs := fs) hc (by rw [dp_ws_at hq, hx]), dp_pre C.2.2.2.1 C.2.2.2.2.1 C.2.2.2.2.2 hW hS⟩ rfl hn (by rw [hL.1, hL0]) rfl (lv_room hcat) hd ⟨hce.1, hce.2⟩
  refine va_callv hr hS (fun q _ h => C.2.2.2.1 q h) (fun q h => C.2.2.2.1 q h) (fun u t H1 locs1 ht hvm hw9 hB hz1 hk1 hS1 => ?_)
  exact k u hw9 H1 locs1 ls (by rw [← ht]; exact hB.1) hS1 hL
theorem dp_cSv (C : dp_C E A p s m args meth co cc own nL Ts) {y : MethodName} {ws ws' : List Cond} {fr lo maxL i n : Nat} {bytes : ByteArray} {ret : Option FieldType} {As rest : List Value} {P : dp_M → Prop} (hM : dp_met E l y ws fr lo As M (dp_qv E P)) (hG : GoodIn Ts (va_wsS own i y ws)) (hw : ws = Cond.code y bytes maxL ret :: ws') (hdy : y.cls ≠ "java/lang/invoke/MethodHandle" ∧ y.cls ≠ "java/lang/invoke/VarHandle" ∧ (parseMethodDescriptor y.desc).map (fun d => d.parameters.length) = some n) (hn : As.length = n) (hR : fr + 1 ≤ R.frames ∧ 8 + (maxL + 11) + lo ≤ R.locals) (hst : st = As.reverse ++ rest) (hcat : (rest.map fun v => v.category).sum ≤ 8) (hL0 : L.length = nL) (hce : ce ≤ R.cells ∧ sl ≤ R.slots) (hd : decode cc pc = .ok (.invokestatic i, 3)) (k : ∀ M1, P M1 → dp_G E A p l e R s m args below meth co ce sl Q M1 (pc + 3) L rest) : dp_G E A p l e R s m args below meth co ce sl Q M pc L st := fun H locs ls hW hS hL => by
  subst hst
  have hr := va_runS (e := e) (below := below) (meth := meth) (locs := locs) (cells := ce) (slots := sl) (As := As) (rest := rest) (g := F0 m pc ls (As.reverse ++ rest)) C.1 hM (va_cwS n C.1.2.2.2.2 hG hw rfl rfl hdy hR) ⟨dp_blind, dp_pre C.2.2.2.1 C.2.2.2.2.1 C.2.2.2.2.2 hW hS⟩ rfl hn (by rw [hL.1, hL0]) rfl (lv_room hcat) hd ⟨hce.1, hce.2⟩
  refine va_callv hr hS (fun q _ h => C.2.2.2.1 q h) (fun q h => C.2.2.2.1 q h) (fun u t H1 locs1 ht hvm hw9 hB hz1 hk1 hS1 => ?_)
  exact k u hw9 H1 locs1 ls (by rw [← ht]; exact hB.1) hS1 hL
theorem dp_cVr (C : dp_C E A p s m args meth co cc own nL Ts) {y : MethodName} {ws ws' : List Cond} {fr lo maxL i n : Nat} {bytes : ByteArray} {ret : Option FieldType} {As rest : List Value} {r c ci N : Nat} {fs : List Value} {Cn : String} {T : u_T} {P : Nat → Nat → dp_M → Prop} (hM : dp_met E l y ws fr lo (.ref (eAd E r c) :: As) M (dp_qr E P)) (hG : GoodIn Ts (wsV own i Cn y ws)) (hw : ws = Cond.code y bytes maxL ret :: ws') (hm : (r, c) ∈ dp_ps E) (hx : dp_x E M r c = .inr (ci, fs)) (hc : vwCl[ci]? = some (Cn, T, N)) (hdy : y.cls = Cn ∧ y.cls ≠ "java/lang/invoke/MethodHandle" ∧ y.cls ≠ "java/lang/invoke/VarHandle" ∧ (parseMethodDescriptor y.desc).map (fun d => d.parameters.length) = some n) (hn : As.length = n) (hR : fr + 1 ≤ R.frames ∧ 8 + (maxL + 11) + lo ≤ R.locals) (hst : st = As.reverse ++ .ref (eAd E r c) :: rest) (hcat : (rest.map fun v => v.category).sum ≤ 8) (hL0 : L.length = nL) (hce : ce ≤ R.cells ∧ sl ≤ R.slots) (hd : decode cc pc = .ok (.invokevirtual i, 3)) (k : ∀ r1 c1 M1, P r1 c1 M1 → dp_G E A p l e R s m args below meth co ce sl Q M1 (pc + 3) L (.ref (eAd E r1 c1) :: rest)) : dp_G E A p l e R s m args below meth co ce sl Q M pc L st := fun H locs ls hW hS hL => by
  obtain ⟨q0, hq⟩ := List.getElem?_of_mem hm
  subst hst
  have hr := va_runV (e := e) (below := below) (meth := meth) (locs := locs) (cells := ce) (slots := sl) (As := As) (rest := rest) (g := F0 m pc ls (As.reverse ++ .ref (eAd E r c) :: rest)) C.1 hM (cwV n C.1.2.2.2.2 hG hw rfl rfl hdy hR) ⟨dp_blind, va_recv C.2.2.2.2.1 hW.P (q0 := q0) (fs := fs) hc (by rw [dp_ws_at hq, hx]), dp_pre C.2.2.2.1 C.2.2.2.2.1 C.2.2.2.2.2 hW hS⟩ rfl hn (by rw [hL.1, hL0]) rfl (lv_room hcat) hd ⟨hce.1, hce.2⟩
  refine va_callr hr hS (fun q _ h => C.2.2.2.1 q h) (fun q h => C.2.2.2.1 q h) (fun u ra t H1 locs1 ht hvm hw9 hB hz1 hk1 hS1 => ?_)
  obtain ⟨rfl, hB⟩ := hB
  exact k u.1 u.2.1 u.2.2 hw9 H1 locs1 ls (by rw [← ht]; exact hB.1) hS1 hL
theorem dp_cSr (C : dp_C E A p s m args meth co cc own nL Ts) {y : MethodName} {ws ws' : List Cond} {fr lo maxL i n : Nat} {bytes : ByteArray} {ret : Option FieldType} {As rest : List Value} {P : Nat → Nat → dp_M → Prop} (hM : dp_met E l y ws fr lo As M (dp_qr E P)) (hG : GoodIn Ts (va_wsS own i y ws)) (hw : ws = Cond.code y bytes maxL ret :: ws') (hdy : y.cls ≠ "java/lang/invoke/MethodHandle" ∧ y.cls ≠ "java/lang/invoke/VarHandle" ∧ (parseMethodDescriptor y.desc).map (fun d => d.parameters.length) = some n) (hn : As.length = n) (hR : fr + 1 ≤ R.frames ∧ 8 + (maxL + 11) + lo ≤ R.locals) (hst : st = As.reverse ++ rest) (hcat : (rest.map fun v => v.category).sum ≤ 8) (hL0 : L.length = nL) (hce : ce ≤ R.cells ∧ sl ≤ R.slots) (hd : decode cc pc = .ok (.invokestatic i, 3)) (k : ∀ r1 c1 M1, P r1 c1 M1 → dp_G E A p l e R s m args below meth co ce sl Q M1 (pc + 3) L (.ref (eAd E r1 c1) :: rest)) : dp_G E A p l e R s m args below meth co ce sl Q M pc L st := fun H locs ls hW hS hL => by
  subst hst
  have hr := va_runS (e := e) (below := below) (meth := meth) (locs := locs) (cells := ce) (slots := sl) (As := As) (rest := rest) (g := F0 m pc ls (As.reverse ++ rest)) C.1 hM (va_cwS n C.1.2.2.2.2 hG hw rfl rfl hdy hR) ⟨dp_blind, dp_pre C.2.2.2.1 C.2.2.2.2.1 C.2.2.2.2.2 hW hS⟩ rfl hn (by rw [hL.1, hL0]) rfl (lv_room hcat) hd ⟨hce.1, hce.2⟩
  refine va_callr hr hS (fun q _ h => C.2.2.2.1 q h) (fun q h => C.2.2.2.1 q h) (fun u ra t H1 locs1 ht hvm hw9 hB hz1 hk1 hS1 => ?_)
  obtain ⟨rfl, hB⟩ := hB
  exact k u.1 u.2.1 u.2.2 hw9 H1 locs1 ls (by rw [← ht]; exact hB.1) hS1 hL
end DC
section DQ
variable {E : dp_E} {p : Program} {l : Launch} {e : Env} {R : Room} {s : State} {m : MethodId} {args : Array Value} {below : List Frame} {meth : Method} {co : Code} {cc : ByteArray} {own : String} {nL : Nat} {Ts : List Cond} {M : dp_M} {pc : Nat} {L : List (Option Value)}
theorem dp_end (C : dp_C E (dp_A E) p s m args meth co cc own nL Ts) {H : Heap} {locs : List Loc} {t : State} (hW : dp_W E M H) (hS : va_S (dp_A E) s.heap H locs) (ht : t.heap = H) (hWm : s.WarmedH t.vm) : dp_B E M t := ⟨by rw [ht]; exact hW, va_K.moved hWm.alike C.2.2.2.2.1, by rw [ht]; exact C.2.2.2.2.2.mv hWm.alike (fun q => q.warm hWm) hS.2.1 (fun _ h => h)⟩
theorem dp_iret (C : dp_C E (dp_A E) p s m args meth co cc own nL Ts) {P : Int → dp_M → Prop} {x : Int} (hr : meth.sig.returnType = some .int) (hd : decode cc pc = .ok (.ireturn, 1)) (hp : P x M) : dp_G E (dp_A E) p l e R s m args below meth co 0 0 (MQ below (dp_qi E P) args s 0 0 (dp_A E)) M pc L [.int (dp_I x)] := fun H locs ls hW hS hL => W.iret (v := dp_I x) C.1.1 C.1.2.1 hr (fun t ht hWm => ⟨⟨dp_I x, M, rfl, ⟨x, rfl, hp⟩, dp_end C hW hS ht hWm⟩, hS.F ht⟩) hS.2.2 hd C.2.1
theorem dp_zret (C : dp_C E (dp_A E) p s m args meth co cc own nL Ts) {P : Int → dp_M → Prop} {x : Int} {ty : FieldType} (hr : meth.sig.returnType = some ty) (hn : narrow ty (.int (dp_I x)) = .int (dp_I x)) (hd : decode cc pc = .ok (.ireturn, 1)) (hp : P x M) : dp_G E (dp_A E) p l e R s m args below meth co 0 0 (MQ below (dp_qi E P) args s 0 0 (dp_A E)) M pc L [.int (dp_I x)] := fun H locs ls hW hS hL => W.zret (v := dp_I x) C.1.1 C.1.2.1 hr hn (fun t ht hWm => ⟨⟨dp_I x, M, rfl, ⟨x, rfl, hp⟩, dp_end C hW hS ht hWm⟩, hS.F ht⟩) hS.2.2 hd C.2.1
theorem dp_vret (C : dp_C E (dp_A E) p s m args meth co cc own nL Ts) {P : dp_M → Prop} (hr : meth.sig.returnType = none) (hd : decode cc pc = .ok (.return_, 1)) (hp : P M) : dp_G E (dp_A E) p l e R s m args below meth co 0 0 (MQ below (dp_qv E P) args s 0 0 (dp_A E)) M pc L [] := fun H locs ls hW hS hL => W.vret C.1.1 C.1.2.1 hr (fun t ht hWm => ⟨⟨M, rfl, hp, dp_end C hW hS ht hWm⟩, hS.F ht⟩) hS.2.2 hd C.2.1
theorem dp_aret (C : dp_C E (dp_A E) p s m args meth co cc own nL Ts) {P : Nat → Nat → dp_M → Prop} {r c : Nat} {Cn : String} (hr : meth.sig.returnType = some (.object Cn)) (hd : decode cc pc = .ok (.areturn, 1)) (hp : P r c M) : dp_G E (dp_A E) p l e R s m args below meth co 0 0 (MQ below (dp_qr E P) args s 0 0 (dp_A E)) M pc L [.ref (eAd E r c)] := fun H locs ls hW hS hL => W.aret (v := .ref (eAd E r c)) C.1.1 C.1.2.1 hr (Or.inl ⟨Cn, rfl⟩) (Or.inr ⟨_, rfl⟩) (fun t ht hWm => ⟨⟨(r, c, M), eAd E r c, rfl, hp, rfl, dp_end C hW hS ht hWm⟩, hS.F ht⟩) hS.2.2 hd C.2.1
end DQ
