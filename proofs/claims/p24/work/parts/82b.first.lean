/-! THE FIRST MEMORY: where the cells lie, what they hold -/
def bsR (r : Nat) : Nat := if r = 0 then 1 else if r = 1 then 20 else 41 + 19 * (r - 2)
def ofC (c : Nat) : Nat := if c < 6 then c else if c < 16 then c + 3 else c - 10
def adr (Z : Nat) : Nat → Nat → Nat := fun r c => if r = 9 then 0 else if r = 7 then (if c = 0 then Z else if c = 1 then Z + 39 else if c = 2 then Z + 40 else if c = 3 then Z + 136 else if c = 4 then Z + 137 else Z + 138) else if r = 8 then Z + 139 + c else Z + (bsR r + ofC c)
theorem ofC_lt {c : Nat} (h : c < 19) : ofC c < 19 := by
  unfold ofC
  repeat' split
  all_goals omega
theorem ofC_inj {c c' : Nat} (h : c < 19) (h' : c' < 19) (e : ofC c = ofC c') : c = c' := by
  unfold ofC at e
  repeat' split at e
  all_goals omega
theorem adr_S {Z r c : Nat} (h : r < 7) : adr Z r c = Z + (bsR r + ofC c) := by
  unfold adr
  rw [if_neg (by omega), if_neg (by omega), if_neg (by omega)]
theorem bsR_e {r : Nat} (h : r < 7) : (r = 0 ∧ bsR r = 1) ∨ (r = 1 ∧ bsR r = 20) ∨ (2 ≤ r ∧ bsR r = 41 + 19 * (r - 2)) := by
  unfold bsR
  repeat' split
  all_goals omega
theorem adr_7 {Z c : Nat} (h : c < 6) : (c = 0 ∧ adr Z 7 c = Z) ∨ (c = 1 ∧ adr Z 7 c = Z + 39) ∨ (c = 2 ∧ adr Z 7 c = Z + 40) ∨ (c = 3 ∧ adr Z 7 c = Z + 136) ∨ (c = 4 ∧ adr Z 7 c = Z + 137) ∨ (c = 5 ∧ adr Z 7 c = Z + 138) := by
  rcases (by omega : c = 0 ∨ c = 1 ∨ c = 2 ∨ c = 3 ∨ c = 4 ∨ c = 5) with rfl | rfl | rfl | rfl | rfl | rfl
  · exact Or.inl ⟨rfl, rfl⟩
  · exact Or.inr (Or.inl ⟨rfl, rfl⟩)
  · exact Or.inr (Or.inr (Or.inl ⟨rfl, rfl⟩))
  · exact Or.inr (Or.inr (Or.inr (Or.inl ⟨rfl, rfl⟩)))
  · exact Or.inr (Or.inr (Or.inr (Or.inr (Or.inl ⟨rfl, rfl⟩))))
  · exact Or.inr (Or.inr (Or.inr (Or.inr (Or.inr ⟨rfl, rfl⟩))))
theorem adr_8 {Z c : Nat} : adr Z 8 c = Z + 139 + c := rfl
theorem adr_inj {Z r c r' c' : Nat} (h : (r < 7 ∧ c < 19) ∨ (r = 7 ∧ c < 6) ∨ (r = 8 ∧ c < 2)) (h' : (r' < 7 ∧ c' < 19) ∨ (r' = 7 ∧ c' < 6) ∨ (r' = 8 ∧ c' < 2)) (e : adr Z r c = adr Z r' c') : r = r' ∧ c = c' := by
  rcases h with ⟨a, b⟩ | ⟨rfl, b⟩ | ⟨rfl, b⟩
  · have o := ofC_lt b
    have q := bsR_e a
    rw [adr_S a] at e
    rcases h' with ⟨a', b'⟩ | ⟨rfl, b'⟩ | ⟨rfl, b'⟩
    · have o' := ofC_lt b'
      have q' := bsR_e a'
      rw [adr_S a'] at e
      have er : r = r' := by omega
      subst er
      exact ⟨rfl, ofC_inj b b' (by omega)⟩
    · have q' := adr_7 (Z := Z) b'
      omega
    · rw [adr_8] at e
      omega
  · have q := adr_7 (Z := Z) b
    rcases h' with ⟨a', b'⟩ | ⟨rfl, b'⟩ | ⟨rfl, b'⟩
    · have o' := ofC_lt b'
      have q' := bsR_e a'
      rw [adr_S a'] at e
      omega
    · have q' := adr_7 (Z := Z) b'
      exact ⟨rfl, by omega⟩
    · rw [adr_8] at e
      omega
  · rw [adr_8] at e
    rcases h' with ⟨a', b'⟩ | ⟨rfl, b'⟩ | ⟨rfl, b'⟩
    · have o' := ofC_lt b'
      have q' := bsR_e a'
      rw [adr_S a'] at e
      omega
    · have q' := adr_7 (Z := Z) b'
      omega
    · rw [adr_8] at e
      exact ⟨rfl, by omega⟩
theorem adr_ge {Z r c : Nat} (h : r < 9) : Z ≤ adr Z r c := by
  unfold adr
  rw [if_neg (by omega)]
  repeat' split
  all_goals omega
def V0 : dp_V := fun c k => if c = 1 then (if k = 0 then 100 else if k = 1 then 18000 else if k = 2 then 30 else if k = 3 then 60 else 0) else if c = 3 then (if k = 0 then 40 else if k = 2 then 600 else 0) else if c = 4 then (if k = 0 then 20 else if k = 2 then 300 else if k = 3 then 9000 else 0) else if 6 ≤ c then (if k = 6 then 4 else 0) else 0
def X0 : dp_V := fun c i => if c = 2 then (i : Int) + 2 else 0
def Y0 : dp_V := fun _ _ => 0
def M0 : dp_M := fun r => if r < 7 then V0 else if r = 7 then X0 else Y0
theorem V0_T {t k : Nat} : V0 (t + 6) k = if k = 6 then 4 else 0 := by
  unfold V0
  rw [if_neg (by omega), if_neg (by omega), if_neg (by omega), if_pos (by omega)]
theorem V0_iv : ivC V0 := by
  refine ivC_mk ?_ (fun t _ => ⟨Or.inl V0_T, Or.inl V0_T⟩)
  refine ⟨by decide, by decide, fun d _ => ?_, ?_, ?_⟩
  · have e : V0 2 d = 0 := rfl
    omega
  · unfold ivA; decide
  · unfold ivA; decide
theorem lb_1 : V0 1 = lbV Y0 1 := by
  funext k
  unfold lbV
  simp (decide := true) only [u2_ap, reduceIte]
  show (if k = 0 then (100 : Int) else if k = 1 then 18000 else if k = 2 then 30 else if k = 3 then 60 else 0) = if k = 3 then 60 else if k = 2 then 30 else if k = 1 then 18000 else if k = 0 then 100 else 0
  (repeat' split) <;> first | rfl | omega
theorem lb_3 : V0 3 = lbV Y0 3 := by
  funext k
  unfold lbV
  simp (decide := true) only [u2_ap, reduceIte]
  show (if k = 0 then (40 : Int) else if k = 2 then 600 else 0) = if k = 2 then 600 else if k = 0 then 40 else 0
  (repeat' split) <;> first | rfl | omega
theorem lb_4 : V0 4 = lbV Y0 4 := by
  funext k
  unfold lbV
  simp (decide := true) only [u2_ap, reduceIte]
  show (if k = 0 then (20 : Int) else if k = 2 then 300 else if k = 3 then 9000 else 0) = if k = 3 then 9000 else if k = 2 then 300 else if k = 0 then 20 else 0
  (repeat' split) <;> first | rfl | omega
theorem M0_iC : iC M0 (lbV Y0) 0 := by
  have n1 : ∀ t, ¬ M0 0 (t + 6) 6 = 1 := fun t q => by
    have e : M0 0 (t + 6) 6 = 4 := by
      show V0 (t + 6) 6 = 4
      rw [V0_T]
      rfl
    omega
  refine ⟨V0_iv, ⟨by decide, by decide, fun i hi => ?_⟩, ⟨⟨rfl, rfl, rfl⟩, ⟨lb_1, rfl, lb_3, lb_4⟩, rfl, ⟨by omega, fun t q => by omega, fun t _ _ => (by show V0 (t + 6) 6 = 4; rw [V0_T]; rfl)⟩, fun t q => by omega⟩, fun t u _ _ q => absurd q (n1 t), fun t _ q => absurd q (n1 t), by omega, fun c hc => ?_⟩
  · have e : M0 7 2 i = (i : Int) + 2 := rfl
    omega
  · rcases hc with rfl | rfl
    · decide
    · decide
theorem stX_cell {E : dp_E} {H : Heap} {r b c : Nat} (hc : c < 19) (hb : ∀ c, c < 19 → eAd E r c = b + ofC c) (h : va_at E.1 vwCl (b + ofC c, stX E 10 b (ofC c)) H) : va_at E.1 vwCl (eAd E r c, dp_xS E V0 Y0 r c) H := by
  rw [hb c hc]
  rcases (by omega : c = 0 ∨ c = 1 ∨ c = 2 ∨ c = 5 ∨ c = 3 ∨ c = 4 ∨ c = 6 ∨ c = 7 ∨ c = 8 ∨ c = 9 ∨ c = 10 ∨ c = 11 ∨ c = 12 ∨ c = 13 ∨ c = 14 ∨ c = 15 ∨ c = 16 ∨ c = 17 ∨ c = 18) with rfl | rfl | rfl | rfl | rfl | rfl | rfl | rfl | rfl | rfl | rfl | rfl | rfl | rfl | rfl | rfl | rfl | rfl | rfl
  · have e : dp_xS E V0 Y0 r 0 = stX E 10 b (ofC 0) := by
      show (.inr (2, dp_fS E r (V0 0)) : va_E) = _
      unfold dp_fS
      rw [hb 1 (by decide), hb 2 (by decide), hb 3 (by decide), hb 4 (by decide), hb 5 (by decide), hb 16 (by decide), hb 17 (by decide), hb 18 (by decide)]
      rfl
    rw [e]
    exact h
  · refine dp_at_ints (f := u1 (u1 (u1 (u1 (fun _ => 0) 0 100) 1 18000) 2 30) 3 60) (fun i hi => ?_) h
    rcases (by omega : i = 0 ∨ i = 1 ∨ i = 2 ∨ i = 3) with rfl | rfl | rfl | rfl <;> rfl
  · exact dp_at_ints (f := fun _ => 0) (fun i hi => rfl) h
  · refine dp_at_refs (f := fun j => if j < 10 then some (b + 9 + j) else none) (fun i hi => ?_) h
    rw [if_pos hi, hb _ (by omega)]
    unfold ofC
    rw [if_neg (by omega), if_pos (by omega)]
    congr 1
    omega
  all_goals exact h
theorem dpC_S {E : dp_E} {Z r c : Nat} (hr : r < 7) (hc : c < 19) : dpC E Z (bsR r + ofC c) = stX E 10 (Z + bsR r) (ofC c) := by
  have o := ofC_lt hc
  unfold dpC
  rcases bsR_e hr with ⟨rfl, q⟩ | ⟨rfl, q⟩ | ⟨h2, q⟩
  · rw [q, if_neg (by omega), if_pos (by omega), show 1 + ofC c - 1 = ofC c by omega]
  · rw [q, if_neg (by omega), if_neg (by omega), if_pos (by omega), show 20 + ofC c - 20 = ofC c by omega]
  · rw [q, if_neg (by omega), if_neg (by omega), if_neg (by omega), if_pos (by omega)]
    unfold hiX
    rw [if_neg (by omega), if_neg (by omega), show 41 + 19 * (r - 2) + ofC c - 39 - 2 = 19 * (r - 2) + ofC c by omega, show (19 * (r - 2) + ofC c) / 19 = r - 2 by omega, show (19 * (r - 2) + ofC c) % 19 = ofC c by omega, show Z + 39 + 2 + 19 * (r - 2) = Z + (41 + 19 * (r - 2)) by omega]
/-- the cells as they are made hold the first memory -/
theorem first_W {D : va_G} {I C T S : ClassId} {z : Nat × Nat × Nat × Nat} {Z : Nat} {w : nw_V} {H : Heap} (hd : ∀ j, j < 139 → w (Z + j) = some (dpC (D, adr Z, (I, C, T, S), z) Z j)) (hg : w (Z + 139) = some (dp_ints I 55 (fun _ => 0))) (hq : w (Z + 140) = some (dp_ints I 56 (fun _ => 0))) (hW : nw_W (D, adr Z, (I, C, T, S), z) w H) : dp_W (D, adr Z, (I, C, T, S), z) M0 H := by
  intro r c hp
  rcases E2_ps rfl hp with ⟨a, b⟩ | ⟨rfl, b⟩ | ⟨rfl, b⟩
  · rw [dp_x_S a, show M0 r = V0 from if_pos a, show M0 (r + 20) = Y0 by unfold M0; rw [if_neg (by omega), if_neg (by omega)]]
    refine stX_cell (b := Z + bsR r) b (fun c hc => ?_) ?_
    · show adr Z r c = _
      rw [adr_S a]
      omega
    · have o := ofC_lt b
      have q := bsR_e a
      have h := hW _ _ (hd (bsR r + ofC c) (by omega))
      rw [dpC_S a b, show Z + (bsR r + ofC c) = Z + bsR r + ofC c by omega] at h
      exact h
  · rw [dp_x_C]
    rcases (by omega : c = 0 ∨ c = 1 ∨ c = 2 ∨ c = 3 ∨ c = 4 ∨ c = 5) with rfl | rfl | rfl | rfl | rfl | rfl
    · exact hW _ _ (hd 0 (by decide))
    · exact hW _ _ (hd 39 (by decide))
    · refine dp_at_refs (f := fun j => if j < 5 then some (Z + 39 + 2 + 19 * j) else none) (fun i hi => ?_) (hW _ _ (hd 40 (by decide)))
      rw [if_pos hi]
      congr 1
      have e : (M0 7 2 i).toNat = i + 2 := by
        have e2 : M0 7 2 i = (i : Int) + 2 := rfl
        omega
      rw [e]
      show _ = adr Z (i + 2) 0
      rw [adr_S (by omega)]
      unfold bsR ofC
      rw [if_neg (by omega), if_neg (by omega), if_pos (by omega)]
      omega
    · exact hW _ _ (hd 136 (by decide))
    · exact dp_at_ints (f := fun _ => 0) (fun i hi => rfl) (hW _ _ (hd 137 (by decide)))
    · exact dp_at_ints (f := fun _ => 0) (fun i hi => rfl) (hW _ _ (hd 138 (by decide)))
  · rw [dp_x_M]
    rcases (by omega : c = 0 ∨ c = 1) with rfl | rfl
    · refine dp_at_ints (f := fun _ => 0) (fun i hi => ?_) (hW _ _ hg)
      unfold gF
      split <;> rfl
    · exact dp_at_ints (f := fun _ => 0) (fun i hi => rfl) (hW _ _ hq)
theorem nw_end {E : dp_E} {A : Nat → Prop} {p : Program} {l : Launch} {e : Env} {R : Room} {s : State} {m : MethodId} {args : Array Value} {below : List Frame} {meth : Method} {co : Code} {ce sl : Nat} {Q : State → Prop} {w : nw_V} {n : Nat} {M : dp_M} {pc : Nat} {L : List (Option Value)} {st : List Value} (h : ∀ H, nw_W E w H → dp_W E M H) (k : dp_G E A p l e R s m args below meth co ce sl Q M pc L st) : nw_G E A p l e R s m args below meth co ce sl Q w n pc L st := fun H locs ls hW _ _ hS hL => k H locs ls (h H hW) hS hL
/-! THE SCRIPT -/
def sc (xs : Nat → Int32) (i : Int) : Int := (xs i.toNat).toInt
theorem sc_R {xs : Nat → Int32} {i : Int} : dp_R (sc xs i) := dp_R_to _
section LW
variable {E : dp_E} {A : Nat → Prop} {p : Program} {l : Launch} {e : Env} {R : Room} {s : State} {m : MethodId} {args : Array Value} {below : List Frame} {meth : Method} {co : Code} {ce sl : Nat} {Q : State → Prop} {cc : ByteArray} {own : String} {nL : Nat} {Ts : List Cond} {M : dp_M} {pc : Nat} {Lc : List (Option Value)} {st : List Value}
theorem dp_sld (C : dp_C E A p s m args meth co cc own nL Ts) {b L : Nat} {xs : Nat → Int32} (hX : va_X b L xs s s.heap) (hbl : b < s.heap.size) (hbA : ¬ A b) (hL : L ≤ 260) {i : Int} (hi : 0 ≤ i ∧ i < L) (hd : decode cc pc = .ok (.iaload, 1)) (k : dp_G E A p l e R s m args below meth co ce sl Q M (pc + 1) Lc (.int (dp_I (sc xs i)) :: st)) : dp_G E A p l e R s m args below meth co ce sl Q M pc Lc (.int (dp_I i) :: .ref b :: st) := fun H locs ls hW hS hl => by
  refine va_sld C.1.1 C.1.2.1 hX hbl hbA hS (dp_in hi.1 hi.2 (by omega)) hd ?_
  rw [dp_I_nat hi.1 (by omega), show xs i.toNat = dp_I (sc xs i) from dp_I_of _]
  exact k H locs ls hW hS hl
theorem dp_slen (C : dp_C E A p s m args meth co cc own nL Ts) {b L : Nat} {xs : Nat → Int32} (hX : va_X b L xs s s.heap) (hbl : b < s.heap.size) (hbA : ¬ A b) (hd : decode cc pc = .ok (.arraylength, 1)) (k : dp_G E A p l e R s m args below meth co ce sl Q M (pc + 1) Lc (.int (dp_I (L : Int)) :: st)) : dp_G E A p l e R s m args below meth co ce sl Q M pc Lc (.ref b :: st) := fun H locs ls hW hS hl => by
  refine va_slen C.1.1 C.1.2.1 hX hbl hbA hS hd ?_
  rw [show Int32.ofNat L = dp_I (L : Int) from Int32.ofInt_eq_ofNat.symm]
  exact k H locs ls hW hS hl
theorem dp_wid {k1 k2 : Nat} (h1 : ce ≤ k1) (h2 : sl ≤ k2) (k : dp_G E A p l e R s m args below meth co k1 k2 Q M pc Lc st) : dp_G E A p l e R s m args below meth co ce sl Q M pc Lc st := fun H locs ls hW hS hL => W.widen h1 h2 (k H locs ls hW hS hL)
end LW
theorem yyL_cell : yL_cell.cls ≠ "java/lang/invoke/MethodHandle" ∧ yL_cell.cls ≠ "java/lang/invoke/VarHandle" ∧ (parseMethodDescriptor yL_cell.desc).map (fun d => d.parameters.length) = some 2 := by decide +kernel
set_option maxHeartbeats 4000000 in
set_option maxRecDepth 100000 in
/-- a number of the script, or another one -/
theorem c_L_cell {E : dp_E} (hE : dp_OK E) (l : Launch) {M : dp_M} {b L : Nat} {xs : Nat → Int32} (hL : L ≤ 260) {k : Int} (hk : 0 ≤ k ∧ k ≤ 1000) : Met l yL_cell wsL_cell (dp_rm 0 0) (va_Pc [.ref b, .int (dp_I k)] (fun U => dp_B E M U ∧ va_X b L xs U U.heap ∧ b < U.heap.size ∧ ¬ dp_A E b)) (va_Qi (fun (_ : Int32) (M' : dp_M) => M' = M) (dp_B E) (dp_A E)) 0 0 (dp_A E) := by
  refine Met.ofW (cc := cL_cell) (maxL := 2) (ret := some .int) (by decide +kernel) rfl ?_
  intro p e s m args below meth c s₁ B hml hv
  obtain ⟨rfl, ⟨hWd, hK, hZ⟩, hX, hbl, hbA⟩ := hv
  have hts := atoms_spec (ws := wsL_cell) B.pre
  have hown : s.vm.findClass RL = some m.cls := findClass_of_methodNamed B.named
  have C : dp_C E (dp_A E) p s m ([.ref b, .int (dp_I k)] : List Value).toArray meth c cL_cell RL 2 wsL_cell := ⟨⟨B.exec, B.bytes, hml, hown, hts⟩, B.notSynchronized, hE, fun _ h => h, hK, hZ⟩
  have hret : meth.sig.returnType = some .int := B.returns
  have hL0 := dp_entry (av := [.ref b, .int (dp_I k)]) (n := 2) (by simp [Value.category]) (Nat.le_of_ble_eq_true rfl)
  have fin : ∀ x : Int, dp_G E (dp_A E) p l e (dp_rm 0 0) s m ([.ref b, .int (dp_I k)] : List Value).toArray below meth c 0 0 (MQ below (va_Qi (fun (_ : Int32) (M' : dp_M) => M' = M) (dp_B E) (dp_A E)) ([.ref b, .int (dp_I k)] : List Value).toArray s 0 0 (dp_A E)) M 18 [some (.ref b), some (.int (dp_I k))] [.int (dp_I x)] := fun x H locs ls hW hS hLs => W.iret (v := dp_I x) C.1.1 C.1.2.1 hret (fun t ht hWm => ⟨⟨dp_I x, M, rfl, rfl, dp_end C hW hS ht hWm⟩, hS.F ht⟩) hS.2.2 dL_cell_18 C.2.1
  have main : dp_G E (dp_A E) p l e (dp_rm 0 0) s m ([.ref b, .int (dp_I k)] : List Value).toArray below meth c 0 0 (MQ below (va_Qi (fun (_ : Int32) (M' : dp_M) => M' = M) (dp_B E) (dp_A E)) ([.ref b, .int (dp_I k)] : List Value).toArray s 0 0 (dp_A E)) M 0 [some (.ref b), some (.int (dp_I k))] [] := by
    refine dp_iload_n C dL_cell_0 rfl ?_
    refine dp_aload_n C dL_cell_1 rfl ?_
    refine dp_slen C hX hbl hbA dL_cell_2 ?_
    refine dp_icmp_ge (tgt := 12) C dL_cell_3 (by decide) ⟨by omega, by omega⟩ ⟨by omega, by omega⟩ (fun c3 => ?_) (fun c3 => ?_)
    · refine dp_ldc C 40503 (List.mem_of_getElem? (i := 1) rfl) rfl dL_cell_12 ?_
      refine dp_iload_n C dL_cell_14 rfl ?_
      refine dp_iconst C dL_cell_15 ?_
      refine dp_iadd C dL_cell_16 ?_
      refine dp_imul C dL_cell_17 ?_
      exact fin _
    · refine dp_aload_n C dL_cell_6 rfl ?_
      refine dp_iload_n C dL_cell_7 rfl ?_
      refine dp_sld C hX hbl hbA hL (by omega) dL_cell_8 ?_
      refine dp_goto (tgt := 18) C dL_cell_9 (by decide) ?_
      exact fin _
  rw [lg_entry_eq]
  exact main s.heap [] _ hWd va_S.rf hL0
/-- a call of it -/
theorem dp_ccell {E : dp_E} {A : Nat → Prop} {p : Program} {l : Launch} {e : Env} {R : Room} {s : State} {m : MethodId} {args : Array Value} {below : List Frame} {meth : Method} {co : Code} {ce sl : Nat} {Q : State → Prop} {cc : ByteArray} {own : String} {nL : Nat} {Ts : List Cond} {M : dp_M} {pc : Nat} {Lc : List (Option Value)} {rest : List Value} {i b L : Nat} {xs : Nat → Int32} (C : dp_C E A p s m args meth co cc own nL Ts) (hX : va_X b L xs s s.heap) (hbl : b < s.heap.size) (hbA : ¬ A b) (hL : L ≤ 260) {k : Int} (hk : 0 ≤ k ∧ k ≤ 1000) (hG : GoodIn Ts (va_wsS own i yL_cell wsL_cell)) (hR : 0 + 1 ≤ R.frames ∧ 8 + (2 + 11) + 0 ≤ R.locals) (hcat : (rest.map fun v => v.category).sum ≤ 8) (hL0 : Lc.length = nL) (hce : ce ≤ R.cells ∧ sl ≤ R.slots) (hd : decode cc pc = .ok (.invokestatic i, 3)) (kk : ∀ v : Int, dp_R v → dp_G E A p l e R s m args below meth co ce sl Q M (pc + 3) Lc (.int (dp_I v) :: rest)) : dp_G E A p l e R s m args below meth co ce sl Q M pc Lc (.int (dp_I k) :: .ref b :: rest) := fun H locs ls hW hS hLs => by
  have hr := va_runS (e := e) (below := below) (meth := meth) (locs := locs) (cells := ce) (slots := sl) (As := [.ref b, .int (dp_I k)]) (rest := rest) (g := F0 m pc ls (.int (dp_I k) :: .ref b :: rest)) C.1 (c_L_cell C.2.2.1 l (M := M) (xs := xs) hL hk) (va_cwS 2 C.1.2.2.2.2 hG rfl rfl rfl yyL_cell hR) ⟨fun a U g mk q => ⟨q.1, q.2.1.calling g mk a, va_X.moved (u := U) (U := U.calling g mk a) (Vm.Alike.refl U.vm) q.2.2.1, q.2.2.2⟩, fun U hU hWm => ⟨rfl, (dp_pre (av := []) C.2.2.2.1 C.2.2.2.2.1 C.2.2.2.2.2 hW hS U hU hWm).2, by rw [hU]; exact (va_X.moved hWm.alike hX).kept (hS.2.1 b hbl hbA), by rw [hU]; have := hS.1; omega, fun z => hbA (C.2.2.2.1 b z)⟩⟩ rfl rfl (by show ls.size = nL; rw [hLs.1, hL0]) rfl (lv_room hcat) hd ⟨hce.1, hce.2⟩
  refine va_calli hr hS (fun q _ h => C.2.2.2.1 q h) (fun q h => C.2.2.2.1 q h) (fun y9 u t H1 locs1 ht hvm hw9 hB hz1 hk1 hS1 => ?_)
  obtain rfl := hw9
  have h9 := kk y9.toInt (dp_R_to y9) H1 locs1 ls (by rw [← ht]; exact hB.1) hS1 hLs
  rw [← dp_I_of] at h9
  exact h9
