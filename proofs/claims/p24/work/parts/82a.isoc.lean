theorem yyL_isSo : yL_isSo.cls ≠ "java/lang/invoke/MethodHandle" ∧ yL_isSo.cls ≠ "java/lang/invoke/VarHandle" ∧ (parseMethodDescriptor yL_isSo.desc).map (fun d => d.parameters.length) = some 3 := by decide +kernel
/-! THE 157OK AT ALL: its row of counts is made anew in each call: the world with that row in it -/
def dp_E2 (E : dp_E) (n : Nat) : dp_E := (E.1, (fun r c => if r = 8 ∧ c = 2 then n else if r = 9 ∧ c = 0 then 1 else eAd E r c), E.2.2)
theorem E2_ad {E : dp_E} {n r c : Nat} (h : r < 8 ∨ (r = 8 ∧ c < 2)) : eAd (dp_E2 E n) r c = eAd E r c := by
  show (if r = 8 ∧ c = 2 then n else if r = 9 ∧ c = 0 then 1 else eAd E r c) = _
  rw [if_neg (by omega), if_neg (by omega)]
theorem E2_m {E : dp_E} {n : Nat} : eAd (dp_E2 E n) 8 2 = n := rfl
theorem E2_9 {E : dp_E} {n : Nat} : ¬ eAd (dp_E2 E n) 9 0 = 0 := by
  show ¬ (1 : Nat) = 0
  decide
theorem E2_S {E : dp_E} {n r c : Nat} {V Y : dp_V} (h : r < 7) : dp_xS (dp_E2 E n) V Y r c = dp_xS E V Y r c := by
  have e : ∀ k, eAd (dp_E2 E n) r k = eAd E r k := fun k => E2_ad (Or.inl (by omega))
  have e1 : ∀ f, dp_fS (dp_E2 E n) r f = dp_fS E r f := fun f => by
    unfold dp_fS
    rw [e, e, e, e, e, e, e, e]
  have e2 : (fun t => eAd (dp_E2 E n) r (t + 6)) = (fun t => eAd E r (t + 6)) := funext fun t => e _
  unfold dp_xS
  rw [e1, e2]
  rfl
theorem dp_at_refs {D : va_G} {cl : List vw_C} {a : Nat} {k : ClassId} {n : Nat} {f : Nat → Option Nat} {g : Nat → Nat} {H : Heap} (hfg : ∀ i, i < n → f i = some (g i)) (h : va_at D cl (a, .inl (k, n, .inr (.inr (.inr (.inr f))))) H) : va_at D cl (a, dp_refs k n g) H := by
  have e : vp_cell k (n, .inr (.inr (.inr (.inr f)))) = vp_cell k (n, .inr (.inr (.inr (.inr (fun i => some (g i)))))) := by
    rw [vp_cell_q, vp_cell_q]
    exact dp_arr (fun i hi => by rw [hfg i hi])
  exact h.trans (congrArg some e)
/-- a cell of the class, of the law's rows: the same in both worlds -/
theorem E2_at {E : dp_E} {n r c : Nat} {M : dp_M} {H : Heap} (hO : hOK (M 7)) (hm : (r < 7 ∧ c < 19) ∨ (r = 7 ∧ c < 6) ∨ (r = 8 ∧ c < 2)) : va_at E.1 vwCl (eAd (dp_E2 E n) r c, dp_x (dp_E2 E n) M r c) H ↔ va_at E.1 vwCl (eAd E r c, dp_x E M r c) H := by
  rw [E2_ad (by omega)]
  rcases hm with ⟨a, b⟩ | ⟨rfl, b⟩ | ⟨rfl, b⟩
  · rw [dp_x_S a, dp_x_S a, E2_S a]
  · rw [dp_x_C, dp_x_C]
    have e0 : ∀ k, eAd (dp_E2 E n) 7 k = eAd E 7 k := fun k => E2_ad (Or.inl (by decide))
    rcases (by omega : c = 0 ∨ c = 1 ∨ c = 2 ∨ c = 3 ∨ c = 4 ∨ c = 5) with rfl | rfl | rfl | rfl | rfl | rfl
    · have e : dp_xC (dp_E2 E n) M 0 = dp_xC E M 0 := by
        show (.inr (6, dp_fD (dp_E2 E n)) : va_E) = .inr (6, dp_fD E)
        unfold dp_fD
        rw [E2_ad (Or.inl (by decide)), E2_ad (Or.inl (by decide)), e0, e0]
      rw [e]
    · have e : dp_xC (dp_E2 E n) M 1 = dp_xC E M 1 := by
        show (.inr (1, dp_fH (dp_E2 E n) (M 7 1)) : va_E) = .inr (1, dp_fH E (M 7 1))
        unfold dp_fH
        rw [e0]
      rw [e]
    · have hr : ∀ i, i < 5 → eAd (dp_E2 E n) (M 7 2 i).toNat 0 = eAd E (M 7 2 i).toNat 0 := fun i hi => E2_ad (Or.inl (by have := hO.2.2 i hi; omega))
      exact ⟨fun h => dp_at_refs (fun i hi => congrArg some (hr i hi)) h, fun h => dp_at_refs (fun i hi => congrArg some (hr i hi).symm) h⟩
    · have e : dp_xC (dp_E2 E n) M 3 = dp_xC E M 3 := by
        show (.inr (4, dp_fX (dp_E2 E n) (M 7 3)) : va_E) = .inr (4, dp_fX E (M 7 3))
        unfold dp_fX
        rw [e0, e0]
      rw [e]
    · exact Iff.rfl
    · exact Iff.rfl
  · rcases (by omega : c = 0 ∨ c = 1) with rfl | rfl
    · exact Iff.rfl
    · exact Iff.rfl
theorem E2_ps {E : dp_E} {r c : Nat} (h90 : eAd E 9 0 = 0) (h : (r, c) ∈ dp_ps E) : (r < 7 ∧ c < 19) ∨ (r = 7 ∧ c < 6) ∨ (r = 8 ∧ c < 2) := by
  rcases dp_mem.mp h with q | q | q
  · exact Or.inl q
  · exact Or.inr (Or.inl q)
  · refine Or.inr (Or.inr ⟨q.1, ?_⟩)
    rcases (by omega : c < 2 ∨ c = 2) with z | z
    · exact z
    · exact absurd h90 (q.2.2 z)
theorem E2_in {E : dp_E} {r c : Nat} (h : (r < 7 ∧ c < 19) ∨ (r = 7 ∧ c < 6) ∨ (r = 8 ∧ c < 2)) : (r, c) ∈ dp_ps E := dp_mem.mpr (by
  rcases h with q | q | q
  · exact Or.inl q
  · exact Or.inr (Or.inl q)
  · exact Or.inr (Or.inr ⟨q.1, by omega, fun z => by omega⟩))
theorem W_up {E : dp_E} {M : dp_M} {V X : dp_V} {H H1 : Heap} {n : Nat} (hO : hOK (M 7)) (h90 : eAd E 9 0 = 0) (hn : H.size = n) (hW : dp_W E (dN M V X) H) (hk : ∀ q, q < n → H1[q]? = H[q]?) (hnew : va_at E.1 vwCl (n, dp_ints (eI E) 4 (fun _ => 0)) H1) : dp_W (dp_E2 E n) (dN M V (uc X 2 (fun _ => 0))) H1 := by
  have hO2 : hOK (dN M V (uc X 2 (fun _ => 0)) 7) := by rw [dN_ne (by decide) (by decide)]; exact hO
  intro r c hm
  by_cases z : r = 8 ∧ c = 2
  · obtain ⟨rfl, rfl⟩ := z
    rw [dp_xlm, uc_same]
    exact hnew
  · have hm2 : (r < 7 ∧ c < 19) ∨ (r = 7 ∧ c < 6) ∨ (r = 8 ∧ c < 2) := by
      rcases dp_mem.mp hm with q | q | q
      · exact Or.inl q
      · exact Or.inr (Or.inl q)
      · exact Or.inr (Or.inr ⟨q.1, by omega⟩)
    refine (E2_at hO2 hm2).mpr ?_
    have h := hW r c (E2_in hm2)
    have e : dp_x E (dN M V (uc X 2 (fun _ => 0))) r c = dp_x E (dN M V X) r c := by
      rcases hm2 with ⟨a, b⟩ | ⟨rfl, b⟩ | ⟨rfl, b⟩
      · exact dp_frN (E := E) (fun c' hc' => uc_ne hc') (Or.inr rfl) r c (dp_mS a b) (fun q => by cases q; omega)
      · exact dp_frN (E := E) (fun c' hc' => uc_ne hc') (Or.inr rfl) 7 c (dp_mC b) (fun q => by cases q)
      · exact dp_frN (E := E) (fun c' hc' => uc_ne hc') (Or.inr rfl) 8 c (dp_mM b) (fun q => by cases q; omega)
    rw [e]
    exact h.kept (hk _ (by have := h.lt; omega))
theorem W_dn {E : dp_E} {M : dp_M} {H : Heap} {n : Nat} (hO : hOK (M 7)) (h90 : eAd E 9 0 = 0) (hW : dp_W (dp_E2 E n) M H) : dp_W E M H := by
  intro r c hm
  have hm2 := E2_ps h90 hm
  exact (E2_at hO hm2).mp (hW r c (E2_in hm2))
theorem E2_OK {E : dp_E} {M : dp_M} {H : Heap} {n : Nat} (hE : dp_OK E) (hn : H.size = n) (hW : dp_W E M H) : dp_OK (dp_E2 E n) := by
  have lt : ∀ r c, ((r < 7 ∧ c < 19) ∨ (r = 7 ∧ c < 6) ∨ (r = 8 ∧ c < 2)) → eAd E r c < n := fun r c h => by
    have := (hW r c (E2_in h)).lt
    omega
  have cs : ∀ r c, (r, c) ∈ dp_ps (dp_E2 E n) → (r = 8 ∧ c = 2) ∨ ((r < 7 ∧ c < 19) ∨ (r = 7 ∧ c < 6) ∨ (r = 8 ∧ c < 2)) := fun r c h => by
    rcases dp_mem.mp h with q | q | q <;> omega
  intro r c r' c' h h' e
  rcases cs r c h with ⟨rfl, rfl⟩ | q
  · rcases cs r' c' h' with ⟨rfl, rfl⟩ | q'
    · exact ⟨rfl, rfl⟩
    · rw [E2_m, E2_ad (by omega)] at e
      have := lt r' c' q'
      omega
  · rcases cs r' c' h' with ⟨rfl, rfl⟩ | q'
    · rw [E2_m, E2_ad (by omega)] at e
      have := lt r c q
      omega
    · rw [E2_ad (by omega), E2_ad (by omega)] at e
      exact hE r c r' c' (E2_in q) (E2_in q') e
theorem E2_A {E : dp_E} {n q : Nat} (h90 : eAd E 9 0 = 0) (h : dp_A (dp_E2 E n) q) : dp_A E q ∨ n ≤ q := by
  obtain ⟨r, c, hm, rfl⟩ := h
  rcases dp_mem.mp hm with z | z | z
  · exact Or.inl ⟨r, c, dp_mem.mpr (Or.inl z), E2_ad (by omega)⟩
  · exact Or.inl ⟨r, c, dp_mem.mpr (Or.inr (Or.inl z)), E2_ad (by omega)⟩
  · obtain ⟨rfl, z1, z2⟩ := z
    rcases (by omega : c < 2 ∨ c = 2) with y | rfl
    · exact Or.inl ⟨8, c, dp_mM y, E2_ad (by omega)⟩
    · exact Or.inr (by rw [E2_m]; omega)
theorem dp_Z1.wide {A B : Nat → Prop} {n d : String} {ty : FieldType} {t N : Nat} {f : Nat → Int} {U : State} {H : Heap} (h : dp_Z1 A n d ty t N f U H) (hB : ∀ q, B q → A q ∨ H.size ≤ q) : dp_Z1 B n d ty t N f U H := by
  obtain ⟨⟨cf, kf, fi, f9, a, cell, h1, h2, h3, h4, h5, h6, h7, h8⟩, ⟨cell2, k1, k2, k3, k4, k5, k6, k7⟩⟩ := h
  have lt : ∀ {x : Nat} {cl : Cell}, H[x]? = some cl → x < H.size := fun hx => (Array.getElem?_eq_some_iff.mp hx).1
  refine ⟨⟨cf, kf, fi, f9, a, cell, h1, h2, h3, h4, h5, h6, h7, fun z => ?_⟩, ⟨cell2, k1, k2, k3, k4, k5, k6, fun z => ?_⟩⟩
  · rcases hB a z with q | q
    · exact h8 q
    · have := lt h5; omega
  · rcases hB t z with q | q
    · exact k7 q
    · have := lt k1; omega
theorem dp_Z.wide {E : dp_E} {A B : Nat → Prop} {U : State} {H : Heap} (h : dp_Z E A U H) (hB : ∀ q, B q → A q ∨ H.size ≤ q) : dp_Z E B U H := ⟨h.1.wide hB, h.2.1.wide hB, h.2.2.1.wide hB, h.2.2.2⟩
def isoQ (E : dp_E) (n : Nat) (V : dp_V) (N : Nat) : Array Value → State → Outcome → State → Prop := va_Qi (fun (y : Int32) (M' : dp_M) => y = dp_I 1 ∧ ∃ M2 X2, M' = dN M2 V X2 ∧ iC M2 V N) (dp_B E) (fun q => dp_A E q ∨ n ≤ q)
/-- behind the making of the row -/
theorem isSo_main {E : dp_E} {n : Nat} {p : Program} {l : Launch} {e : Env} {s : State} {m : MethodId} {args : Array Value} {below : List Frame} {meth : Method} {co : Code} {M : dp_M} {V X : dp_V} {N : Nat} (h90 : eAd E 9 0 = 0) (hI : iC M V N) (hn : s.heap.size = n) (hK : dp_K E s) (hZ : dp_Z E (dp_A E) s s.heap) (C : dp_C (dp_E2 E n) (fun q => dp_A E q ∨ n ≤ q) p s m args meth co cL_isSo RL 11 wsL_isSo) (hret : meth.sig.returnType = some .boolean) : dp_G (dp_E2 E n) (fun q => dp_A E q ∨ n ≤ q) p l e (nw_rm 6 157 1 4) s m args below meth co 1 4 (MQ below (isoQ E n V N) args s 1 4 (fun q => dp_A E q ∨ n ≤ q)) (dN M V (uc X 2 (fun _ => 0))) 3 [some (.ref (eAd (dp_E2 E n) 7 0)), some (.ref (eAd (dp_E2 E n) 8 0)), some (.ref (eAd (dp_E2 E n) 8 1)), none, none, none, none, none, none, none, none] [.ref (eAd (dp_E2 E n) 8 2)] := by
  refine dp_astore_n C dL_isSo_3 (Nat.le_of_ble_eq_true rfl) ?_
  dsimp only [List.set]
  refine isSo_walk C E2_9 hI (fun s9 => by rw [uc_same]) (fun M2 X2 L h2 => ?_)
  intro H locs ls hW hS hL
  have hWn : dp_W E (dN M2 V X2) H := W_dn (by rw [dN_ne (by decide) (by decide)]; exact h2.2.1) h90 hW
  exact W.zret (v := dp_I 1) C.1.1 C.1.2.1 hret (by decide) (fun t ht hWm => ⟨⟨dp_I 1, dN M2 V X2, rfl, ⟨rfl, M2, X2, rfl, h2⟩, ⟨by rw [ht]; exact hWn, va_K.moved hWm.alike hK, by rw [ht]; exact (hZ.wide (B := fun q => dp_A E q ∨ n ≤ q) (fun q h => by rw [hn]; exact h)).mv hWm.alike (fun q => q.warm hWm) hS.2.1 (fun q h => Or.inl h)⟩⟩, hS.F ht⟩) hS.2.2 dL_isSo_715 C.2.1
/-- a row of ints made first of all -/
theorem raw_newm {p : Program} {l : Launch} {e : Env} {R : Room} {s : State} {m : MethodId} {args : Array Value} {below : List Frame} {meth : Method} {c : Code} {Q : State → Prop} {cc : ByteArray} {E : dp_E} {ls : Array Slot} {n : Nat} (hx : p.tables.exec = Jvm.exec) (hb : c.code = cc) (harr : (Cond.arrayClass .int).before args s = true) (hK : dp_K E s) (hn : s.heap.size = n) (hd0 : decode cc 0 = .ok (.iconst 4, 1)) (hd1 : decode cc 1 = .ok (.newarray .int, 2)) (hce : 1 ≤ R.cells) (hsl : 4 ≤ R.slots) (k : ∀ H1 : Heap, va_at E.1 vwCl (n, dp_ints (eI E) 4 (fun _ => 0)) H1 → H1.size = n + 1 → (∀ q, q < n → H1[q]? = s.heap[q]?) → W p l e R s m args below meth c H1 [] 1 4 Q (F0 m 3 ls [.ref n])) : W p l e R s m args below meth c s.heap [] 0 0 Q (F0 m 0 ls []) := by
  refine lv_iconst hx hb hd0 (v := dp_I 4) rfl ?_
  refine va_newaK (N := 4) (atype := .int) hx hb harr rfl hd1 rfl (by decide) (by decide) (by decide) (by omega) (by omega) hn fun H1 cA e1 z1 o1 hAr hNm => ?_
  have hcA : cA = eI E := Option.some.inj (hNm.symm.trans (hK.2 0 _ rfl).2)
  subst hcA
  refine k H1 ?_ z1 o1
  show H1[n]? = some (vp_cell (eI E) (4, .inl (fun _ => dp_I 0)))
  have h9 : vp_cell (eI E) (4, .inl (fun _ => dp_I 0)) = arrV (eI E) 4 (fun _ => defaultValue .int) := rfl
  rw [h9]
  exact e1
theorem c_L_isSo {E : dp_E} (hE : dp_OK E) (h90 : eAd E 9 0 = 0) (l : Launch) {M : dp_M} {V X : dp_V} {N : Nat} (hI : iC M V N) (n : Nat) : Met l yL_isSo wsL_isSo (nw_rm 6 157 1 4) (va_Pc [.ref (eAd E 7 0), .ref (eAd E 8 0), .ref (eAd E 8 1)] (fun U => dp_B E (dN M V X) U ∧ U.heap.size = n)) (isoQ E n V N) 1 4 (fun q => dp_A E q ∨ n ≤ q) := by
  refine Met.ofW (cc := cL_isSo) (maxL := 11) (ret := some .boolean) (by decide +kernel) rfl ?_
  intro p e s m args below meth c s₁ B hml hv
  obtain ⟨rfl, ⟨hWd, hK, hZ⟩, hn⟩ := hv
  have hts := atoms_spec (ws := wsL_isSo) B.pre
  have hown : s.vm.findClass RL = some m.cls := findClass_of_methodNamed B.named
  have hCF : CallFix p m c cL_isSo 11 s ([.ref (eAd E 7 0), .ref (eAd E 8 0), .ref (eAd E 8 1)] : List Value).toArray wsL_isSo RL := ⟨B.exec, B.bytes, hml, hown, hts⟩
  have hL0 := dp_entry (av := [.ref (eAd E 7 0), .ref (eAd E 8 0), .ref (eAd E 8 1)]) (n := 11) (by simp [Value.category]) (Nat.le_of_ble_eq_true rfl)
  have C : dp_C (dp_E2 E n) (fun q => dp_A E q ∨ n ≤ q) p s m ([.ref (eAd E 7 0), .ref (eAd E 8 0), .ref (eAd E 8 1)] : List Value).toArray meth c cL_isSo RL 11 wsL_isSo := ⟨hCF, B.notSynchronized, E2_OK hE hn hWd, fun q h => E2_A h90 h, hK, hZ.wide (fun q h => by rw [hn]; exact h)⟩
  have main := isSo_main (l := l) (e := e) (below := below) (X := X) h90 hI hn hK hZ C B.returns
  rw [lg_entry_eq]
  refine raw_newm (E := E) B.exec B.bytes (hts _ (List.mem_of_getElem? (i := 1) rfl)) hK hn dL_isSo_0 dL_isSo_1 (Nat.le_refl _) (Nat.le_refl _) (fun H1 hnew z1 o1 => ?_)
  exact main H1 [] _ (W_up hI.2.1 h90 hn hWd o1 hnew) ⟨by omega, fun q h1 _ => o1 q (by omega), fun _ h => by cases h⟩ hL0
/-- a call of it -/
theorem dp_cIso {E : dp_E} {A : Nat → Prop} {p : Program} {l : Launch} {e : Env} {R : Room} {s : State} {m : MethodId} {args : Array Value} {below : List Frame} {meth : Method} {co : Code} {ce sl : Nat} {Q : State → Prop} {cc : ByteArray} {own : String} {nL : Nat} {Ts : List Cond} {M : dp_M} {pc : Nat} {L : List (Option Value)} {rest : List Value} {i : Nat} {V X : dp_V} {N : Nat} (C : dp_C E A p s m args meth co cc own nL Ts) (hA : ∀ q, s.heap.size ≤ q → A q) (h90 : eAd E 9 0 = 0) (hI : iC M V N) (hG : GoodIn Ts (va_wsS own i yL_isSo wsL_isSo)) (hR : 6 + 1 ≤ R.frames ∧ 8 + (11 + 11) + 157 ≤ R.locals) (hcat : (rest.map fun v => v.category).sum ≤ 8) (hL0 : L.length = nL) (hce : ce + 1 ≤ R.cells ∧ sl + 4 ≤ R.slots) (hd : decode cc pc = .ok (.invokestatic i, 3)) (k : ∀ M2 X2, iC M2 V N → dp_G E A p l e R s m args below meth co (ce + 1) (sl + 4) Q (dN M2 V X2) (pc + 3) L (.int (dp_I 1) :: rest)) : dp_G E A p l e R s m args below meth co ce sl Q (dN M V X) pc L (.ref (eAd E 8 1) :: .ref (eAd E 8 0) :: .ref (eAd E 7 0) :: rest) := fun H locs ls hW hS hL => by
  have hA2 : ∀ q, (dp_A E q ∨ H.size ≤ q) → A q := fun q h => by
    rcases h with h | h
    · exact C.2.2.2.1 q h
    · exact hA q (by have := hS.1; omega)
  have hr := va_runS (e := e) (below := below) (meth := meth) (locs := locs) (cells := ce) (slots := sl) (As := [.ref (eAd E 7 0), .ref (eAd E 8 0), .ref (eAd E 8 1)]) (rest := rest) (g := F0 m pc ls (.ref (eAd E 8 1) :: .ref (eAd E 8 0) :: .ref (eAd E 7 0) :: rest)) C.1 (c_L_isSo C.2.2.1 h90 l (X := X) hI H.size) (va_cwS 3 C.1.2.2.2.2 hG rfl rfl rfl yyL_isSo hR) ⟨fun a U g mk q => ⟨q.1, q.2.1.calling g mk a, q.2.2⟩, fun U hU hWm => ⟨rfl, (dp_pre (av := []) C.2.2.2.1 C.2.2.2.2.1 C.2.2.2.2.2 hW hS U hU hWm).2, by rw [hU]⟩⟩ rfl rfl (by show ls.size = nL; rw [hL.1, hL0]) rfl (lv_room hcat) hd ⟨hce.1, hce.2⟩
  refine va_calli hr hS (fun q _ h => hA2 q h) hA2 (fun y9 u t H1 locs1 ht hvm hw9 hB hz1 hk1 hS1 => ?_)
  obtain ⟨rfl, M2, X2, rfl, h2⟩ := hw9
  exact k M2 X2 h2 H1 locs1 ls (by rw [← ht]; exact hB.1) hS1 hL
