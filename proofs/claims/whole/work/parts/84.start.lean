theorem nw_end {E : dp_E} {A : Nat → Prop} {p : Program} {l : Launch} {e : Env} {R : Room} {s : State} {m : MethodId} {args : Array Value} {below : List Frame} {meth : Method} {co : Code} {ce sl : Nat} {Q : State → Prop} {w : nw_V} {n : Nat} {M : dp_M} {pc : Nat} {L : List (Option Value)} {st : List Value} (h : ∀ H, nw_W E w H → dp_W E M H) (k : dp_G E A p l e R s m args below meth co ce sl Q M pc L st) : nw_G E A p l e R s m args below meth co ce sl Q w n pc L st := fun H locs ls hW _ _ hS hL => k H locs ls (h H hW) hS hL
set_option maxHeartbeats 40000000 in
set_option maxRecDepth 100000 in
/-- the law, from its entry -/
theorem whole_start {p : Program} {e : Env} {s : State} {m : MethodId} {below : List Frame} {meth : Method} {c : Code} (l : Launch) (hflags : l.flags = flags0) {b L : Nat} {xs : Nat → Int32} (hL : L ≤ 3584) (C0 : lw_At p s m meth c b L xs) : W p l e room_1 s m #[Value.ref b] below meth c s.heap [] 0 0 (lw_Z below #[Value.ref b] s) (entryFrame m ([Value.ref b] : List Value).toArray 4) := by
  obtain ⟨hx, hb, hr, hml, hown, hts, hX, hbl, hlocks, hgv⟩ := C0
  have hA : ∀ a : Nat, a < s.heap.size → ¬ (fun q : Nat => s.heap.size ≤ q) a := fun a h q => Nat.not_le.mpr h q
  obtain ⟨D, I, Ch, T, S, hK⟩ := law_K hts
  obtain ⟨t0, z0⟩ := law_dp_sm (A := fun q : Nat => s.heap.size ≤ q) hts hgv hA
  obtain ⟨t1, z1⟩ := law_dp_al (A := fun q : Nat => s.heap.size ≤ q) hts hgv hA
  obtain ⟨t2, z2⟩ := law_dp_am (A := fun q : Nat => s.heap.size ≤ q) hts hgv hA
  obtain ⟨t3, z3⟩ := law_dp_pl (A := fun q : Nat => s.heap.size ≤ q) hts hgv hA
  have hXs := law_X hts
  generalize hZ : s.heap.size = Z
  obtain ⟨E, hE⟩ : ∃ E : dp_E, E = (D, adr Z, (I, Ch, T, S), (t0, t1, t2, t3)) := ⟨_, rfl⟩
  have hKE : dp_K E s := by rw [hE]; exact hK
  have hOK : dp_OK E := by
    rw [hE]
    exact fun r c r' c' h h' q => adr_inj h h' q
  have hAE : ∀ q, dp_A E q → (fun q : Nat => s.heap.size ≤ q) q := by
    rw [hE]
    rintro q ⟨r, c, -, rfl⟩
    show s.heap.size ≤ adr Z r c
    rw [hZ]
    exact adr_ge
  have hZE : dp_Z E (fun q : Nat => s.heap.size ≤ q) s s.heap := by
    rw [hE]
    exact ⟨z0, z1, z2, z3, hXs.2.2⟩
  have CF : CallFix p m c code 4 s #[Value.ref b] wsL_law RL := ⟨hx, hb, hml, hown, fun w h => hts w (wsL_law_in w h)⟩
  have C : nw_C E (fun q : Nat => s.heap.size ≤ q) p s m #[Value.ref b] meth c code RL 4 wsL_law := ⟨CF, hlocks, fun q h => h, hKE, hXs⟩
  have CD : dp_C E (fun q : Nat => s.heap.size ≤ q) p s m #[Value.ref b] meth c code RL 4 wsL_law := ⟨CF, hlocks, hOK, hAE, hKE, hZE⟩
  rw [lg_entry_eq]
  have main : nw_G E (fun q : Nat => s.heap.size ≤ q) p l e room_1 s m #[Value.ref b] below meth c 0 0 (lw_Z below #[Value.ref b] s) (fun _ => none) Z 0 [some (.ref b), none, none, none] [] := by
    refine nw_new (fs := [.null, .null, .null, .null]) C inlX6 tyX6 tyX6_ok (ci := 6) rfl (List.mem_of_getElem? (i := 0) rfl) (List.mem_of_getElem? (i := 1) rfl) (List.mem_of_getElem? (i := 2) rfl) zX6_ok (Nat.le_of_ble_eq_true rfl) (Nat.le_of_ble_eq_true rfl) dL_law_0 ?_
    refine nw_dup C dL_law_3 rfl ?_
    refine nw_call C (c_X6_init l (h0 := Z) up_same) (nw_db up_same) gL_law_X6_init rfl (List.mem_of_getElem? (i := 2) rfl) (Or.inl (List.mem_of_getElem? (i := 6) rfl)) (List.mem_of_getElem? (i := 7) rfl) rfl yyX6_init rfl ⟨Nat.le_of_ble_eq_true rfl, Nat.le_of_ble_eq_true rfl⟩ rfl (Nat.le_of_ble_eq_true rfl) rfl ⟨Nat.le_of_ble_eq_true rfl, Nat.le_of_ble_eq_true rfl⟩ dL_law_4 ?_
    refine nw_astore_n C dL_law_7 (Nat.le_of_ble_eq_true rfl) ?_
    dsimp only [List.set]
    refine nw_new (fs := [.null, .null, .null, .int (dp_I 0), .null, .int (dp_I 0), .int (dp_I 0), .int (dp_I 0), .int (dp_I 0), .int (dp_I 0), .null, .int (dp_I 0)]) C inlX7 tyX7 tyX7_ok (ci := 7) rfl (List.mem_of_getElem? (i := 3) rfl) (List.mem_of_getElem? (i := 4) rfl) (List.mem_of_getElem? (i := 5) rfl) zX7_ok (Nat.le_of_ble_eq_true rfl) (Nat.le_of_ble_eq_true rfl) dL_law_8 ?_
    refine nw_dup C dL_law_11 rfl ?_
    refine nw_call C (c_X7_init l (h0 := Z + 139) up_same) (nw_db up_same) gL_law_X7_init rfl (List.mem_of_getElem? (i := 5) rfl) (Or.inl (List.mem_of_getElem? (i := 77) rfl)) (List.mem_of_getElem? (i := 78) rfl) rfl yyX7_init rfl ⟨Nat.le_of_ble_eq_true rfl, Nat.le_of_ble_eq_true rfl⟩ rfl (Nat.le_of_ble_eq_true rfl) rfl ⟨Nat.le_of_ble_eq_true rfl, Nat.le_of_ble_eq_true rfl⟩ dL_law_12 ?_
    refine nw_astore_n C dL_law_15 (Nat.le_of_ble_eq_true rfl) ?_
    dsimp only [List.set]
    refine nw_iconst C dL_law_16 ?_
    refine nw_istore_n C dL_law_17 (Nat.le_of_ble_eq_true rfl) ?_
    dsimp only [List.set]
    refine nw_wid (k1 := 600000) (k2 := 7302250) (Nat.le_of_ble_eq_true rfl) (Nat.le_of_ble_eq_true rfl) ?_
    refine nw_end (M := M0) (fun H hW => ?_) ?_
    · subst hE
      refine first_W (fun j hj => ?_) (fun j hj => ?_) hW
      · rw [blk_out (by omega), up_ne (by omega), blk_in hj rfl]
      · exact blk_in hj rfl
    · have z := law_loop (l := l) (e := e) (below := below) hL hX hbl hr CD (L + 1) 0 M0 M0_iM (by omega) (by omega)
      have e7 : eAd E 7 0 = Z := by rw [hE]; rfl
      have e8 : eAd E 8 0 = Z + 139 := by rw [hE]; rfl
      rw [e7, e8] at z
      exact z
  exact main s.heap [] _ (fun a x h => by cases h) hZ (fun a h => absurd rfl h) va_S.rf (dp_entry (by simp [Value.category]) (Nat.le_of_ble_eq_true rfl))
