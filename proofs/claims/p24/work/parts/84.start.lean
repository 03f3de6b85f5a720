set_option maxHeartbeats 40000000 in
set_option maxRecDepth 100000 in
/-- the law, from its entry -/
theorem whole_start {p : Program} {e : Env} {s : State} {m : MethodId} {below : List Frame} {meth : Method} {c : Code} (l : Launch) (hflags : l.flags = flags0) {b L : Nat} {xs : Nat → Int32} (hL : L ≤ 260) (C0 : lw_At p s m meth c b L xs) : W p l e room_1 s m #[Value.ref b] below meth c s.heap [] 0 0 (lw_Z below #[Value.ref b] s) (entryFrame m ([Value.ref b] : List Value).toArray 7) := by
  obtain ⟨hx, hb, hr, hml, hown, hts, hX, hbl, hlocks, hgv⟩ := C0
  have hA : ∀ a : Nat, a < s.heap.size → ¬ (fun q : Nat => s.heap.size ≤ q) a := fun a h q => Nat.not_le.mpr h q
  obtain ⟨D, I, Ch, T, S, hK⟩ := law_K hts
  obtain ⟨t0, z0⟩ := law_dp_sm (A := fun q : Nat => s.heap.size ≤ q) hts hgv hA
  obtain ⟨t1, z1⟩ := law_dp_al (A := fun q : Nat => s.heap.size ≤ q) hts hgv hA
  obtain ⟨t2, z2⟩ := law_dp_am (A := fun q : Nat => s.heap.size ≤ q) hts hgv hA
  have hXs := law_X hts
  generalize hZ : s.heap.size = Z
  obtain ⟨E, hE⟩ : ∃ E : dp_E, E = (D, adr Z, (I, Ch, T, S), (t0, t1, t2, 0)) := ⟨_, rfl⟩
  have hKE : dp_K E s := by rw [hE]; exact hK
  have h90 : eAd E 9 0 = 0 := by rw [hE]; rfl
  have hOK : dp_OK E := by
    rw [hE]
    exact fun r c r' c' h h' q => adr_inj (E2_ps rfl h) (E2_ps rfl h') q
  have hAE : ∀ q, dp_A E q → (fun q : Nat => s.heap.size ≤ q) q := by
    rw [hE]
    rintro q ⟨r, c, hm, rfl⟩
    have h8 := E2_ps rfl hm
    show s.heap.size ≤ adr Z r c
    rw [hZ]
    exact adr_ge (by omega)
  have hZE : dp_Z E (fun q : Nat => s.heap.size ≤ q) s s.heap := by
    rw [hE]
    exact ⟨z0, z1, z2, hXs.2.2⟩
  have CF : CallFix p m c code 7 s #[Value.ref b] wsL_law RL := ⟨hx, hb, hml, hown, fun w h => hts w (wsL_law_in w h)⟩
  have C : nw_C E (fun q : Nat => s.heap.size ≤ q) p s m #[Value.ref b] meth c code RL 7 wsL_law := ⟨CF, hlocks, fun q h => h, hKE, hXs⟩
  have CD : dp_C E (fun q : Nat => s.heap.size ≤ q) p s m #[Value.ref b] meth c code RL 7 wsL_law := ⟨CF, hlocks, hOK, hAE, hKE, hZE⟩
  rw [lg_entry_eq]
  have main : nw_G E (fun q : Nat => s.heap.size ≤ q) p l e room_1 s m #[Value.ref b] below meth c 0 0 (lw_Z below #[Value.ref b] s) (fun _ => none) Z 0 [some (.ref b), none, none, none, none, none, none] [] := by
    refine nw_new (fs := [.null, .null, .null, .null]) C inlX6 tyX6 tyX6_ok (ci := 6) rfl (List.mem_of_getElem? (i := 0) rfl) (List.mem_of_getElem? (i := 1) rfl) (List.mem_of_getElem? (i := 2) rfl) zX6_ok (Nat.le_of_ble_eq_true rfl) (Nat.le_of_ble_eq_true rfl) dL_law_0 ?_
    refine nw_dup C dL_law_3 rfl ?_
    refine nw_call C (c_X6_init l (h0 := Z) up_same) (nw_db up_same) gL_law_X6_init rfl (List.mem_of_getElem? (i := 2) rfl) (Or.inl (List.mem_of_getElem? (i := 5) rfl)) (List.mem_of_getElem? (i := 6) rfl) rfl yyX6_init rfl ⟨Nat.le_of_ble_eq_true rfl, Nat.le_of_ble_eq_true rfl⟩ rfl (Nat.le_of_ble_eq_true rfl) rfl ⟨Nat.le_of_ble_eq_true rfl, Nat.le_of_ble_eq_true rfl⟩ dL_law_4 ?_
    refine nw_astore_n C dL_law_7 (Nat.le_of_ble_eq_true rfl) ?_
    dsimp only [List.set]
    refine nw_bipush C dL_law_8 (by decide) ?_
    refine nw_newi C (N := 55) (List.mem_of_getElem? (i := 3) rfl) rfl (by decide) (by decide) (Nat.le_of_ble_eq_true rfl) (Nat.le_of_ble_eq_true rfl) dL_law_10 ?_
    refine nw_astore_n C dL_law_12 (Nat.le_of_ble_eq_true rfl) ?_
    dsimp only [List.set]
    refine nw_bipush C dL_law_13 (by decide) ?_
    refine nw_newi C (N := 56) (List.mem_of_getElem? (i := 3) rfl) rfl (by decide) (by decide) (Nat.le_of_ble_eq_true rfl) (Nat.le_of_ble_eq_true rfl) dL_law_15 ?_
    refine nw_astore_n C dL_law_17 (Nat.le_of_ble_eq_true rfl) ?_
    dsimp only [List.set]
    refine nw_wid (k1 := 1000) (k2 := 100000) (Nat.le_of_ble_eq_true rfl) (Nat.le_of_ble_eq_true rfl) ?_
    refine nw_end (M := M0) (fun H hW => ?_) ?_
    · have eI9 : eI E = I := by rw [hE]
      rw [eI9] at hW
      subst hE
      refine first_W (fun j hj => ?_) ?_ ?_ hW
      · rw [up_ne (by omega), up_ne (by omega), blk_in hj rfl]
      · rw [up_ne (by omega)]
        exact up_same
      · exact up_same
    · have z := law_first (l := l) (e := e) (below := below) hL hX hbl hr CD h90 (X := Y0) M0_iC
      have e7 : eAd E 7 0 = Z := by rw [hE]; rfl
      have e8 : eAd E 8 0 = Z + 139 := by rw [hE]; rfl
      have e81 : eAd E 8 1 = Z + 139 + 1 := by rw [hE]; rfl
      have eM : dN M0 Y0 Y0 = M0 := dN_self M0
      rw [e7, e8, e81, eM] at z
      exact z
  exact main s.heap [] _ (fun a x h => by cases h) hZ (fun a h => absurd rfl h) va_S.rf (dp_entry (by simp [Value.category]) (Nat.le_of_ble_eq_true rfl))
