/-- the reference's numbers within their ranges, N targets -/
def ivM (V : dp_V) (N : Nat) : Prop := V 0 3 = N ∧ N ≤ 10 ∧ ivS V ∧ ∀ t, t < N → ivT (V (t + 6))
theorem go_eq {V : dp_V} {c : Nat} {p sl u d : Int} (hi : ivA c (V c)) (hs : sl = if V c 4 + (p - V c 3) < 0 then 0 else if V c 0 < V c 4 + (p - V c 3) then V c 0 else V c 4 + (p - V c 3)) (hu : u = V c 5 + (if 0 < p - V c 3 then p - V c 3 else 0)) (hd : d = V c 6 + (if p - V c 3 < 0 then -(p - V c 3) else 0)) : u2 (u2 (u2 (u2 V c 4 sl) c 5 u) c 6 d) c 3 p = mvV V c p := by
  unfold ivA at hi
  have e : ∀ k, u2 (u2 (u2 (u2 V c 4 sl) c 5 u) c 6 d) c 3 p c k = mvV V c p c k := by
    intro k
    have h5 : k = 3 ∨ k = 4 ∨ k = 5 ∨ k = 6 ∨ (k ≠ 3 ∧ k ≠ 4 ∧ k ≠ 5 ∧ k ≠ 6) := by omega
    rcases h5 with h | h | h | h | ⟨a, b, c1, c2⟩
    · subst h
      unfold mvV
      split <;> simp (decide := true) only [u2_ap, reduceIte]
    · subst h
      unfold mvV mx mn
      split <;> simp (decide := true) only [u2_ap, reduceIte] <;> (repeat' split at hs) <;> split <;> omega
    · subst h
      unfold mvV
      split <;> simp (decide := true) only [u2_ap, reduceIte] <;> split at hu <;> omega
    · subst h
      unfold mvV
      split <;> simp (decide := true) only [u2_ap, reduceIte] <;> split at hd <;> omega
    · unfold mvV
      split <;> simp only [u2_ap, if_neg a, if_neg b, if_neg c1, if_neg c2, reduceIte]
  funext c'
  by_cases h : c' = c
  · subst h
    funext k
    exact e k
  · rw [u2_ne h, u2_ne h, u2_ne h, u2_ne h, mvV_ne h]
theorem uwG_sp {V : dp_V} : ∀ m k : Nat, (uwG V k m = -1 ∧ ∀ t, k ≤ t → t < k + m → ¬ V (t + 6) 6 = 1) ∨ ∃ t, k ≤ t ∧ t < k + m ∧ uwG V k m = (t : Int) ∧ V (t + 6) 6 = 1 := by
  intro m
  induction m with
  | zero => intro k; exact Or.inl ⟨rfl, fun t h1 h2 => absurd h2 (by omega)⟩
  | succ m ih =>
    intro k
    unfold uwG
    by_cases h : V (k + 6) 6 = 1
    · rw [if_pos h]
      exact Or.inr ⟨k, Nat.le_refl _, by omega, rfl, h⟩
    · rw [if_neg h]
      rcases ih (k + 1) with ⟨a, b⟩ | ⟨t, h1, h2, h3, h4⟩
      · refine Or.inl ⟨a, fun t h1 h2 => ?_⟩
        by_cases e : t = k
        · subst e; exact h
        · exact b t (by omega) (by omega)
      · exact Or.inr ⟨t, by omega, by omega, h3, h4⟩
/-- the reference's target under way -/
def uwN (V : dp_V) (N : Nat) : Int := ftF (uwG V 0 N)
theorem uwN_sp {V : dp_V} {N : Nat} : (uwN V N = -100004 ∧ uwG V 0 N = -1 ∧ ∀ t, t < N → ¬ V (t + 6) 6 = 1) ∨ ∃ t : Nat, t < N ∧ uwN V N = t ∧ uwG V 0 N = t ∧ V (t + 6) 6 = 1 := by
  unfold uwN ftF
  rcases @uwG_sp V N 0 with ⟨a, b⟩ | ⟨t, h1, h2, h3, h4⟩
  · rw [if_pos a]
    exact Or.inl ⟨rfl, a, fun t h => b t (by omega) (by omega)⟩
  · rw [if_neg (by omega)]
    exact Or.inr ⟨t, by omega, h3, h3, h4⟩
theorem uwN_bd {V : dp_V} {N : Nat} (h : N ≤ 10) : -100004 ≤ uwN V N ∧ uwN V N ≤ 10 := by
  rcases @uwN_sp V N with ⟨a, _⟩ | ⟨t, h1, h2, _⟩ <;> omega
theorem uwN_t {V : dp_V} {N : Nat} (h : ¬ uwN V N = -100004) : ∃ t : Nat, t < N ∧ uwN V N = t ∧ uwG V 0 N = t ∧ V (t + 6) 6 = 1 := by
  rcases @uwN_sp V N with ⟨a, _⟩ | q
  · exact absurd a h
  · exact q
def muN (V : dp_V) (N : Nat) : Int := if uwN V N = -100004 then -100004 else V ((uwN V N).toNat + 6) 9 - V 0 0
def coM (V X : dp_V) (N : Nat) (k : Int) : Int := if k = 4 then (N : Int) else if k = 5 then cnG V 0 0 N else if k = 6 then cnG V 2 0 N else if k = 7 then cnG V 3 0 N else if k = 8 then uwN V N else if k = 9 then muN V N else if k = 10 then X 0 0 else if k = 11 then X 0 1 else stT V k
theorem dp_ce1 {j : Nat} (h : j < 4) : dp_ce j = 1 := if_pos h
theorem dp_sl1 {j : Nat} (h : j < 4) : dp_sl j = j := if_pos h
theorem dp_ce0 {j : Nat} (h : ¬ j < 4) (h2 : j < 8) : dp_ce j = 0 := by unfold dp_ce; rw [if_neg h, if_pos h2]
theorem dp_sl0 {j : Nat} (h : ¬ j < 4) (h2 : j < 8) : dp_sl j = j - 4 := by unfold dp_sl; rw [if_neg h, if_pos h2]
theorem wyU_in {c : Nat} {f : Nat → Int} {to ov : Int} (hi : ivA c f) (h1 : -40000 ≤ to ∧ to ≤ 40000) (h2 : 0 ≤ ov ∧ ov ≤ 500) : dp_R (wyU f to ov) := by
  have := wyU_bd hi h1 h2
  exact ⟨by omega, by omega⟩
theorem fnX_T {V X X' : dp_V} {c : Nat} {to : Int} (h : fnX V X c to X') : X' 0 3 = 0 ∨ X' 0 3 = 1 := by rw [h.2.2.1]; exact wyT_b
theorem yyX7_goes : yX7_goes.cls = RX7 ∧ yX7_goes.cls ≠ "java/lang/invoke/MethodHandle" ∧ yX7_goes.cls ≠ "java/lang/invoke/VarHandle" ∧ (parseMethodDescriptor yX7_goes.desc).map (fun d => d.parameters.length) = some 2 := by decide +kernel
set_option maxHeartbeats 4000000 in
set_option maxRecDepth 100000 in
theorem c_X7_goes {E : dp_E} (hE : dp_OK E) (l : Launch) {M : dp_M} {V X : dp_V} {a : Nat} (ha : a < 2) (hi : ivA (a + 3) (V (a + 3))) {to : Int} (hto : -50000 ≤ to ∧ to ≤ 50000) : dp_met E l yX7_goes wsX7_goes 0 0 [.ref (eAd E 8 0), .int (dp_I (a : Int)), .int (dp_I to)] (dN M V X) (dp_qv E (fun M1 => M1 = dN M (mvV V (a + 3) to) X)) := by
  refine dp_of (cc := cX7_goes) (nL := 6) (own := RX7) (ret := none) (by decide +kernel) rfl rfl hE (by simp [Value.category]) (Nat.le_of_ble_eq_true rfl) ?_
  intro p e s m below meth co C hret
  show dp_G _ _ _ _ _ _ _ _ _ _ _ _ _ _ _ _ _ [some (.ref (eAd E 8 0)), some (.int (dp_I (a : Int))), some (.int (dp_I to)), none, none, none] _
  have hX7 : ∀ w ∈ u_ws RX7 TX7 12, w ∈ wsX7_goes := fun w h => List.mem_cons_of_mem _ (List.mem_append_right _ (h))
  have hi2 := hi
  unfold ivA at hi2
  have hb := @ax_bd (a + 3)
  refine dp_bipush C dX7_goes_0 (by decide) ?_
  refine dp_bipush C dX7_goes_2 (by decide) ?_
  refine dp_iload_n C dX7_goes_4 rfl ?_
  refine dp_imul C dX7_goes_5 ?_
  refine dp_iadd C dX7_goes_6 ?_
  refine dp_istore_n C dX7_goes_7 (Nat.le_of_ble_eq_true rfl) ?_
  dsimp only [List.set]
  refine dp_iload_n C dX7_goes_8 rfl ?_
  refine dp_aload_n C dX7_goes_9 rfl ?_
  refine dp_getf C (k := 0) (dp_mM (by decide)) dp_xmo rfl hX7 (by decide) (List.mem_of_getElem? (i := 1) rfl) rfl dX7_goes_10 ?_
  refine dp_iload_n C dX7_goes_13 rfl ?_
  refine dp_iconst C dX7_goes_14 ?_
  refine dp_iadd C dX7_goes_15 ?_
  refine dp_ald_ms C (j := 39 + 7 * a + 3) ⟨by omega, by omega⟩ (by omega) (c9 := (a + 3)) (k9 := 3) (dp_ceA (k := 3) ha (by decide)) (dp_slA (k := 3) ha (by decide)) dX7_goes_16 ?_
  refine dp_isub C dX7_goes_17 ?_
  refine dp_istore C dX7_goes_18 (Nat.le_of_ble_eq_true rfl) ?_
  dsimp only [List.set]
  refine dp_aload_n C dX7_goes_20 rfl ?_
  refine dp_getf C (k := 0) (dp_mM (by decide)) dp_xmo rfl hX7 (by decide) (List.mem_of_getElem? (i := 1) rfl) rfl dX7_goes_21 ?_
  refine dp_iload_n C dX7_goes_24 rfl ?_
  refine dp_iconst C dX7_goes_25 ?_
  refine dp_iadd C dX7_goes_26 ?_
  refine dp_ald_ms C (j := 39 + 7 * a + 4) ⟨by omega, by omega⟩ (by omega) (c9 := (a + 3)) (k9 := 4) (dp_ceA (k := 4) ha (by decide)) (dp_slA (k := 4) ha (by decide)) dX7_goes_27 ?_
  refine dp_iload C dX7_goes_28 rfl ?_
  refine dp_iadd C dX7_goes_30 ?_
  refine dp_istore C dX7_goes_31 (Nat.le_of_ble_eq_true rfl) ?_
  dsimp only [List.set]
  refine dp_aload_n C dX7_goes_33 rfl ?_
  refine dp_getf C (k := 0) (dp_mM (by decide)) dp_xmo rfl hX7 (by decide) (List.mem_of_getElem? (i := 1) rfl) rfl dX7_goes_34 ?_
  refine dp_iload_n C dX7_goes_37 rfl ?_
  refine dp_iconst C dX7_goes_38 ?_
  refine dp_iadd C dX7_goes_39 ?_
  refine dp_iload C dX7_goes_40 rfl ?_
  refine dp_if_ge (tgt := 49) C dX7_goes_42 (by decide) ⟨by omega, by omega⟩ (fun c42 => ?_) (fun c42 => ?_)
  · skip
    refine dp_iload C dX7_goes_49 rfl ?_
    refine dp_aload_n C dX7_goes_51 rfl ?_
    refine dp_getf C (k := 0) (dp_mM (by decide)) dp_xmo rfl hX7 (by decide) (List.mem_of_getElem? (i := 1) rfl) rfl dX7_goes_52 ?_
    refine dp_iload_n C dX7_goes_55 rfl ?_
    refine dp_iconst C dX7_goes_56 ?_
    refine dp_iadd C dX7_goes_57 ?_
    refine dp_ald_ms C (j := 39 + 7 * a + 0) ⟨by omega, by omega⟩ (by omega) (c9 := (a + 3)) (k9 := 0) (dp_ceA (k := 0) ha (by decide)) (dp_slA (k := 0) ha (by decide)) dX7_goes_58 ?_
    refine dp_icmp_le (tgt := 73) C dX7_goes_59 (by decide) ⟨by omega, by omega⟩ ⟨by omega, by omega⟩ (fun c59 => ?_) (fun c59 => ?_)
    · skip
      refine dp_iload C dX7_goes_73 rfl ?_
      refine dp_ast_ms C (j := 39 + 7 * a + 4) ⟨by omega, by omega⟩ (by omega) (c9 := (a + 3)) (k9 := 4) (dp_ceA (k := 4) ha (by decide)) (dp_slA (k := 4) ha (by decide)) dX7_goes_75 ?_
      refine dp_aload_n C dX7_goes_76 rfl ?_
      refine dp_getf C (k := 0) (dp_mM (by decide)) dp_xmo rfl hX7 (by decide) (List.mem_of_getElem? (i := 1) rfl) rfl dX7_goes_77 ?_
      refine dp_iload_n C dX7_goes_80 rfl ?_
      refine dp_iconst C dX7_goes_81 ?_
      refine dp_iadd C dX7_goes_82 ?_
      refine dp_dup2 C dX7_goes_83 rfl rfl ?_
      refine dp_ald_ms C (j := 39 + 7 * a + 5) ⟨by omega, by omega⟩ (by omega) (c9 := (a + 3)) (k9 := 5) (dp_ceA (k := 5) ha (by decide)) (dp_slA (k := 5) ha (by decide)) dX7_goes_84 ?_
      simp (decide := true) only [u2_ap, reduceIte]
      refine dp_iload C dX7_goes_85 rfl ?_
      refine dp_if_le (tgt := 95) C dX7_goes_87 (by decide) ⟨by omega, by omega⟩ (fun c87 => ?_) (fun c87 => ?_)
      · skip
        refine dp_iconst C dX7_goes_95 ?_
        refine dp_iadd C dX7_goes_96 ?_
        refine dp_ast_ms C (j := 39 + 7 * a + 5) ⟨by omega, by omega⟩ (by omega) (c9 := (a + 3)) (k9 := 5) (dp_ceA (k := 5) ha (by decide)) (dp_slA (k := 5) ha (by decide)) dX7_goes_97 ?_
        refine dp_aload_n C dX7_goes_98 rfl ?_
        refine dp_getf C (k := 0) (dp_mM (by decide)) dp_xmo rfl hX7 (by decide) (List.mem_of_getElem? (i := 1) rfl) rfl dX7_goes_99 ?_
        refine dp_iload_n C dX7_goes_102 rfl ?_
        refine dp_bipush C dX7_goes_103 (by decide) ?_
        refine dp_iadd C dX7_goes_105 ?_
        refine dp_dup2 C dX7_goes_106 rfl rfl ?_
        refine dp_ald_ms C (j := 39 + 7 * a + 6) ⟨by omega, by omega⟩ (by omega) (c9 := (a + 3)) (k9 := 6) (dp_ceA (k := 6) ha (by decide)) (dp_slA (k := 6) ha (by decide)) dX7_goes_107 ?_
        simp (decide := true) only [u2_ap, reduceIte]
        refine dp_iload C dX7_goes_108 rfl ?_
        refine dp_if_ge (tgt := 119) C dX7_goes_110 (by decide) ⟨by omega, by omega⟩ (fun c110 => ?_) (fun c110 => ?_)
        · skip
          refine dp_iconst C dX7_goes_119 ?_
          refine dp_iadd C dX7_goes_120 ?_
          refine dp_ast_ms C (j := 39 + 7 * a + 6) ⟨by omega, by omega⟩ (by omega) (c9 := (a + 3)) (k9 := 6) (dp_ceA (k := 6) ha (by decide)) (dp_slA (k := 6) ha (by decide)) dX7_goes_121 ?_
          refine dp_aload_n C dX7_goes_122 rfl ?_
          refine dp_getf C (k := 0) (dp_mM (by decide)) dp_xmo rfl hX7 (by decide) (List.mem_of_getElem? (i := 1) rfl) rfl dX7_goes_123 ?_
          refine dp_iload_n C dX7_goes_126 rfl ?_
          refine dp_iconst C dX7_goes_127 ?_
          refine dp_iadd C dX7_goes_128 ?_
          refine dp_iload_n C dX7_goes_129 rfl ?_
          refine dp_ast_ms C (j := 39 + 7 * a + 3) ⟨by omega, by omega⟩ (by omega) (c9 := (a + 3)) (k9 := 3) (dp_ceA (k := 3) ha (by decide)) (dp_slA (k := 3) ha (by decide)) dX7_goes_130 ?_
          refine dp_vret C hret dX7_goes_131 ?_
          exact congrArg (fun q => dN M q X) (go_eq hi (by (repeat' split) <;> omega) (by split <;> omega) (by split <;> omega))
        · skip
          refine dp_iload C dX7_goes_113 rfl ?_
          refine dp_ineg C dX7_goes_115 ?_
          refine dp_goto (tgt := 120) C dX7_goes_116 (by decide) ?_
          refine dp_iadd C dX7_goes_120 ?_
          refine dp_ast_ms C (j := 39 + 7 * a + 6) ⟨by omega, by omega⟩ (by omega) (c9 := (a + 3)) (k9 := 6) (dp_ceA (k := 6) ha (by decide)) (dp_slA (k := 6) ha (by decide)) dX7_goes_121 ?_
          refine dp_aload_n C dX7_goes_122 rfl ?_
          refine dp_getf C (k := 0) (dp_mM (by decide)) dp_xmo rfl hX7 (by decide) (List.mem_of_getElem? (i := 1) rfl) rfl dX7_goes_123 ?_
          refine dp_iload_n C dX7_goes_126 rfl ?_
          refine dp_iconst C dX7_goes_127 ?_
          refine dp_iadd C dX7_goes_128 ?_
          refine dp_iload_n C dX7_goes_129 rfl ?_
          refine dp_ast_ms C (j := 39 + 7 * a + 3) ⟨by omega, by omega⟩ (by omega) (c9 := (a + 3)) (k9 := 3) (dp_ceA (k := 3) ha (by decide)) (dp_slA (k := 3) ha (by decide)) dX7_goes_130 ?_
          refine dp_vret C hret dX7_goes_131 ?_
          exact congrArg (fun q => dN M q X) (go_eq hi (by (repeat' split) <;> omega) (by split <;> omega) (by split <;> omega))
      · skip
        refine dp_iload C dX7_goes_90 rfl ?_
        refine dp_goto (tgt := 96) C dX7_goes_92 (by decide) ?_
        refine dp_iadd C dX7_goes_96 ?_
        refine dp_ast_ms C (j := 39 + 7 * a + 5) ⟨by omega, by omega⟩ (by omega) (c9 := (a + 3)) (k9 := 5) (dp_ceA (k := 5) ha (by decide)) (dp_slA (k := 5) ha (by decide)) dX7_goes_97 ?_
        refine dp_aload_n C dX7_goes_98 rfl ?_
        refine dp_getf C (k := 0) (dp_mM (by decide)) dp_xmo rfl hX7 (by decide) (List.mem_of_getElem? (i := 1) rfl) rfl dX7_goes_99 ?_
        refine dp_iload_n C dX7_goes_102 rfl ?_
        refine dp_bipush C dX7_goes_103 (by decide) ?_
        refine dp_iadd C dX7_goes_105 ?_
        refine dp_dup2 C dX7_goes_106 rfl rfl ?_
        refine dp_ald_ms C (j := 39 + 7 * a + 6) ⟨by omega, by omega⟩ (by omega) (c9 := (a + 3)) (k9 := 6) (dp_ceA (k := 6) ha (by decide)) (dp_slA (k := 6) ha (by decide)) dX7_goes_107 ?_
        simp (decide := true) only [u2_ap, reduceIte]
        refine dp_iload C dX7_goes_108 rfl ?_
        refine dp_if_ge (tgt := 119) C dX7_goes_110 (by decide) ⟨by omega, by omega⟩ (fun c110 => ?_) (fun c110 => ?_)
        · skip
          refine dp_iconst C dX7_goes_119 ?_
          refine dp_iadd C dX7_goes_120 ?_
          refine dp_ast_ms C (j := 39 + 7 * a + 6) ⟨by omega, by omega⟩ (by omega) (c9 := (a + 3)) (k9 := 6) (dp_ceA (k := 6) ha (by decide)) (dp_slA (k := 6) ha (by decide)) dX7_goes_121 ?_
          refine dp_aload_n C dX7_goes_122 rfl ?_
          refine dp_getf C (k := 0) (dp_mM (by decide)) dp_xmo rfl hX7 (by decide) (List.mem_of_getElem? (i := 1) rfl) rfl dX7_goes_123 ?_
          refine dp_iload_n C dX7_goes_126 rfl ?_
          refine dp_iconst C dX7_goes_127 ?_
          refine dp_iadd C dX7_goes_128 ?_
          refine dp_iload_n C dX7_goes_129 rfl ?_
          refine dp_ast_ms C (j := 39 + 7 * a + 3) ⟨by omega, by omega⟩ (by omega) (c9 := (a + 3)) (k9 := 3) (dp_ceA (k := 3) ha (by decide)) (dp_slA (k := 3) ha (by decide)) dX7_goes_130 ?_
          refine dp_vret C hret dX7_goes_131 ?_
          exact congrArg (fun q => dN M q X) (go_eq hi (by (repeat' split) <;> omega) (by split <;> omega) (by split <;> omega))
        · skip
          refine dp_iload C dX7_goes_113 rfl ?_
          refine dp_ineg C dX7_goes_115 ?_
          refine dp_goto (tgt := 120) C dX7_goes_116 (by decide) ?_
          refine dp_iadd C dX7_goes_120 ?_
          refine dp_ast_ms C (j := 39 + 7 * a + 6) ⟨by omega, by omega⟩ (by omega) (c9 := (a + 3)) (k9 := 6) (dp_ceA (k := 6) ha (by decide)) (dp_slA (k := 6) ha (by decide)) dX7_goes_121 ?_
          refine dp_aload_n C dX7_goes_122 rfl ?_
          refine dp_getf C (k := 0) (dp_mM (by decide)) dp_xmo rfl hX7 (by decide) (List.mem_of_getElem? (i := 1) rfl) rfl dX7_goes_123 ?_
          refine dp_iload_n C dX7_goes_126 rfl ?_
          refine dp_iconst C dX7_goes_127 ?_
          refine dp_iadd C dX7_goes_128 ?_
          refine dp_iload_n C dX7_goes_129 rfl ?_
          refine dp_ast_ms C (j := 39 + 7 * a + 3) ⟨by omega, by omega⟩ (by omega) (c9 := (a + 3)) (k9 := 3) (dp_ceA (k := 3) ha (by decide)) (dp_slA (k := 3) ha (by decide)) dX7_goes_130 ?_
          refine dp_vret C hret dX7_goes_131 ?_
          exact congrArg (fun q => dN M q X) (go_eq hi (by (repeat' split) <;> omega) (by split <;> omega) (by split <;> omega))
    · skip
      refine dp_aload_n C dX7_goes_62 rfl ?_
      refine dp_getf C (k := 0) (dp_mM (by decide)) dp_xmo rfl hX7 (by decide) (List.mem_of_getElem? (i := 1) rfl) rfl dX7_goes_63 ?_
      refine dp_iload_n C dX7_goes_66 rfl ?_
      refine dp_iconst C dX7_goes_67 ?_
      refine dp_iadd C dX7_goes_68 ?_
      refine dp_ald_ms C (j := 39 + 7 * a + 0) ⟨by omega, by omega⟩ (by omega) (c9 := (a + 3)) (k9 := 0) (dp_ceA (k := 0) ha (by decide)) (dp_slA (k := 0) ha (by decide)) dX7_goes_69 ?_
      refine dp_goto (tgt := 75) C dX7_goes_70 (by decide) ?_
      refine dp_ast_ms C (j := 39 + 7 * a + 4) ⟨by omega, by omega⟩ (by omega) (c9 := (a + 3)) (k9 := 4) (dp_ceA (k := 4) ha (by decide)) (dp_slA (k := 4) ha (by decide)) dX7_goes_75 ?_
      refine dp_aload_n C dX7_goes_76 rfl ?_
      refine dp_getf C (k := 0) (dp_mM (by decide)) dp_xmo rfl hX7 (by decide) (List.mem_of_getElem? (i := 1) rfl) rfl dX7_goes_77 ?_
      refine dp_iload_n C dX7_goes_80 rfl ?_
      refine dp_iconst C dX7_goes_81 ?_
      refine dp_iadd C dX7_goes_82 ?_
      refine dp_dup2 C dX7_goes_83 rfl rfl ?_
      refine dp_ald_ms C (j := 39 + 7 * a + 5) ⟨by omega, by omega⟩ (by omega) (c9 := (a + 3)) (k9 := 5) (dp_ceA (k := 5) ha (by decide)) (dp_slA (k := 5) ha (by decide)) dX7_goes_84 ?_
      simp (decide := true) only [u2_ap, reduceIte]
      refine dp_iload C dX7_goes_85 rfl ?_
      refine dp_if_le (tgt := 95) C dX7_goes_87 (by decide) ⟨by omega, by omega⟩ (fun c87 => ?_) (fun c87 => ?_)
      · skip
        refine dp_iconst C dX7_goes_95 ?_
        refine dp_iadd C dX7_goes_96 ?_
        refine dp_ast_ms C (j := 39 + 7 * a + 5) ⟨by omega, by omega⟩ (by omega) (c9 := (a + 3)) (k9 := 5) (dp_ceA (k := 5) ha (by decide)) (dp_slA (k := 5) ha (by decide)) dX7_goes_97 ?_
        refine dp_aload_n C dX7_goes_98 rfl ?_
        refine dp_getf C (k := 0) (dp_mM (by decide)) dp_xmo rfl hX7 (by decide) (List.mem_of_getElem? (i := 1) rfl) rfl dX7_goes_99 ?_
        refine dp_iload_n C dX7_goes_102 rfl ?_
        refine dp_bipush C dX7_goes_103 (by decide) ?_
        refine dp_iadd C dX7_goes_105 ?_
        refine dp_dup2 C dX7_goes_106 rfl rfl ?_
        refine dp_ald_ms C (j := 39 + 7 * a + 6) ⟨by omega, by omega⟩ (by omega) (c9 := (a + 3)) (k9 := 6) (dp_ceA (k := 6) ha (by decide)) (dp_slA (k := 6) ha (by decide)) dX7_goes_107 ?_
        simp (decide := true) only [u2_ap, reduceIte]
        refine dp_iload C dX7_goes_108 rfl ?_
        refine dp_if_ge (tgt := 119) C dX7_goes_110 (by decide) ⟨by omega, by omega⟩ (fun c110 => ?_) (fun c110 => ?_)
        · skip
          refine dp_iconst C dX7_goes_119 ?_
          refine dp_iadd C dX7_goes_120 ?_
          refine dp_ast_ms C (j := 39 + 7 * a + 6) ⟨by omega, by omega⟩ (by omega) (c9 := (a + 3)) (k9 := 6) (dp_ceA (k := 6) ha (by decide)) (dp_slA (k := 6) ha (by decide)) dX7_goes_121 ?_
          refine dp_aload_n C dX7_goes_122 rfl ?_
          refine dp_getf C (k := 0) (dp_mM (by decide)) dp_xmo rfl hX7 (by decide) (List.mem_of_getElem? (i := 1) rfl) rfl dX7_goes_123 ?_
          refine dp_iload_n C dX7_goes_126 rfl ?_
          refine dp_iconst C dX7_goes_127 ?_
          refine dp_iadd C dX7_goes_128 ?_
          refine dp_iload_n C dX7_goes_129 rfl ?_
          refine dp_ast_ms C (j := 39 + 7 * a + 3) ⟨by omega, by omega⟩ (by omega) (c9 := (a + 3)) (k9 := 3) (dp_ceA (k := 3) ha (by decide)) (dp_slA (k := 3) ha (by decide)) dX7_goes_130 ?_
          refine dp_vret C hret dX7_goes_131 ?_
          exact congrArg (fun q => dN M q X) (go_eq hi (by (repeat' split) <;> omega) (by split <;> omega) (by split <;> omega))
        · skip
          refine dp_iload C dX7_goes_113 rfl ?_
          refine dp_ineg C dX7_goes_115 ?_
          refine dp_goto (tgt := 120) C dX7_goes_116 (by decide) ?_
          refine dp_iadd C dX7_goes_120 ?_
          refine dp_ast_ms C (j := 39 + 7 * a + 6) ⟨by omega, by omega⟩ (by omega) (c9 := (a + 3)) (k9 := 6) (dp_ceA (k := 6) ha (by decide)) (dp_slA (k := 6) ha (by decide)) dX7_goes_121 ?_
          refine dp_aload_n C dX7_goes_122 rfl ?_
          refine dp_getf C (k := 0) (dp_mM (by decide)) dp_xmo rfl hX7 (by decide) (List.mem_of_getElem? (i := 1) rfl) rfl dX7_goes_123 ?_
          refine dp_iload_n C dX7_goes_126 rfl ?_
          refine dp_iconst C dX7_goes_127 ?_
          refine dp_iadd C dX7_goes_128 ?_
          refine dp_iload_n C dX7_goes_129 rfl ?_
          refine dp_ast_ms C (j := 39 + 7 * a + 3) ⟨by omega, by omega⟩ (by omega) (c9 := (a + 3)) (k9 := 3) (dp_ceA (k := 3) ha (by decide)) (dp_slA (k := 3) ha (by decide)) dX7_goes_130 ?_
          refine dp_vret C hret dX7_goes_131 ?_
          exact congrArg (fun q => dN M q X) (go_eq hi (by (repeat' split) <;> omega) (by split <;> omega) (by split <;> omega))
      · skip
        refine dp_iload C dX7_goes_90 rfl ?_
        refine dp_goto (tgt := 96) C dX7_goes_92 (by decide) ?_
        refine dp_iadd C dX7_goes_96 ?_
        refine dp_ast_ms C (j := 39 + 7 * a + 5) ⟨by omega, by omega⟩ (by omega) (c9 := (a + 3)) (k9 := 5) (dp_ceA (k := 5) ha (by decide)) (dp_slA (k := 5) ha (by decide)) dX7_goes_97 ?_
        refine dp_aload_n C dX7_goes_98 rfl ?_
        refine dp_getf C (k := 0) (dp_mM (by decide)) dp_xmo rfl hX7 (by decide) (List.mem_of_getElem? (i := 1) rfl) rfl dX7_goes_99 ?_
        refine dp_iload_n C dX7_goes_102 rfl ?_
        refine dp_bipush C dX7_goes_103 (by decide) ?_
        refine dp_iadd C dX7_goes_105 ?_
        refine dp_dup2 C dX7_goes_106 rfl rfl ?_
        refine dp_ald_ms C (j := 39 + 7 * a + 6) ⟨by omega, by omega⟩ (by omega) (c9 := (a + 3)) (k9 := 6) (dp_ceA (k := 6) ha (by decide)) (dp_slA (k := 6) ha (by decide)) dX7_goes_107 ?_
        simp (decide := true) only [u2_ap, reduceIte]
        refine dp_iload C dX7_goes_108 rfl ?_
        refine dp_if_ge (tgt := 119) C dX7_goes_110 (by decide) ⟨by omega, by omega⟩ (fun c110 => ?_) (fun c110 => ?_)
        · skip
          refine dp_iconst C dX7_goes_119 ?_
          refine dp_iadd C dX7_goes_120 ?_
          refine dp_ast_ms C (j := 39 + 7 * a + 6) ⟨by omega, by omega⟩ (by omega) (c9 := (a + 3)) (k9 := 6) (dp_ceA (k := 6) ha (by decide)) (dp_slA (k := 6) ha (by decide)) dX7_goes_121 ?_
          refine dp_aload_n C dX7_goes_122 rfl ?_
          refine dp_getf C (k := 0) (dp_mM (by decide)) dp_xmo rfl hX7 (by decide) (List.mem_of_getElem? (i := 1) rfl) rfl dX7_goes_123 ?_
          refine dp_iload_n C dX7_goes_126 rfl ?_
          refine dp_iconst C dX7_goes_127 ?_
          refine dp_iadd C dX7_goes_128 ?_
          refine dp_iload_n C dX7_goes_129 rfl ?_
          refine dp_ast_ms C (j := 39 + 7 * a + 3) ⟨by omega, by omega⟩ (by omega) (c9 := (a + 3)) (k9 := 3) (dp_ceA (k := 3) ha (by decide)) (dp_slA (k := 3) ha (by decide)) dX7_goes_130 ?_
          refine dp_vret C hret dX7_goes_131 ?_
          exact congrArg (fun q => dN M q X) (go_eq hi (by (repeat' split) <;> omega) (by split <;> omega) (by split <;> omega))
        · skip
          refine dp_iload C dX7_goes_113 rfl ?_
          refine dp_ineg C dX7_goes_115 ?_
          refine dp_goto (tgt := 120) C dX7_goes_116 (by decide) ?_
          refine dp_iadd C dX7_goes_120 ?_
          refine dp_ast_ms C (j := 39 + 7 * a + 6) ⟨by omega, by omega⟩ (by omega) (c9 := (a + 3)) (k9 := 6) (dp_ceA (k := 6) ha (by decide)) (dp_slA (k := 6) ha (by decide)) dX7_goes_121 ?_
          refine dp_aload_n C dX7_goes_122 rfl ?_
          refine dp_getf C (k := 0) (dp_mM (by decide)) dp_xmo rfl hX7 (by decide) (List.mem_of_getElem? (i := 1) rfl) rfl dX7_goes_123 ?_
          refine dp_iload_n C dX7_goes_126 rfl ?_
          refine dp_iconst C dX7_goes_127 ?_
          refine dp_iadd C dX7_goes_128 ?_
          refine dp_iload_n C dX7_goes_129 rfl ?_
          refine dp_ast_ms C (j := 39 + 7 * a + 3) ⟨by omega, by omega⟩ (by omega) (c9 := (a + 3)) (k9 := 3) (dp_ceA (k := 3) ha (by decide)) (dp_slA (k := 3) ha (by decide)) dX7_goes_130 ?_
          refine dp_vret C hret dX7_goes_131 ?_
          exact congrArg (fun q => dN M q X) (go_eq hi (by (repeat' split) <;> omega) (by split <;> omega) (by split <;> omega))
  · skip
    refine dp_iconst C dX7_goes_45 ?_
    refine dp_goto (tgt := 75) C dX7_goes_46 (by decide) ?_
    refine dp_ast_ms C (j := 39 + 7 * a + 4) ⟨by omega, by omega⟩ (by omega) (c9 := (a + 3)) (k9 := 4) (dp_ceA (k := 4) ha (by decide)) (dp_slA (k := 4) ha (by decide)) dX7_goes_75 ?_
    refine dp_aload_n C dX7_goes_76 rfl ?_
    refine dp_getf C (k := 0) (dp_mM (by decide)) dp_xmo rfl hX7 (by decide) (List.mem_of_getElem? (i := 1) rfl) rfl dX7_goes_77 ?_
    refine dp_iload_n C dX7_goes_80 rfl ?_
    refine dp_iconst C dX7_goes_81 ?_
    refine dp_iadd C dX7_goes_82 ?_
    refine dp_dup2 C dX7_goes_83 rfl rfl ?_
    refine dp_ald_ms C (j := 39 + 7 * a + 5) ⟨by omega, by omega⟩ (by omega) (c9 := (a + 3)) (k9 := 5) (dp_ceA (k := 5) ha (by decide)) (dp_slA (k := 5) ha (by decide)) dX7_goes_84 ?_
    simp (decide := true) only [u2_ap, reduceIte]
    refine dp_iload C dX7_goes_85 rfl ?_
    refine dp_if_le (tgt := 95) C dX7_goes_87 (by decide) ⟨by omega, by omega⟩ (fun c87 => ?_) (fun c87 => ?_)
    · skip
      refine dp_iconst C dX7_goes_95 ?_
      refine dp_iadd C dX7_goes_96 ?_
      refine dp_ast_ms C (j := 39 + 7 * a + 5) ⟨by omega, by omega⟩ (by omega) (c9 := (a + 3)) (k9 := 5) (dp_ceA (k := 5) ha (by decide)) (dp_slA (k := 5) ha (by decide)) dX7_goes_97 ?_
      refine dp_aload_n C dX7_goes_98 rfl ?_
      refine dp_getf C (k := 0) (dp_mM (by decide)) dp_xmo rfl hX7 (by decide) (List.mem_of_getElem? (i := 1) rfl) rfl dX7_goes_99 ?_
      refine dp_iload_n C dX7_goes_102 rfl ?_
      refine dp_bipush C dX7_goes_103 (by decide) ?_
      refine dp_iadd C dX7_goes_105 ?_
      refine dp_dup2 C dX7_goes_106 rfl rfl ?_
      refine dp_ald_ms C (j := 39 + 7 * a + 6) ⟨by omega, by omega⟩ (by omega) (c9 := (a + 3)) (k9 := 6) (dp_ceA (k := 6) ha (by decide)) (dp_slA (k := 6) ha (by decide)) dX7_goes_107 ?_
      simp (decide := true) only [u2_ap, reduceIte]
      refine dp_iload C dX7_goes_108 rfl ?_
      refine dp_if_ge (tgt := 119) C dX7_goes_110 (by decide) ⟨by omega, by omega⟩ (fun c110 => ?_) (fun c110 => ?_)
      · skip
        refine dp_iconst C dX7_goes_119 ?_
        refine dp_iadd C dX7_goes_120 ?_
        refine dp_ast_ms C (j := 39 + 7 * a + 6) ⟨by omega, by omega⟩ (by omega) (c9 := (a + 3)) (k9 := 6) (dp_ceA (k := 6) ha (by decide)) (dp_slA (k := 6) ha (by decide)) dX7_goes_121 ?_
        refine dp_aload_n C dX7_goes_122 rfl ?_
        refine dp_getf C (k := 0) (dp_mM (by decide)) dp_xmo rfl hX7 (by decide) (List.mem_of_getElem? (i := 1) rfl) rfl dX7_goes_123 ?_
        refine dp_iload_n C dX7_goes_126 rfl ?_
        refine dp_iconst C dX7_goes_127 ?_
        refine dp_iadd C dX7_goes_128 ?_
        refine dp_iload_n C dX7_goes_129 rfl ?_
        refine dp_ast_ms C (j := 39 + 7 * a + 3) ⟨by omega, by omega⟩ (by omega) (c9 := (a + 3)) (k9 := 3) (dp_ceA (k := 3) ha (by decide)) (dp_slA (k := 3) ha (by decide)) dX7_goes_130 ?_
        refine dp_vret C hret dX7_goes_131 ?_
        exact congrArg (fun q => dN M q X) (go_eq hi (by (repeat' split) <;> omega) (by split <;> omega) (by split <;> omega))
      · skip
        refine dp_iload C dX7_goes_113 rfl ?_
        refine dp_ineg C dX7_goes_115 ?_
        refine dp_goto (tgt := 120) C dX7_goes_116 (by decide) ?_
        refine dp_iadd C dX7_goes_120 ?_
        refine dp_ast_ms C (j := 39 + 7 * a + 6) ⟨by omega, by omega⟩ (by omega) (c9 := (a + 3)) (k9 := 6) (dp_ceA (k := 6) ha (by decide)) (dp_slA (k := 6) ha (by decide)) dX7_goes_121 ?_
        refine dp_aload_n C dX7_goes_122 rfl ?_
        refine dp_getf C (k := 0) (dp_mM (by decide)) dp_xmo rfl hX7 (by decide) (List.mem_of_getElem? (i := 1) rfl) rfl dX7_goes_123 ?_
        refine dp_iload_n C dX7_goes_126 rfl ?_
        refine dp_iconst C dX7_goes_127 ?_
        refine dp_iadd C dX7_goes_128 ?_
        refine dp_iload_n C dX7_goes_129 rfl ?_
        refine dp_ast_ms C (j := 39 + 7 * a + 3) ⟨by omega, by omega⟩ (by omega) (c9 := (a + 3)) (k9 := 3) (dp_ceA (k := 3) ha (by decide)) (dp_slA (k := 3) ha (by decide)) dX7_goes_130 ?_
        refine dp_vret C hret dX7_goes_131 ?_
        exact congrArg (fun q => dN M q X) (go_eq hi (by (repeat' split) <;> omega) (by split <;> omega) (by split <;> omega))
    · skip
      refine dp_iload C dX7_goes_90 rfl ?_
      refine dp_goto (tgt := 96) C dX7_goes_92 (by decide) ?_
      refine dp_iadd C dX7_goes_96 ?_
      refine dp_ast_ms C (j := 39 + 7 * a + 5) ⟨by omega, by omega⟩ (by omega) (c9 := (a + 3)) (k9 := 5) (dp_ceA (k := 5) ha (by decide)) (dp_slA (k := 5) ha (by decide)) dX7_goes_97 ?_
      refine dp_aload_n C dX7_goes_98 rfl ?_
      refine dp_getf C (k := 0) (dp_mM (by decide)) dp_xmo rfl hX7 (by decide) (List.mem_of_getElem? (i := 1) rfl) rfl dX7_goes_99 ?_
      refine dp_iload_n C dX7_goes_102 rfl ?_
      refine dp_bipush C dX7_goes_103 (by decide) ?_
      refine dp_iadd C dX7_goes_105 ?_
      refine dp_dup2 C dX7_goes_106 rfl rfl ?_
      refine dp_ald_ms C (j := 39 + 7 * a + 6) ⟨by omega, by omega⟩ (by omega) (c9 := (a + 3)) (k9 := 6) (dp_ceA (k := 6) ha (by decide)) (dp_slA (k := 6) ha (by decide)) dX7_goes_107 ?_
      simp (decide := true) only [u2_ap, reduceIte]
      refine dp_iload C dX7_goes_108 rfl ?_
      refine dp_if_ge (tgt := 119) C dX7_goes_110 (by decide) ⟨by omega, by omega⟩ (fun c110 => ?_) (fun c110 => ?_)
      · skip
        refine dp_iconst C dX7_goes_119 ?_
        refine dp_iadd C dX7_goes_120 ?_
        refine dp_ast_ms C (j := 39 + 7 * a + 6) ⟨by omega, by omega⟩ (by omega) (c9 := (a + 3)) (k9 := 6) (dp_ceA (k := 6) ha (by decide)) (dp_slA (k := 6) ha (by decide)) dX7_goes_121 ?_
        refine dp_aload_n C dX7_goes_122 rfl ?_
        refine dp_getf C (k := 0) (dp_mM (by decide)) dp_xmo rfl hX7 (by decide) (List.mem_of_getElem? (i := 1) rfl) rfl dX7_goes_123 ?_
        refine dp_iload_n C dX7_goes_126 rfl ?_
        refine dp_iconst C dX7_goes_127 ?_
        refine dp_iadd C dX7_goes_128 ?_
        refine dp_iload_n C dX7_goes_129 rfl ?_
        refine dp_ast_ms C (j := 39 + 7 * a + 3) ⟨by omega, by omega⟩ (by omega) (c9 := (a + 3)) (k9 := 3) (dp_ceA (k := 3) ha (by decide)) (dp_slA (k := 3) ha (by decide)) dX7_goes_130 ?_
        refine dp_vret C hret dX7_goes_131 ?_
        exact congrArg (fun q => dN M q X) (go_eq hi (by (repeat' split) <;> omega) (by split <;> omega) (by split <;> omega))
      · skip
        refine dp_iload C dX7_goes_113 rfl ?_
        refine dp_ineg C dX7_goes_115 ?_
        refine dp_goto (tgt := 120) C dX7_goes_116 (by decide) ?_
        refine dp_iadd C dX7_goes_120 ?_
        refine dp_ast_ms C (j := 39 + 7 * a + 6) ⟨by omega, by omega⟩ (by omega) (c9 := (a + 3)) (k9 := 6) (dp_ceA (k := 6) ha (by decide)) (dp_slA (k := 6) ha (by decide)) dX7_goes_121 ?_
        refine dp_aload_n C dX7_goes_122 rfl ?_
        refine dp_getf C (k := 0) (dp_mM (by decide)) dp_xmo rfl hX7 (by decide) (List.mem_of_getElem? (i := 1) rfl) rfl dX7_goes_123 ?_
        refine dp_iload_n C dX7_goes_126 rfl ?_
        refine dp_iconst C dX7_goes_127 ?_
        refine dp_iadd C dX7_goes_128 ?_
        refine dp_iload_n C dX7_goes_129 rfl ?_
        refine dp_ast_ms C (j := 39 + 7 * a + 3) ⟨by omega, by omega⟩ (by omega) (c9 := (a + 3)) (k9 := 3) (dp_ceA (k := 3) ha (by decide)) (dp_slA (k := 3) ha (by decide)) dX7_goes_130 ?_
        refine dp_vret C hret dX7_goes_131 ?_
        exact congrArg (fun q => dN M q X) (go_eq hi (by (repeat' split) <;> omega) (by split <;> omega) (by split <;> omega))
