/-- the reference's numbers within their ranges, N targets -/
def ivM (V : dp_V) (N : Nat) : Prop := V 0 3 = N ∧ N ≤ 10 ∧ ivS V ∧ ∀ t, t < N → ivT (V (t + 6))
theorem go_eq {V : dp_V} {c : Nat} {p sl u d : Int} (hi : ivA c (V c)) (hs : sl = if V c 4 + (p - V c 3) < 0 then 0 else if V c 0 < V c 4 + (p - V c 3) then V c 0 else V c 4 + (p - V c 3)) (hu : u = V c 5 + (if 0 < p - V c 3 then p - V c 3 else 0)) (hd : d = V c 6 + (if p - V c 3 < 0 then -(p - V c 3) else 0)) : u2 (u2 (u2 (u2 V c 4 sl) c 5 u) c 6 d) c 3 p = mvV V c p := by
  unfold ivA at hi
  have e : ∀ k, u2 (u2 (u2 (u2 V c 4 sl) c 5 u) c 6 d) c 3 p c k = mvV V c p c k := by
    intro k
    have h5 : k = 3 ∨ k = 4 ∨ k = 5 ∨ k = 6 ∨ (k ≠ 3 ∧ k ≠ 4 ∧ k ≠ 5 ∧ k ≠ 6) := by omega
    rcases h5 with h | h | h | h | ⟨a, b, c1, c2⟩
    · subst h
      unfold mvV
      split <;> simp (decide := true) only [u2_ap, reduceIte]
    · subst h
      unfold mvV mx mn
      split <;> simp (decide := true) only [u2_ap, reduceIte] <;> (repeat' split at hs) <;> split <;> omega
    · subst h
      unfold mvV
      split <;> simp (decide := true) only [u2_ap, reduceIte] <;> split at hu <;> omega
    · subst h
      unfold mvV
      split <;> simp (decide := true) only [u2_ap, reduceIte] <;> split at hd <;> omega
    · unfold mvV
      split <;> simp only [u2_ap, if_neg a, if_neg b, if_neg c1, if_neg c2, reduceIte]
  funext c'
  by_cases h : c' = c
  · subst h
    funext k
    exact e k
  · rw [u2_ne h, u2_ne h, u2_ne h, u2_ne h, mvV_ne h]
theorem uwG_sp {V : dp_V} : ∀ m k : Nat, (uwG V k m = -1 ∧ ∀ t, k ≤ t → t < k + m → ¬ V (t + 6) 6 = 1) ∨ ∃ t, k ≤ t ∧ t < k + m ∧ uwG V k m = (t : Int) ∧ V (t + 6) 6 = 1 := by
  intro m
  induction m with
  | zero => intro k; exact Or.inl ⟨rfl, fun t h1 h2 => absurd h2 (by omega)⟩
  | succ m ih =>
    intro k
    unfold uwG
    by_cases h : V (k + 6) 6 = 1
    · rw [if_pos h]
      exact Or.inr ⟨k, Nat.le_refl _, by omega, rfl, h⟩
    · rw [if_neg h]
      rcases ih (k + 1) with ⟨a, b⟩ | ⟨t, h1, h2, h3, h4⟩
      · refine Or.inl ⟨a, fun t h1 h2 => ?_⟩
        by_cases e : t = k
        · subst e; exact h
        · exact b t (by omega) (by omega)
      · exact Or.inr ⟨t, by omega, by omega, h3, h4⟩
/-- the reference's target under way -/
def uwN (V : dp_V) (N : Nat) : Int := ftF (uwG V 0 N)
theorem uwN_sp {V : dp_V} {N : Nat} : (uwN V N = -100004 ∧ uwG V 0 N = -1 ∧ ∀ t, t < N → ¬ V (t + 6) 6 = 1) ∨ ∃ t : Nat, t < N ∧ uwN V N = t ∧ uwG V 0 N = t ∧ V (t + 6) 6 = 1 := by
  unfold uwN ftF
  rcases @uwG_sp V N 0 with ⟨a, b⟩ | ⟨t, h1, h2, h3, h4⟩
  · rw [if_pos a]
    exact Or.inl ⟨rfl, a, fun t h => b t (by omega) (by omega)⟩
  · rw [if_neg (by omega)]
    exact Or.inr ⟨t, by omega, h3, h3, h4⟩
theorem uwN_bd {V : dp_V} {N : Nat} (h : N ≤ 10) : -100004 ≤ uwN V N ∧ uwN V N ≤ 10 := by
  rcases @uwN_sp V N with ⟨a, _⟩ | ⟨t, h1, h2, _⟩ <;> omega
theorem uwN_t {V : dp_V} {N : Nat} (h : ¬ uwN V N = -100004) : ∃ t : Nat, t < N ∧ uwN V N = t ∧ uwG V 0 N = t ∧ V (t + 6) 6 = 1 := by
  rcases @uwN_sp V N with ⟨a, _⟩ | q
  · exact absurd a h
  · exact q
def muN (V : dp_V) (N : Nat) : Int := if uwN V N = -100004 then -100004 else V ((uwN V N).toNat + 6) 9 - V 0 0
def coM (V X : dp_V) (N : Nat) (k : Int) : Int := if k = 4 then (N : Int) else if k = 5 then cnG V 0 0 N else if k = 6 then cnG V 2 0 N else if k = 7 then cnG V 3 0 N else if k = 8 then uwN V N else if k = 9 then muN V N else if k = 10 then X 0 0 else if k = 11 then X 0 1 else stT V k
theorem dp_ce1 {j : Nat} (h : j < 4) : dp_ce j = 1 := if_pos h
theorem dp_sl1 {j : Nat} (h : j < 4) : dp_sl j = j := if_pos h
theorem dp_ce0 {j : Nat} (h : ¬ j < 4) (h2 : j < 8) : dp_ce j = 0 := by unfold dp_ce; rw [if_neg h, if_pos h2]
theorem dp_sl0 {j : Nat} (h : ¬ j < 4) (h2 : j < 8) : dp_sl j = j - 4 := by unfold dp_sl; rw [if_neg h, if_pos h2]
theorem wyU_in {c : Nat} {f : Nat → Int} {to ov : Int} (hi : ivA c f) (h1 : -40000 ≤ to ∧ to ≤ 40000) (h2 : 0 ≤ ov ∧ ov ≤ 500) : dp_R (wyU f to ov) := by
  have := wyU_bd hi h1 h2
  exact ⟨by omega, by omega⟩
theorem fnX_T {V X X' : dp_V} {c : Nat} {to : Int} (h : fnX V X c to X') : X' 0 3 = 0 ∨ X' 0 3 = 1 := by rw [h.2.2.1]; exact wyT_b
theorem yyX7_goes : yX7_goes.cls = RX7 ∧ yX7_goes.cls ≠ "java/lang/invoke/MethodHandle" ∧ yX7_goes.cls ≠ "java/lang/invoke/VarHandle" ∧ (parseMethodDescriptor yX7_goes.desc).map (fun d => d.parameters.length) = some 2 := by decide +kernel
set_option maxHeartbeats 4000000 in
set_option maxRecDepth 100000 in
theorem c_X7_goes {E : dp_E} (hE : dp_OK E) (l : Launch) {M : dp_M} {V X : dp_V} {a : Nat} (ha : a < 2) (hi : ivA (a + 3) (V (a + 3))) {to : Int} (hto : -50000 ≤ to ∧ to ≤ 50000) : dp_met E l yX7_goes wsX7_goes 0 0 [.ref (eAd E 8 0), .int (dp_I (a : Int)), .int (dp_I to)] (dN M V X) (dp_qv E (fun M1 => M1 = dN M (mvV V (a + 3) to) X)) := by
  refine dp_of (cc := cX7_goes) (nL := 6) (own := RX7) (ret := none) (by decide +kernel) rfl rfl hE (by simp [Value.category]) (Nat.le_of_ble_eq_true rfl) ?_
  intro p e s m below meth co C hret
  show dp_G _ _ _ _ _ _ _ _ _ _ _ _ _ _ _ _ _ [some (.ref (eAd E 8 0)), some (.int (dp_I (a : Int))), some (.int (dp_I to)), none, none, none] _
  have hX7 : ∀ w ∈ u_ws RX7 TX7 12, w ∈ wsX7_goes := fun w h => List.mem_cons_of_mem _ (List.mem_append_right _ (h))
  have hi2 := hi
  unfold ivA at hi2
  have hb := @ax_bd (a + 3)
  refine dp_bipush C dX7_goes_0 (by decide) ?_
  refine dp_bipush C dX7_goes_2 (by decide) ?_
  refine dp_iload_n C dX7_goes_4 rfl ?_
  refine dp_imul C dX7_goes_5 ?_
  refine dp_iadd C dX7_goes_6 ?_
  refine dp_istore_n C dX7_goes_7 (Nat.le_of_ble_eq_true rfl) ?_
  dsimp only [List.set]
  refine dp_iload_n C dX7_goes_8 rfl ?_
  refine dp_aload_n C dX7_goes_9 rfl ?_
  refine dp_getf C (k := 0) (dp_mM (by decide)) dp_xmo rfl hX7 (by decide) (List.mem_of_getElem? (i := 1) rfl) rfl dX7_goes_10 ?_
  refine dp_iload_n C dX7_goes_13 rfl ?_
  refine dp_iconst C dX7_goes_14 ?_
  refine dp_iadd C dX7_goes_15 ?_
  refine dp_ald_ms C (j := 39 + 7 * a + 3) ⟨by omega, by omega⟩ (by omega) (c9 := (a + 3)) (k9 := 3) (dp_ceA (k := 3) ha (by decide)) (dp_slA (k := 3) ha (by decide)) dX7_goes_16 ?_
  refine dp_isub C dX7_goes_17 ?_
  refine dp_istore C dX7_goes_18 (Nat.le_of_ble_eq_true rfl) ?_
  dsimp only [List.set]
  refine dp_aload_n C dX7_goes_20 rfl ?_
  refine dp_getf C (k := 0) (dp_mM (by decide)) dp_xmo rfl hX7 (by decide) (List.mem_of_getElem? (i := 1) rfl) rfl dX7_goes_21 ?_
  refine dp_iload_n C dX7_goes_24 rfl ?_
  refine dp_iconst C dX7_goes_25 ?_
  refine dp_iadd C dX7_goes_26 ?_
  refine dp_ald_ms C (j := 39 + 7 * a + 4) ⟨by omega, by omega⟩ (by omega) (c9 := (a + 3)) (k9 := 4) (dp_ceA (k := 4) ha (by decide)) (dp_slA (k := 4) ha (by decide)) dX7_goes_27 ?_
  refine dp_iload C dX7_goes_28 rfl ?_
  refine dp_iadd C dX7_goes_30 ?_
  refine dp_istore C dX7_goes_31 (Nat.le_of_ble_eq_true rfl) ?_
  dsimp only [List.set]
  refine dp_aload_n C dX7_goes_33 rfl ?_
  refine dp_getf C (k := 0) (dp_mM (by decide)) dp_xmo rfl hX7 (by decide) (List.mem_of_getElem? (i := 1) rfl) rfl dX7_goes_34 ?_
  refine dp_iload_n C dX7_goes_37 rfl ?_
  refine dp_iconst C dX7_goes_38 ?_
  refine dp_iadd C dX7_goes_39 ?_
  refine dp_iload C dX7_goes_40 rfl ?_
  refine dp_if_ge (tgt := 49) C dX7_goes_42 (by decide) ⟨by omega, by omega⟩ (fun c42 => ?_) (fun c42 => ?_)
  · skip
    refine dp_iload C dX7_goes_49 rfl ?_
    refine dp_aload_n C dX7_goes_51 rfl ?_
    refine dp_getf C (k := 0) (dp_mM (by decide)) dp_xmo rfl hX7 (by decide) (List.mem_of_getElem? (i := 1) rfl) rfl dX7_goes_52 ?_
    refine dp_iload_n C dX7_goes_55 rfl ?_
    refine dp_iconst C dX7_goes_56 ?_
    refine dp_iadd C dX7_goes_57 ?_
    refine dp_ald_ms C (j := 39 + 7 * a + 0) ⟨by omega, by omega⟩ (by omega) (c9 := (a + 3)) (k9 := 0) (dp_ceA (k := 0) ha (by decide)) (dp_slA (k := 0) ha (by decide)) dX7_goes_58 ?_
    refine dp_icmp_le (tgt := 73) C dX7_goes_59 (by decide) ⟨by omega, by omega⟩ ⟨by omega, by omega⟩ (fun c59 => ?_) (fun c59 => ?_)
    · skip
      refine dp_iload C dX7_goes_73 rfl ?_
      refine dp_ast_ms C (j := 39 + 7 * a + 4) ⟨by omega, by omega⟩ (by omega) (c9 := (a + 3)) (k9 := 4) (dp_ceA (k := 4) ha (by decide)) (dp_slA (k := 4) ha (by decide)) dX7_goes_75 ?_
      refine dp_aload_n C dX7_goes_76 rfl ?_
      refine dp_getf C (k := 0) (dp_mM (by decide)) dp_xmo rfl hX7 (by decide) (List.mem_of_getElem? (i := 1) rfl) rfl dX7_goes_77 ?_
      refine dp_iload_n C dX7_goes_80 rfl ?_
      refine dp_iconst C dX7_goes_81 ?_
      refine dp_iadd C dX7_goes_82 ?_
      refine dp_dup2 C dX7_goes_83 rfl rfl ?_
      refine dp_ald_ms C (j := 39 + 7 * a + 5) ⟨by omega, by omega⟩ (by omega) (c9 := (a + 3)) (k9 := 5) (dp_ceA (k := 5) ha (by decide)) (dp_slA (k := 5) ha (by decide)) dX7_goes_84 ?_
      simp (decide := true) only [u2_ap, reduceIte]
      refine dp_iload C dX7_goes_85 rfl ?_
      refine dp_if_le (tgt := 95) C dX7_goes_87 (by decide) ⟨by omega, by omega⟩ (fun c87 => ?_) (fun c87 => ?_)
      · skip
        refine dp_iconst C dX7_goes_95 ?_
        refine dp_iadd C dX7_goes_96 ?_
        refine dp_ast_ms C (j := 39 + 7 * a + 5) ⟨by omega, by omega⟩ (by omega) (c9 := (a + 3)) (k9 := 5) (dp_ceA (k := 5) ha (by decide)) (dp_slA (k := 5) ha (by decide)) dX7_goes_97 ?_
        refine dp_aload_n C dX7_goes_98 rfl ?_
        refine dp_getf C (k := 0) (dp_mM (by decide)) dp_xmo rfl hX7 (by decide) (List.mem_of_getElem? (i := 1) rfl) rfl dX7_goes_99 ?_
        refine dp_iload_n C dX7_goes_102 rfl ?_
        refine dp_bipush C dX7_goes_103 (by decide) ?_
        refine dp_iadd C dX7_goes_105 ?_
        refine dp_dup2 C dX7_goes_106 rfl rfl ?_
        refine dp_ald_ms C (j := 39 + 7 * a + 6) ⟨by omega, by omega⟩ (by omega) (c9 := (a + 3)) (k9 := 6) (dp_ceA (k := 6) ha (by decide)) (dp_slA (k := 6) ha (by decide)) dX7_goes_107 ?_
        simp (decide := true) only [u2_ap, reduceIte]
        refine dp_iload C dX7_goes_108 rfl ?_
        refine dp_if_ge (tgt := 119) C dX7_goes_110 (by decide) ⟨by omega, by omega⟩ (fun c110 => ?_) (fun c110 => ?_)
        · skip
          refine dp_iconst C dX7_goes_119 ?_
          refine dp_iadd C dX7_goes_120 ?_
          refine dp_ast_ms C (j := 39 + 7 * a + 6) ⟨by omega, by omega⟩ (by omega) (c9 := (a + 3)) (k9 := 6) (dp_ceA (k := 6) ha (by decide)) (dp_slA (k := 6) ha (by decide)) dX7_goes_121 ?_
          refine dp_aload_n C dX7_goes_122 rfl ?_
          refine dp_getf C (k := 0) (dp_mM (by decide)) dp_xmo rfl hX7 (by decide) (List.mem_of_getElem? (i := 1) rfl) rfl dX7_goes_123 ?_
          refine dp_iload_n C dX7_goes_126 rfl ?_
          refine dp_iconst C dX7_goes_127 ?_
          refine dp_iadd C dX7_goes_128 ?_
          refine dp_iload_n C dX7_goes_129 rfl ?_
          refine dp_ast_ms C (j := 39 + 7 * a + 3) ⟨by omega, by omega⟩ (by omega) (c9 := (a + 3)) (k9 := 3) (dp_ceA (k := 3) ha (by decide)) (dp_slA (k := 3) ha (by decide)) dX7_goes_130 ?_
          refine dp_vret C hret dX7_goes_131 ?_
          exact congrArg (fun q => dN M q X) (go_eq hi (by (repeat' split) <;> omega) (by split <;> omega) (by split <;> omega))
        · skip
          refine dp_iload C dX7_goes_113 rfl ?_
          refine dp_ineg C dX7_goes_115 ?_
          refine dp_goto (tgt := 120) C dX7_goes_116 (by decide) ?_
          refine dp_iadd C dX7_goes_120 ?_
          refine dp_ast_ms C (j := 39 + 7 * a + 6) ⟨by omega, by omega⟩ (by omega) (c9 := (a + 3)) (k9 := 6) (dp_ceA (k := 6) ha (by decide)) (dp_slA (k := 6) ha (by decide)) dX7_goes_121 ?_
          refine dp_aload_n C dX7_goes_122 rfl ?_
          refine dp_getf C (k := 0) (dp_mM (by decide)) dp_xmo rfl hX7 (by decide) (List.mem_of_getElem? (i := 1) rfl) rfl dX7_goes_123 ?_
          refine dp_iload_n C dX7_goes_126 rfl ?_
          refine dp_iconst C dX7_goes_127 ?_
          refine dp_iadd C dX7_goes_128 ?_
          refine dp_iload_n C dX7_goes_129 rfl ?_
          refine dp_ast_ms C (j := 39 + 7 * a + 3) ⟨by omega, by omega⟩ (by omega) (c9 := (a + 3)) (k9 := 3) (dp_ceA (k := 3) ha (by decide)) (dp_slA (k := 3) ha (by decide)) dX7_goes_130 ?_
          refine dp_vret C hret dX7_goes_131 ?_
          exact congrArg (fun q => dN M q X) (go_eq hi (by (repeat' split) <;> omega) (by split <;> omega) (by split <;> omega))
      · skip
        refine dp_iload C dX7_goes_90 rfl ?_
        refine dp_goto (tgt := 96) C dX7_goes_92 (by decide) ?_
        refine dp_iadd C dX7_goes_96 ?_
        refine dp_ast_ms C (j := 39 + 7 * a + 5) ⟨by omega, by omega⟩ (by omega) (c9 := (a + 3)) (k9 := 5) (dp_ceA (k := 5) ha (by decide)) (dp_slA (k := 5) ha (by decide)) dX7_goes_97 ?_
        refine dp_aload_n C dX7_goes_98 rfl ?_
        refine dp_getf C (k := 0) (dp_mM (by decide)) dp_xmo rfl hX7 (by decide) (List.mem_of_getElem? (i := 1) rfl) rfl dX7_goes_99 ?_
        refine dp_iload_n C dX7_goes_102 rfl ?_
        refine dp_bipush C dX7_goes_103 (by decide) ?_
        refine dp_iadd C dX7_goes_105 ?_
        refine dp_dup2 C dX7_goes_106 rfl rfl ?_
        refine dp_ald_ms C (j := 39 + 7 * a + 6) ⟨by omega, by omega⟩ (by omega) (c9 := (a + 3)) (k9 := 6) (dp_ceA (k := 6) ha (by decide)) (dp_slA (k := 6) ha (by decide)) dX7_goes_107 ?_
        simp (decide := true) only [u2_ap, reduceIte]
        refine dp_iload C dX7_goes_108 rfl ?_
        refine dp_if_ge (tgt := 119) C dX7_goes_110 (by decide) ⟨by omega, by omega⟩ (fun c110 => ?_) (fun c110 => ?_)
        · skip
          refine dp_iconst C dX7_goes_119 ?_
          refine dp_iadd C dX7_goes_120 ?_
          refine dp_ast_ms C (j := 39 + 7 * a + 6) ⟨by omega, by omega⟩ (by omega) (c9 := (a + 3)) (k9 := 6) (dp_ceA (k := 6) ha (by decide)) (dp_slA (k := 6) ha (by decide)) dX7_goes_121 ?_
          refine dp_aload_n C dX7_goes_122 rfl ?_
          refine dp_getf C (k := 0) (dp_mM (by decide)) dp_xmo rfl hX7 (by decide) (List.mem_of_getElem? (i := 1) rfl) rfl dX7_goes_123 ?_
          refine dp_iload_n C dX7_goes_126 rfl ?_
          refine dp_iconst C dX7_goes_127 ?_
          refine dp_iadd C dX7_goes_128 ?_
          refine dp_iload_n C dX7_goes_129 rfl ?_
          refine dp_ast_ms C (j := 39 + 7 * a + 3) ⟨by omega, by omega⟩ (by omega) (c9 := (a + 3)) (k9 := 3) (dp_ceA (k := 3) ha (by decide)) (dp_slA (k := 3) ha (by decide)) dX7_goes_130 ?_
          refine dp_vret C hret dX7_goes_131 ?_
          exact congrArg (fun q => dN M q X) (go_eq hi (by (repeat' split) <;> omega) (by split <;> omega) (by split <;> omega))
        · skip
          refine dp_iload C dX7_goes_113 rfl ?_
          refine dp_ineg C dX7_goes_115 ?_
          refine dp_goto (tgt := 120) C dX7_goes_116 (by decide) ?_
          refine dp_iadd C dX7_goes_120 ?_
          refine dp_ast_ms C (j := 39 + 7 * a + 6) ⟨by omega, by omega⟩ (by omega) (c9 := (a + 3)) (k9 := 6) (dp_ceA (k := 6) ha (by decide)) (dp_slA (k := 6) ha (by decide)) dX7_goes_121 ?_
          refine dp_aload_n C dX7_goes_122 rfl ?_
          refine dp_getf C (k := 0) (dp_mM (by decide)) dp_xmo rfl hX7 (by decide) (List.mem_of_getElem? (i := 1) rfl) rfl dX7_goes_123 ?_
          refine dp_iload_n C dX7_goes_126 rfl ?_
          refine dp_iconst C dX7_goes_127 ?_
          refine dp_iadd C dX7_goes_128 ?_
          refine dp_iload_n C dX7_goes_129 rfl ?_
          refine dp_ast_ms C (j := 39 + 7 * a + 3) ⟨by omega, by omega⟩ (by omega) (c9 := (a + 3)) (k9 := 3) (dp_ceA (k := 3) ha (by decide)) (dp_slA (k := 3) ha (by decide)) dX7_goes_130 ?_
          refine dp_vret C hret dX7_goes_131 ?_
          exact congrArg (fun q => dN M q X) (go_eq hi (by (repeat' split) <;> omega) (by split <;> omega) (by split <;> omega))
    · skip
      refine dp_aload_n C dX7_goes_62 rfl ?_
      refine dp_getf C (k := 0) (dp_mM (by decide)) dp_xmo rfl hX7 (by decide) (List.mem_of_getElem? (i := 1) rfl) rfl dX7_goes_63 ?_
      refine dp_iload_n C dX7_goes_66 rfl ?_
      refine dp_iconst C dX7_goes_67 ?_
      refine dp_iadd C dX7_goes_68 ?_
      refine dp_ald_ms C (j := 39 + 7 * a + 0) ⟨by omega, by omega⟩ (by omega) (c9 := (a + 3)) (k9 := 0) (dp_ceA (k := 0) ha (by decide)) (dp_slA (k := 0) ha (by decide)) dX7_goes_69 ?_
      refine dp_goto (tgt := 75) C dX7_goes_70 (by decide) ?_
      refine dp_ast_ms C (j := 39 + 7 * a + 4) ⟨by omega, by omega⟩ (by omega) (c9 := (a + 3)) (k9 := 4) (dp_ceA (k := 4) ha (by decide)) (dp_slA (k := 4) ha (by decide)) dX7_goes_75 ?_
      refine dp_aload_n C dX7_goes_76 rfl ?_
      refine dp_getf C (k := 0) (dp_mM (by decide)) dp_xmo rfl hX7 (by decide) (List.mem_of_getElem? (i := 1) rfl) rfl dX7_goes_77 ?_
      refine dp_iload_n C dX7_goes_80 rfl ?_
      refine dp_iconst C dX7_goes_81 ?_
      refine dp_iadd C dX7_goes_82 ?_
      refine dp_dup2 C dX7_goes_83 rfl rfl ?_
      refine dp_ald_ms C (j := 39 + 7 * a + 5) ⟨by omega, by omega⟩ (by omega) (c9 := (a + 3)) (k9 := 5) (dp_ceA (k := 5) ha (by decide)) (dp_slA (k := 5) ha (by decide)) dX7_goes_84 ?_
      simp (decide := true) only [u2_ap, reduceIte]
      refine dp_iload C dX7_goes_85 rfl ?_
      refine dp_if_le (tgt := 95) C dX7_goes_87 (by decide) ⟨by omega, by omega⟩ (fun c87 => ?_) (fun c87 => ?_)
      · skip
        refine dp_iconst C dX7_goes_95 ?_
        refine dp_iadd C dX7_goes_96 ?_
        refine dp_ast_ms C (j := 39 + 7 * a + 5) ⟨by omega, by omega⟩ (by omega) (c9 := (a + 3)) (k9 := 5) (dp_ceA (k := 5) ha (by decide)) (dp_slA (k := 5) ha (by decide)) dX7_goes_97 ?_
        refine dp_aload_n C dX7_goes_98 rfl ?_
        refine dp_getf C (k := 0) (dp_mM (by decide)) dp_xmo rfl hX7 (by decide) (List.mem_of_getElem? (i := 1) rfl) rfl dX7_goes_99 ?_
        refine dp_iload_n C dX7_goes_102 rfl ?_
        refine dp_bipush C dX7_goes_103 (by decide) ?_
        refine dp_iadd C dX7_goes_105 ?_
        refine dp_dup2 C dX7_goes_106 rfl rfl ?_
        refine dp_ald_ms C (j := 39 + 7 * a + 6) ⟨by omega, by omega⟩ (by omega) (c9 := (a + 3)) (k9 := 6) (dp_ceA (k := 6) ha (by decide)) (dp_slA (k := 6) ha (by decide)) dX7_goes_107 ?_
        simp (decide := true) only [u2_ap, reduceIte]
        refine dp_iload C dX7_goes_108 rfl ?_
        refine dp_if_ge (tgt := 119) C dX7_goes_110 (by decide) ⟨by omega, by omega⟩ (fun c110 => ?_) (fun c110 => ?_)
        · skip
          refine dp_iconst C dX7_goes_119 ?_
          refine dp_iadd C dX7_goes_120 ?_
          refine dp_ast_ms C (j := 39 + 7 * a + 6) ⟨by omega, by omega⟩ (by omega) (c9 := (a + 3)) (k9 := 6) (dp_ceA (k := 6) ha (by decide)) (dp_slA (k := 6) ha (by decide)) dX7_goes_121 ?_
          refine dp_aload_n C dX7_goes_122 rfl ?_
          refine dp_getf C (k := 0) (dp_mM (by decide)) dp_xmo rfl hX7 (by decide) (List.mem_of_getElem? (i := 1) rfl) rfl dX7_goes_123 ?_
          refine dp_iload_n C dX7_goes_126 rfl ?_
          refine dp_iconst C dX7_goes_127 ?_
          refine dp_iadd C dX7_goes_128 ?_
          refine dp_iload_n C dX7_goes_129 rfl ?_
          refine dp_ast_ms C (j := 39 + 7 * a + 3) ⟨by omega, by omega⟩ (by omega) (c9 := (a + 3)) (k9 := 3) (dp_ceA (k := 3) ha (by decide)) (dp_slA (k := 3) ha (by decide)) dX7_goes_130 ?_
          refine dp_vret C hret dX7_goes_131 ?_
          exact congrArg (fun q => dN M q X) (go_eq hi (by (repeat' split) <;> omega) (by split <;> omega) (by split <;> omega))
        · skip
          refine dp_iload C dX7_goes_113 rfl ?_
          refine dp_ineg C dX7_goes_115 ?_
          refine dp_goto (tgt := 120) C dX7_goes_116 (by decide) ?_
          refine dp_iadd C dX7_goes_120 ?_
          refine dp_ast_ms C (j := 39 + 7 * a + 6) ⟨by omega, by omega⟩ (by omega) (c9 := (a + 3)) (k9 := 6) (dp_ceA (k := 6) ha (by decide)) (dp_slA (k := 6) ha (by decide)) dX7_goes_121 ?_
          refine dp_aload_n C dX7_goes_122 rfl ?_
          refine dp_getf C (k := 0) (dp_mM (by decide)) dp_xmo rfl hX7 (by decide) (List.mem_of_getElem? (i := 1) rfl) rfl dX7_goes_123 ?_
          refine dp_iload_n C dX7_goes_126 rfl ?_
          refine dp_iconst C dX7_goes_127 ?_
          refine dp_iadd C dX7_goes_128 ?_
          refine dp_iload_n C dX7_goes_129 rfl ?_
          refine dp_ast_ms C (j := 39 + 7 * a + 3) ⟨by omega, by omega⟩ (by omega) (c9 := (a + 3)) (k9 := 3) (dp_ceA (k := 3) ha (by decide)) (dp_slA (k := 3) ha (by decide)) dX7_goes_130 ?_
          refine dp_vret C hret dX7_goes_131 ?_
          exact congrArg (fun q => dN M q X) (go_eq hi (by (repeat' split) <;> omega) (by split <;> omega) (by split <;> omega))
      · skip
        refine dp_iload C dX7_goes_90 rfl ?_
        refine dp_goto (tgt := 96) C dX7_goes_92 (by decide) ?_
        refine dp_iadd C dX7_goes_96 ?_
        refine dp_ast_ms C (j := 39 + 7 * a + 5) ⟨by omega, by omega⟩ (by omega) (c9 := (a + 3)) (k9 := 5) (dp_ceA (k := 5) ha (by decide)) (dp_slA (k := 5) ha (by decide)) dX7_goes_97 ?_
        refine dp_aload_n C dX7_goes_98 rfl ?_
        refine dp_getf C (k := 0) (dp_mM (by decide)) dp_xmo rfl hX7 (by decide) (List.mem_of_getElem? (i := 1) rfl) rfl dX7_goes_99 ?_
        refine dp_iload_n C dX7_goes_102 rfl ?_
        refine dp_bipush C dX7_goes_103 (by decide) ?_
        refine dp_iadd C dX7_goes_105 ?_
        refine dp_dup2 C dX7_goes_106 rfl rfl ?_
        refine dp_ald_ms C (j := 39 + 7 * a + 6) ⟨by omega, by omega⟩ (by omega) (c9 := (a + 3)) (k9 := 6) (dp_ceA (k := 6) ha (by decide)) (dp_slA (k := 6) ha (by decide)) dX7_goes_107 ?_
        simp (decide := true) only [u2_ap, reduceIte]
        refine dp_iload C dX7_goes_108 rfl ?_
        refine dp_if_ge (tgt := 119) C dX7_goes_110 (by decide) ⟨by omega, by omega⟩ (fun c110 => ?_) (fun c110 => ?_)
        · skip
          refine dp_iconst C dX7_goes_119 ?_
          refine dp_iadd C dX7_goes_120 ?_
          refine dp_ast_ms C (j := 39 + 7 * a + 6) ⟨by omega, by omega⟩ (by omega) (c9 := (a + 3)) (k9 := 6) (dp_ceA (k := 6) ha (by decide)) (dp_slA (k := 6) ha (by decide)) dX7_goes_121 ?_
          refine dp_aload_n C dX7_goes_122 rfl ?_
          refine dp_getf C (k := 0) (dp_mM (by decide)) dp_xmo rfl hX7 (by decide) (List.mem_of_getElem? (i := 1) rfl) rfl dX7_goes_123 ?_
          refine dp_iload_n C dX7_goes_126 rfl ?_
          refine dp_iconst C dX7_goes_127 ?_
          refine dp_iadd C dX7_goes_128 ?_
          refine dp_iload_n C dX7_goes_129 rfl ?_
          refine dp_ast_ms C (j := 39 + 7 * a + 3) ⟨by omega, by omega⟩ (by omega) (c9 := (a + 3)) (k9 := 3) (dp_ceA (k := 3) ha (by decide)) (dp_slA (k := 3) ha (by decide)) dX7_goes_130 ?_
          refine dp_vret C hret dX7_goes_131 ?_
          exact congrArg (fun q => dN M q X) (go_eq hi (by (repeat' split) <;> omega) (by split <;> omega) (by split <;> omega))
        · skip
          refine dp_iload C dX7_goes_113 rfl ?_
          refine dp_ineg C dX7_goes_115 ?_
          refine dp_goto (tgt := 120) C dX7_goes_116 (by decide) ?_
          refine dp_iadd C dX7_goes_120 ?_
          refine dp_ast_ms C (j := 39 + 7 * a + 6) ⟨by omega, by omega⟩ (by omega) (c9 := (a + 3)) (k9 := 6) (dp_ceA (k := 6) ha (by decide)) (dp_slA (k := 6) ha (by decide)) dX7_goes_121 ?_
          refine dp_aload_n C dX7_goes_122 rfl ?_
          refine dp_getf C (k := 0) (dp_mM (by decide)) dp_xmo rfl hX7 (by decide) (List.mem_of_getElem? (i := 1) rfl) rfl dX7_goes_123 ?_
          refine dp_iload_n C dX7_goes_126 rfl ?_
          refine dp_iconst C dX7_goes_127 ?_
          refine dp_iadd C dX7_goes_128 ?_
          refine dp_iload_n C dX7_goes_129 rfl ?_
          refine dp_ast_ms C (j := 39 + 7 * a + 3) ⟨by omega, by omega⟩ (by omega) (c9 := (a + 3)) (k9 := 3) (dp_ceA (k := 3) ha (by decide)) (dp_slA (k := 3) ha (by decide)) dX7_goes_130 ?_
          refine dp_vret C hret dX7_goes_131 ?_
          exact congrArg (fun q => dN M q X) (go_eq hi (by (repeat' split) <;> omega) (by split <;> omega) (by split <;> omega))
  · skip
    refine dp_iconst C dX7_goes_45 ?_
    refine dp_goto (tgt := 75) C dX7_goes_46 (by decide) ?_
    refine dp_ast_ms C (j := 39 + 7 * a + 4) ⟨by omega, by omega⟩ (by omega) (c9 := (a + 3)) (k9 := 4) (dp_ceA (k := 4) ha (by decide)) (dp_slA (k := 4) ha (by decide)) dX7_goes_75 ?_
    refine dp_aload_n C dX7_goes_76 rfl ?_
    refine dp_getf C (k := 0) (dp_mM (by decide)) dp_xmo rfl hX7 (by decide) (List.mem_of_getElem? (i := 1) rfl) rfl dX7_goes_77 ?_
    refine dp_iload_n C dX7_goes_80 rfl ?_
    refine dp_iconst C dX7_goes_81 ?_
    refine dp_iadd C dX7_goes_82 ?_
    refine dp_dup2 C dX7_goes_83 rfl rfl ?_
    refine dp_ald_ms C (j := 39 + 7 * a + 5) ⟨by omega, by omega⟩ (by omega) (c9 := (a + 3)) (k9 := 5) (dp_ceA (k := 5) ha (by decide)) (dp_slA (k := 5) ha (by decide)) dX7_goes_84 ?_
    simp (decide := true) only [u2_ap, reduceIte]
    refine dp_iload C dX7_goes_85 rfl ?_
    refine dp_if_le (tgt := 95) C dX7_goes_87 (by decide) ⟨by omega, by omega⟩ (fun c87 => ?_) (fun c87 => ?_)
    · skip
      refine dp_iconst C dX7_goes_95 ?_
      refine dp_iadd C dX7_goes_96 ?_
      refine dp_ast_ms C (j := 39 + 7 * a + 5) ⟨by omega, by omega⟩ (by omega) (c9 := (a + 3)) (k9 := 5) (dp_ceA (k := 5) ha (by decide)) (dp_slA (k := 5) ha (by decide)) dX7_goes_97 ?_
      refine dp_aload_n C dX7_goes_98 rfl ?_
      refine dp_getf C (k := 0) (dp_mM (by decide)) dp_xmo rfl hX7 (by decide) (List.mem_of_getElem? (i := 1) rfl) rfl dX7_goes_99 ?_
      refine dp_iload_n C dX7_goes_102 rfl ?_
      refine dp_bipush C dX7_goes_103 (by decide) ?_
      refine dp_iadd C dX7_goes_105 ?_
      refine dp_dup2 C dX7_goes_106 rfl rfl ?_
      refine dp_ald_ms C (j := 39 + 7 * a + 6) ⟨by omega, by omega⟩ (by omega) (c9 := (a + 3)) (k9 := 6) (dp_ceA (k := 6) ha (by decide)) (dp_slA (k := 6) ha (by decide)) dX7_goes_107 ?_
      simp (decide := true) only [u2_ap, reduceIte]
      refine dp_iload C dX7_goes_108 rfl ?_
      refine dp_if_ge (tgt := 119) C dX7_goes_110 (by decide) ⟨by omega, by omega⟩ (fun c110 => ?_) (fun c110 => ?_)
      · skip
        refine dp_iconst C dX7_goes_119 ?_
        refine dp_iadd C dX7_goes_120 ?_
        refine dp_ast_ms C (j := 39 + 7 * a + 6) ⟨by omega, by omega⟩ (by omega) (c9 := (a + 3)) (k9 := 6) (dp_ceA (k := 6) ha (by decide)) (dp_slA (k := 6) ha (by decide)) dX7_goes_121 ?_
        refine dp_aload_n C dX7_goes_122 rfl ?_
        refine dp_getf C (k := 0) (dp_mM (by decide)) dp_xmo rfl hX7 (by decide) (List.mem_of_getElem? (i := 1) rfl) rfl dX7_goes_123 ?_
        refine dp_iload_n C dX7_goes_126 rfl ?_
        refine dp_iconst C dX7_goes_127 ?_
        refine dp_iadd C dX7_goes_128 ?_
        refine dp_iload_n C dX7_goes_129 rfl ?_
        refine dp_ast_ms C (j := 39 + 7 * a + 3) ⟨by omega, by omega⟩ (by omega) (c9 := (a + 3)) (k9 := 3) (dp_ceA (k := 3) ha (by decide)) (dp_slA (k := 3) ha (by decide)) dX7_goes_130 ?_
        refine dp_vret C hret dX7_goes_131 ?_
        exact congrArg (fun q => dN M q X) (go_eq hi (by (repeat' split) <;> omega) (by split <;> omega) (by split <;> omega))
      · skip
        refine dp_iload C dX7_goes_113 rfl ?_
        refine dp_ineg C dX7_goes_115 ?_
        refine dp_goto (tgt := 120) C dX7_goes_116 (by decide) ?_
        refine dp_iadd C dX7_goes_120 ?_
        refine dp_ast_ms C (j := 39 + 7 * a + 6) ⟨by omega, by omega⟩ (by omega) (c9 := (a + 3)) (k9 := 6) (dp_ceA (k := 6) ha (by decide)) (dp_slA (k := 6) ha (by decide)) dX7_goes_121 ?_
        refine dp_aload_n C dX7_goes_122 rfl ?_
        refine dp_getf C (k := 0) (dp_mM (by decide)) dp_xmo rfl hX7 (by decide) (List.mem_of_getElem? (i := 1) rfl) rfl dX7_goes_123 ?_
        refine dp_iload_n C dX7_goes_126 rfl ?_
        refine dp_iconst C dX7_goes_127 ?_
        refine dp_iadd C dX7_goes_128 ?_
        refine dp_iload_n C dX7_goes_129 rfl ?_
        refine dp_ast_ms C (j := 39 + 7 * a + 3) ⟨by omega, by omega⟩ (by omega) (c9 := (a + 3)) (k9 := 3) (dp_ceA (k := 3) ha (by decide)) (dp_slA (k := 3) ha (by decide)) dX7_goes_130 ?_
        refine dp_vret C hret dX7_goes_131 ?_
        exact congrArg (fun q => dN M q X) (go_eq hi (by (repeat' split) <;> omega) (by split <;> omega) (by split <;> omega))
    · skip
      refine dp_iload C dX7_goes_90 rfl ?_
      refine dp_goto (tgt := 96) C dX7_goes_92 (by decide) ?_
      refine dp_iadd C dX7_goes_96 ?_
      refine dp_ast_ms C (j := 39 + 7 * a + 5) ⟨by omega, by omega⟩ (by omega) (c9 := (a + 3)) (k9 := 5) (dp_ceA (k := 5) ha (by decide)) (dp_slA (k := 5) ha (by decide)) dX7_goes_97 ?_
      refine dp_aload_n C dX7_goes_98 rfl ?_
      refine dp_getf C (k := 0) (dp_mM (by decide)) dp_xmo rfl hX7 (by decide) (List.mem_of_getElem? (i := 1) rfl) rfl dX7_goes_99 ?_
      refine dp_iload_n C dX7_goes_102 rfl ?_
      refine dp_bipush C dX7_goes_103 (by decide) ?_
      refine dp_iadd C dX7_goes_105 ?_
      refine dp_dup2 C dX7_goes_106 rfl rfl ?_
      refine dp_ald_ms C (j := 39 + 7 * a + 6) ⟨by omega, by omega⟩ (by omega) (c9 := (a + 3)) (k9 := 6) (dp_ceA (k := 6) ha (by decide)) (dp_slA (k := 6) ha (by decide)) dX7_goes_107 ?_
      simp (decide := true) only [u2_ap, reduceIte]
      refine dp_iload C dX7_goes_108 rfl ?_
      refine dp_if_ge (tgt := 119) C dX7_goes_110 (by decide) ⟨by omega, by omega⟩ (fun c110 => ?_) (fun c110 => ?_)
      · skip
        refine dp_iconst C dX7_goes_119 ?_
        refine dp_iadd C dX7_goes_120 ?_
        refine dp_ast_ms C (j := 39 + 7 * a + 6) ⟨by omega, by omega⟩ (by omega) (c9 := (a + 3)) (k9 := 6) (dp_ceA (k := 6) ha (by decide)) (dp_slA (k := 6) ha (by decide)) dX7_goes_121 ?_
        refine dp_aload_n C dX7_goes_122 rfl ?_
        refine dp_getf C (k := 0) (dp_mM (by decide)) dp_xmo rfl hX7 (by decide) (List.mem_of_getElem? (i := 1) rfl) rfl dX7_goes_123 ?_
        refine dp_iload_n C dX7_goes_126 rfl ?_
        refine dp_iconst C dX7_goes_127 ?_
        refine dp_iadd C dX7_goes_128 ?_
        refine dp_iload_n C dX7_goes_129 rfl ?_
        refine dp_ast_ms C (j := 39 + 7 * a + 3) ⟨by omega, by omega⟩ (by omega) (c9 := (a + 3)) (k9 := 3) (dp_ceA (k := 3) ha (by decide)) (dp_slA (k := 3) ha (by decide)) dX7_goes_130 ?_
        refine dp_vret C hret dX7_goes_131 ?_
        exact congrArg (fun q => dN M q X) (go_eq hi (by (repeat' split) <;> omega) (by split <;> omega) (by split <;> omega))
      · skip
        refine dp_iload C dX7_goes_113 rfl ?_
        refine dp_ineg C dX7_goes_115 ?_
        refine dp_goto (tgt := 120) C dX7_goes_116 (by decide) ?_
        refine dp_iadd C dX7_goes_120 ?_
        refine dp_ast_ms C (j := 39 + 7 * a + 6) ⟨by omega, by omega⟩ (by omega) (c9 := (a + 3)) (k9 := 6) (dp_ceA (k := 6) ha (by decide)) (dp_slA (k := 6) ha (by decide)) dX7_goes_121 ?_
        refine dp_aload_n C dX7_goes_122 rfl ?_
        refine dp_getf C (k := 0) (dp_mM (by decide)) dp_xmo rfl hX7 (by decide) (List.mem_of_getElem? (i := 1) rfl) rfl dX7_goes_123 ?_
        refine dp_iload_n C dX7_goes_126 rfl ?_
        refine dp_iconst C dX7_goes_127 ?_
        refine dp_iadd C dX7_goes_128 ?_
        refine dp_iload_n C dX7_goes_129 rfl ?_
        refine dp_ast_ms C (j := 39 + 7 * a + 3) ⟨by omega, by omega⟩ (by omega) (c9 := (a + 3)) (k9 := 3) (dp_ceA (k := 3) ha (by decide)) (dp_slA (k := 3) ha (by decide)) dX7_goes_130 ?_
        refine dp_vret C hret dX7_goes_131 ?_
        exact congrArg (fun q => dN M q X) (go_eq hi (by (repeat' split) <;> omega) (by split <;> omega) (by split <;> omega))
theorem yyX7_leads : yX7_leads.cls = RX7 ∧ yX7_leads.cls ≠ "java/lang/invoke/MethodHandle" ∧ yX7_leads.cls ≠ "java/lang/invoke/VarHandle" ∧ (parseMethodDescriptor yX7_leads.desc).map (fun d => d.parameters.length) = some 2 := by decide +kernel
set_option maxHeartbeats 4000000 in
set_option maxRecDepth 100000 in
theorem c_X7_leads {E : dp_E} (hE : dp_OK E) (l : Launch) {M : dp_M} {V X : dp_V} {a : Nat} (ha : a < 2) (hi : ivA (a + 3) (V (a + 3))) (ho : 0 ≤ V 1 0 ∧ V 1 0 ≤ 500) {to : Int} (hto : -40000 ≤ to ∧ to ≤ 40000) (hp : ¬ wyP (a + 3) (V (a + 3)) to (V 1 0) = 0) : dp_met E l yX7_leads wsX7_leads 3 69 [.ref (eAd E 8 0), .int (dp_I (a : Int)), .int (dp_I to)] (dN M V X) (dp_qv E (fun M1 => ∃ X', M1 = dN M (foV V (a + 3) to) X' ∧ scr X X')) := by
  refine dp_of (cc := cX7_leads) (nL := 4) (own := RX7) (ret := none) (by decide +kernel) rfl rfl hE (by simp [Value.category]) (Nat.le_of_ble_eq_true rfl) ?_
  intro p e s m below meth co C hret
  show dp_G _ _ _ _ _ _ _ _ _ _ _ _ _ _ _ _ _ [some (.ref (eAd E 8 0)), some (.int (dp_I (a : Int))), some (.int (dp_I to)), none] _
  have hX7 : ∀ w ∈ u_ws RX7 TX7 12, w ∈ wsX7_leads := fun w h => List.mem_cons_of_mem _ (List.mem_append_right _ (h))
  have hP := wyP_yes hp
  have bE := wyE_bd hi hto
  have bU := wyU_bd hi hto ho
  have iU := mvV_iv hi hP.1
  have hb := @ax_bd (a + 3)
  refine dp_aload_n C dX7_leads_0 rfl ?_
  refine dp_iload_n C dX7_leads_1 rfl ?_
  refine dp_iload_n C dX7_leads_2 rfl ?_
  refine dp_cVv C (c_X7_finds C.2.2.1 l ha hi ho hto) gX7_leads_X7_finds rfl (dp_mM (by decide)) dp_xmo rfl yyX7_finds rfl ⟨Nat.le_of_ble_eq_true rfl, Nat.le_of_ble_eq_true rfl⟩ rfl (Nat.le_of_ble_eq_true rfl) rfl ⟨Nat.zero_le _, Nat.zero_le _⟩ dX7_leads_3 (fun M3 h3 => ?_)
  obtain ⟨X1, rfl, hX1⟩ := h3
  have bb := fnX_T hX1
  obtain ⟨hs1, e2, e3, e4⟩ := hX1
  refine dp_aload_n C dX7_leads_6 rfl ?_
  refine dp_getf C (k := 8) (dp_mM (by decide)) dp_xmo rfl hX7 (by decide) (List.mem_of_getElem? (i := 1) rfl) rfl dX7_leads_7 ?_
  rw [e4]
  refine dp_istore_n C dX7_leads_10 (Nat.le_of_ble_eq_true rfl) ?_
  dsimp only [List.set]
  refine dp_aload_n C dX7_leads_11 rfl ?_
  refine dp_getf C (k := 7) (dp_mM (by decide)) dp_xmo rfl hX7 (by decide) (List.mem_of_getElem? (i := 2) rfl) rfl dX7_leads_12 ?_
  refine dp_if_eq (tgt := 27) C dX7_leads_15 (by decide) ⟨by omega, by omega⟩ (fun c15 => ?_) (fun c15 => ?_)
  · skip
    refine dp_aload_n C dX7_leads_27 rfl ?_
    refine dp_iload_n C dX7_leads_28 rfl ?_
    refine dp_iload_n C dX7_leads_29 rfl ?_
    first | refine dp_cVv C (c_X7_goes C.2.2.1 l ha iU (show -50000 ≤ wyE (V (a + 3)) to ∧ wyE (V (a + 3)) to ≤ 50000 by omega)) gX7_leads_X7_goes rfl (dp_mM (by decide)) dp_xmo rfl yyX7_goes rfl ⟨Nat.le_of_ble_eq_true rfl, Nat.le_of_ble_eq_true rfl⟩ rfl (Nat.le_of_ble_eq_true rfl) rfl ⟨Nat.zero_le _, Nat.zero_le _⟩ dX7_leads_30 (fun M30 h30 => ?_) | refine dp_cVv C (c_X7_goes C.2.2.1 l ha hi (show -50000 ≤ wyE (V (a + 3)) to ∧ wyE (V (a + 3)) to ≤ 50000 by omega)) gX7_leads_X7_goes rfl (dp_mM (by decide)) dp_xmo rfl yyX7_goes rfl ⟨Nat.le_of_ble_eq_true rfl, Nat.le_of_ble_eq_true rfl⟩ rfl (Nat.le_of_ble_eq_true rfl) rfl ⟨Nat.zero_le _, Nat.zero_le _⟩ dX7_leads_30 (fun M30 h30 => ?_)
    obtain rfl := h30
    refine dp_vret C hret dX7_leads_33 ?_
    have eU : wyT (V (a + 3)) to = 0 → mvV V (a + 3) (wyU (V (a + 3)) to (V 1 0)) = V := fun q => by unfold wyU; rw [if_pos q]; exact mvV_same hi
    refine ⟨X1, ?_, hs1⟩
    unfold foV
    first | rfl | (rw [eU (by omega)])
  · skip
    refine dp_aload_n C dX7_leads_18 rfl ?_
    refine dp_iload_n C dX7_leads_19 rfl ?_
    refine dp_aload_n C dX7_leads_20 rfl ?_
    refine dp_getf C (k := 6) (dp_mM (by decide)) dp_xmo rfl hX7 (by decide) (List.mem_of_getElem? (i := 3) rfl) rfl dX7_leads_21 ?_
    rw [e2]
    refine dp_cVv C (c_X7_goes C.2.2.1 l ha hi (by omega)) gX7_leads_X7_goes rfl (dp_mM (by decide)) dp_xmo rfl yyX7_goes rfl ⟨Nat.le_of_ble_eq_true rfl, Nat.le_of_ble_eq_true rfl⟩ rfl (Nat.le_of_ble_eq_true rfl) rfl ⟨Nat.zero_le _, Nat.zero_le _⟩ dX7_leads_24 (fun M24 h24 => ?_)
    obtain rfl := h24
    refine dp_aload_n C dX7_leads_27 rfl ?_
    refine dp_iload_n C dX7_leads_28 rfl ?_
    refine dp_iload_n C dX7_leads_29 rfl ?_
    first | refine dp_cVv C (c_X7_goes C.2.2.1 l ha iU (show -50000 ≤ wyE (V (a + 3)) to ∧ wyE (V (a + 3)) to ≤ 50000 by omega)) gX7_leads_X7_goes rfl (dp_mM (by decide)) dp_xmo rfl yyX7_goes rfl ⟨Nat.le_of_ble_eq_true rfl, Nat.le_of_ble_eq_true rfl⟩ rfl (Nat.le_of_ble_eq_true rfl) rfl ⟨Nat.zero_le _, Nat.zero_le _⟩ dX7_leads_30 (fun M30 h30 => ?_) | refine dp_cVv C (c_X7_goes C.2.2.1 l ha hi (show -50000 ≤ wyE (V (a + 3)) to ∧ wyE (V (a + 3)) to ≤ 50000 by omega)) gX7_leads_X7_goes rfl (dp_mM (by decide)) dp_xmo rfl yyX7_goes rfl ⟨Nat.le_of_ble_eq_true rfl, Nat.le_of_ble_eq_true rfl⟩ rfl (Nat.le_of_ble_eq_true rfl) rfl ⟨Nat.zero_le _, Nat.zero_le _⟩ dX7_leads_30 (fun M30 h30 => ?_)
    obtain rfl := h30
    refine dp_vret C hret dX7_leads_33 ?_
    have eU : wyT (V (a + 3)) to = 0 → mvV V (a + 3) (wyU (V (a + 3)) to (V 1 0)) = V := fun q => by unfold wyU; rw [if_pos q]; exact mvV_same hi
    refine ⟨X1, ?_, hs1⟩
    unfold foV
    first | rfl | (rw [eU (by omega)])
theorem yyX7_slews : yX7_slews.cls = RX7 ∧ yX7_slews.cls ≠ "java/lang/invoke/MethodHandle" ∧ yX7_slews.cls ≠ "java/lang/invoke/VarHandle" ∧ (parseMethodDescriptor yX7_slews.desc).map (fun d => d.parameters.length) = some 2 := by decide +kernel
set_option maxHeartbeats 4000000 in
set_option maxRecDepth 100000 in
theorem c_X7_slews {E : dp_E} (hE : dp_OK E) (l : Launch) {M : dp_M} {V X : dp_V} (hv : ivS V) {z el : Int} (hz : -40000 ≤ z ∧ z ≤ 40000) (he : -40000 ≤ el ∧ el ≤ 40000) (pa : ¬ wyP 3 (V 3) z (V 1 0) = 0) (pe : ¬ wyP 4 (V 4) el (V 1 0) = 0) : dp_met E l yX7_slews wsX7_slews 5 115 [.ref (eAd E 8 0), .int (dp_I z), .int (dp_I el)] (dN M V X) (dp_qi E (fun y M1 => y = tmF V z el ∧ ∃ X', M1 = dN M (slV V z el) X' ∧ scr X X')) := by
  refine dp_of (cc := cX7_slews) (nL := 5) (own := RX7) (ret := some (.int)) (by decide +kernel) rfl rfl hE (by simp [Value.category]) (Nat.le_of_ble_eq_true rfl) ?_
  intro p e s m below meth co C hret
  show dp_G _ _ _ _ _ _ _ _ _ _ _ _ _ _ _ _ _ [some (.ref (eAd E 8 0)), some (.int (dp_I z)), some (.int (dp_I el)), none, none] _
  have hX7 : ∀ w ∈ u_ws RX7 TX7 12, w ∈ wsX7_slews := fun w h => List.mem_cons_of_mem _ (List.mem_append_right _ (h))
  have h1 := hv.2.1
  have ho : 0 ≤ V 1 0 ∧ V 1 0 ≤ 500 := by omega
  have w1 := wyM_bd hv.2.2.2.1 hz ho
  have w2 := wyM_bd hv.2.2.2.2 he ho
  have e1 : foV V 3 z 1 = V 1 := foV_ne (by decide)
  have e4 : foV V 3 z 4 = V 4 := foV_ne (by decide)
  refine dp_aload_n C dX7_slews_0 rfl ?_
  refine dp_iconst C dX7_slews_1 ?_
  refine dp_iload_n C dX7_slews_2 rfl ?_
  refine dp_cVi C (c_X7_timeOf C.2.2.1 l (a := 0) (to := z) (by decide) hv.2.2.2.1 ho hz) gX7_slews_X7_timeOf rfl (dp_mM (by decide)) dp_xmo rfl yyX7_timeOf rfl ⟨Nat.le_of_ble_eq_true rfl, Nat.le_of_ble_eq_true rfl⟩ rfl (Nat.le_of_ble_eq_true rfl) rfl ⟨Nat.zero_le _, Nat.zero_le _⟩ dX7_slews_3 (fun x3 M3 h3 => ?_)
  obtain ⟨rfl, X1, rfl, hs1⟩ := h3
  refine dp_istore_n C dX7_slews_6 (Nat.le_of_ble_eq_true rfl) ?_
  dsimp only [List.set]
  refine dp_aload_n C dX7_slews_7 rfl ?_
  refine dp_iconst C dX7_slews_8 ?_
  refine dp_iload_n C dX7_slews_9 rfl ?_
  refine dp_cVi C (c_X7_timeOf C.2.2.1 l (a := 1) (to := el) (by decide) hv.2.2.2.2 ho he) gX7_slews_X7_timeOf rfl (dp_mM (by decide)) dp_xmo rfl yyX7_timeOf rfl ⟨Nat.le_of_ble_eq_true rfl, Nat.le_of_ble_eq_true rfl⟩ rfl (Nat.le_of_ble_eq_true rfl) rfl ⟨Nat.zero_le _, Nat.zero_le _⟩ dX7_slews_10 (fun x10 M10 h10 => ?_)
  obtain ⟨rfl, X2, rfl, hs2⟩ := h10
  refine dp_istore C dX7_slews_13 (Nat.le_of_ble_eq_true rfl) ?_
  dsimp only [List.set]
  refine dp_aload_n C dX7_slews_15 rfl ?_
  refine dp_iconst C dX7_slews_16 ?_
  refine dp_iload_n C dX7_slews_17 rfl ?_
  refine dp_cVv C (c_X7_leads C.2.2.1 l (a := 0) (to := z) (by decide) hv.2.2.2.1 ho hz pa) gX7_slews_X7_leads rfl (dp_mM (by decide)) dp_xmo rfl yyX7_leads rfl ⟨Nat.le_of_ble_eq_true rfl, Nat.le_of_ble_eq_true rfl⟩ rfl (Nat.le_of_ble_eq_true rfl) rfl ⟨Nat.zero_le _, Nat.zero_le _⟩ dX7_slews_18 (fun M18 h18 => ?_)
  obtain ⟨X3, rfl, hs3⟩ := h18
  rw [show (0 : Nat) + 3 = 3 from rfl]
  refine dp_aload_n C dX7_slews_21 rfl ?_
  refine dp_iconst C dX7_slews_22 ?_
  refine dp_iload_n C dX7_slews_23 rfl ?_
  refine dp_cVv C (c_X7_leads C.2.2.1 l (a := 1) (to := el) (by decide) (by rw [show (1 : Nat) + 3 = 4 from rfl, e4]; exact hv.2.2.2.2) (by rw [e1]; exact ho) he (by rw [show (1 : Nat) + 3 = 4 from rfl, e4, e1]; exact pe)) gX7_slews_X7_leads rfl (dp_mM (by decide)) dp_xmo rfl yyX7_leads rfl ⟨Nat.le_of_ble_eq_true rfl, Nat.le_of_ble_eq_true rfl⟩ rfl (Nat.le_of_ble_eq_true rfl) rfl ⟨Nat.zero_le _, Nat.zero_le _⟩ dX7_slews_24 (fun M24 h24 => ?_)
  obtain ⟨X4, rfl, hs4⟩ := h24
  rw [show (1 : Nat) + 3 = 4 from rfl]
  refine dp_aload_n C dX7_slews_27 rfl ?_
  refine dp_getf C (k := 0) (dp_mM (by decide)) dp_xmo rfl hX7 (by decide) (List.mem_of_getElem? (i := 1) rfl) rfl dX7_slews_28 ?_
  refine dp_iconst C dX7_slews_31 ?_
  refine dp_dup2 C dX7_slews_32 rfl rfl ?_
  refine dp_ald_ms C (j := 5) ⟨by omega, by omega⟩ rfl (c9 := 0) (k9 := 1) rfl rfl dX7_slews_33 ?_
  refine dp_iconst C dX7_slews_34 ?_
  refine dp_iadd C dX7_slews_35 ?_
  refine dp_ast_ms C (j := 5) ⟨by omega, by omega⟩ rfl (c9 := 0) (k9 := 1) rfl rfl dX7_slews_36 ?_
  refine dp_iload_n C dX7_slews_37 rfl ?_
  refine dp_iload C dX7_slews_38 rfl ?_
  refine dp_icmp_le (tgt := 47) C dX7_slews_40 (by decide) ⟨by omega, by omega⟩ ⟨by omega, by omega⟩ (fun c40 => ?_) (fun c40 => ?_)
  · skip
    refine dp_iload C dX7_slews_47 rfl ?_
    refine dp_iret C hret dX7_slews_49 ?_
    refine ⟨?_, X4, rfl, ((hs1.tr hs2).tr hs3).tr hs4⟩
    unfold tmF mx
    split <;> first | rfl | omega
  · skip
    refine dp_iload_n C dX7_slews_43 rfl ?_
    refine dp_goto (tgt := 49) C dX7_slews_44 (by decide) ?_
    refine dp_iret C hret dX7_slews_49 ?_
    refine ⟨?_, X4, rfl, ((hs1.tr hs2).tr hs3).tr hs4⟩
    unfold tmF mx
    split <;> first | rfl | omega
theorem yyX7_underWay : yX7_underWay.cls = RX7 ∧ yX7_underWay.cls ≠ "java/lang/invoke/MethodHandle" ∧ yX7_underWay.cls ≠ "java/lang/invoke/VarHandle" ∧ (parseMethodDescriptor yX7_underWay.desc).map (fun d => d.parameters.length) = some 0 := by decide +kernel
set_option maxHeartbeats 4000000 in
set_option maxRecDepth 100000 in
theorem c_X7_underWay {E : dp_E} (hE : dp_OK E) (l : Launch) {M : dp_M} {V X : dp_V} {N : Nat} (hm : ivM V N) : dp_met E l yX7_underWay wsX7_underWay 1 22 [.ref (eAd E 8 0)] (dN M V X) (dp_qi E (fun y M1 => y = uwN V N ∧ M1 = dN M V X)) := by
  refine dp_of (cc := cX7_underWay) (nL := 2) (own := RX7) (ret := some (.int)) (by decide +kernel) rfl rfl hE (by simp [Value.category]) (Nat.le_of_ble_eq_true rfl) ?_
  intro p e s m below meth co C hret
  show dp_G _ _ _ _ _ _ _ _ _ _ _ _ _ _ _ _ _ [some (.ref (eAd E 8 0)), none] _
  have hX7 : ∀ w ∈ u_ws RX7 TX7 12, w ∈ wsX7_underWay := fun w h => List.mem_cons_of_mem _ (List.mem_append_right _ (h))
  obtain ⟨hN, h10, hv, hT⟩ := hm
  have J2 : ∀ (n k : Nat) (ki : Int), k + n = N → ki = k → uwG V k n = uwG V 0 N → dp_G E (dp_A E) p l e (dp_rm 1 22) s m [.ref (eAd E 8 0)].toArray below meth co 0 0 (MQ below (dp_qi E (fun y M1 => y = uwN V N ∧ M1 = dN M V X)) [.ref (eAd E 8 0)].toArray s 0 0 (dp_A E)) (dN M V X) 2 [some (.ref (eAd E 8 0)), some (.int (dp_I ki))] [] := by
    refine dp_ind (fun n ih => ?_)
    intro k ki hkn hki hf
    refine dp_iload_n C dX7_underWay_2 rfl ?_
    refine dp_aload_n C dX7_underWay_3 rfl ?_
    refine dp_getf C (k := 0) (dp_mM (by decide)) dp_xmo rfl hX7 (by decide) (List.mem_of_getElem? (i := 1) rfl) rfl dX7_underWay_4 ?_
    refine dp_bipush C dX7_underWay_7 (by decide) ?_
    refine dp_ald_ms C (j := 7) ⟨by omega, by omega⟩ rfl (c9 := 0) (k9 := 3) rfl rfl dX7_underWay_9 ?_
    refine dp_icmp_ge (tgt := 32) C dX7_underWay_10 (by decide) ⟨by omega, by omega⟩ ⟨by omega, by omega⟩ (fun c10 => ?_) (fun c10 => ?_)
    · skip
      obtain rfl : n = 0 := by omega
      refine dp_ldc C (-100004) (List.mem_of_getElem? (i := 2) rfl) rfl dX7_underWay_32 ?_
      refine dp_iret C hret dX7_underWay_34 ?_
      exact ⟨by unfold uwN; rw [← hf]; rfl, rfl⟩
    · skip
      obtain ⟨n, rfl⟩ : ∃ n', n = n' + 1 := ⟨n - 1, by omega⟩
      rw [show uwG V k (n + 1) = (if V (k + 6) 6 = 1 then (k : Int) else uwG V (k + 1) n) from rfl] at hf
      obtain rfl := hki
      have ht : k < N := by omega
      have hst := hT k ht
      unfold ivT at hst
      refine dp_aload_n C dX7_underWay_13 rfl ?_
      refine dp_iload_n C dX7_underWay_14 rfl ?_
      refine dp_bipush C dX7_underWay_15 (by decide) ?_
      refine dp_cVi C (c_X7_of C.2.2.1 l (t := k) (k := 6) (by omega) (by decide)) gX7_underWay_X7_of rfl (dp_mM (by decide)) dp_xmo rfl yyX7_of rfl ⟨Nat.le_of_ble_eq_true rfl, Nat.le_of_ble_eq_true rfl⟩ rfl (Nat.le_of_ble_eq_true rfl) rfl ⟨Nat.zero_le _, Nat.zero_le _⟩ dX7_underWay_17 (fun x17 M17 h17 => ?_)
      obtain ⟨rfl, rfl⟩ := h17
      refine dp_iconst C dX7_underWay_20 ?_
      refine dp_icmp_ne (tgt := 26) C dX7_underWay_21 (by decide) ⟨by omega, by omega⟩ ⟨by omega, by omega⟩ (fun c21 => ?_) (fun c21 => ?_)
      · skip
        rw [if_neg c21] at hf
        refine dp_iinc C dX7_underWay_26 rfl ?_
        dsimp only [List.set]
        refine dp_goto (tgt := 2) C dX7_underWay_29 (by decide) ?_
        exact ih n (by omega) (k + 1) _ (by omega) (by omega) hf
      · skip
        rw [if_pos c21] at hf
        refine dp_iload_n C dX7_underWay_24 rfl ?_
        refine dp_iret C hret dX7_underWay_25 ?_
        exact ⟨by unfold uwN ftF; rw [← hf, if_neg (by omega)], rfl⟩
  refine dp_iconst C dX7_underWay_0 ?_
  refine dp_istore_n C dX7_underWay_1 (Nat.le_of_ble_eq_true rfl) ?_
  dsimp only [List.set]
  exact J2 N 0 0 (by omega) rfl rfl
theorem yyX7_manyIn : yX7_manyIn.cls = RX7 ∧ yX7_manyIn.cls ≠ "java/lang/invoke/MethodHandle" ∧ yX7_manyIn.cls ≠ "java/lang/invoke/VarHandle" ∧ (parseMethodDescriptor yX7_manyIn.desc).map (fun d => d.parameters.length) = some 1 := by decide +kernel
set_option maxHeartbeats 4000000 in
set_option maxRecDepth 100000 in
theorem c_X7_manyIn {E : dp_E} (hE : dp_OK E) (l : Launch) {M : dp_M} {V X : dp_V} {N : Nat} (hm : ivM V N) {x : Int} (hx : dp_R x) : dp_met E l yX7_manyIn wsX7_manyIn 1 22 [.ref (eAd E 8 0), .int (dp_I x)] (dN M V X) (dp_qi E (fun y M1 => y = cnG V x 0 N ∧ M1 = dN M V X)) := by
  refine dp_of (cc := cX7_manyIn) (nL := 4) (own := RX7) (ret := some (.int)) (by decide +kernel) rfl rfl hE (by simp [Value.category]) (Nat.le_of_ble_eq_true rfl) ?_
  intro p e s m below meth co C hret
  show dp_G _ _ _ _ _ _ _ _ _ _ _ _ _ _ _ _ _ [some (.ref (eAd E 8 0)), some (.int (dp_I x)), none, none] _
  have hX7 : ∀ w ∈ u_ws RX7 TX7 12, w ∈ wsX7_manyIn := fun w h => List.mem_cons_of_mem _ (List.mem_append_right _ (h))
  obtain ⟨hN, h10, hv, hT⟩ := hm
  unfold dp_R at hx
  have J4 : ∀ (n k : Nat) (f ki : Int), k + n = N → ki = k → f + cnG V x k n = cnG V x 0 N → dp_G E (dp_A E) p l e (dp_rm 1 22) s m [.ref (eAd E 8 0), .int (dp_I x)].toArray below meth co 0 0 (MQ below (dp_qi E (fun y M1 => y = cnG V x 0 N ∧ M1 = dN M V X)) [.ref (eAd E 8 0), .int (dp_I x)].toArray s 0 0 (dp_A E)) (dN M V X) 4 [some (.ref (eAd E 8 0)), some (.int (dp_I x)), some (.int (dp_I f)), some (.int (dp_I ki))] [] := by
    refine dp_ind (fun n ih => ?_)
    intro k f ki hkn hki hf
    refine dp_iload_n C dX7_manyIn_4 rfl ?_
    refine dp_aload_n C dX7_manyIn_5 rfl ?_
    refine dp_getf C (k := 0) (dp_mM (by decide)) dp_xmo rfl hX7 (by decide) (List.mem_of_getElem? (i := 1) rfl) rfl dX7_manyIn_6 ?_
    refine dp_bipush C dX7_manyIn_9 (by decide) ?_
    refine dp_ald_ms C (j := 7) ⟨by omega, by omega⟩ rfl (c9 := 0) (k9 := 3) rfl rfl dX7_manyIn_11 ?_
    refine dp_icmp_ge (tgt := 40) C dX7_manyIn_12 (by decide) ⟨by omega, by omega⟩ ⟨by omega, by omega⟩ (fun c12 => ?_) (fun c12 => ?_)
    · skip
      obtain rfl : n = 0 := by omega
      refine dp_iload_n C dX7_manyIn_40 rfl ?_
      refine dp_iret C hret dX7_manyIn_41 ?_
      exact ⟨by rw [← hf]; show f = f + 0; omega, rfl⟩
    · skip
      obtain ⟨n, rfl⟩ : ∃ n', n = n' + 1 := ⟨n - 1, by omega⟩
      rw [show cnG V x k (n + 1) = (if V (k + 6) 6 = x then 1 else 0) + cnG V x (k + 1) n from rfl] at hf
      obtain rfl := hki
      have ht : k < N := by omega
      have hst := hT k ht
      unfold ivT at hst
      refine dp_iload_n C dX7_manyIn_15 rfl ?_
      refine dp_aload_n C dX7_manyIn_16 rfl ?_
      refine dp_iload_n C dX7_manyIn_17 rfl ?_
      refine dp_bipush C dX7_manyIn_18 (by decide) ?_
      refine dp_cVi C (c_X7_of C.2.2.1 l (t := k) (k := 6) (by omega) (by decide)) gX7_manyIn_X7_of rfl (dp_mM (by decide)) dp_xmo rfl yyX7_of rfl ⟨Nat.le_of_ble_eq_true rfl, Nat.le_of_ble_eq_true rfl⟩ rfl (Nat.le_of_ble_eq_true rfl) rfl ⟨Nat.zero_le _, Nat.zero_le _⟩ dX7_manyIn_20 (fun x20 M20 h20 => ?_)
      obtain ⟨rfl, rfl⟩ := h20
      refine dp_iload_n C dX7_manyIn_23 rfl ?_
      refine dp_icmp_ne (tgt := 31) C dX7_manyIn_24 (by decide) ⟨by omega, by omega⟩ ⟨by omega, by omega⟩ (fun c24 => ?_) (fun c24 => ?_)
      · skip
        rw [if_neg c24] at hf
        refine dp_iconst C dX7_manyIn_31 ?_
        refine dp_iadd C dX7_manyIn_32 ?_
        refine dp_istore_n C dX7_manyIn_33 (Nat.le_of_ble_eq_true rfl) ?_
        dsimp only [List.set]
        refine dp_iinc C dX7_manyIn_34 rfl ?_
        dsimp only [List.set]
        refine dp_goto (tgt := 4) C dX7_manyIn_37 (by decide) ?_
        exact ih n (by omega) (k + 1) _ _ (by omega) (by omega) (by omega)
      · skip
        rw [if_pos c24] at hf
        refine dp_iconst C dX7_manyIn_27 ?_
        refine dp_goto (tgt := 32) C dX7_manyIn_28 (by decide) ?_
        refine dp_iadd C dX7_manyIn_32 ?_
        refine dp_istore_n C dX7_manyIn_33 (Nat.le_of_ble_eq_true rfl) ?_
        dsimp only [List.set]
        refine dp_iinc C dX7_manyIn_34 rfl ?_
        dsimp only [List.set]
        refine dp_goto (tgt := 4) C dX7_manyIn_37 (by decide) ?_
        exact ih n (by omega) (k + 1) _ _ (by omega) (by omega) (by omega)
  refine dp_iconst C dX7_manyIn_0 ?_
  refine dp_istore_n C dX7_manyIn_1 (Nat.le_of_ble_eq_true rfl) ?_
  dsimp only [List.set]
  refine dp_iconst C dX7_manyIn_2 ?_
  refine dp_istore_n C dX7_manyIn_3 (Nat.le_of_ble_eq_true rfl) ?_
  dsimp only [List.set]
  exact J4 N 0 0 0 (by omega) rfl (by omega)
theorem yyX7_minutesLeft : yX7_minutesLeft.cls = RX7 ∧ yX7_minutesLeft.cls ≠ "java/lang/invoke/MethodHandle" ∧ yX7_minutesLeft.cls ≠ "java/lang/invoke/VarHandle" ∧ (parseMethodDescriptor yX7_minutesLeft.desc).map (fun d => d.parameters.length) = some 0 := by decide +kernel
set_option maxHeartbeats 4000000 in
set_option maxRecDepth 100000 in
theorem c_X7_minutesLeft {E : dp_E} (hE : dp_OK E) (l : Launch) {M : dp_M} {V X : dp_V} {N : Nat} (hm : ivM V N) : dp_met E l yX7_minutesLeft wsX7_minutesLeft 2 43 [.ref (eAd E 8 0)] (dN M V X) (dp_qi E (fun y M1 => y = muN V N ∧ M1 = dN M V X)) := by
  refine dp_of (cc := cX7_minutesLeft) (nL := 2) (own := RX7) (ret := some (.int)) (by decide +kernel) rfl rfl hE (by simp [Value.category]) (Nat.le_of_ble_eq_true rfl) ?_
  intro p e s m below meth co C hret
  show dp_G _ _ _ _ _ _ _ _ _ _ _ _ _ _ _ _ _ [some (.ref (eAd E 8 0)), none] _
  have hX7 : ∀ w ∈ u_ws RX7 TX7 12, w ∈ wsX7_minutesLeft := fun w h => List.mem_cons_of_mem _ (List.mem_append_right _ (h))
  have hm2 := hm
  obtain ⟨hN, h10, hv, hT⟩ := hm
  have hb := @uwN_bd V N h10
  refine dp_aload_n C dX7_minutesLeft_0 rfl ?_
  refine dp_cVi C (c_X7_underWay C.2.2.1 l hm2) gX7_minutesLeft_X7_underWay rfl (dp_mM (by decide)) dp_xmo rfl yyX7_underWay rfl ⟨Nat.le_of_ble_eq_true rfl, Nat.le_of_ble_eq_true rfl⟩ rfl (Nat.le_of_ble_eq_true rfl) rfl ⟨Nat.zero_le _, Nat.zero_le _⟩ dX7_minutesLeft_1 (fun x1 M1 h1 => ?_)
  obtain ⟨rfl, rfl⟩ := h1
  refine dp_istore_n C dX7_minutesLeft_4 (Nat.le_of_ble_eq_true rfl) ?_
  dsimp only [List.set]
  refine dp_iload_n C dX7_minutesLeft_5 rfl ?_
  refine dp_ldc C (-100004) (List.mem_of_getElem? (i := 1) rfl) rfl dX7_minutesLeft_6 ?_
  refine dp_icmp_ne (tgt := 16) C dX7_minutesLeft_8 (by decide) ⟨by omega, by omega⟩ ⟨by omega, by omega⟩ (fun c8 => ?_) (fun c8 => ?_)
  · skip
    obtain ⟨t, ht, hu, hu2, h6⟩ := uwN_t c8
    rw [hu]
    refine dp_aload_n C dX7_minutesLeft_16 rfl ?_
    refine dp_iload_n C dX7_minutesLeft_17 rfl ?_
    refine dp_bipush C dX7_minutesLeft_18 (by decide) ?_
    refine dp_cVi C (c_X7_of C.2.2.1 l (t := t) (k := 9) (by omega) (by decide)) gX7_minutesLeft_X7_of rfl (dp_mM (by decide)) dp_xmo rfl yyX7_of rfl ⟨Nat.le_of_ble_eq_true rfl, Nat.le_of_ble_eq_true rfl⟩ rfl (Nat.le_of_ble_eq_true rfl) rfl ⟨Nat.zero_le _, Nat.zero_le _⟩ dX7_minutesLeft_20 (fun x20 M20 h20 => ?_)
    obtain ⟨rfl, rfl⟩ := h20
    refine dp_aload_n C dX7_minutesLeft_23 rfl ?_
    refine dp_getf C (k := 0) (dp_mM (by decide)) dp_xmo rfl hX7 (by decide) (List.mem_of_getElem? (i := 2) rfl) rfl dX7_minutesLeft_24 ?_
    refine dp_iconst C dX7_minutesLeft_27 ?_
    refine dp_ald_ms C (j := 4) ⟨by omega, by omega⟩ rfl (c9 := 0) (k9 := 0) rfl rfl dX7_minutesLeft_28 ?_
    refine dp_isub C dX7_minutesLeft_29 ?_
    refine dp_iret C hret dX7_minutesLeft_30 ?_
    first | exact ⟨by unfold muN; rw [if_pos (by assumption)], rfl⟩ | exact ⟨by unfold muN; rw [if_neg (by assumption), hu]; rfl, rfl⟩
  · skip
    refine dp_ldc C (-100004) (List.mem_of_getElem? (i := 1) rfl) rfl dX7_minutesLeft_11 ?_
    refine dp_goto (tgt := 30) C dX7_minutesLeft_13 (by decide) ?_
    refine dp_iret C hret dX7_minutesLeft_30 ?_
    first | exact ⟨by unfold muN; rw [if_pos (by assumption)], rfl⟩ | exact ⟨by unfold muN; rw [if_neg (by assumption), hu]; rfl, rfl⟩
theorem yyX7_count : yX7_count.cls = RX7 ∧ yX7_count.cls ≠ "java/lang/invoke/MethodHandle" ∧ yX7_count.cls ≠ "java/lang/invoke/VarHandle" ∧ (parseMethodDescriptor yX7_count.desc).map (fun d => d.parameters.length) = some 1 := by decide +kernel
set_option maxHeartbeats 4000000 in
set_option maxRecDepth 100000 in
theorem c_X7_count {E : dp_E} (hE : dp_OK E) (l : Launch) {M : dp_M} {V X : dp_V} {N : Nat} (hm : ivM V N) {k : Int} (hk : dp_R k) : dp_met E l yX7_count wsX7_count 3 64 [.ref (eAd E 8 0), .int (dp_I k)] (dN M V X) (dp_qi E (fun y M1 => y = coM V X N k ∧ M1 = dN M V X)) := by
  refine dp_of (cc := cX7_count) (nL := 2) (own := RX7) (ret := some (.int)) (by decide +kernel) rfl rfl hE (by simp [Value.category]) (Nat.le_of_ble_eq_true rfl) ?_
  intro p e s m below meth co C hret
  show dp_G _ _ _ _ _ _ _ _ _ _ _ _ _ _ _ _ _ [some (.ref (eAd E 8 0)), some (.int (dp_I k))] _
  have hX7 : ∀ w ∈ u_ws RX7 TX7 12, w ∈ wsX7_count := fun w h => List.mem_cons_of_mem _ (List.mem_append_right _ (h))
  have hm2 := hm
  obtain ⟨hN, h10, hv, hT⟩ := hm
  unfold dp_R at hk
  have h0 := hv.1
  have hA := hv.2.2.2.1
  unfold ivA at hA
  have hb := @ax_bd 3
  refine dp_iload_n C dX7_count_0 rfl ?_
  refine dp_table (td := 190) C [92, 99, 104, 109, 114, 122, 128, 128, 136, 141, 146, 151, 156, 156, 156, 156, 166, 166, 178] dX7_count_1 (by decide) (by decide) (by decide) ⟨by omega, by omega⟩ (fun c1 => ?_) ?_
  · skip
    refine dp_ldc C (-100001) (List.mem_of_getElem? (i := 5) rfl) rfl dX7_count_190 ?_
    refine dp_iret C hret dX7_count_192 ?_
    refine ⟨?_, rfl⟩
    unfold coM stT
    repeat (first | rw [if_neg (by omega)] | rw [if_pos (by omega)])
  · simp only [dp_sw]
    refine ⟨fun c1 => ?_, fun c1 => ?_, fun c1 => ?_, fun c1 => ?_, fun c1 => ?_, fun c1 => ?_, fun c1 => ?_, fun c1 => ?_, fun c1 => ?_, fun c1 => ?_, fun c1 => ?_, fun c1 => ?_, fun c1 => ?_, fun c1 => ?_, fun c1 => ?_, fun c1 => ?_, fun c1 => ?_, fun c1 => ?_, fun c1 => ?_, trivial⟩
    · skip
      refine dp_aload_n C dX7_count_92 rfl ?_
      refine dp_getf C (k := 0) (dp_mM (by decide)) dp_xmo rfl hX7 (by decide) (List.mem_of_getElem? (i := 1) rfl) rfl dX7_count_93 ?_
      refine dp_iconst C dX7_count_96 ?_
      refine dp_ald_ms C (j := 4) ⟨by omega, by omega⟩ rfl (c9 := 0) (k9 := 0) rfl rfl dX7_count_97 ?_
      refine dp_iret C hret dX7_count_98 ?_
      refine ⟨?_, rfl⟩
      unfold coM stT
      repeat (first | rw [if_neg (by omega)] | rw [if_pos (by omega)])
    · skip
      refine dp_aload_n C dX7_count_99 rfl ?_
      refine dp_cVi C (c_X7_day C.2.2.1 l h0) gX7_count_X7_day rfl (dp_mM (by decide)) dp_xmo rfl yyX7_day rfl ⟨Nat.le_of_ble_eq_true rfl, Nat.le_of_ble_eq_true rfl⟩ rfl (Nat.le_of_ble_eq_true rfl) rfl ⟨Nat.zero_le _, Nat.zero_le _⟩ dX7_count_100 (fun x100 M100 h100 => ?_)
      obtain ⟨rfl, rfl⟩ := h100
      refine dp_iret C hret dX7_count_103 ?_
      refine ⟨?_, rfl⟩
      unfold coM stT
      repeat (first | rw [if_neg (by omega)] | rw [if_pos (by omega)])
    · skip
      refine dp_aload_n C dX7_count_104 rfl ?_
      refine dp_cVi C (c_X7_gustNow C.2.2.1 l h0) gX7_count_X7_gustNow rfl (dp_mM (by decide)) dp_xmo rfl yyX7_gustNow rfl ⟨Nat.le_of_ble_eq_true rfl, Nat.le_of_ble_eq_true rfl⟩ rfl (Nat.le_of_ble_eq_true rfl) rfl ⟨Nat.zero_le _, Nat.zero_le _⟩ dX7_count_105 (fun x105 M105 h105 => ?_)
      obtain ⟨rfl, rfl⟩ := h105
      refine dp_iret C hret dX7_count_108 ?_
      refine ⟨?_, rfl⟩
      unfold coM stT
      repeat (first | rw [if_neg (by omega)] | rw [if_pos (by omega)])
    · skip
      refine dp_aload_n C dX7_count_109 rfl ?_
      refine dp_cVi C (c_X7_kindOfDay C.2.2.1 l hv) gX7_count_X7_kindOfDay rfl (dp_mM (by decide)) dp_xmo rfl yyX7_kindOfDay rfl ⟨Nat.le_of_ble_eq_true rfl, Nat.le_of_ble_eq_true rfl⟩ rfl (Nat.le_of_ble_eq_true rfl) rfl ⟨Nat.zero_le _, Nat.zero_le _⟩ dX7_count_110 (fun x110 M110 h110 => ?_)
      obtain ⟨rfl, rfl⟩ := h110
      refine dp_iret C hret dX7_count_113 ?_
      refine ⟨?_, rfl⟩
      unfold coM stT
      repeat (first | rw [if_neg (by omega)] | rw [if_pos (by omega)])
    · skip
      refine dp_aload_n C dX7_count_114 rfl ?_
      refine dp_getf C (k := 0) (dp_mM (by decide)) dp_xmo rfl hX7 (by decide) (List.mem_of_getElem? (i := 1) rfl) rfl dX7_count_115 ?_
      refine dp_bipush C dX7_count_118 (by decide) ?_
      refine dp_ald_ms C (j := 7) ⟨by omega, by omega⟩ rfl (c9 := 0) (k9 := 3) rfl rfl dX7_count_120 ?_
      refine dp_iret C hret dX7_count_121 ?_
      refine ⟨?_, rfl⟩
      unfold coM
      rw [hN]
      repeat (first | rw [if_neg (by omega)] | rw [if_pos (by omega)])
    · skip
      refine dp_aload_n C dX7_count_122 rfl ?_
      refine dp_iconst C dX7_count_123 ?_
      refine dp_cVi C (c_X7_manyIn C.2.2.1 l hm2 ⟨by decide, by decide⟩) gX7_count_X7_manyIn rfl (dp_mM (by decide)) dp_xmo rfl yyX7_manyIn rfl ⟨Nat.le_of_ble_eq_true rfl, Nat.le_of_ble_eq_true rfl⟩ rfl (Nat.le_of_ble_eq_true rfl) rfl ⟨Nat.zero_le _, Nat.zero_le _⟩ dX7_count_124 (fun x124 M124 h124 => ?_)
      obtain ⟨rfl, rfl⟩ := h124
      refine dp_iret C hret dX7_count_127 ?_
      refine ⟨?_, rfl⟩
      unfold coM stT
      repeat (first | rw [if_neg (by omega)] | rw [if_pos (by omega)])
    · skip
      refine dp_aload_n C dX7_count_128 rfl ?_
      refine dp_iload_n C dX7_count_129 rfl ?_
      refine dp_iconst C dX7_count_130 ?_
      refine dp_isub C dX7_count_131 ?_
      refine dp_cVi C (c_X7_manyIn C.2.2.1 l hm2 ⟨by omega, by omega⟩) gX7_count_X7_manyIn rfl (dp_mM (by decide)) dp_xmo rfl yyX7_manyIn rfl ⟨Nat.le_of_ble_eq_true rfl, Nat.le_of_ble_eq_true rfl⟩ rfl (Nat.le_of_ble_eq_true rfl) rfl ⟨Nat.zero_le _, Nat.zero_le _⟩ dX7_count_132 (fun x132 M132 h132 => ?_)
      obtain ⟨rfl, rfl⟩ := h132
      refine dp_iret C hret dX7_count_135 ?_
      first | (have q : k = 6 := (by omega); subst q; exact ⟨rfl, rfl⟩) | (have q : k = 7 := (by omega); subst q; exact ⟨rfl, rfl⟩)
    · skip
      refine dp_aload_n C dX7_count_128 rfl ?_
      refine dp_iload_n C dX7_count_129 rfl ?_
      refine dp_iconst C dX7_count_130 ?_
      refine dp_isub C dX7_count_131 ?_
      refine dp_cVi C (c_X7_manyIn C.2.2.1 l hm2 ⟨by omega, by omega⟩) gX7_count_X7_manyIn rfl (dp_mM (by decide)) dp_xmo rfl yyX7_manyIn rfl ⟨Nat.le_of_ble_eq_true rfl, Nat.le_of_ble_eq_true rfl⟩ rfl (Nat.le_of_ble_eq_true rfl) rfl ⟨Nat.zero_le _, Nat.zero_le _⟩ dX7_count_132 (fun x132 M132 h132 => ?_)
      obtain ⟨rfl, rfl⟩ := h132
      refine dp_iret C hret dX7_count_135 ?_
      first | (have q : k = 6 := (by omega); subst q; exact ⟨rfl, rfl⟩) | (have q : k = 7 := (by omega); subst q; exact ⟨rfl, rfl⟩)
    · skip
      refine dp_aload_n C dX7_count_136 rfl ?_
      refine dp_cVi C (c_X7_underWay C.2.2.1 l hm2) gX7_count_X7_underWay rfl (dp_mM (by decide)) dp_xmo rfl yyX7_underWay rfl ⟨Nat.le_of_ble_eq_true rfl, Nat.le_of_ble_eq_true rfl⟩ rfl (Nat.le_of_ble_eq_true rfl) rfl ⟨Nat.zero_le _, Nat.zero_le _⟩ dX7_count_137 (fun x137 M137 h137 => ?_)
      obtain ⟨rfl, rfl⟩ := h137
      refine dp_iret C hret dX7_count_140 ?_
      refine ⟨?_, rfl⟩
      unfold coM stT
      repeat (first | rw [if_neg (by omega)] | rw [if_pos (by omega)])
    · skip
      refine dp_aload_n C dX7_count_141 rfl ?_
      refine dp_cVi C (c_X7_minutesLeft C.2.2.1 l hm2) gX7_count_X7_minutesLeft rfl (dp_mM (by decide)) dp_xmo rfl yyX7_minutesLeft rfl ⟨Nat.le_of_ble_eq_true rfl, Nat.le_of_ble_eq_true rfl⟩ rfl (Nat.le_of_ble_eq_true rfl) rfl ⟨Nat.zero_le _, Nat.zero_le _⟩ dX7_count_142 (fun x142 M142 h142 => ?_)
      obtain ⟨rfl, rfl⟩ := h142
      refine dp_iret C hret dX7_count_145 ?_
      refine ⟨?_, rfl⟩
      unfold coM stT
      repeat (first | rw [if_neg (by omega)] | rw [if_pos (by omega)])
    · skip
      refine dp_aload_n C dX7_count_146 rfl ?_
      refine dp_getf C (k := 3) (dp_mM (by decide)) dp_xmo rfl hX7 (by decide) (List.mem_of_getElem? (i := 2) rfl) rfl dX7_count_147 ?_
      refine dp_iret C hret dX7_count_150 ?_
      refine ⟨?_, rfl⟩
      unfold coM stT
      repeat (first | rw [if_neg (by omega)] | rw [if_pos (by omega)])
    · skip
      refine dp_aload_n C dX7_count_151 rfl ?_
      refine dp_getf C (k := 5) (dp_mM (by decide)) dp_xmo rfl hX7 (by decide) (List.mem_of_getElem? (i := 3) rfl) rfl dX7_count_152 ?_
      refine dp_iret C hret dX7_count_155 ?_
      refine ⟨?_, rfl⟩
      unfold coM stT
      repeat (first | rw [if_neg (by omega)] | rw [if_pos (by omega)])
    · skip
      refine dp_aload_n C dX7_count_156 rfl ?_
      refine dp_getf C (k := 0) (dp_mM (by decide)) dp_xmo rfl hX7 (by decide) (List.mem_of_getElem? (i := 1) rfl) rfl dX7_count_157 ?_
      refine dp_iload_n C dX7_count_160 rfl ?_
      refine dp_bipush C dX7_count_161 (by decide) ?_
      refine dp_isub C dX7_count_163 ?_
      refine dp_ald_ms C (j := (k - 12).toNat) ⟨by omega, by omega⟩ rfl (c9 := 1) (k9 := (k - 12).toNat) (dp_ce1 (by omega)) (dp_sl1 (by omega)) dX7_count_164 ?_
      refine dp_iret C hret dX7_count_165 ?_
      first | (have q : k = 12 := (by omega); subst q; exact ⟨rfl, rfl⟩) | (have q : k = 13 := (by omega); subst q; exact ⟨rfl, rfl⟩) | (have q : k = 14 := (by omega); subst q; exact ⟨rfl, rfl⟩) | (have q : k = 15 := (by omega); subst q; exact ⟨rfl, rfl⟩)
    · skip
      refine dp_aload_n C dX7_count_156 rfl ?_
      refine dp_getf C (k := 0) (dp_mM (by decide)) dp_xmo rfl hX7 (by decide) (List.mem_of_getElem? (i := 1) rfl) rfl dX7_count_157 ?_
      refine dp_iload_n C dX7_count_160 rfl ?_
      refine dp_bipush C dX7_count_161 (by decide) ?_
      refine dp_isub C dX7_count_163 ?_
      refine dp_ald_ms C (j := (k - 12).toNat) ⟨by omega, by omega⟩ rfl (c9 := 1) (k9 := (k - 12).toNat) (dp_ce1 (by omega)) (dp_sl1 (by omega)) dX7_count_164 ?_
      refine dp_iret C hret dX7_count_165 ?_
      first | (have q : k = 12 := (by omega); subst q; exact ⟨rfl, rfl⟩) | (have q : k = 13 := (by omega); subst q; exact ⟨rfl, rfl⟩) | (have q : k = 14 := (by omega); subst q; exact ⟨rfl, rfl⟩) | (have q : k = 15 := (by omega); subst q; exact ⟨rfl, rfl⟩)
    · skip
      refine dp_aload_n C dX7_count_156 rfl ?_
      refine dp_getf C (k := 0) (dp_mM (by decide)) dp_xmo rfl hX7 (by decide) (List.mem_of_getElem? (i := 1) rfl) rfl dX7_count_157 ?_
      refine dp_iload_n C dX7_count_160 rfl ?_
      refine dp_bipush C dX7_count_161 (by decide) ?_
      refine dp_isub C dX7_count_163 ?_
      refine dp_ald_ms C (j := (k - 12).toNat) ⟨by omega, by omega⟩ rfl (c9 := 1) (k9 := (k - 12).toNat) (dp_ce1 (by omega)) (dp_sl1 (by omega)) dX7_count_164 ?_
      refine dp_iret C hret dX7_count_165 ?_
      first | (have q : k = 12 := (by omega); subst q; exact ⟨rfl, rfl⟩) | (have q : k = 13 := (by omega); subst q; exact ⟨rfl, rfl⟩) | (have q : k = 14 := (by omega); subst q; exact ⟨rfl, rfl⟩) | (have q : k = 15 := (by omega); subst q; exact ⟨rfl, rfl⟩)
    · skip
      refine dp_aload_n C dX7_count_156 rfl ?_
      refine dp_getf C (k := 0) (dp_mM (by decide)) dp_xmo rfl hX7 (by decide) (List.mem_of_getElem? (i := 1) rfl) rfl dX7_count_157 ?_
      refine dp_iload_n C dX7_count_160 rfl ?_
      refine dp_bipush C dX7_count_161 (by decide) ?_
      refine dp_isub C dX7_count_163 ?_
      refine dp_ald_ms C (j := (k - 12).toNat) ⟨by omega, by omega⟩ rfl (c9 := 1) (k9 := (k - 12).toNat) (dp_ce1 (by omega)) (dp_sl1 (by omega)) dX7_count_164 ?_
      refine dp_iret C hret dX7_count_165 ?_
      first | (have q : k = 12 := (by omega); subst q; exact ⟨rfl, rfl⟩) | (have q : k = 13 := (by omega); subst q; exact ⟨rfl, rfl⟩) | (have q : k = 14 := (by omega); subst q; exact ⟨rfl, rfl⟩) | (have q : k = 15 := (by omega); subst q; exact ⟨rfl, rfl⟩)
    · skip
      refine dp_aload_n C dX7_count_166 rfl ?_
      refine dp_getf C (k := 0) (dp_mM (by decide)) dp_xmo rfl hX7 (by decide) (List.mem_of_getElem? (i := 1) rfl) rfl dX7_count_167 ?_
      refine dp_iconst C dX7_count_170 ?_
      refine dp_iload_n C dX7_count_171 rfl ?_
      refine dp_iadd C dX7_count_172 ?_
      refine dp_bipush C dX7_count_173 (by decide) ?_
      refine dp_isub C dX7_count_175 ?_
      refine dp_ald_ms C (j := (5 + k - 16).toNat) ⟨by omega, by omega⟩ rfl (c9 := 0) (k9 := (5 + k - 16).toNat - 4) (dp_ce0 (by omega) (by omega)) (dp_sl0 (by omega) (by omega)) dX7_count_176 ?_
      refine dp_iret C hret dX7_count_177 ?_
      first | (have q : k = 16 := (by omega); subst q; exact ⟨rfl, rfl⟩) | (have q : k = 17 := (by omega); subst q; exact ⟨rfl, rfl⟩)
    · skip
      refine dp_aload_n C dX7_count_166 rfl ?_
      refine dp_getf C (k := 0) (dp_mM (by decide)) dp_xmo rfl hX7 (by decide) (List.mem_of_getElem? (i := 1) rfl) rfl dX7_count_167 ?_
      refine dp_iconst C dX7_count_170 ?_
      refine dp_iload_n C dX7_count_171 rfl ?_
      refine dp_iadd C dX7_count_172 ?_
      refine dp_bipush C dX7_count_173 (by decide) ?_
      refine dp_isub C dX7_count_175 ?_
      refine dp_ald_ms C (j := (5 + k - 16).toNat) ⟨by omega, by omega⟩ rfl (c9 := 0) (k9 := (5 + k - 16).toNat - 4) (dp_ce0 (by omega) (by omega)) (dp_sl0 (by omega) (by omega)) dX7_count_176 ?_
      refine dp_iret C hret dX7_count_177 ?_
      first | (have q : k = 16 := (by omega); subst q; exact ⟨rfl, rfl⟩) | (have q : k = 17 := (by omega); subst q; exact ⟨rfl, rfl⟩)
    · skip
      refine dp_aload_n C dX7_count_178 rfl ?_
      refine dp_iconst C dX7_count_179 ?_
      refine dp_cVi C (c_X7_stands C.2.2.1 l (a := 0) (by decide)) gX7_count_X7_stands rfl (dp_mM (by decide)) dp_xmo rfl yyX7_stands rfl ⟨Nat.le_of_ble_eq_true rfl, Nat.le_of_ble_eq_true rfl⟩ rfl (Nat.le_of_ble_eq_true rfl) rfl ⟨Nat.zero_le _, Nat.zero_le _⟩ dX7_count_180 (fun x180 M180 h180 => ?_)
      obtain ⟨rfl, rfl⟩ := h180
      rw [show (0 : Nat) + 3 = 3 from rfl]
      refine dp_ldc C (36000) (List.mem_of_getElem? (i := 4) rfl) rfl dX7_count_183 ?_
      refine dp_iadd C dX7_count_185 ?_
      refine dp_ldc C (36000) (List.mem_of_getElem? (i := 4) rfl) rfl dX7_count_186 ?_
      refine dp_irem C ⟨by omega, by omega, by omega, by omega⟩ dX7_count_188 ?_
      refine dp_iret C hret dX7_count_189 ?_
      refine ⟨?_, rfl⟩
      unfold coM stT
      repeat (first | rw [if_neg (by omega)] | rw [if_pos (by omega)])
      omega
