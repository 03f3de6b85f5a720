theorem yyX5_plan : yX5_plan.cls = RX5 ∧ yX5_plan.cls ≠ "java/lang/invoke/MethodHandle" ∧ yX5_plan.cls ≠ "java/lang/invoke/VarHandle" ∧ (parseMethodDescriptor yX5_plan.desc).map (fun d => d.parameters.length) = some 3 := by decide +kernel
set_option maxHeartbeats 4000000 in
set_option maxRecDepth 100000 in
theorem c_X5_plan {E : dp_E} (hE : dp_OK E) (l : Launch) {M : dp_M} {r w c : Nat} {V Y : dp_V} {to ov : Int} (hr : r < 7) (hw : w = 16 ∨ w = 17 ∨ w = 18) (hc : c = 3 ∨ c = 4) (hi : ivA c (V c)) (hto : -40000 ≤ to ∧ to ≤ 40000) (hov : 0 ≤ ov ∧ ov ≤ 500) : dp_met E l yX5_plan wsX5_plan 1 21 [.ref (eAd E r w), .ref (eAd E r c), .int (dp_I to), .int (dp_I ov)] (dS M r V Y) (dp_qv E (fun M1 => ∃ Y', M1 = dS M r V Y' ∧ (∀ c', c' ≠ w → Y' c' = Y c') ∧ wyOK c (V c) to ov (Y' w))) := by
  refine dp_of (cc := cX5_plan) (nL := 6) (own := RX5) (ret := none) (by decide +kernel) rfl rfl hE (by simp [Value.category]) (Nat.le_of_ble_eq_true rfl) ?_
  intro p e s m below meth co C hret
  show dp_G _ _ _ _ _ _ _ _ _ _ _ _ _ _ _ _ _ [some (.ref (eAd E r w)), some (.ref (eAd E r c)), some (.int (dp_I to)), some (.int (dp_I ov)), none, none] _
  have hX0 : ∀ w ∈ u_ws RX0 TX0 10, w ∈ wsX5_plan := fun w h => List.mem_cons_of_mem _ (List.mem_append_right _ (h))
  have hX5 : ∀ w ∈ u_ws RX5 TX5 7, w ∈ wsX5_plan := fun w h => List.mem_cons_of_mem _ (List.mem_append_left _ (List.mem_append_right _ (h)))
  have hb := @ax_bd c
  have bU := wyU_bd hi hto hov
  have bE := wyE_bd hi hto
  have bL := wyL_bd hi hto hov
  unfold ivA at hi
  have J258 : ∀ (Y' : dp_V) (sy d Pv : Int), Pv = wyP c (V c) to ov → (∀ c', c' ≠ w → Y' c' = Y c') → Y' w 0 = to → Y' w 1 = wyU (V c) to ov → Y' w 2 = wyE (V c) to → Y' w 5 = wyT (V c) to → dp_G E (dp_A E) p l e (dp_rm 1 21) s m [.ref (eAd E r w), .ref (eAd E r c), .int (dp_I to), .int (dp_I ov)].toArray below meth co 0 0 (MQ below (dp_qv E (fun M1 => ∃ Y', M1 = dS M r V Y' ∧ (∀ c', c' ≠ w → Y' c' = Y c') ∧ wyOK c (V c) to ov (Y' w))) [.ref (eAd E r w), .ref (eAd E r c), .int (dp_I to), .int (dp_I ov)].toArray s 0 0 (dp_A E)) (dS M r V Y') 258 [some (.ref (eAd E r w)), some (.ref (eAd E r c)), some (.int (dp_I to)), some (.int (dp_I ov)), some (.int (dp_I d)), some (.int (dp_I sy))] [.int (dp_I Pv), .ref (eAd E r w)] := by
    intro Y' sy d Pv hPv hY h0 hU hE hT
    subst hPv
    refine dp_putW C ‹_› ‹_› (k := 6) hX5 (by decide) (List.mem_of_getElem? (i := 9) rfl) rfl (tyX5_ok _ (by decide)) (by unfold wyP; exact dp_nb) (by unfold wyP; exact dp_fb) dX5_plan_258 ?_
    refine dp_aload_n C dX5_plan_261 rfl ?_
    refine dp_aload_n C dX5_plan_262 rfl ?_
    refine dp_getf C (k := 1) (dp_mS ‹_› (dp_cW ‹_›)) (dp_xwy ‹_› ‹_›) rfl hX5 (by decide) (List.mem_of_getElem? (i := 6) rfl) rfl dX5_plan_263 ?_
    simp (decide := true) only [u2_ap, reduceIte]
    rw [hU]
    refine dp_aload_n C dX5_plan_266 rfl ?_
    refine dp_getf C (k := 6) (dp_mS ‹_› (dp_cA ‹_›)) (dp_xax ‹_› ‹_›) rfl hX0 (by decide) (List.mem_of_getElem? (i := 8) rfl) rfl dX5_plan_267 ?_
    refine dp_isub C dX5_plan_270 ?_
    refine dp_mabs C ⟨by omega, by omega⟩ (List.mem_of_getElem? (i := 10) rfl) (List.mem_of_getElem? (i := 11) rfl) (List.mem_of_getElem? (i := 12) rfl) (List.mem_of_getElem? (i := 13) rfl) (Nat.le_of_ble_eq_true rfl) (Nat.le_of_ble_eq_true rfl) (Nat.le_of_ble_eq_true rfl) rfl ⟨Nat.zero_le _, Nat.zero_le _⟩ dX5_plan_271 ?_
    refine dp_aload_n C dX5_plan_274 rfl ?_
    refine dp_getf C (k := 2) (dp_mS ‹_› (dp_cW ‹_›)) (dp_xwy ‹_› ‹_›) rfl hX5 (by decide) (List.mem_of_getElem? (i := 7) rfl) rfl dX5_plan_275 ?_
    simp (decide := true) only [u2_ap, reduceIte]
    rw [hE]
    refine dp_aload_n C dX5_plan_278 rfl ?_
    refine dp_getf C (k := 1) (dp_mS ‹_› (dp_cW ‹_›)) (dp_xwy ‹_› ‹_›) rfl hX5 (by decide) (List.mem_of_getElem? (i := 6) rfl) rfl dX5_plan_279 ?_
    simp (decide := true) only [u2_ap, reduceIte]
    rw [hU]
    refine dp_isub C dX5_plan_282 ?_
    refine dp_mabs C ⟨by omega, by omega⟩ (List.mem_of_getElem? (i := 10) rfl) (List.mem_of_getElem? (i := 11) rfl) (List.mem_of_getElem? (i := 12) rfl) (List.mem_of_getElem? (i := 13) rfl) (Nat.le_of_ble_eq_true rfl) (Nat.le_of_ble_eq_true rfl) (Nat.le_of_ble_eq_true rfl) rfl ⟨Nat.zero_le _, Nat.zero_le _⟩ dX5_plan_283 ?_
    refine dp_iadd C dX5_plan_286 ?_
    show dp_G _ _ _ _ _ _ _ _ _ _ _ _ _ _ _ _ _ _ (.int (dp_I (wyL (V c) to ov)) :: _)
    refine dp_putW C ‹_› ‹_› (k := 3) hX5 (by decide) (List.mem_of_getElem? (i := 14) rfl) rfl (tyX5_ok _ (by decide)) rfl rfl dX5_plan_287 ?_
    refine dp_aload_n C dX5_plan_290 rfl ?_
    refine dp_aload_n C dX5_plan_291 rfl ?_
    refine dp_getf C (k := 5) (dp_mS ‹_› (dp_cA ‹_›)) (dp_xax ‹_› ‹_›) rfl hX0 (by decide) (List.mem_of_getElem? (i := 15) rfl) rfl dX5_plan_292 ?_
    refine dp_if_le (tgt := 317) C dX5_plan_295 (by decide) ⟨by omega, by omega⟩ (fun c295 => ?_) (fun c295 => ?_)
    · skip
      refine dp_iconst C dX5_plan_317 ?_
      refine dp_putW C ‹_› ‹_› (k := 4) hX5 (by decide) (List.mem_of_getElem? (i := 16) rfl) rfl (tyX5_ok _ (by decide)) rfl rfl dX5_plan_318 ?_
      refine dp_vret C hret dX5_plan_321 ?_
      exact ⟨_, rfl, fun c' h => by rw [← hY c' h]; simp only [u2_ne h], by simp (decide := true) only [u2_ap, reduceIte]; exact h0, by simp (decide := true) only [u2_ap, reduceIte]; exact hU, by simp (decide := true) only [u2_ap, reduceIte]; exact hE, by simp (decide := true) only [u2_ap, reduceIte], by simp (decide := true) only [u2_ap, reduceIte]; first | rfl | omega, by simp (decide := true) only [u2_ap, reduceIte]; exact hT, by simp (decide := true) only [u2_ap, reduceIte]⟩
    · skip
      refine dp_aload_n C dX5_plan_298 rfl ?_
      refine dp_getf C (k := 3) (dp_mS ‹_› (dp_cW ‹_›)) (dp_xwy ‹_› ‹_›) rfl hX5 (by decide) (List.mem_of_getElem? (i := 14) rfl) rfl dX5_plan_299 ?_
      simp (decide := true) only [u2_ap, reduceIte]
      refine dp_aload_n C dX5_plan_302 rfl ?_
      refine dp_getf C (k := 5) (dp_mS ‹_› (dp_cA ‹_›)) (dp_xax ‹_› ‹_›) rfl hX0 (by decide) (List.mem_of_getElem? (i := 15) rfl) rfl dX5_plan_303 ?_
      refine dp_iadd C dX5_plan_306 ?_
      refine dp_iconst C dX5_plan_307 ?_
      refine dp_isub C dX5_plan_308 ?_
      refine dp_aload_n C dX5_plan_309 rfl ?_
      refine dp_getf C (k := 5) (dp_mS ‹_› (dp_cA ‹_›)) (dp_xax ‹_› ‹_›) rfl hX0 (by decide) (List.mem_of_getElem? (i := 15) rfl) rfl dX5_plan_310 ?_
      refine dp_idiv C ⟨by omega, by omega, by omega, by omega⟩ dX5_plan_313 ?_
      refine dp_goto (tgt := 318) C dX5_plan_314 (by decide) ?_
      refine dp_putW C ‹_› ‹_› (k := 4) hX5 (by decide) (List.mem_of_getElem? (i := 16) rfl) rfl (tyX5_ok _ (by decide)) rfl rfl dX5_plan_318 ?_
      refine dp_vret C hret dX5_plan_321 ?_
      exact ⟨_, rfl, fun c' h => by rw [← hY c' h]; simp only [u2_ne h], by simp (decide := true) only [u2_ap, reduceIte]; exact h0, by simp (decide := true) only [u2_ap, reduceIte]; exact hU, by simp (decide := true) only [u2_ap, reduceIte]; exact hE, by simp (decide := true) only [u2_ap, reduceIte], by simp (decide := true) only [u2_ap, reduceIte]; first | rfl | omega, by simp (decide := true) only [u2_ap, reduceIte]; exact hT, by simp (decide := true) only [u2_ap, reduceIte]⟩
  have J230 : ∀ (Y' : dp_V) (sy d : Int), (∀ c', c' ≠ w → Y' c' = Y c') → Y' w 0 = to → Y' w 1 = wyU (V c) to ov → Y' w 2 = wyE (V c) to → Y' w 5 = wyT (V c) to → dp_G E (dp_A E) p l e (dp_rm 1 21) s m [.ref (eAd E r w), .ref (eAd E r c), .int (dp_I to), .int (dp_I ov)].toArray below meth co 0 0 (MQ below (dp_qv E (fun M1 => ∃ Y', M1 = dS M r V Y' ∧ (∀ c', c' ≠ w → Y' c' = Y c') ∧ wyOK c (V c) to ov (Y' w))) [.ref (eAd E r w), .ref (eAd E r c), .int (dp_I to), .int (dp_I ov)].toArray s 0 0 (dp_A E)) (dS M r V Y') 230 [some (.ref (eAd E r w)), some (.ref (eAd E r c)), some (.int (dp_I to)), some (.int (dp_I ov)), some (.int (dp_I d)), some (.int (dp_I sy))] [] := by
    intro Y' sy d hY h0 hU hE hT
    refine dp_aload_n C dX5_plan_230 rfl ?_
    refine dp_aload_n C dX5_plan_231 rfl ?_
    refine dp_aload_n C dX5_plan_232 rfl ?_
    refine dp_getf C (k := 1) (dp_mS ‹_› (dp_cW ‹_›)) (dp_xwy ‹_› ‹_›) rfl hX5 (by decide) (List.mem_of_getElem? (i := 6) rfl) rfl dX5_plan_233 ?_
    rw [hU]
    refine dp_cVi C (c_X0_reaches C.2.2.1 l ‹_› ‹_› ⟨by omega, by omega⟩) gX5_plan_X0_reaches rfl (dp_mS ‹_› (dp_cA ‹_›)) (dp_xax ‹_› ‹_›) rfl yyX0_reaches rfl ⟨Nat.le_of_ble_eq_true rfl, Nat.le_of_ble_eq_true rfl⟩ rfl (Nat.le_of_ble_eq_true rfl) rfl ⟨Nat.zero_le _, Nat.zero_le _⟩ dX5_plan_236 (fun x236 M236 h236 => ?_)
    obtain ⟨rfl, rfl⟩ := h236
    refine dp_ifz_eq (tgt := 257) C dX5_plan_239 (by decide) (fun c239 => ?_) (fun c239 => ?_)
    · skip
      refine dp_iconst C dX5_plan_257 ?_
      exact J258 _ _ _ _ (by unfold wyP dp_b; first | (rw [if_pos ⟨by assumption, by assumption⟩]; done) | (rw [if_neg (fun q => by first | exact absurd q.1 (by assumption) | exact absurd q.2 (by assumption))])) hY h0 hU hE hT
    · skip
      refine dp_aload_n C dX5_plan_242 rfl ?_
      refine dp_aload_n C dX5_plan_243 rfl ?_
      refine dp_getf C (k := 2) (dp_mS ‹_› (dp_cW ‹_›)) (dp_xwy ‹_› ‹_›) rfl hX5 (by decide) (List.mem_of_getElem? (i := 7) rfl) rfl dX5_plan_244 ?_
      rw [hE]
      refine dp_cVi C (c_X0_reaches C.2.2.1 l ‹_› ‹_› ⟨by omega, by omega⟩) gX5_plan_X0_reaches rfl (dp_mS ‹_› (dp_cA ‹_›)) (dp_xax ‹_› ‹_›) rfl yyX0_reaches rfl ⟨Nat.le_of_ble_eq_true rfl, Nat.le_of_ble_eq_true rfl⟩ rfl (Nat.le_of_ble_eq_true rfl) rfl ⟨Nat.zero_le _, Nat.zero_le _⟩ dX5_plan_247 (fun x247 M247 h247 => ?_)
      obtain ⟨rfl, rfl⟩ := h247
      refine dp_ifz_eq (tgt := 257) C dX5_plan_250 (by decide) (fun c250 => ?_) (fun c250 => ?_)
      · skip
        refine dp_iconst C dX5_plan_257 ?_
        exact J258 _ _ _ _ (by unfold wyP dp_b; first | (rw [if_pos ⟨by assumption, by assumption⟩]; done) | (rw [if_neg (fun q => by first | exact absurd q.1 (by assumption) | exact absurd q.2 (by assumption))])) hY h0 hU hE hT
      · skip
        refine dp_iconst C dX5_plan_253 ?_
        refine dp_goto (tgt := 258) C dX5_plan_254 (by decide) ?_
        exact J258 _ _ _ _ (by unfold wyP dp_b; first | (rw [if_pos ⟨by assumption, by assumption⟩]; done) | (rw [if_neg (fun q => by first | exact absurd q.1 (by assumption) | exact absurd q.2 (by assumption))])) hY h0 hU hE hT
  have J202 : ∀ (Y' : dp_V) (sy d : Int), (∀ c', c' ≠ w → Y' c' = Y c') → Y' w 0 = to → Y' w 5 = wyT (V c) to → (¬ wyT (V c) to = 0 → Y' w 1 = wyU (V c) to ov) → dp_R sy → (¬ sy = 0 → V c 3 = wyE (V c) to) → (sy = 0 → Y' w 2 = wyE (V c) to) → dp_G E (dp_A E) p l e (dp_rm 1 21) s m [.ref (eAd E r w), .ref (eAd E r c), .int (dp_I to), .int (dp_I ov)].toArray below meth co 0 0 (MQ below (dp_qv E (fun M1 => ∃ Y', M1 = dS M r V Y' ∧ (∀ c', c' ≠ w → Y' c' = Y c') ∧ wyOK c (V c) to ov (Y' w))) [.ref (eAd E r w), .ref (eAd E r c), .int (dp_I to), .int (dp_I ov)].toArray s 0 0 (dp_A E)) (dS M r V Y') 202 [some (.ref (eAd E r w)), some (.ref (eAd E r c)), some (.int (dp_I to)), some (.int (dp_I ov)), some (.int (dp_I d)), some (.int (dp_I sy))] [] := by
    intro Y' sy d hY h0 hT hU hsy hE1 hE0
    unfold dp_R at hsy
    have bT := @wyT_b (V c) to
    refine dp_iload C dX5_plan_202 rfl ?_
    refine dp_if_eq (tgt := 215) C dX5_plan_204 (by decide) ⟨by omega, by omega⟩ (fun c204 => ?_) (fun c204 => ?_)
    · skip
      refine dp_aload_n C dX5_plan_215 rfl ?_
      refine dp_getf C (k := 5) (dp_mS ‹_› (dp_cW ‹_›)) (dp_xwy ‹_› ‹_›) rfl hX5 (by decide) (List.mem_of_getElem? (i := 5) rfl) rfl dX5_plan_216 ?_
      try simp (decide := true) only [u2_ap, reduceIte]
      rw [hT]
      refine dp_if_ne (tgt := 230) C dX5_plan_219 (by decide) ⟨by omega, by omega⟩ (fun c219 => ?_) (fun c219 => ?_)
      · skip
        refine J230 _ _ _ (fun c' h => by first | exact hY c' h | (simp only [u2_ne h]; exact hY c' h)) (by first | exact h0 | (simp (decide := true) only [u2_ap, reduceIte]; exact h0)) ?_ ?_ ?_
        · first | exact hU (by assumption) | (simp (decide := true) only [u2_ap, reduceIte]; exact hU (by assumption)) | (simp (decide := true) only [u2_ap, reduceIte]; unfold wyU; rw [if_pos (by assumption)]; done)
        · try simp (decide := true) only [u2_ap, reduceIte]
          first | omega | (first | exact hE0 (by omega) | exact (hE1 (by omega)).symm)
        · try simp (decide := true) only [u2_ap, reduceIte]
          exact hT
      · skip
        refine dp_aload_n C dX5_plan_222 rfl ?_
        refine dp_aload_n C dX5_plan_223 rfl ?_
        refine dp_getf C (k := 6) (dp_mS ‹_› (dp_cA ‹_›)) (dp_xax ‹_› ‹_›) rfl hX0 (by decide) (List.mem_of_getElem? (i := 8) rfl) rfl dX5_plan_224 ?_
        refine dp_putW C ‹_› ‹_› (k := 1) hX5 (by decide) (List.mem_of_getElem? (i := 6) rfl) rfl (tyX5_ok _ (by decide)) rfl rfl dX5_plan_227 ?_
        refine J230 _ _ _ (fun c' h => by first | exact hY c' h | (simp only [u2_ne h]; exact hY c' h)) (by first | exact h0 | (simp (decide := true) only [u2_ap, reduceIte]; exact h0)) ?_ ?_ ?_
        · first | exact hU (by assumption) | (simp (decide := true) only [u2_ap, reduceIte]; exact hU (by assumption)) | (simp (decide := true) only [u2_ap, reduceIte]; unfold wyU; rw [if_pos (by assumption)]; done)
        · try simp (decide := true) only [u2_ap, reduceIte]
          first | omega | (first | exact hE0 (by omega) | exact (hE1 (by omega)).symm)
        · try simp (decide := true) only [u2_ap, reduceIte]
          exact hT
    · skip
      refine dp_aload_n C dX5_plan_207 rfl ?_
      refine dp_aload_n C dX5_plan_208 rfl ?_
      refine dp_getf C (k := 6) (dp_mS ‹_› (dp_cA ‹_›)) (dp_xax ‹_› ‹_›) rfl hX0 (by decide) (List.mem_of_getElem? (i := 8) rfl) rfl dX5_plan_209 ?_
      refine dp_putW C ‹_› ‹_› (k := 2) hX5 (by decide) (List.mem_of_getElem? (i := 7) rfl) rfl (tyX5_ok _ (by decide)) rfl rfl dX5_plan_212 ?_
      refine dp_aload_n C dX5_plan_215 rfl ?_
      refine dp_getf C (k := 5) (dp_mS ‹_› (dp_cW ‹_›)) (dp_xwy ‹_› ‹_›) rfl hX5 (by decide) (List.mem_of_getElem? (i := 5) rfl) rfl dX5_plan_216 ?_
      try simp (decide := true) only [u2_ap, reduceIte]
      rw [hT]
      refine dp_if_ne (tgt := 230) C dX5_plan_219 (by decide) ⟨by omega, by omega⟩ (fun c219 => ?_) (fun c219 => ?_)
      · skip
        refine J230 _ _ _ (fun c' h => by first | exact hY c' h | (simp only [u2_ne h]; exact hY c' h)) (by first | exact h0 | (simp (decide := true) only [u2_ap, reduceIte]; exact h0)) ?_ ?_ ?_
        · first | exact hU (by assumption) | (simp (decide := true) only [u2_ap, reduceIte]; exact hU (by assumption)) | (simp (decide := true) only [u2_ap, reduceIte]; unfold wyU; rw [if_pos (by assumption)]; done)
        · try simp (decide := true) only [u2_ap, reduceIte]
          first | omega | (first | exact hE0 (by omega) | exact (hE1 (by omega)).symm)
        · try simp (decide := true) only [u2_ap, reduceIte]
          exact hT
      · skip
        refine dp_aload_n C dX5_plan_222 rfl ?_
        refine dp_aload_n C dX5_plan_223 rfl ?_
        refine dp_getf C (k := 6) (dp_mS ‹_› (dp_cA ‹_›)) (dp_xax ‹_› ‹_›) rfl hX0 (by decide) (List.mem_of_getElem? (i := 8) rfl) rfl dX5_plan_224 ?_
        refine dp_putW C ‹_› ‹_› (k := 1) hX5 (by decide) (List.mem_of_getElem? (i := 6) rfl) rfl (tyX5_ok _ (by decide)) rfl rfl dX5_plan_227 ?_
        refine J230 _ _ _ (fun c' h => by first | exact hY c' h | (simp only [u2_ne h]; exact hY c' h)) (by first | exact h0 | (simp (decide := true) only [u2_ap, reduceIte]; exact h0)) ?_ ?_ ?_
        · first | exact hU (by assumption) | (simp (decide := true) only [u2_ap, reduceIte]; exact hU (by assumption)) | (simp (decide := true) only [u2_ap, reduceIte]; unfold wyU; rw [if_pos (by assumption)]; done)
        · try simp (decide := true) only [u2_ap, reduceIte]
          first | omega | (first | exact hE0 (by omega) | exact (hE1 (by omega)).symm)
        · try simp (decide := true) only [u2_ap, reduceIte]
          exact hT
  have J62 : ∀ (sy : Int), V c 1 = 1 → dp_R sy → (¬ sy = 0 → V c 3 - V c 4 = to ∧ V c 4 = V c 0) → (sy = 0 → ¬ (V c 3 - V c 4 = to ∧ V c 4 = V c 0)) → dp_G E (dp_A E) p l e (dp_rm 1 21) s m [.ref (eAd E r w), .ref (eAd E r c), .int (dp_I to), .int (dp_I ov)].toArray below meth co 0 0 (MQ below (dp_qv E (fun M1 => ∃ Y', M1 = dS M r V Y' ∧ (∀ c', c' ≠ w → Y' c' = Y c') ∧ wyOK c (V c) to ov (Y' w))) [.ref (eAd E r w), .ref (eAd E r c), .int (dp_I to), .int (dp_I ov)].toArray s 0 0 (dp_A E)) (dS M r V (u2 Y w 0 to)) 62 [some (.ref (eAd E r w)), some (.ref (eAd E r c)), some (.int (dp_I to)), some (.int (dp_I ov)), some (.int (dp_I (V c 3 - V c 4))), none] [.int (dp_I sy)] := by
    intro sy hside hsy hs1 hs0
    unfold dp_R at hsy
    refine dp_istore C dX5_plan_62 (Nat.le_of_ble_eq_true rfl) ?_
    dsimp only [List.set]
    refine dp_aload_n C dX5_plan_64 rfl ?_
    refine dp_iload C dX5_plan_65 rfl ?_
    refine dp_iload_n C dX5_plan_67 rfl ?_
    refine dp_icmp_lt (tgt := 80) C dX5_plan_68 (by decide) ⟨by omega, by omega⟩ ⟨by omega, by omega⟩ (fun c68 => ?_) (fun c68 => ?_)
    · skip
      refine dp_iconst C dX5_plan_80 ?_
      refine dp_putW C ‹_› ‹_› (k := 5) hX5 (by decide) (List.mem_of_getElem? (i := 5) rfl) rfl (tyX5_ok _ (by decide)) (by first | rfl | exact dp_nb) (by first | rfl | decide) dX5_plan_81 ?_
      refine dp_aload_n C dX5_plan_84 rfl ?_
      refine dp_iload_n C dX5_plan_85 rfl ?_
      refine dp_iload_n C dX5_plan_86 rfl ?_
      refine dp_isub C dX5_plan_87 ?_
      refine dp_putW C ‹_› ‹_› (k := 1) hX5 (by decide) (List.mem_of_getElem? (i := 6) rfl) rfl (tyX5_ok _ (by decide)) rfl rfl dX5_plan_88 ?_
      refine dp_aload_n C dX5_plan_91 rfl ?_
      refine dp_iload_n C dX5_plan_92 rfl ?_
      refine dp_aload_n C dX5_plan_93 rfl ?_
      refine dp_getf C (k := 3) (dp_mS ‹_› (dp_cA ‹_›)) (dp_xax ‹_› ‹_›) rfl hX0 (by decide) (List.mem_of_getElem? (i := 4) rfl) rfl dX5_plan_94 ?_
      refine dp_iadd C dX5_plan_97 ?_
      refine dp_putW C ‹_› ‹_› (k := 2) hX5 (by decide) (List.mem_of_getElem? (i := 7) rfl) rfl (tyX5_ok _ (by decide)) rfl rfl dX5_plan_98 ?_
      refine dp_goto (tgt := 202) C dX5_plan_101 (by decide) ?_
      refine J202 _ _ _ (fun c' h => by simp only [u2_ne h]) (by simp (decide := true) only [u2_ap, reduceIte]) ?_ ?_ (by first | assumption | exact ⟨by omega, by omega⟩) ?_ ?_
      · simp (decide := true) only [u2_ap, reduceIte]
        unfold wyT
        (repeat' split) <;> omega
      · intro hq
        first | (simp (decide := true) only [u2_ap, reduceIte]; unfold wyU; rw [if_neg hq]; (repeat' split) <;> omega; done) | (exfalso; apply hq; unfold wyT; (repeat' split) <;> omega)
      · intro hq
        unfold wyE
        (repeat' split) <;> omega
      · intro hq
        simp (decide := true) only [u2_ap, reduceIte]
        unfold wyE
        (repeat' split) <;> omega
    · skip
      refine dp_iload C dX5_plan_71 rfl ?_
      refine dp_if_ne (tgt := 80) C dX5_plan_73 (by decide) ⟨by omega, by omega⟩ (fun c73 => ?_) (fun c73 => ?_)
      · skip
        refine dp_iconst C dX5_plan_80 ?_
        refine dp_putW C ‹_› ‹_› (k := 5) hX5 (by decide) (List.mem_of_getElem? (i := 5) rfl) rfl (tyX5_ok _ (by decide)) (by first | rfl | exact dp_nb) (by first | rfl | decide) dX5_plan_81 ?_
        refine dp_aload_n C dX5_plan_84 rfl ?_
        refine dp_iload_n C dX5_plan_85 rfl ?_
        refine dp_iload_n C dX5_plan_86 rfl ?_
        refine dp_isub C dX5_plan_87 ?_
        refine dp_putW C ‹_› ‹_› (k := 1) hX5 (by decide) (List.mem_of_getElem? (i := 6) rfl) rfl (tyX5_ok _ (by decide)) rfl rfl dX5_plan_88 ?_
        refine dp_aload_n C dX5_plan_91 rfl ?_
        refine dp_iload_n C dX5_plan_92 rfl ?_
        refine dp_aload_n C dX5_plan_93 rfl ?_
        refine dp_getf C (k := 3) (dp_mS ‹_› (dp_cA ‹_›)) (dp_xax ‹_› ‹_›) rfl hX0 (by decide) (List.mem_of_getElem? (i := 4) rfl) rfl dX5_plan_94 ?_
        refine dp_iadd C dX5_plan_97 ?_
        refine dp_putW C ‹_› ‹_› (k := 2) hX5 (by decide) (List.mem_of_getElem? (i := 7) rfl) rfl (tyX5_ok _ (by decide)) rfl rfl dX5_plan_98 ?_
        refine dp_goto (tgt := 202) C dX5_plan_101 (by decide) ?_
        refine J202 _ _ _ (fun c' h => by simp only [u2_ne h]) (by simp (decide := true) only [u2_ap, reduceIte]) ?_ ?_ (by first | assumption | exact ⟨by omega, by omega⟩) ?_ ?_
        · simp (decide := true) only [u2_ap, reduceIte]
          unfold wyT
          (repeat' split) <;> omega
        · intro hq
          first | (simp (decide := true) only [u2_ap, reduceIte]; unfold wyU; rw [if_neg hq]; (repeat' split) <;> omega; done) | (exfalso; apply hq; unfold wyT; (repeat' split) <;> omega)
        · intro hq
          unfold wyE
          (repeat' split) <;> omega
        · intro hq
          simp (decide := true) only [u2_ap, reduceIte]
          unfold wyE
          (repeat' split) <;> omega
      · skip
        refine dp_iconst C dX5_plan_76 ?_
        refine dp_goto (tgt := 81) C dX5_plan_77 (by decide) ?_
        refine dp_putW C ‹_› ‹_› (k := 5) hX5 (by decide) (List.mem_of_getElem? (i := 5) rfl) rfl (tyX5_ok _ (by decide)) (by first | rfl | exact dp_nb) (by first | rfl | decide) dX5_plan_81 ?_
        refine dp_aload_n C dX5_plan_84 rfl ?_
        refine dp_iload_n C dX5_plan_85 rfl ?_
        refine dp_iload_n C dX5_plan_86 rfl ?_
        refine dp_isub C dX5_plan_87 ?_
        refine dp_putW C ‹_› ‹_› (k := 1) hX5 (by decide) (List.mem_of_getElem? (i := 6) rfl) rfl (tyX5_ok _ (by decide)) rfl rfl dX5_plan_88 ?_
        refine dp_aload_n C dX5_plan_91 rfl ?_
        refine dp_iload_n C dX5_plan_92 rfl ?_
        refine dp_aload_n C dX5_plan_93 rfl ?_
        refine dp_getf C (k := 3) (dp_mS ‹_› (dp_cA ‹_›)) (dp_xax ‹_› ‹_›) rfl hX0 (by decide) (List.mem_of_getElem? (i := 4) rfl) rfl dX5_plan_94 ?_
        refine dp_iadd C dX5_plan_97 ?_
        refine dp_putW C ‹_› ‹_› (k := 2) hX5 (by decide) (List.mem_of_getElem? (i := 7) rfl) rfl (tyX5_ok _ (by decide)) rfl rfl dX5_plan_98 ?_
        refine dp_goto (tgt := 202) C dX5_plan_101 (by decide) ?_
        refine J202 _ _ _ (fun c' h => by simp only [u2_ne h]) (by simp (decide := true) only [u2_ap, reduceIte]) ?_ ?_ (by first | assumption | exact ⟨by omega, by omega⟩) ?_ ?_
        · simp (decide := true) only [u2_ap, reduceIte]
          unfold wyT
          (repeat' split) <;> omega
        · intro hq
          first | (simp (decide := true) only [u2_ap, reduceIte]; unfold wyU; rw [if_neg hq]; (repeat' split) <;> omega; done) | (exfalso; apply hq; unfold wyT; (repeat' split) <;> omega)
        · intro hq
          unfold wyE
          (repeat' split) <;> omega
        · intro hq
          simp (decide := true) only [u2_ap, reduceIte]
          unfold wyE
          (repeat' split) <;> omega
  have J122 : ∀ (sy : Int), V c 1 = 2 → dp_R sy → (¬ sy = 0 → V c 3 - V c 4 = to ∧ V c 4 = 0) → (sy = 0 → ¬ (V c 3 - V c 4 = to ∧ V c 4 = 0)) → dp_G E (dp_A E) p l e (dp_rm 1 21) s m [.ref (eAd E r w), .ref (eAd E r c), .int (dp_I to), .int (dp_I ov)].toArray below meth co 0 0 (MQ below (dp_qv E (fun M1 => ∃ Y', M1 = dS M r V Y' ∧ (∀ c', c' ≠ w → Y' c' = Y c') ∧ wyOK c (V c) to ov (Y' w))) [.ref (eAd E r w), .ref (eAd E r c), .int (dp_I to), .int (dp_I ov)].toArray s 0 0 (dp_A E)) (dS M r V (u2 Y w 0 to)) 122 [some (.ref (eAd E r w)), some (.ref (eAd E r c)), some (.int (dp_I to)), some (.int (dp_I ov)), some (.int (dp_I (V c 3 - V c 4))), none] [.int (dp_I sy)] := by
    intro sy hside hsy hs1 hs0
    unfold dp_R at hsy
    refine dp_istore C dX5_plan_122 (Nat.le_of_ble_eq_true rfl) ?_
    dsimp only [List.set]
    refine dp_aload_n C dX5_plan_124 rfl ?_
    refine dp_iload C dX5_plan_125 rfl ?_
    refine dp_iload_n C dX5_plan_127 rfl ?_
    refine dp_icmp_gt (tgt := 140) C dX5_plan_128 (by decide) ⟨by omega, by omega⟩ ⟨by omega, by omega⟩ (fun c128 => ?_) (fun c128 => ?_)
    · skip
      refine dp_iconst C dX5_plan_140 ?_
      refine dp_putW C ‹_› ‹_› (k := 5) hX5 (by decide) (List.mem_of_getElem? (i := 5) rfl) rfl (tyX5_ok _ (by decide)) (by first | rfl | exact dp_nb) (by first | rfl | decide) dX5_plan_141 ?_
      refine dp_aload_n C dX5_plan_144 rfl ?_
      refine dp_iload_n C dX5_plan_145 rfl ?_
      refine dp_aload_n C dX5_plan_146 rfl ?_
      refine dp_getf C (k := 3) (dp_mS ‹_› (dp_cA ‹_›)) (dp_xax ‹_› ‹_›) rfl hX0 (by decide) (List.mem_of_getElem? (i := 4) rfl) rfl dX5_plan_147 ?_
      refine dp_iadd C dX5_plan_150 ?_
      refine dp_iload_n C dX5_plan_151 rfl ?_
      refine dp_iadd C dX5_plan_152 ?_
      refine dp_putW C ‹_› ‹_› (k := 1) hX5 (by decide) (List.mem_of_getElem? (i := 6) rfl) rfl (tyX5_ok _ (by decide)) rfl rfl dX5_plan_153 ?_
      refine dp_aload_n C dX5_plan_156 rfl ?_
      refine dp_iload_n C dX5_plan_157 rfl ?_
      refine dp_putW C ‹_› ‹_› (k := 2) hX5 (by decide) (List.mem_of_getElem? (i := 7) rfl) rfl (tyX5_ok _ (by decide)) rfl rfl dX5_plan_158 ?_
      refine dp_goto (tgt := 202) C dX5_plan_161 (by decide) ?_
      refine J202 _ _ _ (fun c' h => by simp only [u2_ne h]) (by simp (decide := true) only [u2_ap, reduceIte]) ?_ ?_ (by first | assumption | exact ⟨by omega, by omega⟩) ?_ ?_
      · simp (decide := true) only [u2_ap, reduceIte]
        unfold wyT
        (repeat' split) <;> omega
      · intro hq
        first | (simp (decide := true) only [u2_ap, reduceIte]; unfold wyU; rw [if_neg hq]; (repeat' split) <;> omega; done) | (exfalso; apply hq; unfold wyT; (repeat' split) <;> omega)
      · intro hq
        unfold wyE
        (repeat' split) <;> omega
      · intro hq
        simp (decide := true) only [u2_ap, reduceIte]
        unfold wyE
        (repeat' split) <;> omega
    · skip
      refine dp_iload C dX5_plan_131 rfl ?_
      refine dp_if_ne (tgt := 140) C dX5_plan_133 (by decide) ⟨by omega, by omega⟩ (fun c133 => ?_) (fun c133 => ?_)
      · skip
        refine dp_iconst C dX5_plan_140 ?_
        refine dp_putW C ‹_› ‹_› (k := 5) hX5 (by decide) (List.mem_of_getElem? (i := 5) rfl) rfl (tyX5_ok _ (by decide)) (by first | rfl | exact dp_nb) (by first | rfl | decide) dX5_plan_141 ?_
        refine dp_aload_n C dX5_plan_144 rfl ?_
        refine dp_iload_n C dX5_plan_145 rfl ?_
        refine dp_aload_n C dX5_plan_146 rfl ?_
        refine dp_getf C (k := 3) (dp_mS ‹_› (dp_cA ‹_›)) (dp_xax ‹_› ‹_›) rfl hX0 (by decide) (List.mem_of_getElem? (i := 4) rfl) rfl dX5_plan_147 ?_
        refine dp_iadd C dX5_plan_150 ?_
        refine dp_iload_n C dX5_plan_151 rfl ?_
        refine dp_iadd C dX5_plan_152 ?_
        refine dp_putW C ‹_› ‹_› (k := 1) hX5 (by decide) (List.mem_of_getElem? (i := 6) rfl) rfl (tyX5_ok _ (by decide)) rfl rfl dX5_plan_153 ?_
        refine dp_aload_n C dX5_plan_156 rfl ?_
        refine dp_iload_n C dX5_plan_157 rfl ?_
        refine dp_putW C ‹_› ‹_› (k := 2) hX5 (by decide) (List.mem_of_getElem? (i := 7) rfl) rfl (tyX5_ok _ (by decide)) rfl rfl dX5_plan_158 ?_
        refine dp_goto (tgt := 202) C dX5_plan_161 (by decide) ?_
        refine J202 _ _ _ (fun c' h => by simp only [u2_ne h]) (by simp (decide := true) only [u2_ap, reduceIte]) ?_ ?_ (by first | assumption | exact ⟨by omega, by omega⟩) ?_ ?_
        · simp (decide := true) only [u2_ap, reduceIte]
          unfold wyT
          (repeat' split) <;> omega
        · intro hq
          first | (simp (decide := true) only [u2_ap, reduceIte]; unfold wyU; rw [if_neg hq]; (repeat' split) <;> omega; done) | (exfalso; apply hq; unfold wyT; (repeat' split) <;> omega)
        · intro hq
          unfold wyE
          (repeat' split) <;> omega
        · intro hq
          simp (decide := true) only [u2_ap, reduceIte]
          unfold wyE
          (repeat' split) <;> omega
      · skip
        refine dp_iconst C dX5_plan_136 ?_
        refine dp_goto (tgt := 141) C dX5_plan_137 (by decide) ?_
        refine dp_putW C ‹_› ‹_› (k := 5) hX5 (by decide) (List.mem_of_getElem? (i := 5) rfl) rfl (tyX5_ok _ (by decide)) (by first | rfl | exact dp_nb) (by first | rfl | decide) dX5_plan_141 ?_
        refine dp_aload_n C dX5_plan_144 rfl ?_
        refine dp_iload_n C dX5_plan_145 rfl ?_
        refine dp_aload_n C dX5_plan_146 rfl ?_
        refine dp_getf C (k := 3) (dp_mS ‹_› (dp_cA ‹_›)) (dp_xax ‹_› ‹_›) rfl hX0 (by decide) (List.mem_of_getElem? (i := 4) rfl) rfl dX5_plan_147 ?_
        refine dp_iadd C dX5_plan_150 ?_
        refine dp_iload_n C dX5_plan_151 rfl ?_
        refine dp_iadd C dX5_plan_152 ?_
        refine dp_putW C ‹_› ‹_› (k := 1) hX5 (by decide) (List.mem_of_getElem? (i := 6) rfl) rfl (tyX5_ok _ (by decide)) rfl rfl dX5_plan_153 ?_
        refine dp_aload_n C dX5_plan_156 rfl ?_
        refine dp_iload_n C dX5_plan_157 rfl ?_
        refine dp_putW C ‹_› ‹_› (k := 2) hX5 (by decide) (List.mem_of_getElem? (i := 7) rfl) rfl (tyX5_ok _ (by decide)) rfl rfl dX5_plan_158 ?_
        refine dp_goto (tgt := 202) C dX5_plan_161 (by decide) ?_
        refine J202 _ _ _ (fun c' h => by simp only [u2_ne h]) (by simp (decide := true) only [u2_ap, reduceIte]) ?_ ?_ (by first | assumption | exact ⟨by omega, by omega⟩) ?_ ?_
        · simp (decide := true) only [u2_ap, reduceIte]
          unfold wyT
          (repeat' split) <;> omega
        · intro hq
          first | (simp (decide := true) only [u2_ap, reduceIte]; unfold wyU; rw [if_neg hq]; (repeat' split) <;> omega; done) | (exfalso; apply hq; unfold wyT; (repeat' split) <;> omega)
        · intro hq
          unfold wyE
          (repeat' split) <;> omega
        · intro hq
          simp (decide := true) only [u2_ap, reduceIte]
          unfold wyE
          (repeat' split) <;> omega
  have J175 : ∀ (sy : Int), ¬ V c 1 = 1 ∧ ¬ V c 1 = 2 → dp_R sy → (¬ sy = 0 → V c 3 - V c 4 = to) → (sy = 0 → ¬ (V c 3 - V c 4 = to)) → dp_G E (dp_A E) p l e (dp_rm 1 21) s m [.ref (eAd E r w), .ref (eAd E r c), .int (dp_I to), .int (dp_I ov)].toArray below meth co 0 0 (MQ below (dp_qv E (fun M1 => ∃ Y', M1 = dS M r V Y' ∧ (∀ c', c' ≠ w → Y' c' = Y c') ∧ wyOK c (V c) to ov (Y' w))) [.ref (eAd E r w), .ref (eAd E r c), .int (dp_I to), .int (dp_I ov)].toArray s 0 0 (dp_A E)) (dS M r V (u2 Y w 0 to)) 175 [some (.ref (eAd E r w)), some (.ref (eAd E r c)), some (.int (dp_I to)), some (.int (dp_I ov)), some (.int (dp_I (V c 3 - V c 4))), none] [.int (dp_I sy)] := by
    intro sy hside hsy hs1 hs0
    unfold dp_R at hsy
    refine dp_istore C dX5_plan_175 (Nat.le_of_ble_eq_true rfl) ?_
    dsimp only [List.set]
    refine dp_aload_n C dX5_plan_177 rfl ?_
    refine dp_iconst C dX5_plan_178 ?_
    refine dp_putW C ‹_› ‹_› (k := 5) hX5 (by decide) (List.mem_of_getElem? (i := 5) rfl) rfl (tyX5_ok _ (by decide)) (by first | rfl | exact dp_nb) (by first | rfl | decide) dX5_plan_179 ?_
    refine dp_aload_n C dX5_plan_182 rfl ?_
    refine dp_iload C dX5_plan_183 rfl ?_
    refine dp_iload_n C dX5_plan_185 rfl ?_
    refine dp_icmp_ge (tgt := 198) C dX5_plan_186 (by decide) ⟨by omega, by omega⟩ ⟨by omega, by omega⟩ (fun c186 => ?_) (fun c186 => ?_)
    · skip
      refine dp_iload_n C dX5_plan_198 rfl ?_
      refine dp_putW C ‹_› ‹_› (k := 2) hX5 (by decide) (List.mem_of_getElem? (i := 7) rfl) rfl (tyX5_ok _ (by decide)) rfl rfl dX5_plan_199 ?_
      refine J202 _ _ _ (fun c' h => by simp only [u2_ne h]) (by simp (decide := true) only [u2_ap, reduceIte]) ?_ ?_ (by first | assumption | exact ⟨by omega, by omega⟩) ?_ ?_
      · simp (decide := true) only [u2_ap, reduceIte]
        unfold wyT
        (repeat' split) <;> omega
      · intro hq
        first | (simp (decide := true) only [u2_ap, reduceIte]; unfold wyU; rw [if_neg hq]; (repeat' split) <;> omega; done) | (exfalso; apply hq; unfold wyT; (repeat' split) <;> omega)
      · intro hq
        unfold wyE
        (repeat' split) <;> omega
      · intro hq
        simp (decide := true) only [u2_ap, reduceIte]
        unfold wyE
        (repeat' split) <;> omega
    · skip
      refine dp_iload_n C dX5_plan_189 rfl ?_
      refine dp_aload_n C dX5_plan_190 rfl ?_
      refine dp_getf C (k := 3) (dp_mS ‹_› (dp_cA ‹_›)) (dp_xax ‹_› ‹_›) rfl hX0 (by decide) (List.mem_of_getElem? (i := 4) rfl) rfl dX5_plan_191 ?_
      refine dp_iadd C dX5_plan_194 ?_
      refine dp_goto (tgt := 199) C dX5_plan_195 (by decide) ?_
      refine dp_putW C ‹_› ‹_› (k := 2) hX5 (by decide) (List.mem_of_getElem? (i := 7) rfl) rfl (tyX5_ok _ (by decide)) rfl rfl dX5_plan_199 ?_
      refine J202 _ _ _ (fun c' h => by simp only [u2_ne h]) (by simp (decide := true) only [u2_ap, reduceIte]) ?_ ?_ (by first | assumption | exact ⟨by omega, by omega⟩) ?_ ?_
      · simp (decide := true) only [u2_ap, reduceIte]
        unfold wyT
        (repeat' split) <;> omega
      · intro hq
        first | (simp (decide := true) only [u2_ap, reduceIte]; unfold wyU; rw [if_neg hq]; (repeat' split) <;> omega; done) | (exfalso; apply hq; unfold wyT; (repeat' split) <;> omega)
      · intro hq
        unfold wyE
        (repeat' split) <;> omega
      · intro hq
        simp (decide := true) only [u2_ap, reduceIte]
        unfold wyE
        (repeat' split) <;> omega
  refine dp_aload_n C dX5_plan_0 rfl ?_
  refine dp_cVi C (c_X0_dish C.2.2.1 l ‹_› ‹_›) gX5_plan_X0_dish rfl (dp_mS ‹_› (dp_cA ‹_›)) (dp_xax ‹_› ‹_›) rfl yyX0_dish rfl ⟨Nat.le_of_ble_eq_true rfl, Nat.le_of_ble_eq_true rfl⟩ rfl (Nat.le_of_ble_eq_true rfl) rfl ⟨Nat.zero_le _, Nat.zero_le _⟩ dX5_plan_1 (fun x1 M1 h1 => ?_)
  obtain ⟨rfl, rfl⟩ := h1
  refine dp_istore C dX5_plan_4 (Nat.le_of_ble_eq_true rfl) ?_
  dsimp only [List.set]
  refine dp_aload_n C dX5_plan_6 rfl ?_
  refine dp_iload_n C dX5_plan_7 rfl ?_
  refine dp_putW C ‹_› ‹_› (k := 0) hX5 (by decide) (List.mem_of_getElem? (i := 1) rfl) rfl (tyX5_ok _ (by decide)) rfl rfl dX5_plan_8 ?_
  refine dp_aload_n C dX5_plan_11 rfl ?_
  refine dp_getf C (k := 4) (dp_mS ‹_› (dp_cA ‹_›)) (dp_xax ‹_› ‹_›) rfl hX0 (by decide) (List.mem_of_getElem? (i := 2) rfl) rfl dX5_plan_12 ?_
  refine dp_look2 (t1 := 40) (t2 := 104) (td := 164) C dX5_plan_15 (by decide) (by decide) (by decide) (by decide) ⟨by omega, by omega⟩ (fun c15 => ?_) (fun c15 => ?_) (fun c15 c15b => ?_)
  · skip
    refine dp_iload C dX5_plan_40 rfl ?_
    refine dp_iload_n C dX5_plan_42 rfl ?_
    refine dp_icmp_ne (tgt := 61) C dX5_plan_43 (by decide) ⟨by omega, by omega⟩ ⟨by omega, by omega⟩ (fun c43 => ?_) (fun c43 => ?_)
    · skip
      refine dp_iconst C dX5_plan_61 ?_
      exact J62 _ (by first | assumption | exact ⟨by assumption, by assumption⟩) ⟨by omega, by omega⟩ (fun _ => by omega) (fun _ => by omega)
    · skip
      refine dp_aload_n C dX5_plan_46 rfl ?_
      refine dp_getf C (k := 7) (dp_mS ‹_› (dp_cA ‹_›)) (dp_xax ‹_› ‹_›) rfl hX0 (by decide) (List.mem_of_getElem? (i := 3) rfl) rfl dX5_plan_47 ?_
      refine dp_aload_n C dX5_plan_50 rfl ?_
      refine dp_getf C (k := 3) (dp_mS ‹_› (dp_cA ‹_›)) (dp_xax ‹_› ‹_›) rfl hX0 (by decide) (List.mem_of_getElem? (i := 4) rfl) rfl dX5_plan_51 ?_
      refine dp_icmp_ne (tgt := 61) C dX5_plan_54 (by decide) ⟨by omega, by omega⟩ ⟨by omega, by omega⟩ (fun c54 => ?_) (fun c54 => ?_)
      · skip
        refine dp_iconst C dX5_plan_61 ?_
        exact J62 _ (by first | assumption | exact ⟨by assumption, by assumption⟩) ⟨by omega, by omega⟩ (fun _ => by omega) (fun _ => by omega)
      · skip
        refine dp_iconst C dX5_plan_57 ?_
        refine dp_goto (tgt := 62) C dX5_plan_58 (by decide) ?_
        exact J62 _ (by first | assumption | exact ⟨by assumption, by assumption⟩) ⟨by omega, by omega⟩ (fun _ => by omega) (fun _ => by omega)
  · skip
    refine dp_iload C dX5_plan_104 rfl ?_
    refine dp_iload_n C dX5_plan_106 rfl ?_
    refine dp_icmp_ne (tgt := 121) C dX5_plan_107 (by decide) ⟨by omega, by omega⟩ ⟨by omega, by omega⟩ (fun c107 => ?_) (fun c107 => ?_)
    · skip
      refine dp_iconst C dX5_plan_121 ?_
      exact J122 _ (by first | assumption | exact ⟨by assumption, by assumption⟩) ⟨by omega, by omega⟩ (fun _ => by omega) (fun _ => by omega)
    · skip
      refine dp_aload_n C dX5_plan_110 rfl ?_
      refine dp_getf C (k := 7) (dp_mS ‹_› (dp_cA ‹_›)) (dp_xax ‹_› ‹_›) rfl hX0 (by decide) (List.mem_of_getElem? (i := 3) rfl) rfl dX5_plan_111 ?_
      refine dp_if_ne (tgt := 121) C dX5_plan_114 (by decide) ⟨by omega, by omega⟩ (fun c114 => ?_) (fun c114 => ?_)
      · skip
        refine dp_iconst C dX5_plan_121 ?_
        exact J122 _ (by first | assumption | exact ⟨by assumption, by assumption⟩) ⟨by omega, by omega⟩ (fun _ => by omega) (fun _ => by omega)
      · skip
        refine dp_iconst C dX5_plan_117 ?_
        refine dp_goto (tgt := 122) C dX5_plan_118 (by decide) ?_
        exact J122 _ (by first | assumption | exact ⟨by assumption, by assumption⟩) ⟨by omega, by omega⟩ (fun _ => by omega) (fun _ => by omega)
  · skip
    refine dp_iload C dX5_plan_164 rfl ?_
    refine dp_iload_n C dX5_plan_166 rfl ?_
    refine dp_icmp_ne (tgt := 174) C dX5_plan_167 (by decide) ⟨by omega, by omega⟩ ⟨by omega, by omega⟩ (fun c167 => ?_) (fun c167 => ?_)
    · skip
      refine dp_iconst C dX5_plan_174 ?_
      exact J175 _ (by first | assumption | exact ⟨by assumption, by assumption⟩) ⟨by omega, by omega⟩ (fun _ => by omega) (fun _ => by omega)
    · skip
      refine dp_iconst C dX5_plan_170 ?_
      refine dp_goto (tgt := 175) C dX5_plan_171 (by decide) ?_
      exact J175 _ (by first | assumption | exact ⟨by assumption, by assumption⟩) ⟨by omega, by omega⟩ (fun _ => by omega) (fun _ => by omega)
