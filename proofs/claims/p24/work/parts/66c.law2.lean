/-! THE PLACE PICKED; A SLEW -/
def itF (V : dp_V) (t : Int) : Int := (if V 1 1 < ab t then 100000000000000 else 0) + 100000000 * lnN 3 (V 3) t (V 1 0) + 100 * ab t + (if 0 < t then 1 else 0)
def pkG (V : dp_V) (z : Int) : Nat → Nat → Int → Int → Int
  | 0, _, _, pl => pl
  | n + 1, k, b, pl => if 0 ≤ lnN 3 (V 3) (z - 36000 * k) (V 1 0) ∧ (b < 0 ∨ itF V (z - 36000 * k) < b) then pkG V z n (k + 1) (itF V (z - 36000 * k)) (z - 36000 * k) else pkG V z n (k + 1) b pl
theorem lnN_bd {c : Nat} {f : Nat → Int} {to ov : Int} (hi : ivA c f) (h1 : -40000 ≤ to ∧ to ≤ 40000) (h2 : 0 ≤ ov ∧ ov ≤ 500) : -1 ≤ lnN c f to ov ∧ lnN c f to ov ≤ 200000 := by
  have a := wyL_bd hi h1 h2
  unfold lnN
  split <;> omega
theorem lnN_ge {c : Nat} {f : Nat → Int} {to ov : Int} (hi : ivA c f) (h1 : -40000 ≤ to ∧ to ≤ 40000) (h2 : 0 ≤ ov ∧ ov ≤ 500) : (wyP c f to ov = 0 → lnN c f to ov = -1) ∧ (¬ wyP c f to ov = 0 → lnN c f to ov = wyL f to ov ∧ 0 ≤ wyL f to ov) := by
  have a := wyL_bd hi h1 h2
  unfold lnN
  exact ⟨fun q => if_pos q, fun q => ⟨if_neg q, a.1⟩⟩
theorem pkG_pf {V : dp_V} {z : Int} (hv : ivS V) (hz : 0 ≤ z ∧ z ≤ 35999) : pkG V z 2 0 (-1) (-100004) = pfF V z := by
  have ho : 0 ≤ V 1 0 ∧ V 1 0 ≤ 500 := by have := hv.2.1; omega
  have e0 : z - 36000 * ((0 : Nat) : Int) = z := by omega
  have e1 : z - 36000 * ((0 + 1 : Nat) : Int) = z - 36000 := by omega
  have a0 : ab z = z := by unfold ab; split <;> omega
  have a1 : ab (z - 36000) = 36000 - z := by unfold ab; split <;> omega
  have L0 := lnN_ge hv.2.2.2.1 (show -40000 ≤ z ∧ z ≤ 40000 by omega) ho
  have L1 := lnN_ge hv.2.2.2.1 (show -40000 ≤ z - 36000 ∧ z - 36000 ≤ 40000 by omega) ho
  have b0 := wyL_bd hv.2.2.2.1 (show -40000 ≤ z ∧ z ≤ 40000 by omega) ho
  have b1 := wyL_bd hv.2.2.2.1 (show -40000 ≤ z - 36000 ∧ z - 36000 ≤ 40000 by omega) ho
  have hlt : ltF V z = (if dp_b (ab (z - 36000) ≤ V 1 1) = dp_b (ab z ≤ V 1 1) then (if wyL (V 3) (z - 36000) (V 1 0) = wyL (V 3) z (V 1 0) then dp_b (ab (z - 36000) ≤ ab z) else dp_b (wyL (V 3) (z - 36000) (V 1 0) < wyL (V 3) z (V 1 0))) else dp_b (ab (z - 36000) ≤ V 1 1)) := rfl
  have hr : arW V z = (if wyP 3 (V 3) (z - 36000) (V 1 0) = 0 then 0 else if wyP 3 (V 3) z (V 1 0) = 0 then 1 else ltF V z) := rfl
  have hI0 : itF V z = (if V 1 1 < z then 100000000000000 else 0) + 100000000 * lnN 3 (V 3) z (V 1 0) + 100 * z + (if 0 < z then 1 else 0) := by unfold itF; rw [a0]
  have hI1 : itF V (z - 36000) = (if V 1 1 < 36000 - z then 100000000000000 else 0) + 100000000 * lnN 3 (V 3) (z - 36000) (V 1 0) + 100 * (36000 - z) := by unfold itF; rw [a1, if_neg (show ¬ 0 < z - 36000 by omega)]; omega
  rw [a0, a1] at hlt
  unfold pfF apF
  rw [hr]
  show (if 0 ≤ lnN 3 (V 3) (z - 36000 * ((0 : Nat) : Int)) (V 1 0) ∧ ((-1 : Int) < 0 ∨ itF V (z - 36000 * ((0 : Nat) : Int)) < -1) then (if 0 ≤ lnN 3 (V 3) (z - 36000 * ((0 + 1 : Nat) : Int)) (V 1 0) ∧ (itF V (z - 36000 * ((0 : Nat) : Int)) < 0 ∨ itF V (z - 36000 * ((0 + 1 : Nat) : Int)) < itF V (z - 36000 * ((0 : Nat) : Int))) then z - 36000 * ((0 + 1 : Nat) : Int) else z - 36000 * ((0 : Nat) : Int)) else (if 0 ≤ lnN 3 (V 3) (z - 36000 * ((0 + 1 : Nat) : Int)) (V 1 0) ∧ ((-1 : Int) < 0 ∨ itF V (z - 36000 * ((0 + 1 : Nat) : Int)) < -1) then z - 36000 * ((0 + 1 : Nat) : Int) else -100004)) = _
  rw [e0, e1]
  by_cases p0 : wyP 3 (V 3) z (V 1 0) = 0
  · rw [if_neg (show ¬ (0 ≤ lnN 3 (V 3) z (V 1 0) ∧ _) from fun q => by have := L0.1 p0; omega)]
    by_cases p1 : wyP 3 (V 3) (z - 36000) (V 1 0) = 0
    · rw [if_neg (show ¬ (0 ≤ lnN 3 (V 3) (z - 36000) (V 1 0) ∧ _) from fun q => by have := L1.1 p1; omega), if_pos p1, if_pos rfl, if_pos p0]
    · rw [if_pos ⟨by have := L1.2 p1; omega, Or.inl (by decide)⟩, if_neg p1, if_pos p0, if_neg (show ¬ (1 : Int) = 0 by decide), if_neg p1]
  · have l0 := L0.2 p0
    rw [if_pos ⟨by omega, Or.inl (by decide)⟩]
    by_cases p1 : wyP 3 (V 3) (z - 36000) (V 1 0) = 0
    · rw [if_neg (show ¬ (0 ≤ lnN 3 (V 3) (z - 36000) (V 1 0) ∧ _) from fun q => by have := L1.1 p1; omega), if_pos p1, if_pos rfl, if_neg p0]
    · have l1 := L1.2 p1
      rw [if_neg p1, if_neg p0]
      have key : (0 ≤ lnN 3 (V 3) (z - 36000) (V 1 0) ∧ (itF V z < 0 ∨ itF V (z - 36000) < itF V z)) ↔ ¬ ltF V z = 0 := by
        rw [hlt, hI0, hI1, l0.1, l1.1]
        unfold dp_b
        (repeat' split) <;> omega
      by_cases q : ltF V z = 0
      · rw [if_neg (fun w => key.1 w q), if_pos q, if_neg p0]
      · rw [if_pos (key.2 q), if_neg q, if_neg p1]
theorem yyL_pick : yL_pick.cls ≠ "java/lang/invoke/MethodHandle" ∧ yL_pick.cls ≠ "java/lang/invoke/VarHandle" ∧ (parseMethodDescriptor yL_pick.desc).map (fun d => d.parameters.length) = some 2 := by decide +kernel
set_option maxHeartbeats 4000000 in
set_option maxRecDepth 100000 in
theorem c_L_pick {E : dp_E} (hE : dp_OK E) (l : Launch) {M : dp_M} {V X : dp_V} (hv : ivS V) {z : Int} (hz : 0 ≤ z ∧ z ≤ 35999) : dp_met E l yL_pick wsL_pick 3 76 [.ref (eAd E 8 0), .int (dp_I z)] (dN M V X) (dp_qi E (fun y M1 => y = pfF V z ∧ ∃ X', M1 = dN M V X' ∧ lgs X X')) := by
  refine dp_of (cc := cL_pick) (nL := 10) (own := RL) (ret := some (.int)) (by decide +kernel) rfl rfl hE (by simp [Value.category]) (Nat.le_of_ble_eq_true rfl) ?_
  intro p e s m below meth co C hret
  show dp_G _ _ _ _ _ _ _ _ _ _ _ _ _ _ _ _ _ [some (.ref (eAd E 8 0)), some (.int (dp_I z)), none, none, none, none, none, none, none, none] _
  have h1 := hv.2.1
  have ho : 0 ≤ V 1 0 ∧ V 1 0 ≤ 500 := by omega
  have J82 : ∀ (b pl ki t al s9 u : Int) (X' : dp_V), (-1 ≤ b ∧ b ≤ 200000000000000) → (-40000 ≤ t ∧ t ≤ 40000) → (-1 ≤ al ∧ al ≤ 200000) → (-100000000 ≤ s9 ∧ s9 ≤ 200000000000000) → (0 ≤ u ∧ u ≤ 1) → (∀ b2 pl2 it : Int, ((b2 = s9 + u ∧ pl2 = t ∧ 0 ≤ al ∧ (b < 0 ∨ s9 + u < b)) ∨ (b2 = b ∧ pl2 = pl ∧ ¬ (0 ≤ al ∧ (b < 0 ∨ s9 + u < b)))) → dp_G E (dp_A E) p l e (dp_rm 3 76) s m [.ref (eAd E 8 0), .int (dp_I z)].toArray below meth co 0 0 (MQ below (dp_qi E (fun y M1 => y = pfF V z ∧ ∃ X', M1 = dN M V X' ∧ lgs X X')) [.ref (eAd E 8 0), .int (dp_I z)].toArray s 0 0 (dp_A E)) (dN M V X') 110 [some (.ref (eAd E 8 0)), some (.int (dp_I z)), some (.long (dp_J b2)), none, some (.int (dp_I pl2)), some (.int (dp_I ki)), some (.int (dp_I t)), some (.int (dp_I al)), some (.long (dp_J it)), none] []) → dp_G E (dp_A E) p l e (dp_rm 3 76) s m [.ref (eAd E 8 0), .int (dp_I z)].toArray below meth co 0 0 (MQ below (dp_qi E (fun y M1 => y = pfF V z ∧ ∃ X', M1 = dN M V X' ∧ lgs X X')) [.ref (eAd E 8 0), .int (dp_I z)].toArray s 0 0 (dp_A E)) (dN M V X') 82 [some (.ref (eAd E 8 0)), some (.int (dp_I z)), some (.long (dp_J b)), none, some (.int (dp_I pl)), some (.int (dp_I ki)), some (.int (dp_I t)), some (.int (dp_I al)), none, none] [.long (dp_J u), .long (dp_J s9)] := by
    intro b pl ki t al s9 u X' hb ht hal hs9 hu K9
    refine dp_ladd C dL_pick_82 ?_
    refine dp_lstore C dL_pick_83 (Nat.le_of_ble_eq_true rfl) ?_
    dsimp only [List.set]
    refine dp_iload C dL_pick_85 rfl ?_
    refine dp_if_lt (tgt := 110) C dL_pick_87 (by decide) ⟨by omega, by omega⟩ (fun c87 => ?_) (fun c87 => ?_)
    · skip
      first | exact K9 _ _ _ (Or.inl ⟨rfl, rfl, by omega, by first | exact Or.inl (cmpL_lt.mp c93) | exact Or.inr (cmpL_lt.mp (by omega))⟩) | exact K9 _ _ _ (Or.inr ⟨rfl, rfl, fun q => by first | omega | (rcases q.2 with q2 | q2 <;> have q3 := cmpL_lt.mpr q2 <;> omega)⟩)
    · skip
      refine dp_lload_n C dL_pick_90 rfl ?_
      refine dp_lconst C 0 (by decide) dL_pick_91 ?_
      refine dp_lcmp C ⟨by omega, by omega⟩ ⟨by omega, by omega⟩ dL_pick_92 ?_
      refine dp_if_lt (tgt := 103) C dL_pick_93 (by decide) cmpL_R (fun c93 => ?_) (fun c93 => ?_)
      · skip
        refine dp_lload C dL_pick_103 rfl ?_
        refine dp_lstore_n C dL_pick_105 (Nat.le_of_ble_eq_true rfl) ?_
        dsimp only [List.set]
        refine dp_iload C dL_pick_106 rfl ?_
        refine dp_istore C dL_pick_108 (Nat.le_of_ble_eq_true rfl) ?_
        dsimp only [List.set]
        first | exact K9 _ _ _ (Or.inl ⟨rfl, rfl, by omega, by first | exact Or.inl (cmpL_lt.mp c93) | exact Or.inr (cmpL_lt.mp (by omega))⟩) | exact K9 _ _ _ (Or.inr ⟨rfl, rfl, fun q => by first | omega | (rcases q.2 with q2 | q2 <;> have q3 := cmpL_lt.mpr q2 <;> omega)⟩)
      · skip
        refine dp_lload C dL_pick_96 rfl ?_
        refine dp_lload_n C dL_pick_98 rfl ?_
        refine dp_lcmp C ⟨by omega, by omega⟩ ⟨by omega, by omega⟩ dL_pick_99 ?_
        refine dp_if_ge (tgt := 110) C dL_pick_100 (by decide) cmpL_R (fun c100 => ?_) (fun c100 => ?_)
        · skip
          first | exact K9 _ _ _ (Or.inl ⟨rfl, rfl, by omega, by first | exact Or.inl (cmpL_lt.mp c93) | exact Or.inr (cmpL_lt.mp (by omega))⟩) | exact K9 _ _ _ (Or.inr ⟨rfl, rfl, fun q => by first | omega | (rcases q.2 with q2 | q2 <;> have q3 := cmpL_lt.mpr q2 <;> omega)⟩)
        · skip
          refine dp_lload C dL_pick_103 rfl ?_
          refine dp_lstore_n C dL_pick_105 (Nat.le_of_ble_eq_true rfl) ?_
          dsimp only [List.set]
          refine dp_iload C dL_pick_106 rfl ?_
          refine dp_istore C dL_pick_108 (Nat.le_of_ble_eq_true rfl) ?_
          dsimp only [List.set]
          first | exact K9 _ _ _ (Or.inl ⟨rfl, rfl, by omega, by first | exact Or.inl (cmpL_lt.mp c93) | exact Or.inr (cmpL_lt.mp (by omega))⟩) | exact K9 _ _ _ (Or.inr ⟨rfl, rfl, fun q => by first | omega | (rcases q.2 with q2 | q2 <;> have q3 := cmpL_lt.mpr q2 <;> omega)⟩)
  have J53 : ∀ (b pl ki t al c1 : Int) (X' : dp_V), (-1 ≤ b ∧ b ≤ 200000000000000) → (-40000 ≤ t ∧ t ≤ 40000) → (-1 ≤ al ∧ al ≤ 200000) → (c1 = 0 ∨ c1 = 100000000000000) → (∀ b2 pl2 it : Int, ((b2 = (c1 + 100000000 * al + 100 * ab t + (if 0 < t then 1 else 0)) ∧ pl2 = t ∧ 0 ≤ al ∧ (b < 0 ∨ (c1 + 100000000 * al + 100 * ab t + (if 0 < t then 1 else 0)) < b)) ∨ (b2 = b ∧ pl2 = pl ∧ ¬ (0 ≤ al ∧ (b < 0 ∨ (c1 + 100000000 * al + 100 * ab t + (if 0 < t then 1 else 0)) < b)))) → dp_G E (dp_A E) p l e (dp_rm 3 76) s m [.ref (eAd E 8 0), .int (dp_I z)].toArray below meth co 0 0 (MQ below (dp_qi E (fun y M1 => y = pfF V z ∧ ∃ X', M1 = dN M V X' ∧ lgs X X')) [.ref (eAd E 8 0), .int (dp_I z)].toArray s 0 0 (dp_A E)) (dN M V X') 110 [some (.ref (eAd E 8 0)), some (.int (dp_I z)), some (.long (dp_J b2)), none, some (.int (dp_I pl2)), some (.int (dp_I ki)), some (.int (dp_I t)), some (.int (dp_I al)), some (.long (dp_J it)), none] []) → dp_G E (dp_A E) p l e (dp_rm 3 76) s m [.ref (eAd E 8 0), .int (dp_I z)].toArray below meth co 0 0 (MQ below (dp_qi E (fun y M1 => y = pfF V z ∧ ∃ X', M1 = dN M V X' ∧ lgs X X')) [.ref (eAd E 8 0), .int (dp_I z)].toArray s 0 0 (dp_A E)) (dN M V X') 53 [some (.ref (eAd E 8 0)), some (.int (dp_I z)), some (.long (dp_J b)), none, some (.int (dp_I pl)), some (.int (dp_I ki)), some (.int (dp_I t)), some (.int (dp_I al)), none, none] [.long (dp_J c1)] := by
    intro b pl ki t al c1 X' hb ht hal hc1 K9
    have ha9 : 0 ≤ ab t ∧ ab t ≤ 40000 := by unfold ab; split <;> omega
    refine dp_ldc2 C (100000000) (List.mem_of_getElem? (i := 5) rfl) (by decide) dL_pick_53 ?_
    refine dp_iload C dL_pick_56 rfl ?_
    refine dp_i2l C ⟨by omega, by omega⟩ dL_pick_58 ?_
    refine dp_lmul C dL_pick_59 ?_
    refine dp_ladd C dL_pick_60 ?_
    refine dp_ldc2 C (100) (List.mem_of_getElem? (i := 6) rfl) (by decide) dL_pick_61 ?_
    refine dp_iload C dL_pick_64 rfl ?_
    refine dp_cSi C (c_L_size C.2.2.1 l ⟨by omega, by omega⟩) gL_pick_L_size rfl yyL_size rfl ⟨Nat.le_of_ble_eq_true rfl, Nat.le_of_ble_eq_true rfl⟩ rfl (Nat.le_of_ble_eq_true rfl) rfl ⟨Nat.zero_le _, Nat.zero_le _⟩ dL_pick_66 (fun x66 M66 h66 => ?_)
    obtain ⟨rfl, rfl⟩ := h66
    refine dp_i2l C ⟨by omega, by omega⟩ dL_pick_69 ?_
    refine dp_lmul C dL_pick_70 ?_
    refine dp_ladd C dL_pick_71 ?_
    refine dp_iload C dL_pick_72 rfl ?_
    refine dp_if_le (tgt := 81) C dL_pick_74 (by decide) ⟨by omega, by omega⟩ (fun c74 => ?_) (fun c74 => ?_)
    · skip
      refine dp_lconst C 0 (by decide) dL_pick_81 ?_
      exact J82 _ _ _ _ _ _ _ _ hb ht hal (by omega) (by omega) (fun b2 pl2 it hK => K9 b2 pl2 it (by first | (rw [if_pos (by omega)]; exact hK) | (rw [if_neg (by omega)]; exact hK)))
    · skip
      refine dp_lconst C 1 (by decide) dL_pick_77 ?_
      refine dp_goto (tgt := 82) C dL_pick_78 (by decide) ?_
      exact J82 _ _ _ _ _ _ _ _ hb ht hal (by omega) (by omega) (fun b2 pl2 it hK => K9 b2 pl2 it (by first | (rw [if_pos (by omega)]; exact hK) | (rw [if_neg (by omega)]; exact hK)))
  have J11 : ∀ (n k : Nat) (b pl ki : Int) (X' : dp_V), k + n = 2 → ki = k → lgs X X' → (-1 ≤ b ∧ b ≤ 200000000000000) → (-100004 ≤ pl ∧ pl ≤ 36000) → pkG V z n k b pl = pfF V z → dp_G E (dp_A E) p l e (dp_rm 3 76) s m [.ref (eAd E 8 0), .int (dp_I z)].toArray below meth co 0 0 (MQ below (dp_qi E (fun y M1 => y = pfF V z ∧ ∃ X', M1 = dN M V X' ∧ lgs X X')) [.ref (eAd E 8 0), .int (dp_I z)].toArray s 0 0 (dp_A E)) (dN M V X') 11 [some (.ref (eAd E 8 0)), some (.int (dp_I z)), some (.long (dp_J b)), none, some (.int (dp_I pl)), some (.int (dp_I ki)), none, none, none, none] [] := by
    refine dp_ind (fun n ih => ?_)
    intro k b pl ki X' hkn hki hsc hb hpl hf
    refine dp_iload C dL_pick_11 rfl ?_
    refine dp_iconst C dL_pick_13 ?_
    refine dp_icmp_ge (tgt := 116) C dL_pick_14 (by decide) ⟨by omega, by omega⟩ ⟨by omega, by omega⟩ (fun c14 => ?_) (fun c14 => ?_)
    · skip
      obtain rfl : n = 0 := by omega
      refine dp_iload C dL_pick_116 rfl ?_
      refine dp_iret C hret dL_pick_118 ?_
      exact ⟨hf, _, rfl, hsc⟩
    · skip
      obtain ⟨n, rfl⟩ : ∃ n', n = n' + 1 := ⟨n - 1, by omega⟩
      obtain rfl := hki
      obtain ⟨t, htt⟩ : ∃ t : Int, t = z - 36000 * (k : Int) := ⟨_, rfl⟩
      have ht0 : -36000 ≤ t ∧ t ≤ 36000 := by omega
      refine dp_iload_n C dL_pick_17 rfl ?_
      refine dp_ldc C (36000) (List.mem_of_getElem? (i := 3) rfl) rfl dL_pick_18 ?_
      refine dp_iload C dL_pick_20 rfl ?_
      refine dp_imul C dL_pick_22 ?_
      refine dp_isub C dL_pick_23 ?_
      rw [← htt]
      refine dp_istore C dL_pick_24 (Nat.le_of_ble_eq_true rfl) ?_
      dsimp only [List.set]
      refine dp_aload_n C dL_pick_26 rfl ?_
      refine dp_iconst C dL_pick_27 ?_
      refine dp_iload C dL_pick_28 rfl ?_
      refine dp_cSi C (c_L_length C.2.2.1 l (a := 0) (to := t) (by decide) hv.2.2.2.1 ho (by omega)) gL_pick_L_length rfl yyL_length rfl ⟨Nat.le_of_ble_eq_true rfl, Nat.le_of_ble_eq_true rfl⟩ rfl (Nat.le_of_ble_eq_true rfl) rfl ⟨Nat.zero_le _, Nat.zero_le _⟩ dL_pick_30 (fun x30 M30 h30 => ?_)
      obtain ⟨rfl, X1, rfl, hs1⟩ := h30
      rw [show (0 : Nat) + 3 = 3 from rfl]
      have hal := lnN_bd hv.2.2.2.1 (show -40000 ≤ t ∧ t ≤ 40000 by omega) ho
      have KC : ∀ (c1 : Int), c1 = (if V 1 1 < ab t then 100000000000000 else 0) → ∀ b2 pl2 it : Int, ((b2 = c1 + 100000000 * lnN 3 (V 3) t (V 1 0) + 100 * ab t + (if 0 < t then 1 else 0) ∧ pl2 = t ∧ 0 ≤ lnN 3 (V 3) t (V 1 0) ∧ (b < 0 ∨ c1 + 100000000 * lnN 3 (V 3) t (V 1 0) + 100 * ab t + (if 0 < t then 1 else 0) < b)) ∨ (b2 = b ∧ pl2 = pl ∧ ¬ (0 ≤ lnN 3 (V 3) t (V 1 0) ∧ (b < 0 ∨ c1 + 100000000 * lnN 3 (V 3) t (V 1 0) + 100 * ab t + (if 0 < t then 1 else 0) < b)))) → dp_G E (dp_A E) p l e (dp_rm 3 76) s m [.ref (eAd E 8 0), .int (dp_I z)].toArray below meth co 0 0 (MQ below (dp_qi E (fun y M1 => y = pfF V z ∧ ∃ X', M1 = dN M V X' ∧ lgs X X')) [.ref (eAd E 8 0), .int (dp_I z)].toArray s 0 0 (dp_A E)) (dN M V X1) 110 [some (.ref (eAd E 8 0)), some (.int (dp_I z)), some (.long (dp_J b2)), none, some (.int (dp_I pl2)), some (.int (dp_I ((k : Int)))), some (.int (dp_I t)), some (.int (dp_I (lnN 3 (V 3) t (V 1 0)))), some (.long (dp_J it)), none] [] := by
        intro c1 hc1 b2 pl2 it hK
        have ha9 : 0 ≤ ab t ∧ ab t ≤ 40000 := by unfold ab; split <;> omega
        have eit : c1 + 100000000 * lnN 3 (V 3) t (V 1 0) + 100 * ab t + (if 0 < t then 1 else 0) = itF V t := by rw [hc1]; rfl
        rw [eit] at hK
        have hib : itF V t ≤ 200000000000000 ∧ (0 ≤ lnN 3 (V 3) t (V 1 0) → 0 ≤ itF V t) := by
          rw [← eit, hc1]
          (repeat' split) <;> omega
        refine dp_iinc C dL_pick_110 rfl ?_
        dsimp only [List.set]
        refine dp_goto (tgt := 11) C dL_pick_113 (by decide) ?_
        refine dp_dr 6 ?_
        refine dp_dr 7 ?_
        refine dp_dr 8 ?_
        dsimp only [List.set]
        refine ih n (by omega) (k + 1) b2 pl2 _ _ (by omega) (by omega) (hsc.tr hs1) (by omega) (by omega) ?_
        rw [show pkG V z (n + 1) k b pl = (if 0 ≤ lnN 3 (V 3) (z - 36000 * k) (V 1 0) ∧ (b < 0 ∨ itF V (z - 36000 * k) < b) then pkG V z n (k + 1) (itF V (z - 36000 * k)) (z - 36000 * k) else pkG V z n (k + 1) b pl) from rfl, ← htt] at hf
        rcases hK with ⟨rfl, rfl, q3, q4⟩ | ⟨rfl, rfl, q3⟩
        · rw [if_pos ⟨q3, q4⟩] at hf
          exact hf
        · rw [if_neg q3] at hf
          exact hf
      refine dp_istore C dL_pick_33 (Nat.le_of_ble_eq_true rfl) ?_
      dsimp only [List.set]
      refine dp_iload C dL_pick_35 rfl ?_
      refine dp_cSi C (c_L_size C.2.2.1 l ⟨by omega, by omega⟩) gL_pick_L_size rfl yyL_size rfl ⟨Nat.le_of_ble_eq_true rfl, Nat.le_of_ble_eq_true rfl⟩ rfl (Nat.le_of_ble_eq_true rfl) rfl ⟨Nat.zero_le _, Nat.zero_le _⟩ dL_pick_37 (fun x37 M37 h37 => ?_)
      obtain ⟨rfl, rfl⟩ := h37
      have ha9 : 0 ≤ ab t ∧ ab t ≤ 40000 := by unfold ab; split <;> omega
      refine dp_aload_n C dL_pick_40 rfl ?_
      refine dp_iconst C dL_pick_41 ?_
      refine dp_ald_g C 1 (c9 := 1) (k9 := 1) (by omega) (by decide) rfl rfl dL_pick_42 ?_
      refine dp_icmp_le (tgt := 52) C dL_pick_43 (by decide) ⟨by omega, by omega⟩ ⟨by omega, by omega⟩ (fun c43 => ?_) (fun c43 => ?_)
      · skip
        refine dp_lconst C 0 (by decide) dL_pick_52 ?_
        exact J53 _ _ _ t _ _ _ hb (by omega) hal (by first | exact Or.inl rfl | exact Or.inr rfl) (KC _ (by first | (rw [if_pos (by omega)]; done) | (rw [if_neg (by omega)]; done)))
      · skip
        refine dp_ldc2 C (100000000000000) (List.mem_of_getElem? (i := 4) rfl) (by decide) dL_pick_46 ?_
        refine dp_goto (tgt := 53) C dL_pick_49 (by decide) ?_
        exact J53 _ _ _ t _ _ _ hb (by omega) hal (by first | exact Or.inl rfl | exact Or.inr rfl) (KC _ (by first | (rw [if_pos (by omega)]; done) | (rw [if_neg (by omega)]; done)))
  refine dp_ldc2 C (-1) (List.mem_of_getElem? (i := 1) rfl) (by decide) dL_pick_0 ?_
  refine dp_lstore_n C dL_pick_3 (Nat.le_of_ble_eq_true rfl) ?_
  dsimp only [List.set]
  refine dp_ldc C (-100004) (List.mem_of_getElem? (i := 2) rfl) rfl dL_pick_4 ?_
  refine dp_istore C dL_pick_6 (Nat.le_of_ble_eq_true rfl) ?_
  dsimp only [List.set]
  refine dp_iconst C dL_pick_8 ?_
  refine dp_istore C dL_pick_9 (Nat.le_of_ble_eq_true rfl) ?_
  dsimp only [List.set]
  exact J11 2 0 (-1) (-100004) 0 _ (by omega) rfl lgs.rf (by omega) (by omega) (pkG_pf hv hz)
theorem mvV_iv2 {V : dp_V} {c : Nat} {p : Int} (hi : ivA c (V c)) (h : axL c ≤ p ∧ p ≤ axH c) : ivA c (mvV V c p c) := mvV_iv hi h
/-- what the legs lead to -/
theorem foV_0 {V : dp_V} {c : Nat} {to : Int} (hi : ivA c (V c)) (hU : wyU (V c) to (V 1 0) = V c 3) (hE : wyE (V c) to = V c 3) : foV V c to = V := by
  unfold foV
  rw [hU, hE, mvV_same hi, mvV_same hi]
theorem foV_1 {V : dp_V} {c : Nat} {to : Int} (hi : ivA c (V c)) (hU : wyU (V c) to (V 1 0) = V c 3) : foV V c to = mvV V c (wyE (V c) to) := by
  unfold foV
  rw [hU, mvV_same hi]
theorem yyL_slews : yL_slews.cls ≠ "java/lang/invoke/MethodHandle" ∧ yL_slews.cls ≠ "java/lang/invoke/VarHandle" ∧ (parseMethodDescriptor yL_slews.desc).map (fun d => d.parameters.length) = some 3 := by decide +kernel
set_option maxHeartbeats 4000000 in
set_option maxRecDepth 100000 in
theorem c_L_slews {E : dp_E} (hE : dp_OK E) (l : Launch) {M : dp_M} {V X : dp_V} (hv : ivS V) {p9 el : Int} (hp9 : -36000 ≤ p9 ∧ p9 ≤ 36000) (hel : 500 ≤ el ∧ el ≤ 9000) (hp3 : ¬ wyP 3 (V 3) p9 (V 1 0) = 0) (hp4 : ¬ wyP 4 (V 4) el (V 1 0) = 0) : dp_met E l yL_slews wsL_slews 4 100 [.ref (eAd E 8 0), .int (dp_I p9), .int (dp_I el)] (dN M V X) (dp_qi E (fun y M1 => y = tmF V p9 el ∧ ∃ X', M1 = dN M (slV V p9 el) X' ∧ lgs X X')) := by
  refine dp_of (cc := cL_slews) (nL := 8) (own := RL) (ret := some (.int)) (by decide +kernel) rfl rfl hE (by simp [Value.category]) (Nat.le_of_ble_eq_true rfl) ?_
  intro p e s m below meth co C hret
  show dp_G _ _ _ _ _ _ _ _ _ _ _ _ _ _ _ _ _ [some (.ref (eAd E 8 0)), some (.int (dp_I p9)), some (.int (dp_I el)), none, none, none, none, none] _
  have h1 := hv.2.1
  have ho : 0 ≤ V 1 0 ∧ V 1 0 ≤ 500 := by omega
  have hi3 : ivA 3 (V 3) := hv.2.2.2.1
  have hy3 := wyP_yes hp3
  have w3 := wyM_bd hv.2.2.2.1 (show -40000 ≤ p9 ∧ p9 ≤ 40000 by omega) ho
  have w4 := wyM_bd hv.2.2.2.2 (show -40000 ≤ el ∧ el ≤ 40000 by omega) ho
  have J77 : ∀ (X' W2 : dp_V), W2 = foV (foV V 3 p9) 4 el → lgs X X' → dp_G E (dp_A E) p l e (dp_rm 4 100) s m [.ref (eAd E 8 0), .int (dp_I p9), .int (dp_I el)].toArray below meth co 0 0 (MQ below (dp_qi E (fun y M1 => y = tmF V p9 el ∧ ∃ X', M1 = dN M (slV V p9 el) X' ∧ lgs X X')) [.ref (eAd E 8 0), .int (dp_I p9), .int (dp_I el)].toArray s 0 0 (dp_A E)) (dN M W2 X') 77 [some (.ref (eAd E 8 0)), some (.int (dp_I p9)), some (.int (dp_I el)), some (.int (dp_I (wyM (V 3) p9 (V 1 0)))), some (.int (dp_I (wyM (V 4) el (V 1 0)))), some (.int (dp_I 2)), none, none] [] := by
    intro X' W2 hW2 hsc
    refine dp_aload_n C dL_slews_77 rfl ?_
    refine dp_iconst C dL_slews_78 ?_
    refine dp_dup2 C dL_slews_79 rfl rfl ?_
    refine dp_ald_g C 5 (c9 := 0) (k9 := 1) (by omega) (by decide) rfl rfl dL_slews_80 ?_
    refine dp_iconst C dL_slews_81 ?_
    refine dp_iadd C dL_slews_82 ?_
    refine dp_ast_g C 5 (c9 := 0) (k9 := 1) (by omega) (by decide) rfl rfl dL_slews_83 ?_
    refine dp_iload_n C dL_slews_84 rfl ?_
    refine dp_iload C dL_slews_85 rfl ?_
    refine dp_icmp_le (tgt := 94) C dL_slews_87 (by decide) ⟨by omega, by omega⟩ ⟨by omega, by omega⟩ (fun c87 => ?_) (fun c87 => ?_)
    · skip
      refine dp_iload C dL_slews_94 rfl ?_
      refine dp_iret C hret dL_slews_96 ?_
      refine ⟨?_, _, by unfold slV; rw [← hW2], hsc⟩
      unfold tmF mx
      split <;> omega
    · skip
      refine dp_iload_n C dL_slews_90 rfl ?_
      refine dp_goto (tgt := 96) C dL_slews_91 (by decide) ?_
      refine dp_iret C hret dL_slews_96 ?_
      refine ⟨?_, _, by unfold slV; rw [← hW2], hsc⟩
      unfold tmF mx
      split <;> omega
  have J71 : ∀ (X' W1 : dp_V), W1 = foV V 3 p9 → lgs X X' → dp_G E (dp_A E) p l e (dp_rm 4 100) s m [.ref (eAd E 8 0), .int (dp_I p9), .int (dp_I el)].toArray below meth co 0 0 (MQ below (dp_qi E (fun y M1 => y = tmF V p9 el ∧ ∃ X', M1 = dN M (slV V p9 el) X' ∧ lgs X X')) [.ref (eAd E 8 0), .int (dp_I p9), .int (dp_I el)].toArray s 0 0 (dp_A E)) (dN M W1 X') 71 [some (.ref (eAd E 8 0)), some (.int (dp_I p9)), some (.int (dp_I el)), some (.int (dp_I (wyM (V 3) p9 (V 1 0)))), some (.int (dp_I (wyM (V 4) el (V 1 0)))), some (.int (dp_I 0)), none, none] [] := by
    intro X' W1 hW1 hsc
    have hW9 := hW1
    have e4 : W1 4 = V 4 := by rw [hW1]; exact foV_ne (by decide)
    have e1 : W1 1 = V 1 := by rw [hW1]; exact foV_ne (by decide)
    have hq4 : ¬ wyP 4 (W1 4) el (W1 1 0) = 0 := by rw [e4, e1]; exact hp4
    have hi4 : ivA 4 (W1 4) := by rw [e4]; exact hv.2.2.2.2
    have hy4 := wyP_yes hq4
    have ho4 : 0 ≤ W1 1 0 ∧ W1 1 0 ≤ 500 := by rw [e1]; exact ho
    refine dp_iinc C dL_slews_71 rfl ?_
    dsimp only [List.set]
    try rw [show (0 : Int) + 1 = 1 from rfl]
    try rw [show (1 : Int) + 1 = 2 from rfl]
    refine dp_goto (tgt := 18) C dL_slews_74 (by decide) ?_
    refine dp_iload C dL_slews_18 rfl ?_
    refine dp_iconst C dL_slews_20 ?_
    refine dp_icmp_ge (tgt := 77) C dL_slews_21 (by decide) ⟨by omega, by omega⟩ ⟨by omega, by omega⟩ (fun c21 => ?_) (fun c21 => ?_)
    · omega
    · skip
      refine dp_aload_n C dL_slews_24 rfl ?_
      refine dp_iload C dL_slews_25 rfl ?_
      refine dp_iload C dL_slews_27 rfl ?_
      refine dp_if_ne (tgt := 36) C dL_slews_29 (by decide) ⟨by omega, by omega⟩ (fun c29 => ?_) (fun c29 => ?_)
      · skip
        refine dp_iload_n C dL_slews_36 rfl ?_
        refine dp_cSi C (c_L_plan C.2.2.1 l (a := 1) (to := el) (by decide) hi4 ho4 (by omega)) gL_slews_L_plan rfl yyL_plan rfl ⟨Nat.le_of_ble_eq_true rfl, Nat.le_of_ble_eq_true rfl⟩ rfl (Nat.le_of_ble_eq_true rfl) rfl ⟨Nat.zero_le _, Nat.zero_le _⟩ dL_slews_37 (fun x37 M37 h37 => ?_)
        obtain ⟨e9, X9, rfl, hX0, hX1, hX2⟩ := h37
        have hle := @lgN_e 4 (W1 4) el (W1 1 0) hi4
        have hpl : plN 4 (W1 4) el (W1 1 0) = lgN (W1 4) el := if_neg hq4
        have e9 : x37 = lgN (W1 4) el := e9.trans hpl
        have hX1 : lgN (W1 4) el = 1 → X9 0 0 = wyE (W1 4) el := hX1
        have hX2 : lgN (W1 4) el = 2 → X9 0 0 = wyU (W1 4) el (W1 1 0) ∧ X9 0 1 = wyE (W1 4) el := hX2
        have hX0 : lgs X' X9 := hX0
        clear hpl
        rcases (by omega : x37 = 0 ∨ x37 = 1 ∨ x37 = 2) with hx | hx | hx
        · skip
          subst hx
          refine dp_istore C dL_slews_40 (Nat.le_of_ble_eq_true rfl) ?_
          dsimp only [List.set]
          refine dp_iconst C dL_slews_42 ?_
          refine dp_istore C dL_slews_43 (Nat.le_of_ble_eq_true rfl) ?_
          dsimp only [List.set]
          refine dp_iload C dL_slews_45 rfl ?_
          refine dp_iload C dL_slews_47 rfl ?_
          refine dp_icmp_ge (tgt := 71) C dL_slews_49 (by decide) ⟨by omega, by omega⟩ ⟨by omega, by omega⟩ (fun c49 => ?_) (fun c49 => ?_)
          · skip
            refine dp_iinc C dL_slews_71 rfl ?_
            dsimp only [List.set]
            try rw [show (0 : Int) + 1 = 1 from rfl]
            try rw [show (1 : Int) + 1 = 2 from rfl]
            refine dp_goto (tgt := 18) C dL_slews_74 (by decide) ?_
            refine dp_iload C dL_slews_18 rfl ?_
            refine dp_iconst C dL_slews_20 ?_
            refine dp_icmp_ge (tgt := 77) C dL_slews_21 (by decide) ⟨by omega, by omega⟩ ⟨by omega, by omega⟩ (fun c21 => ?_) (fun c21 => ?_)
            · skip
              refine dp_dr 6 ?_
              refine dp_dr 7 ?_
              dsimp only [List.set]
              exact J77 _ _ (by rw [← hW1]; exact (foV_0 hi4 (by omega) (by omega)).symm) (hsc.tr hX0)
            · omega
          · omega
        · skip
          subst hx
          refine dp_istore C dL_slews_40 (Nat.le_of_ble_eq_true rfl) ?_
          dsimp only [List.set]
          refine dp_iconst C dL_slews_42 ?_
          refine dp_istore C dL_slews_43 (Nat.le_of_ble_eq_true rfl) ?_
          dsimp only [List.set]
          refine dp_iload C dL_slews_45 rfl ?_
          refine dp_iload C dL_slews_47 rfl ?_
          refine dp_icmp_ge (tgt := 71) C dL_slews_49 (by decide) ⟨by omega, by omega⟩ ⟨by omega, by omega⟩ (fun c49 => ?_) (fun c49 => ?_)
          · omega
          · skip
            refine dp_aload_n C dL_slews_52 rfl ?_
            refine dp_iload C dL_slews_53 rfl ?_
            refine dp_aload_n C dL_slews_55 rfl ?_
            refine dp_bipush C dL_slews_56 (by decide) ?_
            refine dp_iload C dL_slews_58 rfl ?_
            refine dp_iadd C dL_slews_60 ?_
            refine dp_ald_l C 0 (by omega) (by decide) dL_slews_61 ?_
            refine dp_cSv C (c_L_goes C.2.2.1 l (a := 1) (by decide) hi4 (by rw [hX1 e9.symm]; exact hy4.2)) gL_slews_L_goes rfl yyL_goes rfl ⟨Nat.le_of_ble_eq_true rfl, Nat.le_of_ble_eq_true rfl⟩ rfl (Nat.le_of_ble_eq_true rfl) rfl ⟨Nat.zero_le _, Nat.zero_le _⟩ dL_slews_62 (fun M62 h62 => ?_)
            obtain rfl := h62
            rw [show (1 : Nat) + 3 = 4 from rfl]
            refine dp_iinc C dL_slews_65 rfl ?_
            dsimp only [List.set]
            refine dp_goto (tgt := 45) C dL_slews_68 (by decide) ?_
            refine dp_iload C dL_slews_45 rfl ?_
            refine dp_iload C dL_slews_47 rfl ?_
            refine dp_icmp_ge (tgt := 71) C dL_slews_49 (by decide) ⟨by omega, by omega⟩ ⟨by omega, by omega⟩ (fun c49 => ?_) (fun c49 => ?_)
            · skip
              refine dp_iinc C dL_slews_71 rfl ?_
              dsimp only [List.set]
              try rw [show (0 : Int) + 1 = 1 from rfl]
              try rw [show (1 : Int) + 1 = 2 from rfl]
              refine dp_goto (tgt := 18) C dL_slews_74 (by decide) ?_
              refine dp_iload C dL_slews_18 rfl ?_
              refine dp_iconst C dL_slews_20 ?_
              refine dp_icmp_ge (tgt := 77) C dL_slews_21 (by decide) ⟨by omega, by omega⟩ ⟨by omega, by omega⟩ (fun c21 => ?_) (fun c21 => ?_)
              · skip
                refine dp_dr 6 ?_
                refine dp_dr 7 ?_
                dsimp only [List.set]
                exact J77 _ _ (by rw [← hW1]; exact (by rw [hX1 e9.symm]; exact (foV_1 hi4 (by omega)).symm)) (hsc.tr hX0)
              · omega
            · omega
        · skip
          subst hx
          refine dp_istore C dL_slews_40 (Nat.le_of_ble_eq_true rfl) ?_
          dsimp only [List.set]
          refine dp_iconst C dL_slews_42 ?_
          refine dp_istore C dL_slews_43 (Nat.le_of_ble_eq_true rfl) ?_
          dsimp only [List.set]
          refine dp_iload C dL_slews_45 rfl ?_
          refine dp_iload C dL_slews_47 rfl ?_
          refine dp_icmp_ge (tgt := 71) C dL_slews_49 (by decide) ⟨by omega, by omega⟩ ⟨by omega, by omega⟩ (fun c49 => ?_) (fun c49 => ?_)
          · omega
          · skip
            refine dp_aload_n C dL_slews_52 rfl ?_
            refine dp_iload C dL_slews_53 rfl ?_
            refine dp_aload_n C dL_slews_55 rfl ?_
            refine dp_bipush C dL_slews_56 (by decide) ?_
            refine dp_iload C dL_slews_58 rfl ?_
            refine dp_iadd C dL_slews_60 ?_
            refine dp_ald_l C 0 (by omega) (by decide) dL_slews_61 ?_
            refine dp_cSv C (c_L_goes C.2.2.1 l (a := 1) (by decide) hi4 (by rw [(hX2 e9.symm).1]; exact hy4.1)) gL_slews_L_goes rfl yyL_goes rfl ⟨Nat.le_of_ble_eq_true rfl, Nat.le_of_ble_eq_true rfl⟩ rfl (Nat.le_of_ble_eq_true rfl) rfl ⟨Nat.zero_le _, Nat.zero_le _⟩ dL_slews_62 (fun M62 h62 => ?_)
            obtain rfl := h62
            rw [show (1 : Nat) + 3 = 4 from rfl]
            refine dp_iinc C dL_slews_65 rfl ?_
            dsimp only [List.set]
            refine dp_goto (tgt := 45) C dL_slews_68 (by decide) ?_
            refine dp_iload C dL_slews_45 rfl ?_
            refine dp_iload C dL_slews_47 rfl ?_
            refine dp_icmp_ge (tgt := 71) C dL_slews_49 (by decide) ⟨by omega, by omega⟩ ⟨by omega, by omega⟩ (fun c49 => ?_) (fun c49 => ?_)
            · omega
            · skip
              refine dp_aload_n C dL_slews_52 rfl ?_
              refine dp_iload C dL_slews_53 rfl ?_
              refine dp_aload_n C dL_slews_55 rfl ?_
              refine dp_bipush C dL_slews_56 (by decide) ?_
              refine dp_iload C dL_slews_58 rfl ?_
              refine dp_iadd C dL_slews_60 ?_
              refine dp_ald_l C 1 (by omega) (by decide) dL_slews_61 ?_
              refine dp_cSv C (c_L_goes C.2.2.1 l (a := 1) (by decide) (mvV_iv2 (c := 4) hi4 (by rw [(hX2 e9.symm).1]; exact hy4.1)) (by rw [(hX2 e9.symm).2]; exact hy4.2)) gL_slews_L_goes rfl yyL_goes rfl ⟨Nat.le_of_ble_eq_true rfl, Nat.le_of_ble_eq_true rfl⟩ rfl (Nat.le_of_ble_eq_true rfl) rfl ⟨Nat.zero_le _, Nat.zero_le _⟩ dL_slews_62 (fun M62 h62 => ?_)
              obtain rfl := h62
              rw [show (1 : Nat) + 3 = 4 from rfl]
              refine dp_iinc C dL_slews_65 rfl ?_
              dsimp only [List.set]
              refine dp_goto (tgt := 45) C dL_slews_68 (by decide) ?_
              refine dp_iload C dL_slews_45 rfl ?_
              refine dp_iload C dL_slews_47 rfl ?_
              refine dp_icmp_ge (tgt := 71) C dL_slews_49 (by decide) ⟨by omega, by omega⟩ ⟨by omega, by omega⟩ (fun c49 => ?_) (fun c49 => ?_)
              · skip
                refine dp_iinc C dL_slews_71 rfl ?_
                dsimp only [List.set]
                try rw [show (0 : Int) + 1 = 1 from rfl]
                try rw [show (1 : Int) + 1 = 2 from rfl]
                refine dp_goto (tgt := 18) C dL_slews_74 (by decide) ?_
                refine dp_iload C dL_slews_18 rfl ?_
                refine dp_iconst C dL_slews_20 ?_
                refine dp_icmp_ge (tgt := 77) C dL_slews_21 (by decide) ⟨by omega, by omega⟩ ⟨by omega, by omega⟩ (fun c21 => ?_) (fun c21 => ?_)
                · skip
                  refine dp_dr 6 ?_
                  refine dp_dr 7 ?_
                  dsimp only [List.set]
                  exact J77 _ _ (by rw [← hW1]; exact (by rw [(hX2 e9.symm).1, (hX2 e9.symm).2]; rfl)) (hsc.tr hX0)
                · omega
              · omega
      · omega
  refine dp_aload_n C dL_slews_0 rfl ?_
  refine dp_iconst C dL_slews_1 ?_
  refine dp_iload_n C dL_slews_2 rfl ?_
  refine dp_cSi C (c_L_time C.2.2.1 l (a := 0) (to := p9) (by decide) hv.2.2.2.1 ho (by omega) hp3) gL_slews_L_time rfl yyL_time rfl ⟨Nat.le_of_ble_eq_true rfl, Nat.le_of_ble_eq_true rfl⟩ rfl (Nat.le_of_ble_eq_true rfl) rfl ⟨Nat.zero_le _, Nat.zero_le _⟩ dL_slews_3 (fun x3 M3 h3 => ?_)
  obtain ⟨rfl, X1, rfl, hs1⟩ := h3
  rw [show (0 : Nat) + 3 = 3 from rfl]
  refine dp_istore_n C dL_slews_6 (Nat.le_of_ble_eq_true rfl) ?_
  dsimp only [List.set]
  refine dp_aload_n C dL_slews_7 rfl ?_
  refine dp_iconst C dL_slews_8 ?_
  refine dp_iload_n C dL_slews_9 rfl ?_
  refine dp_cSi C (c_L_time C.2.2.1 l (a := 1) (to := el) (by decide) hv.2.2.2.2 ho (by omega) hp4) gL_slews_L_time rfl yyL_time rfl ⟨Nat.le_of_ble_eq_true rfl, Nat.le_of_ble_eq_true rfl⟩ rfl (Nat.le_of_ble_eq_true rfl) rfl ⟨Nat.zero_le _, Nat.zero_le _⟩ dL_slews_10 (fun x10 M10 h10 => ?_)
  obtain ⟨rfl, X2, rfl, hs2⟩ := h10
  rw [show (1 : Nat) + 3 = 4 from rfl]
  have hs2 : lgs X X2 := hs1.tr hs2
  refine dp_istore C dL_slews_13 (Nat.le_of_ble_eq_true rfl) ?_
  dsimp only [List.set]
  refine dp_iconst C dL_slews_15 ?_
  refine dp_istore C dL_slews_16 (Nat.le_of_ble_eq_true rfl) ?_
  dsimp only [List.set]
  refine dp_iload C dL_slews_18 rfl ?_
  refine dp_iconst C dL_slews_20 ?_
  refine dp_icmp_ge (tgt := 77) C dL_slews_21 (by decide) ⟨by omega, by omega⟩ ⟨by omega, by omega⟩ (fun c21 => ?_) (fun c21 => ?_)
  · omega
  · skip
    refine dp_aload_n C dL_slews_24 rfl ?_
    refine dp_iload C dL_slews_25 rfl ?_
    refine dp_iload C dL_slews_27 rfl ?_
    refine dp_if_ne (tgt := 36) C dL_slews_29 (by decide) ⟨by omega, by omega⟩ (fun c29 => ?_) (fun c29 => ?_)
    · omega
    · skip
      refine dp_iload_n C dL_slews_32 rfl ?_
      refine dp_goto (tgt := 37) C dL_slews_33 (by decide) ?_
      refine dp_cSi C (c_L_plan C.2.2.1 l (a := 0) (to := p9) (by decide) hi3 ho (by omega)) gL_slews_L_plan rfl yyL_plan rfl ⟨Nat.le_of_ble_eq_true rfl, Nat.le_of_ble_eq_true rfl⟩ rfl (Nat.le_of_ble_eq_true rfl) rfl ⟨Nat.zero_le _, Nat.zero_le _⟩ dL_slews_37 (fun x37 M37 h37 => ?_)
      obtain ⟨e9, X9, rfl, hX0, hX1, hX2⟩ := h37
      have hle := @lgN_e 3 (V 3) p9 (V 1 0) hi3
      have hpl : plN 3 (V 3) p9 (V 1 0) = lgN (V 3) p9 := if_neg hp3
      have e9 : x37 = lgN (V 3) p9 := e9.trans hpl
      have hX1 : lgN (V 3) p9 = 1 → X9 0 0 = wyE (V 3) p9 := hX1
      have hX2 : lgN (V 3) p9 = 2 → X9 0 0 = wyU (V 3) p9 (V 1 0) ∧ X9 0 1 = wyE (V 3) p9 := hX2
      have hX0 : lgs X2 X9 := hX0
      clear hpl
      rcases (by omega : x37 = 0 ∨ x37 = 1 ∨ x37 = 2) with hx | hx | hx
      · skip
        subst hx
        refine dp_istore C dL_slews_40 (Nat.le_of_ble_eq_true rfl) ?_
        dsimp only [List.set]
        refine dp_iconst C dL_slews_42 ?_
        refine dp_istore C dL_slews_43 (Nat.le_of_ble_eq_true rfl) ?_
        dsimp only [List.set]
        refine dp_iload C dL_slews_45 rfl ?_
        refine dp_iload C dL_slews_47 rfl ?_
        refine dp_icmp_ge (tgt := 71) C dL_slews_49 (by decide) ⟨by omega, by omega⟩ ⟨by omega, by omega⟩ (fun c49 => ?_) (fun c49 => ?_)
        · skip
          refine dp_dr 6 ?_
          refine dp_dr 7 ?_
          dsimp only [List.set]
          exact J71 _ _ (foV_0 hi3 (by omega) (by omega)).symm (hs2.tr hX0)
        · omega
      · skip
        subst hx
        refine dp_istore C dL_slews_40 (Nat.le_of_ble_eq_true rfl) ?_
        dsimp only [List.set]
        refine dp_iconst C dL_slews_42 ?_
        refine dp_istore C dL_slews_43 (Nat.le_of_ble_eq_true rfl) ?_
        dsimp only [List.set]
        refine dp_iload C dL_slews_45 rfl ?_
        refine dp_iload C dL_slews_47 rfl ?_
        refine dp_icmp_ge (tgt := 71) C dL_slews_49 (by decide) ⟨by omega, by omega⟩ ⟨by omega, by omega⟩ (fun c49 => ?_) (fun c49 => ?_)
        · omega
        · skip
          refine dp_aload_n C dL_slews_52 rfl ?_
          refine dp_iload C dL_slews_53 rfl ?_
          refine dp_aload_n C dL_slews_55 rfl ?_
          refine dp_bipush C dL_slews_56 (by decide) ?_
          refine dp_iload C dL_slews_58 rfl ?_
          refine dp_iadd C dL_slews_60 ?_
          refine dp_ald_l C 0 (by omega) (by decide) dL_slews_61 ?_
          refine dp_cSv C (c_L_goes C.2.2.1 l (a := 0) (by decide) hi3 (by rw [hX1 e9.symm]; exact hy3.2)) gL_slews_L_goes rfl yyL_goes rfl ⟨Nat.le_of_ble_eq_true rfl, Nat.le_of_ble_eq_true rfl⟩ rfl (Nat.le_of_ble_eq_true rfl) rfl ⟨Nat.zero_le _, Nat.zero_le _⟩ dL_slews_62 (fun M62 h62 => ?_)
          obtain rfl := h62
          rw [show (0 : Nat) + 3 = 3 from rfl]
          refine dp_iinc C dL_slews_65 rfl ?_
          dsimp only [List.set]
          refine dp_goto (tgt := 45) C dL_slews_68 (by decide) ?_
          refine dp_iload C dL_slews_45 rfl ?_
          refine dp_iload C dL_slews_47 rfl ?_
          refine dp_icmp_ge (tgt := 71) C dL_slews_49 (by decide) ⟨by omega, by omega⟩ ⟨by omega, by omega⟩ (fun c49 => ?_) (fun c49 => ?_)
          · skip
            refine dp_dr 6 ?_
            refine dp_dr 7 ?_
            dsimp only [List.set]
            exact J71 _ _ (by rw [hX1 e9.symm]; exact (foV_1 hi3 (by omega)).symm) (hs2.tr hX0)
          · omega
      · skip
        subst hx
        refine dp_istore C dL_slews_40 (Nat.le_of_ble_eq_true rfl) ?_
        dsimp only [List.set]
        refine dp_iconst C dL_slews_42 ?_
        refine dp_istore C dL_slews_43 (Nat.le_of_ble_eq_true rfl) ?_
        dsimp only [List.set]
        refine dp_iload C dL_slews_45 rfl ?_
        refine dp_iload C dL_slews_47 rfl ?_
        refine dp_icmp_ge (tgt := 71) C dL_slews_49 (by decide) ⟨by omega, by omega⟩ ⟨by omega, by omega⟩ (fun c49 => ?_) (fun c49 => ?_)
        · omega
        · skip
          refine dp_aload_n C dL_slews_52 rfl ?_
          refine dp_iload C dL_slews_53 rfl ?_
          refine dp_aload_n C dL_slews_55 rfl ?_
          refine dp_bipush C dL_slews_56 (by decide) ?_
          refine dp_iload C dL_slews_58 rfl ?_
          refine dp_iadd C dL_slews_60 ?_
          refine dp_ald_l C 0 (by omega) (by decide) dL_slews_61 ?_
          refine dp_cSv C (c_L_goes C.2.2.1 l (a := 0) (by decide) hi3 (by rw [(hX2 e9.symm).1]; exact hy3.1)) gL_slews_L_goes rfl yyL_goes rfl ⟨Nat.le_of_ble_eq_true rfl, Nat.le_of_ble_eq_true rfl⟩ rfl (Nat.le_of_ble_eq_true rfl) rfl ⟨Nat.zero_le _, Nat.zero_le _⟩ dL_slews_62 (fun M62 h62 => ?_)
          obtain rfl := h62
          rw [show (0 : Nat) + 3 = 3 from rfl]
          refine dp_iinc C dL_slews_65 rfl ?_
          dsimp only [List.set]
          refine dp_goto (tgt := 45) C dL_slews_68 (by decide) ?_
          refine dp_iload C dL_slews_45 rfl ?_
          refine dp_iload C dL_slews_47 rfl ?_
          refine dp_icmp_ge (tgt := 71) C dL_slews_49 (by decide) ⟨by omega, by omega⟩ ⟨by omega, by omega⟩ (fun c49 => ?_) (fun c49 => ?_)
          · omega
          · skip
            refine dp_aload_n C dL_slews_52 rfl ?_
            refine dp_iload C dL_slews_53 rfl ?_
            refine dp_aload_n C dL_slews_55 rfl ?_
            refine dp_bipush C dL_slews_56 (by decide) ?_
            refine dp_iload C dL_slews_58 rfl ?_
            refine dp_iadd C dL_slews_60 ?_
            refine dp_ald_l C 1 (by omega) (by decide) dL_slews_61 ?_
            refine dp_cSv C (c_L_goes C.2.2.1 l (a := 0) (by decide) (mvV_iv2 (c := 3) hi3 (by rw [(hX2 e9.symm).1]; exact hy3.1)) (by rw [(hX2 e9.symm).2]; exact hy3.2)) gL_slews_L_goes rfl yyL_goes rfl ⟨Nat.le_of_ble_eq_true rfl, Nat.le_of_ble_eq_true rfl⟩ rfl (Nat.le_of_ble_eq_true rfl) rfl ⟨Nat.zero_le _, Nat.zero_le _⟩ dL_slews_62 (fun M62 h62 => ?_)
            obtain rfl := h62
            rw [show (0 : Nat) + 3 = 3 from rfl]
            refine dp_iinc C dL_slews_65 rfl ?_
            dsimp only [List.set]
            refine dp_goto (tgt := 45) C dL_slews_68 (by decide) ?_
            refine dp_iload C dL_slews_45 rfl ?_
            refine dp_iload C dL_slews_47 rfl ?_
            refine dp_icmp_ge (tgt := 71) C dL_slews_49 (by decide) ⟨by omega, by omega⟩ ⟨by omega, by omega⟩ (fun c49 => ?_) (fun c49 => ?_)
            · skip
              refine dp_dr 6 ?_
              refine dp_dr 7 ?_
              dsimp only [List.set]
              exact J71 _ _ (by rw [(hX2 e9.symm).1, (hX2 e9.symm).2]; rfl) (hs2.tr hX0)
            · omega
