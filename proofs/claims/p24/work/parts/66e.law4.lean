/-! A MINUTE, MANY MINUTES -/
theorem uwN_neg {V : dp_V} {N : Nat} (h : uwN V N < 0) : uwN V N = -100004 := by
  rcases @uwN_sp V N with ⟨a, _⟩ | ⟨t, _, a, _⟩
  · exact a
  · omega
theorem uq.of {V V' : dp_V} {N : Nat} (h : uq V N) (ht : ∀ t, t < N → V' (t + 6) 6 = 1 → V (t + 6) 6 = 1) : uq V' N := fun t u a b c d => h t u a b (ht t a c) (ht u b d)
theorem puV_6 {V : dp_V} {t u : Nat} : puV V t (u + 6) 6 = V (u + 6) 6 := by
  unfold puV
  by_cases e : u = t
  · subst e
    repeat' split
    all_goals first | rfl | (rw [u2_same, u1_ne (by decide), u2_ne (by omega)])
  · repeat' split
    all_goals first | rfl | (rw [u2_ne (by omega), u2_ne (by omega)])
theorem fnV_6 {V : dp_V} {t u : Nat} (h : fnV V t (u + 6) 6 = 1) : V (u + 6) 6 = 1 := by
  unfold fnV at h
  split at h
  · by_cases e : u = t
    · subst e
      rw [u2_same, u1_ne (by decide), u2_same, u1_same] at h
      omega
    · rw [u2_ne (by omega), u2_ne (by omega), puV_6] at h
      exact h
  · rw [puV_6] at h
    exact h
theorem ms1_6 {V : dp_V} {N u : Nat} (h : ms1 V N (u + 6) 6 = 1) : V (u + 6) 6 = 1 := by
  unfold ms1 at h
  split at h
  · exact h
  · exact fnV_6 h
theorem en2_6 : ∀ (n k : Nat) (V : dp_V) (u : Nat), en2 k n V (u + 6) 6 = 1 → V (u + 6) 6 = 1 := by
  intro n
  induction n with
  | zero => intro k V u h; exact h
  | succ n ih =>
    intro k V u h
    have h2 := ih (k + 1) (if V (k + 6) 6 = 0 then (if V 0 0 < V (k + 6) 3 then V else u2 V (k + 6) 6 3) else V) u h
    split at h2
    · split at h2
      · exact h2
      · by_cases e : u = k
        · subst e
          rw [u2_same, u1_same] at h2
          omega
        · rw [u2_ne (by omega)] at h2
          exact h2
    · exact h2
theorem uq_m2 {V : dp_V} {N : Nat} (h : uq V N) : uq (en2 0 N (ms1 V N)) N := h.of (fun t _ q => ms1_6 (en2_6 N 0 _ t q))
theorem uq_no {V : dp_V} {N : Nat} (h : uwG V 0 N = -1) : ∀ t, t < N → ¬ V (t + 6) 6 = 1 := by
  intro t ht
  rcases @uwG_sp V N 0 with ⟨_, b⟩ | ⟨u, _, _, b, _⟩
  · exact b t (by omega) (by omega)
  · omega
theorem uq_mi {V : dp_V} {N : Nat} (h : uq V N) : uq (miM V N) N := by
  unfold miM
  split
  · exact uq_m2 h
  · rcases @bnM_sp (en2 0 N (ms1 V N)) N with q | ⟨t, h1, h2, h3⟩
    · rename_i z; exact absurd q z
    · rw [h2, Int.toNat_natCast]
      have no := uq_no (rsM_0 h3).2.1
      have key : ∀ u, u < N → bgV (en2 0 N (ms1 V N)) t (u + 6) 6 = 1 → u = t := fun u hu q => by
        by_cases e : u = t
        · exact e
        · unfold bgV at q
          rw [puV_6, b7M_ne (by omega), slV_ne (by omega) (by omega) (by omega)] at q
          exact absurd q (no u hu)
      intro a b ha hb qa qb
      rw [key a ha qa, key b hb qb]
theorem hd1_6 {V : dp_V} {N u : Nat} (h : hd1 V N (u + 6) 6 = 1) : V (u + 6) 6 = 1 := by
  unfold hd1 at h
  split at h
  · exact h
  · generalize (uwN V N).toNat = t at h
    by_cases e : u = t
    · subst e
      rw [u2_same, u1_ne (by decide), u2_same, u1_same] at h
      omega
    · rw [u2_ne (by omega), u2_ne (by omega)] at h
      exact h
theorem hsM_6 {V : dp_V} {N u : Nat} (h : hsM V N (u + 6) 6 = 1) : V (u + 6) 6 = 1 := by
  unfold hsM at h
  split at h
  · split at h
    · unfold hdM at h
      rw [u2_ne (by omega), mvV_ne (by omega)] at h
      have h2 := hd1_6 h
      rw [u2_ne (by omega)] at h2
      exact h2
    · rw [u2_ne (by omega)] at h
      exact h
  · rw [u2_ne (by omega)] at h
    exact h
theorem uq_st {V : dp_V} {N : Nat} (h : uq V N) : uq (stM V N) N := uq_mi (h.of (fun t _ q => hsM_6 q))
/-- a target begun, as the law does it -/
theorem lb7 {V : dp_V} {t : Nat} {p el T x8 x9 : Int} : u2 (u2 (u2 (slV (u2 (u2 (u2 V (t + 6) 12 p) (t + 6) 6 1) (t + 6) 7 T) p el) (t + 6) 8 x8) (t + 6) 9 x9) (t + 6) 13 0 = uc (slV V p el) (t + 6) (u1 (u1 (u1 (u1 (u1 (u1 (V (t + 6)) 12 p) 6 1) 7 T) 8 x8) 9 x9) 13 0) := by
  rw [u2_uc V (t + 6), u2_ucS, u2_ucS, slV_uc, u2_ucS, u2_ucS, u2_ucS]
theorem lb7M {V : dp_V} {t : Nat} {x8 x9 : Int} (h8 : x8 = V 0 0 + tmF V (apF V (V (t + 6) 0)) (V (t + 6) 1)) (h9 : x9 = V 0 0 + tmF V (apF V (V (t + 6) 0)) (V (t + 6) 1) + V (t + 6) 4) : u2 (u2 (u2 (slV (u2 (u2 (u2 V (t + 6) 12 (apF V (V (t + 6) 0))) (t + 6) 6 1) (t + 6) 7 (V 0 0)) (apF V (V (t + 6) 0)) (V (t + 6) 1)) (t + 6) 8 x8) (t + 6) 9 x9) (t + 6) 13 0 = b7M V t := by
  rw [lb7, b7M_uc, ← h9, ← h8]
  congr 1
  funext k
  unfold u1
  (repeat' split) <;> first | rfl | omega
/-- what the three numbers put leave of a state -/
theorem l3_ne {V : dp_V} {t c : Nat} {x y z : Int} (h : c ≠ t + 6) : u2 (u2 (u2 V (t + 6) 12 x) (t + 6) 6 y) (t + 6) 7 z c = V c := by
  rw [u2_ne h, u2_ne h, u2_ne h]
theorem ivS_l3 {V : dp_V} {t : Nat} {x y z : Int} (h : ivS V) : ivS (u2 (u2 (u2 V (t + 6) 12 x) (t + 6) 6 y) (t + 6) 7 z) := ivS_of h (by rw [l3_ne (by omega)]) (l3_ne (by omega)) (l3_ne (by omega)) (l3_ne (by omega)) (l3_ne (by omega))
theorem tmF_l3 {V : dp_V} {t : Nat} {x y z p el : Int} : tmF (u2 (u2 (u2 V (t + 6) 12 x) (t + 6) 6 y) (t + 6) 7 z) p el = tmF V p el := by
  unfold tmF
  rw [l3_ne (by omega), l3_ne (by omega), l3_ne (by omega)]
theorem yyL_minute : yL_minute.cls ≠ "java/lang/invoke/MethodHandle" ∧ yL_minute.cls ≠ "java/lang/invoke/VarHandle" ∧ (parseMethodDescriptor yL_minute.desc).map (fun d => d.parameters.length) = some 2 := by decide +kernel
set_option maxHeartbeats 4000000 in
set_option maxRecDepth 100000 in
theorem c_L_minute {E : dp_E} (hE : dp_OK E) (l : Launch) {M : dp_M} {V X : dp_V} {N : Nat} (hm : ivM V N) (h4 : N ≤ 4) (hq : uq V N) : dp_met E l yL_minute wsL_minute 6 157 [.ref (eAd E 8 0), .ref (eAd E 8 1)] (dN M V X) (dp_qi E (fun y M1 => y = mc V N ∧ ∃ X', M1 = dN M (miM V N) X' ∧ lgs X X')) := by
  refine dp_of (cc := cL_minute) (nL := 6) (own := RL) (ret := some (.int)) (by decide +kernel) rfl rfl hE (by simp [Value.category]) (Nat.le_of_ble_eq_true rfl) ?_
  intro p e s m below meth co C hret
  show dp_G _ _ _ _ _ _ _ _ _ _ _ _ _ _ _ _ _ [some (.ref (eAd E 8 0)), some (.ref (eAd E 8 1)), none, none, none, none] _
  have hm2 := hm
  obtain ⟨hN, h10, hv, hT⟩ := hm
  have h0 := hv.1
  have h1 := hv.2.1
  have ho : 0 ≤ V 1 0 ∧ V 1 0 ≤ 500 := by omega
  have hub := @uwN_bd V N h10
  have J73 : ∀ (n k : Nat) (c tl ki : Int) (V' : dp_V), k + n = N → ki = k → c = mc V N → ivM V' N → en2 k n V' = en2 0 N (ms1 V N) → dp_G E (dp_A E) p l e (dp_rm 6 157) s m [.ref (eAd E 8 0), .ref (eAd E 8 1)].toArray below meth co 0 0 (MQ below (dp_qi E (fun y M1 => y = mc V N ∧ ∃ X', M1 = dN M (miM V N) X' ∧ lgs X X')) [.ref (eAd E 8 0), .ref (eAd E 8 1)].toArray s 0 0 (dp_A E)) (dN M V' X) 73 [some (.ref (eAd E 8 0)), some (.ref (eAd E 8 1)), some (.int (dp_I c)), some (.int (dp_I tl)), some (.int (dp_I ki)), none] [] := by
    refine dp_ind (fun n ih => ?_)
    intro k c tl ki V' hkn hki hc hm3 hf
    have h33 := hm3.1
    have hv3 := hm3.2.2.1
    have h03 := hv3.1
    refine dp_iload C dL_minute_73 rfl ?_
    refine dp_aload_n C dL_minute_75 rfl ?_
    refine dp_bipush C dL_minute_76 (by decide) ?_
    refine dp_ald_g C 7 (c9 := 0) (k9 := 3) (by omega) (by decide) rfl rfl dL_minute_78 ?_
    refine dp_icmp_ge (tgt := 140) C dL_minute_79 (by decide) ⟨by omega, by omega⟩ ⟨by omega, by omega⟩ (fun c79 => ?_) (fun c79 => ?_)
    · skip
      obtain rfl : n = 0 := by omega
      refine dp_aload_n C dL_minute_140 rfl ?_
      refine dp_aload_n C dL_minute_141 rfl ?_
      refine dp_cSi C (c_L_next C.2.2.1 l (V := V') hm3 h4 (by rw [show V' = en2 0 N (ms1 V N) from hf]; exact uq_m2 hq)) gL_minute_L_next rfl yyL_next rfl ⟨Nat.le_of_ble_eq_true rfl, Nat.le_of_ble_eq_true rfl⟩ rfl (Nat.le_of_ble_eq_true rfl) rfl ⟨Nat.zero_le _, Nat.zero_le _⟩ dL_minute_142 (fun x142 M142 h142 => ?_)
      obtain ⟨rfl, X1, rfl, hs1⟩ := h142
      have hbb : -100004 ≤ ftF (bnM V' N) ∧ ftF (bnM V' N) ≤ 10 := by
        unfold ftF
        rcases @bnM_sp V' N with q | ⟨t, q1, q2, _⟩ <;> split <;> omega
      have hf2 : V' = en2 0 N (ms1 V N) := hf
      refine dp_istore C dL_minute_145 (Nat.le_of_ble_eq_true rfl) ?_
      dsimp only [List.set]
      refine dp_iload C dL_minute_147 rfl ?_
      refine dp_if_lt (tgt := 256) C dL_minute_149 (by decide) ⟨by omega, by omega⟩ (fun c149 => ?_) (fun c149 => ?_)
      · skip
        have hb1 : bnM V' N = -1 := by
          rcases @bnM_sp V' N with q | ⟨t, q1, q2, _⟩
          · exact q
          · rw [q2, ftF_n] at c149; omega
        refine dp_iload_n C dL_minute_256 rfl ?_
        refine dp_iret C hret dL_minute_257 ?_
        first | (refine ⟨hc, _, ?_, hs1⟩; unfold miM; rw [← hf2, if_pos hb1]; done) | (refine ⟨hc, _, ?_, hs3⟩; unfold miM; rw [← hf2, if_neg nb, hb]; rfl)
      · skip
        obtain ⟨nb, eb⟩ := ftF_ne (b := bnM V' N) (by omega)
        obtain ⟨t, ht, hb, hr⟩ := (@bnM_sp V' N).resolve_left nb
        rw [eb, hb]
        obtain ⟨hrk, hr2, hr3, hr4⟩ := rsM_0 hr
        have hrk2 := hrk
        obtain ⟨k1, k2, k3, k4⟩ := hrk2
        have ht4 : t < 4 := by omega
        have hst := hm3.2.2.2 t ht
        unfold ivT at hst
        have hz : 0 ≤ V' (t + 6) 0 ∧ V' (t + 6) 0 ≤ 35999 := by omega
        have hap := @apF_bd V' (V' (t + 6) 0) hz
        have epf : pfF V' (V' (t + 6) 0) = apF V' (V' (t + 6) 0) := if_neg k3
        have h7 := b7M_iv hm3 ht hrk
        refine dp_bipush C dL_minute_152 (by decide) ?_
        refine dp_iload C dL_minute_154 rfl ?_
        refine dp_imul C dL_minute_156 ?_
        refine dp_istore C dL_minute_157 (Nat.le_of_ble_eq_true rfl) ?_
        dsimp only [List.set]
        refine dp_aload_n C dL_minute_159 rfl ?_
        refine dp_iload C dL_minute_160 rfl ?_
        refine dp_bipush C dL_minute_162 (by decide) ?_
        refine dp_iadd C dL_minute_164 ?_
        refine dp_aload_n C dL_minute_165 rfl ?_
        refine dp_aload_n C dL_minute_166 rfl ?_
        refine dp_iload C dL_minute_167 rfl ?_
        refine dp_ald_q C t 0 (by omega) (by omega) (by decide) dL_minute_169 ?_
        refine dp_cSi C (c_L_pick C.2.2.1 l hv3 hz) gL_minute_L_pick rfl yyL_pick rfl ⟨Nat.le_of_ble_eq_true rfl, Nat.le_of_ble_eq_true rfl⟩ rfl (Nat.le_of_ble_eq_true rfl) rfl ⟨Nat.zero_le _, Nat.zero_le _⟩ dL_minute_170 (fun x170 M170 h170 => ?_)
        obtain ⟨rfl, X2, rfl, hs2⟩ := h170
        rw [epf]
        have hs2 := hs1.tr hs2
        refine dp_ast_q C t 12 (by omega) (by omega) (by decide) dL_minute_173 ?_
        refine dp_aload_n C dL_minute_174 rfl ?_
        refine dp_iload C dL_minute_175 rfl ?_
        refine dp_bipush C dL_minute_177 (by decide) ?_
        refine dp_iadd C dL_minute_179 ?_
        refine dp_iconst C dL_minute_180 ?_
        refine dp_ast_q C t 6 (by omega) (by omega) (by decide) dL_minute_181 ?_
        refine dp_aload_n C dL_minute_182 rfl ?_
        refine dp_iload C dL_minute_183 rfl ?_
        refine dp_bipush C dL_minute_185 (by decide) ?_
        refine dp_iadd C dL_minute_187 ?_
        refine dp_aload_n C dL_minute_188 rfl ?_
        refine dp_iconst C dL_minute_189 ?_
        refine dp_ald_g C 4 (c9 := 0) (k9 := 0) (by omega) (by decide) rfl rfl dL_minute_190 ?_
        try rw [u2_ne (show 0 ≠ t + 6 by omega), u2_ne (show 0 ≠ t + 6 by omega)]
        refine dp_ast_q C t 7 (by omega) (by omega) (by decide) dL_minute_191 ?_
        refine dp_aload_n C dL_minute_192 rfl ?_
        refine dp_iload C dL_minute_193 rfl ?_
        refine dp_bipush C dL_minute_195 (by decide) ?_
        refine dp_iadd C dL_minute_197 ?_
        refine dp_aload_n C dL_minute_198 rfl ?_
        refine dp_iconst C dL_minute_199 ?_
        refine dp_ald_g C 4 (c9 := 0) (k9 := 0) (by omega) (by decide) rfl rfl dL_minute_200 ?_
        rw [u2_ne (show 0 ≠ t + 6 by omega), u2_ne (show 0 ≠ t + 6 by omega), u2_ne (show 0 ≠ t + 6 by omega)]
        refine dp_aload_n C dL_minute_201 rfl ?_
        refine dp_aload_n C dL_minute_202 rfl ?_
        refine dp_iload C dL_minute_203 rfl ?_
        refine dp_bipush C dL_minute_205 (by decide) ?_
        refine dp_iadd C dL_minute_207 ?_
        refine dp_ald_q C t 12 (by omega) (by omega) (by decide) dL_minute_208 ?_
        simp (decide := true) only [u2_same, u1, reduceIte]
        refine dp_aload_n C dL_minute_209 rfl ?_
        refine dp_iload C dL_minute_210 rfl ?_
        refine dp_iconst C dL_minute_212 ?_
        refine dp_iadd C dL_minute_213 ?_
        refine dp_ald_q C t 1 (by omega) (by omega) (by decide) dL_minute_214 ?_
        simp (decide := true) only [u2_same, u1, reduceIte]
        refine dp_cSi C (c_L_slews C.2.2.1 l (ivS_l3 hv3) hap ⟨by omega, by omega⟩ (by rw [l3_ne (by omega), l3_ne (by omega)]; exact k3) (by rw [l3_ne (by omega), l3_ne (by omega)]; exact k2)) gL_minute_L_slews rfl yyL_slews rfl ⟨Nat.le_of_ble_eq_true rfl, Nat.le_of_ble_eq_true rfl⟩ rfl (Nat.le_of_ble_eq_true rfl) rfl ⟨Nat.zero_le _, Nat.zero_le _⟩ dL_minute_215 (fun x215 M215 h215 => ?_)
        obtain ⟨rfl, X3, rfl, hs3⟩ := h215
        rw [tmF_l3]
        have hs3 := hs2.tr hs3
        refine dp_iadd C dL_minute_218 ?_
        refine dp_ast_q C t 8 (by omega) (by omega) (by decide) dL_minute_219 ?_
        refine dp_aload_n C dL_minute_220 rfl ?_
        refine dp_iload C dL_minute_221 rfl ?_
        refine dp_bipush C dL_minute_223 (by decide) ?_
        refine dp_iadd C dL_minute_225 ?_
        refine dp_aload_n C dL_minute_226 rfl ?_
        refine dp_iload C dL_minute_227 rfl ?_
        refine dp_bipush C dL_minute_229 (by decide) ?_
        refine dp_iadd C dL_minute_231 ?_
        refine dp_ald_q C t 8 (by omega) (by omega) (by decide) dL_minute_232 ?_
        simp (decide := true) only [u2_same, u1, reduceIte]
        refine dp_aload_n C dL_minute_233 rfl ?_
        refine dp_iload C dL_minute_234 rfl ?_
        refine dp_iconst C dL_minute_236 ?_
        refine dp_iadd C dL_minute_237 ?_
        refine dp_ald_q C t 4 (by omega) (by omega) (by decide) dL_minute_238 ?_
        simp (decide := true) only [u2_same, u1, reduceIte]
        rw [slV_ne (by omega) (by omega) (by omega)]
        simp (decide := true) only [u2_same, u1, reduceIte]
        refine dp_iadd C dL_minute_239 ?_
        refine dp_ast_q C t 9 (by omega) (by omega) (by decide) dL_minute_240 ?_
        refine dp_aload_n C dL_minute_241 rfl ?_
        refine dp_iload C dL_minute_242 rfl ?_
        refine dp_bipush C dL_minute_244 (by decide) ?_
        refine dp_iadd C dL_minute_246 ?_
        refine dp_iconst C dL_minute_247 ?_
        refine dp_ast_q C t 13 (by omega) (by omega) (by decide) dL_minute_248 ?_
        refine dp_aload_n C dL_minute_249 rfl ?_
        refine dp_aload_n C dL_minute_250 rfl ?_
        refine dp_iload C dL_minute_251 rfl ?_
        rw [lb7M rfl rfl]
        refine dp_cSv C (c_L_push C.2.2.1 l (V := b7M V' t) h7.1.2.2.1 ht4 (h7.1.2.2.2 t ht) h7.2.2) gL_minute_L_push rfl yyL_push rfl ⟨Nat.le_of_ble_eq_true rfl, Nat.le_of_ble_eq_true rfl⟩ rfl (Nat.le_of_ble_eq_true rfl) rfl ⟨Nat.zero_le _, Nat.zero_le _⟩ dL_minute_253 (fun M253 h253 => ?_)
        obtain rfl := h253
        refine dp_iload_n C dL_minute_256 rfl ?_
        refine dp_iret C hret dL_minute_257 ?_
        first | (refine ⟨hc, _, ?_, hs1⟩; unfold miM; rw [← hf2, if_pos hb1]; done) | (refine ⟨hc, _, ?_, hs3⟩; unfold miM; rw [← hf2, if_neg nb, hb]; rfl)
    · skip
      obtain ⟨n, rfl⟩ : ∃ n', n = n' + 1 := ⟨n - 1, by omega⟩
      rw [show en2 k (n + 1) V' = en2 (k + 1) n (if V' (k + 6) 6 = 0 then (if V' 0 0 < V' (k + 6) 3 then V' else u2 V' (k + 6) 6 3) else V') from rfl] at hf
      obtain rfl := hki
      have ht : k < N := by omega
      have hst := hm3.2.2.2 k ht
      unfold ivT at hst
      refine dp_aload_n C dL_minute_82 rfl ?_
      refine dp_bipush C dL_minute_83 (by decide) ?_
      refine dp_iload C dL_minute_85 rfl ?_
      refine dp_imul C dL_minute_87 ?_
      refine dp_bipush C dL_minute_88 (by decide) ?_
      refine dp_iadd C dL_minute_90 ?_
      refine dp_aload_n C dL_minute_91 rfl ?_
      refine dp_bipush C dL_minute_92 (by decide) ?_
      refine dp_iload C dL_minute_94 rfl ?_
      refine dp_imul C dL_minute_96 ?_
      refine dp_bipush C dL_minute_97 (by decide) ?_
      refine dp_iadd C dL_minute_99 ?_
      refine dp_ald_q C k 6 (by omega) (by omega) (by decide) dL_minute_100 ?_
      refine dp_if_ne (tgt := 123) C dL_minute_101 (by decide) ⟨by omega, by omega⟩ (fun c101 => ?_) (fun c101 => ?_)
      · skip
        rw [if_neg c101] at hf
        refine dp_aload_n C dL_minute_123 rfl ?_
        refine dp_bipush C dL_minute_124 (by decide) ?_
        refine dp_iload C dL_minute_126 rfl ?_
        refine dp_imul C dL_minute_128 ?_
        refine dp_bipush C dL_minute_129 (by decide) ?_
        refine dp_iadd C dL_minute_131 ?_
        refine dp_ald_q C k 6 (by omega) (by omega) (by decide) dL_minute_132 ?_
        refine dp_ast_q C k 6 (by omega) (by omega) (by decide) dL_minute_133 ?_
        refine dp_iinc C dL_minute_134 rfl ?_
        dsimp only [List.set]
        refine dp_goto (tgt := 73) C dL_minute_137 (by decide) ?_
        first | exact ih n (by omega) (k + 1) c _ _ _ (by omega) (by omega) hc hm3 (by rw [u2_id]; exact hf) | (rw [u2_id]; exact ih n (by omega) (k + 1) c _ _ _ (by omega) (by omega) hc hm3 hf) | exact ih n (by omega) (k + 1) c _ _ _ (by omega) (by omega) hc (ivM_uT hm3 ht (ivT_st (hm3.2.2.2 k ht) (by omega))) hf
      · skip
        rw [if_pos c101] at hf
        refine dp_aload_n C dL_minute_104 rfl ?_
        refine dp_bipush C dL_minute_105 (by decide) ?_
        refine dp_iload C dL_minute_107 rfl ?_
        refine dp_imul C dL_minute_109 ?_
        refine dp_iconst C dL_minute_110 ?_
        refine dp_iadd C dL_minute_111 ?_
        refine dp_ald_q C k 3 (by omega) (by omega) (by decide) dL_minute_112 ?_
        refine dp_aload_n C dL_minute_113 rfl ?_
        refine dp_iconst C dL_minute_114 ?_
        refine dp_ald_g C 4 (c9 := 0) (k9 := 0) (by omega) (by decide) rfl rfl dL_minute_115 ?_
        refine dp_icmp_gt (tgt := 123) C dL_minute_116 (by decide) ⟨by omega, by omega⟩ ⟨by omega, by omega⟩ (fun c116 => ?_) (fun c116 => ?_)
        · skip
          rw [if_pos (by omega)] at hf
          refine dp_aload_n C dL_minute_123 rfl ?_
          refine dp_bipush C dL_minute_124 (by decide) ?_
          refine dp_iload C dL_minute_126 rfl ?_
          refine dp_imul C dL_minute_128 ?_
          refine dp_bipush C dL_minute_129 (by decide) ?_
          refine dp_iadd C dL_minute_131 ?_
          refine dp_ald_q C k 6 (by omega) (by omega) (by decide) dL_minute_132 ?_
          refine dp_ast_q C k 6 (by omega) (by omega) (by decide) dL_minute_133 ?_
          refine dp_iinc C dL_minute_134 rfl ?_
          dsimp only [List.set]
          refine dp_goto (tgt := 73) C dL_minute_137 (by decide) ?_
          first | exact ih n (by omega) (k + 1) c _ _ _ (by omega) (by omega) hc hm3 (by rw [u2_id]; exact hf) | (rw [u2_id]; exact ih n (by omega) (k + 1) c _ _ _ (by omega) (by omega) hc hm3 hf) | exact ih n (by omega) (k + 1) c _ _ _ (by omega) (by omega) hc (ivM_uT hm3 ht (ivT_st (hm3.2.2.2 k ht) (by omega))) hf
        · skip
          rw [if_neg (by omega)] at hf
          refine dp_iconst C dL_minute_119 ?_
          refine dp_goto (tgt := 133) C dL_minute_120 (by decide) ?_
          refine dp_ast_q C k 6 (by omega) (by omega) (by decide) dL_minute_133 ?_
          refine dp_iinc C dL_minute_134 rfl ?_
          dsimp only [List.set]
          refine dp_goto (tgt := 73) C dL_minute_137 (by decide) ?_
          first | exact ih n (by omega) (k + 1) c _ _ _ (by omega) (by omega) hc hm3 (by rw [u2_id]; exact hf) | (rw [u2_id]; exact ih n (by omega) (k + 1) c _ _ _ (by omega) (by omega) hc hm3 hf) | exact ih n (by omega) (k + 1) c _ _ _ (by omega) (by omega) hc (ivM_uT hm3 ht (ivT_st (hm3.2.2.2 k ht) (by omega))) hf
  have J70 : ∀ (c tl : Int) (V1 : dp_V), c = mc V N → V1 = ms1 V N → dp_G E (dp_A E) p l e (dp_rm 6 157) s m [.ref (eAd E 8 0), .ref (eAd E 8 1)].toArray below meth co 0 0 (MQ below (dp_qi E (fun y M1 => y = mc V N ∧ ∃ X', M1 = dN M (miM V N) X' ∧ lgs X X')) [.ref (eAd E 8 0), .ref (eAd E 8 1)].toArray s 0 0 (dp_A E)) (dN M V1 X) 70 [some (.ref (eAd E 8 0)), some (.ref (eAd E 8 1)), some (.int (dp_I c)), some (.int (dp_I tl)), none, none] [] := by
    intro c tl V1 hc hV1
    have hi1 : ivM V1 N := by rw [hV1]; exact (ms1_iv hm2).1
    have hf1 : en2 0 N V1 = en2 0 N (ms1 V N) := by rw [hV1]
    refine dp_iconst C dL_minute_70 ?_
    refine dp_istore C dL_minute_71 (Nat.le_of_ble_eq_true rfl) ?_
    dsimp only [List.set]
    exact J73 N 0 c _ _ _ (by omega) rfl hc hi1 hf1
  refine dp_iconst C dL_minute_0 ?_
  refine dp_istore_n C dL_minute_1 (Nat.le_of_ble_eq_true rfl) ?_
  dsimp only [List.set]
  refine dp_aload_n C dL_minute_2 rfl ?_
  refine dp_aload_n C dL_minute_3 rfl ?_
  refine dp_cSi C (c_L_under C.2.2.1 l hm2 h4 hq) gL_minute_L_under rfl yyL_under rfl ⟨Nat.le_of_ble_eq_true rfl, Nat.le_of_ble_eq_true rfl⟩ rfl (Nat.le_of_ble_eq_true rfl) rfl ⟨Nat.zero_le _, Nat.zero_le _⟩ dL_minute_4 (fun x4 M4 h4 => ?_)
  obtain ⟨rfl, rfl⟩ := h4
  refine dp_istore_n C dL_minute_7 (Nat.le_of_ble_eq_true rfl) ?_
  dsimp only [List.set]
  refine dp_iload_n C dL_minute_8 rfl ?_
  refine dp_if_lt (tgt := 70) C dL_minute_9 (by decide) ⟨by omega, by omega⟩ (fun c9 => ?_) (fun c9 => ?_)
  · skip
    first | exact J70 _ _ _ (by unfold mc; rw [if_pos (uwN_neg c9)]) (by unfold ms1; rw [if_pos (uwN_neg c9)]) | exact J70 _ _ _ (by rw [emc]; unfold fnC; rw [if_pos (by omega)]; rfl) (by rw [ems]; unfold fnV; rw [if_pos (by omega)]) | exact J70 _ _ _ (by rw [emc]; unfold fnC; rw [if_neg (by omega)]) (by rw [ems]; unfold fnV; rw [if_neg (by omega)])
  · skip
    obtain ⟨t, ht, hu, hu2, h6⟩ := uwN_t (V := V) (N := N) (by omega)
    obtain ⟨ems, emc⟩ := ms1_t hu
    rw [hu]
    have ht4 : t < 4 := by omega
    have hst := hT t ht
    unfold ivT at hst
    have h15 := hst.2.2.2.2.2.2.2.2.2.2.2.2.2 h6
    obtain ⟨hpi, e0, ek⟩ := puV_iv hm2 ht
    have q9 := ek 9 (by decide)
    have q0 : puV V t 0 0 = V 0 0 := by rw [e0]
    refine dp_aload_n C dL_minute_12 rfl ?_
    refine dp_aload_n C dL_minute_13 rfl ?_
    refine dp_iload_n C dL_minute_14 rfl ?_
    refine dp_cSv C (c_L_push C.2.2.1 l hv ht4 (hT t ht) h6) gL_minute_L_push rfl yyL_push rfl ⟨Nat.le_of_ble_eq_true rfl, Nat.le_of_ble_eq_true rfl⟩ rfl (Nat.le_of_ble_eq_true rfl) rfl ⟨Nat.zero_le _, Nat.zero_le _⟩ dL_minute_15 (fun M15 h15 => ?_)
    obtain rfl := h15
    refine dp_aload_n C dL_minute_18 rfl ?_
    refine dp_bipush C dL_minute_19 (by decide) ?_
    refine dp_iload_n C dL_minute_21 rfl ?_
    refine dp_imul C dL_minute_22 ?_
    refine dp_bipush C dL_minute_23 (by decide) ?_
    refine dp_iadd C dL_minute_25 ?_
    refine dp_ald_q C t 9 (by omega) (by omega) (by decide) dL_minute_26 ?_
    refine dp_aload_n C dL_minute_27 rfl ?_
    refine dp_iconst C dL_minute_28 ?_
    refine dp_ald_g C 4 (c9 := 0) (k9 := 0) (by omega) (by decide) rfl rfl dL_minute_29 ?_
    refine dp_icmp_gt (tgt := 70) C dL_minute_30 (by decide) ⟨by omega, by omega⟩ ⟨by omega, by omega⟩ (fun c30 => ?_) (fun c30 => ?_)
    · skip
      first | exact J70 _ _ _ (by unfold mc; rw [if_pos (uwN_neg c9)]) (by unfold ms1; rw [if_pos (uwN_neg c9)]) | exact J70 _ _ _ (by rw [emc]; unfold fnC; rw [if_pos (by omega)]; rfl) (by rw [ems]; unfold fnV; rw [if_pos (by omega)]) | exact J70 _ _ _ (by rw [emc]; unfold fnC; rw [if_neg (by omega)]) (by rw [ems]; unfold fnV; rw [if_neg (by omega)])
    · skip
      refine dp_aload_n C dL_minute_33 rfl ?_
      refine dp_bipush C dL_minute_34 (by decide) ?_
      refine dp_iload_n C dL_minute_36 rfl ?_
      refine dp_imul C dL_minute_37 ?_
      refine dp_bipush C dL_minute_38 (by decide) ?_
      refine dp_iadd C dL_minute_40 ?_
      refine dp_iconst C dL_minute_41 ?_
      refine dp_ast_q C t 6 (by omega) (by omega) (by decide) dL_minute_42 ?_
      refine dp_aload_n C dL_minute_43 rfl ?_
      refine dp_bipush C dL_minute_44 (by decide) ?_
      refine dp_iload_n C dL_minute_46 rfl ?_
      refine dp_imul C dL_minute_47 ?_
      refine dp_bipush C dL_minute_48 (by decide) ?_
      refine dp_iadd C dL_minute_50 ?_
      refine dp_aload_n C dL_minute_51 rfl ?_
      refine dp_iconst C dL_minute_52 ?_
      refine dp_cSi C (c_L_dish C.2.2.1 l (a := 0) (by decide)) gL_minute_L_dish rfl yyL_dish rfl ⟨Nat.le_of_ble_eq_true rfl, Nat.le_of_ble_eq_true rfl⟩ rfl (Nat.le_of_ble_eq_true rfl) rfl ⟨Nat.zero_le _, Nat.zero_le _⟩ dL_minute_53 (fun x53 M53 h53 => ?_)
      obtain ⟨rfl, rfl⟩ := h53
      rw [show (0 : Nat) + 3 = 3 from rfl, u2_ne (show 3 ≠ t + 6 by omega)]
      refine dp_aload_n C dL_minute_56 rfl ?_
      refine dp_bipush C dL_minute_57 (by decide) ?_
      refine dp_iload_n C dL_minute_59 rfl ?_
      refine dp_imul C dL_minute_60 ?_
      refine dp_bipush C dL_minute_61 (by decide) ?_
      refine dp_iadd C dL_minute_63 ?_
      refine dp_ald_q C t 12 (by omega) (by omega) (by decide) dL_minute_64 ?_
      simp (decide := true) only [u2_same, u1, reduceIte]
      try rw [u2_same, u1_ne (by decide)]
      refine dp_isub C dL_minute_65 ?_
      refine dp_ast_q C t 10 (by omega) (by omega) (by decide) dL_minute_66 ?_
      refine dp_iinc C dL_minute_67 rfl ?_
      dsimp only [List.set]
      first | exact J70 _ _ _ (by unfold mc; rw [if_pos (uwN_neg c9)]) (by unfold ms1; rw [if_pos (uwN_neg c9)]) | exact J70 _ _ _ (by rw [emc]; unfold fnC; rw [if_pos (by omega)]; rfl) (by rw [ems]; unfold fnV; rw [if_pos (by omega)]) | exact J70 _ _ _ (by rw [emc]; unfold fnC; rw [if_neg (by omega)]) (by rw [ems]; unfold fnV; rw [if_neg (by omega)])
theorem yyL_runs : yL_runs.cls ≠ "java/lang/invoke/MethodHandle" ∧ yL_runs.cls ≠ "java/lang/invoke/VarHandle" ∧ (parseMethodDescriptor yL_runs.desc).map (fun d => d.parameters.length) = some 3 := by decide +kernel
set_option maxHeartbeats 4000000 in
set_option maxRecDepth 100000 in
theorem c_L_runs {E : dp_E} (hE : dp_OK E) (l : Launch) {M : dp_M} {V X : dp_V} {N : Nat} (hm : ivM V N) (h4 : N ≤ 4) (hq : uq V N) {kk : Nat} (hk : V 0 0 + kk ≤ 43200) : dp_met E l yL_runs wsL_runs 7 182 [.ref (eAd E 8 0), .ref (eAd E 8 1), .int (dp_I ((kk : Int)))] (dN M V X) (dp_qi E (fun y M1 => y = ruC V N kk ∧ ∃ X', M1 = dN M (ruM V N kk) X' ∧ lgs X X')) := by
  refine dp_of (cc := cL_runs) (nL := 6) (own := RL) (ret := some (.int)) (by decide +kernel) rfl rfl hE (by simp [Value.category]) (Nat.le_of_ble_eq_true rfl) ?_
  intro p e s m below meth co C hret
  show dp_G _ _ _ _ _ _ _ _ _ _ _ _ _ _ _ _ _ [some (.ref (eAd E 8 0)), some (.ref (eAd E 8 1)), some (.int (dp_I ((kk : Int)))), none, none, none] _
  have hm2 := hm
  obtain ⟨hN, h10, hv, hT⟩ := hm
  have h0 := hv.1
  have h1 := hv.2.1
  have ho : 0 ≤ V 1 0 ∧ V 1 0 ≤ 500 := by omega
  have J9 : ∀ (n j : Nat) (c ji : Int) (V' X' : dp_V), j + n = kk → ji = j → ivM V' N → uq V' N → V' 0 0 = V 0 0 + j → lgs X X' → rnG N n V' = ruM V N kk → c + rcG N n V' = ruC V N kk → dp_G E (dp_A E) p l e (dp_rm 7 182) s m [.ref (eAd E 8 0), .ref (eAd E 8 1), .int (dp_I ((kk : Int)))].toArray below meth co 0 0 (MQ below (dp_qi E (fun y M1 => y = ruC V N kk ∧ ∃ X', M1 = dN M (ruM V N kk) X' ∧ lgs X X')) [.ref (eAd E 8 0), .ref (eAd E 8 1), .int (dp_I ((kk : Int)))].toArray s 0 0 (dp_A E)) (dN M V' X') 9 [some (.ref (eAd E 8 0)), some (.ref (eAd E 8 1)), some (.int (dp_I ((kk : Int)))), some (.int (dp_I c)), some (.int (dp_I ji)), none] [] := by
    refine dp_ind (fun n ih => ?_)
    intro j c ji V' X' hkn hki hm3 hq3 ht0 hsc hf hc
    refine dp_iload C dL_runs_9 rfl ?_
    refine dp_iload_n C dL_runs_11 rfl ?_
    refine dp_icmp_ge (tgt := 106) C dL_runs_12 (by decide) ⟨by omega, by omega⟩ ⟨by omega, by omega⟩ (fun c12 => ?_) (fun c12 => ?_)
    · skip
      obtain rfl : n = 0 := by omega
      refine dp_iload_n C dL_runs_106 rfl ?_
      refine dp_iret C hret dL_runs_107 ?_
      exact ⟨by rw [← hc]; show c = c + 0; omega, _, by rw [← hf]; rfl, hsc⟩
    · skip
      obtain ⟨n, rfl⟩ : ∃ n', n = n' + 1 := ⟨n - 1, by omega⟩
      have hv3 := hm3.2.2.1
      have h03 := hv3.1
      have hm6 := ivM_00 (x := V' 0 0 + 1) hm3 (by omega)
      have hub := @uwN_bd (u2 V' 0 0 (V' 0 0 + 1)) N h10
      have hm4 := hsM_iv hm3 (by omega)
      obtain ⟨hm5, h50⟩ := stM_iv hm3 (by omega)
      have hq6 : uq (u2 V' 0 0 (V' 0 0 + 1)) N := hq3.of (fun t _ q => by rw [u2_ne (by omega)] at q; exact q)
      have hd6 := hd1_iv (V := u2 V' 0 0 (V' 0 0 + 1)) (N := N)
      refine dp_aload_n C dL_runs_15 rfl ?_
      refine dp_iconst C dL_runs_16 ?_
      refine dp_dup2 C dL_runs_17 rfl rfl ?_
      refine dp_ald_g C 4 (c9 := 0) (k9 := 0) (by omega) (by decide) rfl rfl dL_runs_18 ?_
      refine dp_iconst C dL_runs_19 ?_
      refine dp_iadd C dL_runs_20 ?_
      refine dp_ast_g C 4 (c9 := 0) (k9 := 0) (by omega) (by decide) rfl rfl dL_runs_21 ?_
      refine dp_aload_n C dL_runs_22 rfl ?_
      refine dp_iconst C dL_runs_23 ?_
      refine dp_ald_g C 4 (c9 := 0) (k9 := 0) (by omega) (by decide) rfl rfl dL_runs_24 ?_
      rw [u2_same, u1_same]
      refine dp_sipush C dL_runs_25 (by decide) ?_
      refine dp_irem C ⟨by omega, by omega, by omega, by omega⟩ dL_runs_28 ?_
      refine dp_if_ne (tgt := 92) C dL_runs_29 (by decide) ⟨by omega, by omega⟩ (fun c29 => ?_) (fun c29 => ?_)
      · skip
        have eh : hsM V' N = u2 V' 0 0 (V' 0 0 + 1) := by unfold hsM; rw [if_neg c29]
        rw [← eh]
        refine dp_iload_n C dL_runs_92 rfl ?_
        refine dp_aload_n C dL_runs_93 rfl ?_
        refine dp_aload_n C dL_runs_94 rfl ?_
        refine dp_cSi C (c_L_minute C.2.2.1 l hm4.1 h4 (hq3.of (fun t _ q => hsM_6 q))) gL_runs_L_minute rfl yyL_minute rfl ⟨Nat.le_of_ble_eq_true rfl, Nat.le_of_ble_eq_true rfl⟩ rfl (Nat.le_of_ble_eq_true rfl) rfl ⟨Nat.zero_le _, Nat.zero_le _⟩ dL_runs_95 (fun x95 M95 h95 => ?_)
        obtain ⟨rfl, X9, rfl, hs9⟩ := h95
        rw [show miM (hsM V' N) N = stM V' N from rfl]
        refine dp_iadd C dL_runs_98 ?_
        refine dp_istore_n C dL_runs_99 (Nat.le_of_ble_eq_true rfl) ?_
        dsimp only [List.set]
        refine dp_iinc C dL_runs_100 rfl ?_
        dsimp only [List.set]
        refine dp_goto (tgt := 9) C dL_runs_103 (by decide) ?_
        refine dp_dr 5 ?_
        dsimp only [List.set]
        exact ih n (by omega) (j + 1) _ _ _ _ (by omega) (by omega) hm5 (uq_st hq3) (by rw [h50]; omega) (hsc.tr hs9) hf (by rw [← hc, show rcG N (n + 1) V' = mc (hsM V' N) N + rcG N n (stM V' N) from rfl]; omega)
      · skip
        refine dp_aload_n C dL_runs_32 rfl ?_
        refine dp_cSi C (c_L_day C.2.2.1 l hm6.2.2.1) gL_runs_L_day rfl yyL_day rfl ⟨Nat.le_of_ble_eq_true rfl, Nat.le_of_ble_eq_true rfl⟩ rfl (Nat.le_of_ble_eq_true rfl) rfl ⟨Nat.zero_le _, Nat.zero_le _⟩ dL_runs_33 (fun x33 M33 h33 => ?_)
        obtain ⟨rfl, rfl⟩ := h33
        refine dp_if_ne (tgt := 92) C dL_runs_36 (by decide) (by have := @kdF_bd (u2 V' 0 0 (V' 0 0 + 1)); exact ⟨by omega, by omega⟩) (fun c36 => ?_) (fun c36 => ?_)
        · skip
          have eh : hsM V' N = u2 V' 0 0 (V' 0 0 + 1) := by unfold hsM; rw [if_pos c29, if_neg c36]
          rw [← eh]
          refine dp_iload_n C dL_runs_92 rfl ?_
          refine dp_aload_n C dL_runs_93 rfl ?_
          refine dp_aload_n C dL_runs_94 rfl ?_
          refine dp_cSi C (c_L_minute C.2.2.1 l hm4.1 h4 (hq3.of (fun t _ q => hsM_6 q))) gL_runs_L_minute rfl yyL_minute rfl ⟨Nat.le_of_ble_eq_true rfl, Nat.le_of_ble_eq_true rfl⟩ rfl (Nat.le_of_ble_eq_true rfl) rfl ⟨Nat.zero_le _, Nat.zero_le _⟩ dL_runs_95 (fun x95 M95 h95 => ?_)
          obtain ⟨rfl, X9, rfl, hs9⟩ := h95
          rw [show miM (hsM V' N) N = stM V' N from rfl]
          refine dp_iadd C dL_runs_98 ?_
          refine dp_istore_n C dL_runs_99 (Nat.le_of_ble_eq_true rfl) ?_
          dsimp only [List.set]
          refine dp_iinc C dL_runs_100 rfl ?_
          dsimp only [List.set]
          refine dp_goto (tgt := 9) C dL_runs_103 (by decide) ?_
          refine dp_dr 5 ?_
          dsimp only [List.set]
          exact ih n (by omega) (j + 1) _ _ _ _ (by omega) (by omega) hm5 (uq_st hq3) (by rw [h50]; omega) (hsc.tr hs9) hf (by rw [← hc, show rcG N (n + 1) V' = mc (hsM V' N) N + rcG N n (stM V' N) from rfl]; omega)
        · skip
          refine dp_aload_n C dL_runs_39 rfl ?_
          refine dp_aload_n C dL_runs_40 rfl ?_
          refine dp_cSi C (c_L_under C.2.2.1 l hm6 h4 hq6) gL_runs_L_under rfl yyL_under rfl ⟨Nat.le_of_ble_eq_true rfl, Nat.le_of_ble_eq_true rfl⟩ rfl (Nat.le_of_ble_eq_true rfl) rfl ⟨Nat.zero_le _, Nat.zero_le _⟩ dL_runs_41 (fun x41 M41 h41 => ?_)
          obtain ⟨rfl, rfl⟩ := h41
          refine dp_istore C dL_runs_44 (Nat.le_of_ble_eq_true rfl) ?_
          dsimp only [List.set]
          refine dp_iload C dL_runs_46 rfl ?_
          refine dp_if_lt (tgt := 76) C dL_runs_48 (by decide) ⟨by omega, by omega⟩ (fun c48 => ?_) (fun c48 => ?_)
          · skip
            have e1 : hd1 (u2 V' 0 0 (V' 0 0 + 1)) N = (u2 V' 0 0 (V' 0 0 + 1)) := by unfold hd1; rw [if_pos (uwN_neg c48)]
            have hd7 := hd6 hm6
            rw [← e1]
            refine dp_aload_n C dL_runs_76 rfl ?_
            refine dp_iconst C dL_runs_77 ?_
            refine dp_sipush C dL_runs_78 (by decide) ?_
            refine dp_cSv C (c_L_goes C.2.2.1 l (a := 1) (by decide) (hd7.1.2.2.1.2.2.2.2) (by decide)) gL_runs_L_goes rfl yyL_goes rfl ⟨Nat.le_of_ble_eq_true rfl, Nat.le_of_ble_eq_true rfl⟩ rfl (Nat.le_of_ble_eq_true rfl) rfl ⟨Nat.zero_le _, Nat.zero_le _⟩ dL_runs_81 (fun M81 h81 => ?_)
            obtain rfl := h81
            rw [show (1 : Nat) + 3 = 4 from rfl]
            refine dp_aload_n C dL_runs_84 rfl ?_
            refine dp_bipush C dL_runs_85 (by decide) ?_
            refine dp_dup2 C dL_runs_87 rfl rfl ?_
            refine dp_ald_g C 6 (c9 := 0) (k9 := 2) (by omega) (by decide) rfl rfl dL_runs_88 ?_
            refine dp_iconst C dL_runs_89 ?_
            refine dp_iadd C dL_runs_90 ?_
            refine dp_ast_g C 6 (c9 := 0) (k9 := 2) (by omega) (by decide) rfl rfl dL_runs_91 ?_
            have eh : hsM V' N = u2 (mvV (hd1 (u2 V' 0 0 (V' 0 0 + 1)) N) 4 9000) 0 2 (mvV (hd1 (u2 V' 0 0 (V' 0 0 + 1)) N) 4 9000 0 2 + 1) := by unfold hsM; rw [if_pos c29, if_pos c36]; rfl
            rw [← eh]
            refine dp_iload_n C dL_runs_92 rfl ?_
            refine dp_aload_n C dL_runs_93 rfl ?_
            refine dp_aload_n C dL_runs_94 rfl ?_
            refine dp_cSi C (c_L_minute C.2.2.1 l hm4.1 h4 (hq3.of (fun t _ q => hsM_6 q))) gL_runs_L_minute rfl yyL_minute rfl ⟨Nat.le_of_ble_eq_true rfl, Nat.le_of_ble_eq_true rfl⟩ rfl (Nat.le_of_ble_eq_true rfl) rfl ⟨Nat.zero_le _, Nat.zero_le _⟩ dL_runs_95 (fun x95 M95 h95 => ?_)
            obtain ⟨rfl, X9, rfl, hs9⟩ := h95
            rw [show miM (hsM V' N) N = stM V' N from rfl]
            refine dp_iadd C dL_runs_98 ?_
            refine dp_istore_n C dL_runs_99 (Nat.le_of_ble_eq_true rfl) ?_
            dsimp only [List.set]
            refine dp_iinc C dL_runs_100 rfl ?_
            dsimp only [List.set]
            refine dp_goto (tgt := 9) C dL_runs_103 (by decide) ?_
            refine dp_dr 5 ?_
            dsimp only [List.set]
            exact ih n (by omega) (j + 1) _ _ _ _ (by omega) (by omega) hm5 (uq_st hq3) (by rw [h50]; omega) (hsc.tr hs9) hf (by rw [← hc, show rcG N (n + 1) V' = mc (hsM V' N) N + rcG N n (stM V' N) from rfl]; omega)
          · skip
            obtain ⟨t, ht, hu, hu2, h6⟩ := uwN_t (V := (u2 V' 0 0 (V' 0 0 + 1))) (N := N) (by omega)
            rw [hu]
            have e1 : hd1 (u2 V' 0 0 (V' 0 0 + 1)) N = u2 (u2 (u2 V' 0 0 (V' 0 0 + 1)) (t + 6) 6 0) (t + 6) 11 ((u2 V' 0 0 (V' 0 0 + 1)) (t + 6) 11 + 1) := by unfold hd1; rw [if_neg (by omega), hu, Int.toNat_natCast]
            have hd7 := hd6 hm6
            have ht4 : t < 4 := by omega
            refine dp_aload_n C dL_runs_51 rfl ?_
            refine dp_bipush C dL_runs_52 (by decide) ?_
            refine dp_iload C dL_runs_54 rfl ?_
            refine dp_imul C dL_runs_56 ?_
            refine dp_bipush C dL_runs_57 (by decide) ?_
            refine dp_iadd C dL_runs_59 ?_
            refine dp_iconst C dL_runs_60 ?_
            refine dp_ast_q C t 6 (by omega) (by omega) (by decide) dL_runs_61 ?_
            refine dp_aload_n C dL_runs_62 rfl ?_
            refine dp_bipush C dL_runs_63 (by decide) ?_
            refine dp_iload C dL_runs_65 rfl ?_
            refine dp_imul C dL_runs_67 ?_
            refine dp_bipush C dL_runs_68 (by decide) ?_
            refine dp_iadd C dL_runs_70 ?_
            refine dp_dup2 C dL_runs_71 rfl rfl ?_
            refine dp_ald_q C t 11 (by omega) (by omega) (by decide) dL_runs_72 ?_
            simp (decide := true) only [u2_same, u1, reduceIte]
            refine dp_iconst C dL_runs_73 ?_
            refine dp_iadd C dL_runs_74 ?_
            refine dp_ast_q C t 11 (by omega) (by omega) (by decide) dL_runs_75 ?_
            rw [← e1]
            refine dp_aload_n C dL_runs_76 rfl ?_
            refine dp_iconst C dL_runs_77 ?_
            refine dp_sipush C dL_runs_78 (by decide) ?_
            refine dp_cSv C (c_L_goes C.2.2.1 l (a := 1) (by decide) (hd7.1.2.2.1.2.2.2.2) (by decide)) gL_runs_L_goes rfl yyL_goes rfl ⟨Nat.le_of_ble_eq_true rfl, Nat.le_of_ble_eq_true rfl⟩ rfl (Nat.le_of_ble_eq_true rfl) rfl ⟨Nat.zero_le _, Nat.zero_le _⟩ dL_runs_81 (fun M81 h81 => ?_)
            obtain rfl := h81
            rw [show (1 : Nat) + 3 = 4 from rfl]
            refine dp_aload_n C dL_runs_84 rfl ?_
            refine dp_bipush C dL_runs_85 (by decide) ?_
            refine dp_dup2 C dL_runs_87 rfl rfl ?_
            refine dp_ald_g C 6 (c9 := 0) (k9 := 2) (by omega) (by decide) rfl rfl dL_runs_88 ?_
            refine dp_iconst C dL_runs_89 ?_
            refine dp_iadd C dL_runs_90 ?_
            refine dp_ast_g C 6 (c9 := 0) (k9 := 2) (by omega) (by decide) rfl rfl dL_runs_91 ?_
            have eh : hsM V' N = u2 (mvV (hd1 (u2 V' 0 0 (V' 0 0 + 1)) N) 4 9000) 0 2 (mvV (hd1 (u2 V' 0 0 (V' 0 0 + 1)) N) 4 9000 0 2 + 1) := by unfold hsM; rw [if_pos c29, if_pos c36]; rfl
            rw [← eh]
            refine dp_iload_n C dL_runs_92 rfl ?_
            refine dp_aload_n C dL_runs_93 rfl ?_
            refine dp_aload_n C dL_runs_94 rfl ?_
            refine dp_cSi C (c_L_minute C.2.2.1 l hm4.1 h4 (hq3.of (fun t _ q => hsM_6 q))) gL_runs_L_minute rfl yyL_minute rfl ⟨Nat.le_of_ble_eq_true rfl, Nat.le_of_ble_eq_true rfl⟩ rfl (Nat.le_of_ble_eq_true rfl) rfl ⟨Nat.zero_le _, Nat.zero_le _⟩ dL_runs_95 (fun x95 M95 h95 => ?_)
            obtain ⟨rfl, X9, rfl, hs9⟩ := h95
            rw [show miM (hsM V' N) N = stM V' N from rfl]
            refine dp_iadd C dL_runs_98 ?_
            refine dp_istore_n C dL_runs_99 (Nat.le_of_ble_eq_true rfl) ?_
            dsimp only [List.set]
            refine dp_iinc C dL_runs_100 rfl ?_
            dsimp only [List.set]
            refine dp_goto (tgt := 9) C dL_runs_103 (by decide) ?_
            refine dp_dr 5 ?_
            dsimp only [List.set]
            exact ih n (by omega) (j + 1) _ _ _ _ (by omega) (by omega) hm5 (uq_st hq3) (by rw [h50]; omega) (hsc.tr hs9) hf (by rw [← hc, show rcG N (n + 1) V' = mc (hsM V' N) N + rcG N n (stM V' N) from rfl]; omega)
  refine dp_aload_n C dL_runs_0 rfl ?_
  refine dp_aload_n C dL_runs_1 rfl ?_
  refine dp_cSi C (c_L_minute C.2.2.1 l hm2 h4 hq) gL_runs_L_minute rfl yyL_minute rfl ⟨Nat.le_of_ble_eq_true rfl, Nat.le_of_ble_eq_true rfl⟩ rfl (Nat.le_of_ble_eq_true rfl) rfl ⟨Nat.zero_le _, Nat.zero_le _⟩ dL_runs_2 (fun x2 M2 h2 => ?_)
  obtain ⟨rfl, X1, rfl, hs1⟩ := h2
  refine dp_istore_n C dL_runs_5 (Nat.le_of_ble_eq_true rfl) ?_
  dsimp only [List.set]
  refine dp_iconst C dL_runs_6 ?_
  refine dp_istore C dL_runs_7 (Nat.le_of_ble_eq_true rfl) ?_
  dsimp only [List.set]
  exact J9 kk 0 _ _ _ _ (by omega) rfl (miM_iv hm2).1 (uq_mi hq) (by rw [(miM_iv hm2).2]; omega) hs1 rfl rfl
/-- the law's first numbers -/
def lbV (V : dp_V) : dp_V := u2 (u2 (u2 (u2 (u2 (u2 (u2 (u2 (u2 V 1 0 100) 1 1 18000) 1 2 30) 1 3 60) 3 0 40) 3 2 600) 4 0 20) 4 2 300) 4 3 9000
theorem yyL_begins : yL_begins.cls ≠ "java/lang/invoke/MethodHandle" ∧ yL_begins.cls ≠ "java/lang/invoke/VarHandle" ∧ (parseMethodDescriptor yL_begins.desc).map (fun d => d.parameters.length) = some 1 := by decide +kernel
set_option maxHeartbeats 4000000 in
set_option maxRecDepth 100000 in
theorem c_L_begins {E : dp_E} (hE : dp_OK E) (l : Launch) {M : dp_M} {V X : dp_V} : dp_met E l yL_begins wsL_begins 0 0 [.ref (eAd E 8 0)] (dN M V X) (dp_qv E (fun M1 => M1 = dN M (lbV V) X)) := by
  refine dp_of (cc := cL_begins) (nL := 1) (own := RL) (ret := none) (by decide +kernel) rfl rfl hE (by simp [Value.category]) (Nat.le_of_ble_eq_true rfl) ?_
  intro p e s m below meth co C hret
  show dp_G _ _ _ _ _ _ _ _ _ _ _ _ _ _ _ _ _ [some (.ref (eAd E 8 0))] _
  refine dp_aload_n C dL_begins_0 rfl ?_
  refine dp_iconst C dL_begins_1 ?_
  refine dp_bipush C dL_begins_2 (by decide) ?_
  refine dp_ast_g C 0 (c9 := 1) (k9 := 0) (by omega) (by decide) rfl rfl dL_begins_4 ?_
  refine dp_aload_n C dL_begins_5 rfl ?_
  refine dp_iconst C dL_begins_6 ?_
  refine dp_sipush C dL_begins_7 (by decide) ?_
  refine dp_ast_g C 1 (c9 := 1) (k9 := 1) (by omega) (by decide) rfl rfl dL_begins_10 ?_
  refine dp_aload_n C dL_begins_11 rfl ?_
  refine dp_iconst C dL_begins_12 ?_
  refine dp_bipush C dL_begins_13 (by decide) ?_
  refine dp_ast_g C 2 (c9 := 1) (k9 := 2) (by omega) (by decide) rfl rfl dL_begins_15 ?_
  refine dp_aload_n C dL_begins_16 rfl ?_
  refine dp_iconst C dL_begins_17 ?_
  refine dp_bipush C dL_begins_18 (by decide) ?_
  refine dp_ast_g C 3 (c9 := 1) (k9 := 3) (by omega) (by decide) rfl rfl dL_begins_20 ?_
  refine dp_aload_n C dL_begins_21 rfl ?_
  refine dp_bipush C dL_begins_22 (by decide) ?_
  refine dp_bipush C dL_begins_24 (by decide) ?_
  refine dp_ast_g C 8 (c9 := 3) (k9 := 0) (by omega) (by decide) rfl rfl dL_begins_26 ?_
  refine dp_aload_n C dL_begins_27 rfl ?_
  refine dp_bipush C dL_begins_28 (by decide) ?_
  refine dp_sipush C dL_begins_30 (by decide) ?_
  refine dp_ast_g C 10 (c9 := 3) (k9 := 2) (by omega) (by decide) rfl rfl dL_begins_33 ?_
  refine dp_aload_n C dL_begins_34 rfl ?_
  refine dp_bipush C dL_begins_35 (by decide) ?_
  refine dp_bipush C dL_begins_37 (by decide) ?_
  refine dp_ast_g C 15 (c9 := 4) (k9 := 0) (by omega) (by decide) rfl rfl dL_begins_39 ?_
  refine dp_aload_n C dL_begins_40 rfl ?_
  refine dp_bipush C dL_begins_41 (by decide) ?_
  refine dp_sipush C dL_begins_43 (by decide) ?_
  refine dp_ast_g C 17 (c9 := 4) (k9 := 2) (by omega) (by decide) rfl rfl dL_begins_46 ?_
  refine dp_aload_n C dL_begins_47 rfl ?_
  refine dp_bipush C dL_begins_48 (by decide) ?_
  refine dp_sipush C dL_begins_50 (by decide) ?_
  refine dp_ast_g C 18 (c9 := 4) (k9 := 3) (by omega) (by decide) rfl rfl dL_begins_53 ?_
  refine dp_vret C hret dL_begins_54 ?_
  rfl
