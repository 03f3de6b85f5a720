/-! THE LAW: its rules, its loop -/
theorem inlX6 : ∀ w ∈ wsX60, w ∈ wsL_law := fun _ h => List.mem_append_left _ (List.mem_append_left _ (List.mem_append_left _ (List.mem_append_left _ (List.mem_append_left _ (List.mem_append_left _ (List.mem_append_left _ (List.mem_append_left _ (List.mem_append_right _ h))))))))
theorem inlX7 : ∀ w ∈ wsX70, w ∈ wsL_law := fun _ h => List.mem_append_left _ (List.mem_append_left _ (List.mem_append_left _ (List.mem_append_left _ (List.mem_append_left _ (List.mem_append_left _ (List.mem_append_left _ (List.mem_append_right _ h)))))))
def sc (xs : Nat → Int32) (i : Int) : Int := (xs i.toNat).toInt
theorem sc_R {xs : Nat → Int32} {i : Int} : dp_R (sc xs i) := dp_R_to _
section LW
variable {E : dp_E} {A : Nat → Prop} {p : Program} {l : Launch} {e : Env} {R : Room} {s : State} {m : MethodId} {args : Array Value} {below : List Frame} {meth : Method} {co : Code} {ce sl : Nat} {Q : State → Prop} {cc : ByteArray} {own : String} {nL : Nat} {Ts : List Cond} {M : dp_M} {pc : Nat} {Lc : List (Option Value)} {st : List Value}
theorem dp_sld (C : dp_C E A p s m args meth co cc own nL Ts) {b L : Nat} {xs : Nat → Int32} (hX : va_X b L xs s s.heap) (hbl : b < s.heap.size) (hbA : ¬ A b) (hL : L ≤ 3584) {i : Int} (hi : 0 ≤ i ∧ i < L) (hd : decode cc pc = .ok (.iaload, 1)) (k : dp_G E A p l e R s m args below meth co ce sl Q M (pc + 1) Lc (.int (dp_I (sc xs i)) :: st)) : dp_G E A p l e R s m args below meth co ce sl Q M pc Lc (.int (dp_I i) :: .ref b :: st) := fun H locs ls hW hS hl => by
  refine va_sld C.1.1 C.1.2.1 hX hbl hbA hS (dp_in hi.1 hi.2 (by omega)) hd ?_
  rw [dp_I_nat hi.1 (by omega), show xs i.toNat = dp_I (sc xs i) from dp_I_of _]
  exact k H locs ls hW hS hl
theorem dp_slen (C : dp_C E A p s m args meth co cc own nL Ts) {b L : Nat} {xs : Nat → Int32} (hX : va_X b L xs s s.heap) (hbl : b < s.heap.size) (hbA : ¬ A b) (hd : decode cc pc = .ok (.arraylength, 1)) (k : dp_G E A p l e R s m args below meth co ce sl Q M (pc + 1) Lc (.int (dp_I (L : Int)) :: st)) : dp_G E A p l e R s m args below meth co ce sl Q M pc Lc (.ref b :: st) := fun H locs ls hW hS hl => by
  refine va_slen C.1.1 C.1.2.1 hX hbl hbA hS hd ?_
  rw [show Int32.ofNat L = dp_I (L : Int) from Int32.ofInt_eq_ofNat.symm]
  exact k H locs ls hW hS hl
theorem dp_iand (C : dp_C E A p s m args meth co cc own nL Ts) {x y : Int32} (hd : decode cc pc = .ok (.iand, 1)) (k : ∀ v : Int, dp_R v → dp_G E A p l e R s m args below meth co ce sl Q M (pc + 1) Lc (.int (dp_I v) :: st)) : dp_G E A p l e R s m args below meth co ce sl Q M pc Lc (.int y :: .int x :: st) := fun H locs ls hW hS hl => by
  refine lv_iand C.1.1 C.1.2.1 hd ?_
  have h := k (x &&& y).toInt (dp_R_to _) H locs ls hW hS hl
  rw [← dp_I_of] at h
  exact h
theorem dp_eqq (C : dp_C E A p s m args meth co cc own nL Ts) {x : Int32} {off : Int} {tgt : Nat} (hd : decode cc pc = .ok (.if_icmp .eq off, 3)) (ht : (pc : Int) + off = (tgt : Int)) (k : dp_G E A p l e R s m args below meth co ce sl Q M tgt Lc st) : dp_G E A p l e R s m args below meth co ce sl Q M pc Lc (.int x :: .int x :: st) := fun H locs ls hW hS hl => lv_icmp_eq C.1.1 C.1.2.1 hd ht (fun _ => k H locs ls hW hS hl) (fun h => absurd rfl h)
end LW
theorem dp_mq {E : dp_E} {l : Launch} {y : MethodName} {ws : List Cond} {fr lo : Nat} {av : List Value} {M M' : dp_M} {Qc : Array Value → State → Outcome → State → Prop} (e : M = M') (h : dp_met E l y ws fr lo av M' Qc) : dp_met E l y ws fr lo av M Qc := by
  rw [e]
  exact h
theorem hi89 {M : dp_M} {V' X' Y' : dp_V} : dS (dR M 7 X') 0 V' Y' 8 = M 8 ∧ dS (dR M 7 X') 0 V' Y' 9 = M 9 := ⟨by rw [dS_ne (by decide) (by decide), dR_ne (by decide)], by rw [dS_ne (by decide) (by decide), dR_ne (by decide)]⟩
theorem dp_law_end {E : dp_E} {p : Program} {l : Launch} {e : Env} {s : State} {m : MethodId} {below : List Frame} {meth : Method} {co : Code} {b : Nat} {own : String} {nL : Nat} {Ts : List Cond} {M : dp_M} {pc : Nat} {Lc : List (Option Value)} (C : dp_C E (fun q => s.heap.size ≤ q) p s m #[Value.ref b] meth co code own nL Ts) (hr : meth.sig.returnType = ret) (hd : decode code pc = .ok (.ireturn, 1)) : dp_G E (fun q => s.heap.size ≤ q) p l e room_1 s m #[Value.ref b] below meth co 600000 7302250 (lw_Z below #[Value.ref b] s) M pc Lc [.int (dp_I 1)] := fun H locs ls hW hS hl => va_forget hS.2.2 (lw_ret C.1.1 C.1.2.1 hr C.2.1 hd)

set_option maxHeartbeats 40000000 in
set_option maxRecDepth 100000 in
theorem law_loop {E : dp_E} {p : Program} {l : Launch} {e : Env} {s : State} {m : MethodId} {below : List Frame} {meth : Method} {co : Code} {b L : Nat} {xs : Nat → Int32} (hL : L ≤ 3584) (hX : va_X b L xs s s.heap) (hbl : b < s.heap.size) (hr : meth.sig.returnType = ret) (C : dp_C E (fun q => s.heap.size ≤ q) p s m #[Value.ref b] meth co code RL 4 wsL_law) : ∀ (f i : Nat) (M : dp_M), iM M → i ≤ L + 7 → L + 7 < i + 7 * (f + 1) → dp_G E (fun q => s.heap.size ≤ q) p l e room_1 s m #[Value.ref b] below meth co 600000 7302250 (lw_Z below #[Value.ref b] s) M 18 [some (.ref b), some (.ref (eAd E 7 0)), some (.ref (eAd E 8 0)), some (.int (dp_I (i : Int)))] [] := by
  have hbA : ¬ (fun q : Nat => s.heap.size ≤ q) b := Nat.not_le.mpr hbl
  intro f
  induction f with
  | zero =>
    intro i M h hi hf
    refine dp_iload_n C dL_law_18 rfl ?_
    refine dp_aload_n C dL_law_19 rfl ?_
    refine dp_slen C hX hbl hbA dL_law_20 ?_
    refine dp_bipush C dL_law_21 (by decide) ?_
    refine dp_isub C dL_law_23 ?_
    refine dp_icmp_gt (tgt := 713) C dL_law_24 (by decide) ⟨by omega, by omega⟩ ⟨by omega, by omega⟩ (fun c24 => ?_) (fun c24 => ?_)
    · refine dp_iconst C dL_law_713 ?_
      exact dp_law_end C hr dL_law_714
    · omega
  | succ f ih =>
    intro i M h hi hf
    refine dp_iload_n C dL_law_18 rfl ?_
    refine dp_aload_n C dL_law_19 rfl ?_
    refine dp_slen C hX hbl hbA dL_law_20 ?_
    refine dp_bipush C dL_law_21 (by decide) ?_
    refine dp_isub C dL_law_23 ?_
    refine dp_icmp_gt (tgt := 713) C dL_law_24 (by decide) ⟨by omega, by omega⟩ ⟨by omega, by omega⟩ (fun c24 => ?_) (fun c24 => ?_)
    · refine dp_iconst C dL_law_713 ?_
      exact dp_law_end C hr dL_law_714
    · skip
      have hiL : (i : Int) + 7 ≤ L := by omega
      have J707 : ∀ M2, iM M2 → dp_G E (fun q => s.heap.size ≤ q) p l e room_1 s m #[Value.ref b] below meth co 600000 7302250 (lw_Z below #[Value.ref b] s) M2 707 [some (.ref b), some (.ref (eAd E 7 0)), some (.ref (eAd E 8 0)), some (.int (dp_I (i : Int)))] [] := by
        intro M2 h2
        refine dp_iinc C dL_law_707 rfl ?_
        dsimp only [List.set]
        refine dp_goto (tgt := 18) C dL_law_710 (by decide) ?_
        have z := ih (i + 7) M2 h2 (by omega) (by omega)
        rw [show (((i + 7 : Nat) : Int)) = (i : Int) + 7 by omega] at z
        exact z
      obtain ⟨N, hs, i1, i2⟩ := h.g
      have hv := h.1 0 (by decide)
      have hct := hs.2.2.2.1
      refine dp_aload_n C dL_law_27 rfl ?_
      refine dp_iload_n C dL_law_28 rfl ?_
      refine dp_sld C hX hbl hbA hL ⟨by omega, by omega⟩ dL_law_29 ?_
      refine dp_bipush C dL_law_30 (by decide) ?_
      refine dp_iand C dL_law_32 (fun v hv33 => ?_)
      refine dp_table (td := 707) C [132, 165, 208, 241, 264, 297, 340, 363, 396, 409, 484, 507, 540, 563, 576, 599, 622, 635, 658, 671, 694] dL_law_33 (by decide) (by decide) (by decide) hv33 (fun _ => J707 M h) ?_
      simp only [dp_sw]
      refine ⟨fun _ => ?_, fun _ => ?_, fun _ => ?_, fun _ => ?_, fun _ => ?_, fun _ => ?_, fun _ => ?_, fun _ => ?_, fun _ => ?_, fun _ => ?_, fun _ => ?_, fun _ => ?_, fun _ => ?_, fun _ => ?_, fun _ => ?_, fun _ => ?_, fun _ => ?_, fun _ => ?_, fun _ => ?_, fun _ => ?_, fun _ => ?_, trivial⟩
      · skip
        refine dp_aload_n C dL_law_132 rfl ?_
        refine dp_aload_n C dL_law_133 rfl ?_
        refine dp_iload_n C dL_law_134 rfl ?_
        refine dp_iconst C dL_law_135 ?_
        refine dp_iadd C dL_law_136 ?_
        refine dp_sld C hX hbl hbA hL ⟨by omega, by omega⟩ dL_law_137 ?_
        refine dp_aload_n C dL_law_138 rfl ?_
        refine dp_iload_n C dL_law_139 rfl ?_
        refine dp_iconst C dL_law_140 ?_
        refine dp_iadd C dL_law_141 ?_
        refine dp_sld C hX hbl hbA hL ⟨by omega, by omega⟩ dL_law_142 ?_
        refine dp_cVi C (dp_mq eCls.symm (c_X6_set C.2.2.1 l (M := M) (V := M 0) (Y := M 20) (X := M 7) hv h.2.1 sc_R sc_R)) gL_law_X6_set rfl (dp_mC (by decide)) dp_xdp rfl yyX6_set rfl ⟨Nat.le_of_ble_eq_true rfl, Nat.le_of_ble_eq_true rfl⟩ rfl (Nat.le_of_ble_eq_true rfl) rfl ⟨Nat.le_of_ble_eq_true rfl, Nat.le_of_ble_eq_true rfl⟩ dL_law_143 (fun y M1 q1 => ?_)
        have e89 : M1 8 = M 8 ∧ M1 9 = M 9 := dp_hiq h q1.2
        have hz : 0 ≤ M1 8 0 0 ∧ M1 8 0 0 ≤ 5 := by rw [e89.1, ← h.2.2.2.2.1]; exact ⟨h.2.1.1, h.2.1.2.1⟩
        refine dp_aload_n C dL_law_146 rfl ?_
        refine dp_aload_n C dL_law_147 rfl ?_
        refine dp_iload_n C dL_law_148 rfl ?_
        refine dp_iconst C dL_law_149 ?_
        refine dp_iadd C dL_law_150 ?_
        refine dp_sld C hX hbl hbA hL ⟨by omega, by omega⟩ dL_law_151 ?_
        refine dp_aload_n C dL_law_152 rfl ?_
        refine dp_iload_n C dL_law_153 rfl ?_
        refine dp_iconst C dL_law_154 ?_
        refine dp_iadd C dL_law_155 ?_
        refine dp_sld C hX hbl hbA hL ⟨by omega, by omega⟩ dL_law_156 ?_
        refine dp_cVi C (dp_mq (dN_self M1).symm (c_X7_set C.2.2.1 l (M := M1) (V := M1 9) (X := M1 8) hz sc_R sc_R)) gL_law_X7_set rfl (dp_mM (by decide)) (rfl : dp_x E M1 8 0 = .inr (7, dp_fM E (M1 8 0))) rfl yyX7_set rfl ⟨Nat.le_of_ble_eq_true rfl, Nat.le_of_ble_eq_true rfl⟩ rfl (Nat.le_of_ble_eq_true rfl) rfl ⟨Nat.le_of_ble_eq_true rfl, Nat.le_of_ble_eq_true rfl⟩ dL_law_157 (fun y2 M2 q2 => ?_)
        obtain ⟨ey, h2⟩ := op_set h q1 e89 q2
        rw [ey]
        refine dp_eqq (tgt := 707) C dL_law_160 (by decide) ?_
        exact J707 M2 h2
      · skip
        refine dp_aload_n C dL_law_165 rfl ?_
        refine dp_aload_n C dL_law_166 rfl ?_
        refine dp_iload_n C dL_law_167 rfl ?_
        refine dp_iconst C dL_law_168 ?_
        refine dp_iadd C dL_law_169 ?_
        refine dp_sld C hX hbl hbA hL ⟨by omega, by omega⟩ dL_law_170 ?_
        refine dp_aload_n C dL_law_171 rfl ?_
        refine dp_iload_n C dL_law_172 rfl ?_
        refine dp_iconst C dL_law_173 ?_
        refine dp_iadd C dL_law_174 ?_
        refine dp_sld C hX hbl hbA hL ⟨by omega, by omega⟩ dL_law_175 ?_
        refine dp_aload_n C dL_law_176 rfl ?_
        refine dp_iload_n C dL_law_177 rfl ?_
        refine dp_iconst C dL_law_178 ?_
        refine dp_iadd C dL_law_179 ?_
        refine dp_sld C hX hbl hbA hL ⟨by omega, by omega⟩ dL_law_180 ?_
        refine dp_cVi C (dp_mq eCls.symm (c_X6_setAxis C.2.2.1 l (M := M) (V := M 0) (Y := M 20) (X := M 7) hv h.2.1 sc_R sc_R sc_R)) gL_law_X6_setAxis rfl (dp_mC (by decide)) dp_xdp rfl yyX6_setAxis rfl ⟨Nat.le_of_ble_eq_true rfl, Nat.le_of_ble_eq_true rfl⟩ rfl (Nat.le_of_ble_eq_true rfl) rfl ⟨Nat.le_of_ble_eq_true rfl, Nat.le_of_ble_eq_true rfl⟩ dL_law_181 (fun y M1 q1 => ?_)
        have e89 : M1 8 = M 8 ∧ M1 9 = M 9 := dp_hiq h q1.2
        have hS : ivS (M1 9) := by rw [e89.2]; exact hs.toS hv
        have hz : 0 ≤ M1 8 0 0 ∧ M1 8 0 0 ≤ 5 := by rw [e89.1, ← h.2.2.2.2.1]; exact ⟨h.2.1.1, h.2.1.2.1⟩
        refine dp_aload_n C dL_law_184 rfl ?_
        refine dp_aload_n C dL_law_185 rfl ?_
        refine dp_iload_n C dL_law_186 rfl ?_
        refine dp_iconst C dL_law_187 ?_
        refine dp_iadd C dL_law_188 ?_
        refine dp_sld C hX hbl hbA hL ⟨by omega, by omega⟩ dL_law_189 ?_
        refine dp_aload_n C dL_law_190 rfl ?_
        refine dp_iload_n C dL_law_191 rfl ?_
        refine dp_iconst C dL_law_192 ?_
        refine dp_iadd C dL_law_193 ?_
        refine dp_sld C hX hbl hbA hL ⟨by omega, by omega⟩ dL_law_194 ?_
        refine dp_aload_n C dL_law_195 rfl ?_
        refine dp_iload_n C dL_law_196 rfl ?_
        refine dp_iconst C dL_law_197 ?_
        refine dp_iadd C dL_law_198 ?_
        refine dp_sld C hX hbl hbA hL ⟨by omega, by omega⟩ dL_law_199 ?_
        refine dp_cVi C (dp_mq (dN_self M1).symm (c_X7_setAxis C.2.2.1 l (M := M1) (V := M1 9) (X := M1 8) hS hz sc_R sc_R sc_R)) gL_law_X7_setAxis rfl (dp_mM (by decide)) (rfl : dp_x E M1 8 0 = .inr (7, dp_fM E (M1 8 0))) rfl yyX7_setAxis rfl ⟨Nat.le_of_ble_eq_true rfl, Nat.le_of_ble_eq_true rfl⟩ rfl (Nat.le_of_ble_eq_true rfl) rfl ⟨Nat.le_of_ble_eq_true rfl, Nat.le_of_ble_eq_true rfl⟩ dL_law_200 (fun y2 M2 q2 => ?_)
        obtain ⟨ey, h2⟩ := op_setAxis h q1 e89 q2
        rw [ey]
        refine dp_eqq (tgt := 707) C dL_law_203 (by decide) ?_
        exact J707 M2 h2
      · skip
        refine dp_aload_n C dL_law_208 rfl ?_
        refine dp_aload_n C dL_law_209 rfl ?_
        refine dp_iload_n C dL_law_210 rfl ?_
        refine dp_iconst C dL_law_211 ?_
        refine dp_iadd C dL_law_212 ?_
        refine dp_sld C hX hbl hbA hL ⟨by omega, by omega⟩ dL_law_213 ?_
        refine dp_aload_n C dL_law_214 rfl ?_
        refine dp_iload_n C dL_law_215 rfl ?_
        refine dp_iconst C dL_law_216 ?_
        refine dp_iadd C dL_law_217 ?_
        refine dp_sld C hX hbl hbA hL ⟨by omega, by omega⟩ dL_law_218 ?_
        refine dp_cVi C (dp_mq eCls.symm (c_X6_gust C.2.2.1 l (M := M) (V := M 0) (Y := M 20) (X := M 7) hv h.2.1 sc_R sc_R)) gL_law_X6_gust rfl (dp_mC (by decide)) dp_xdp rfl yyX6_gust rfl ⟨Nat.le_of_ble_eq_true rfl, Nat.le_of_ble_eq_true rfl⟩ rfl (Nat.le_of_ble_eq_true rfl) rfl ⟨Nat.le_of_ble_eq_true rfl, Nat.le_of_ble_eq_true rfl⟩ dL_law_219 (fun y M1 q1 => ?_)
        have e89 : M1 8 = M 8 ∧ M1 9 = M 9 := dp_hiq h q1.2
        have hS : ivS (M1 9) := by rw [e89.2]; exact hs.toS hv
        have hz : 0 ≤ M1 8 0 0 ∧ M1 8 0 0 ≤ 5 := by rw [e89.1, ← h.2.2.2.2.1]; exact ⟨h.2.1.1, h.2.1.2.1⟩
        refine dp_aload_n C dL_law_222 rfl ?_
        refine dp_aload_n C dL_law_223 rfl ?_
        refine dp_iload_n C dL_law_224 rfl ?_
        refine dp_iconst C dL_law_225 ?_
        refine dp_iadd C dL_law_226 ?_
        refine dp_sld C hX hbl hbA hL ⟨by omega, by omega⟩ dL_law_227 ?_
        refine dp_aload_n C dL_law_228 rfl ?_
        refine dp_iload_n C dL_law_229 rfl ?_
        refine dp_iconst C dL_law_230 ?_
        refine dp_iadd C dL_law_231 ?_
        refine dp_sld C hX hbl hbA hL ⟨by omega, by omega⟩ dL_law_232 ?_
        refine dp_cVi C (dp_mq (dN_self M1).symm (c_X7_gust C.2.2.1 l (M := M1) (V := M1 9) (X := M1 8) hS hz sc_R sc_R)) gL_law_X7_gust rfl (dp_mM (by decide)) (rfl : dp_x E M1 8 0 = .inr (7, dp_fM E (M1 8 0))) rfl yyX7_gust rfl ⟨Nat.le_of_ble_eq_true rfl, Nat.le_of_ble_eq_true rfl⟩ rfl (Nat.le_of_ble_eq_true rfl) rfl ⟨Nat.le_of_ble_eq_true rfl, Nat.le_of_ble_eq_true rfl⟩ dL_law_233 (fun y2 M2 q2 => ?_)
        obtain ⟨ey, h2⟩ := op_gust h q1 e89 q2
        rw [ey]
        refine dp_eqq (tgt := 707) C dL_law_236 (by decide) ?_
        exact J707 M2 h2
      · skip
        refine dp_aload_n C dL_law_241 rfl ?_
        refine dp_aload_n C dL_law_242 rfl ?_
        refine dp_iload_n C dL_law_243 rfl ?_
        refine dp_iconst C dL_law_244 ?_
        refine dp_iadd C dL_law_245 ?_
        refine dp_sld C hX hbl hbA hL ⟨by omega, by omega⟩ dL_law_246 ?_
        refine dp_cVi C (dp_mq eCls.symm (c_X6_count C.2.2.1 l (M := M) (V := M 0) (Y := M 20) (X := M 7) hv sc_R)) gL_law_X6_count rfl (dp_mC (by decide)) dp_xdp rfl yyX6_count rfl ⟨Nat.le_of_ble_eq_true rfl, Nat.le_of_ble_eq_true rfl⟩ rfl (Nat.le_of_ble_eq_true rfl) rfl ⟨Nat.le_of_ble_eq_true rfl, Nat.le_of_ble_eq_true rfl⟩ dL_law_247 (fun y M1 q1 => ?_)
        have e89 : M1 8 = M 8 ∧ M1 9 = M 9 := by
          rw [q1.2]
          exact hi89
        have hm : ivM (M1 9) N := by rw [e89.2]; exact hs.toM hv
        refine dp_aload_n C dL_law_250 rfl ?_
        refine dp_aload_n C dL_law_251 rfl ?_
        refine dp_iload_n C dL_law_252 rfl ?_
        refine dp_iconst C dL_law_253 ?_
        refine dp_iadd C dL_law_254 ?_
        refine dp_sld C hX hbl hbA hL ⟨by omega, by omega⟩ dL_law_255 ?_
        refine dp_cVi C (dp_mq (dN_self M1).symm (c_X7_count C.2.2.1 l (M := M1) (V := M1 9) (X := M1 8) hm sc_R)) gL_law_X7_count rfl (dp_mM (by decide)) (rfl : dp_x E M1 8 0 = .inr (7, dp_fM E (M1 8 0))) rfl yyX7_count rfl ⟨Nat.le_of_ble_eq_true rfl, Nat.le_of_ble_eq_true rfl⟩ rfl (Nat.le_of_ble_eq_true rfl) rfl ⟨Nat.le_of_ble_eq_true rfl, Nat.le_of_ble_eq_true rfl⟩ dL_law_256 (fun y2 M2 q2 => ?_)
        obtain ⟨ey, h2⟩ := op_count h hs q1 e89 q2
        rw [ey]
        refine dp_eqq (tgt := 707) C dL_law_259 (by decide) ?_
        exact J707 M2 h2
      · skip
        refine dp_aload_n C dL_law_264 rfl ?_
        refine dp_aload_n C dL_law_265 rfl ?_
        refine dp_iload_n C dL_law_266 rfl ?_
        refine dp_iconst C dL_law_267 ?_
        refine dp_iadd C dL_law_268 ?_
        refine dp_sld C hX hbl hbA hL ⟨by omega, by omega⟩ dL_law_269 ?_
        refine dp_aload_n C dL_law_270 rfl ?_
        refine dp_iload_n C dL_law_271 rfl ?_
        refine dp_iconst C dL_law_272 ?_
        refine dp_iadd C dL_law_273 ?_
        refine dp_sld C hX hbl hbA hL ⟨by omega, by omega⟩ dL_law_274 ?_
        refine dp_cVi C (dp_mq eCls.symm (c_X6_axis C.2.2.1 l (M := M) (V := M 0) (Y := M 20) (X := M 7) hv sc_R sc_R)) gL_law_X6_axis rfl (dp_mC (by decide)) dp_xdp rfl yyX6_axis rfl ⟨Nat.le_of_ble_eq_true rfl, Nat.le_of_ble_eq_true rfl⟩ rfl (Nat.le_of_ble_eq_true rfl) rfl ⟨Nat.le_of_ble_eq_true rfl, Nat.le_of_ble_eq_true rfl⟩ dL_law_275 (fun y M1 q1 => ?_)
        have e89 : M1 8 = M 8 ∧ M1 9 = M 9 := by
          rw [q1.2]
          exact hi89
        refine dp_aload_n C dL_law_278 rfl ?_
        refine dp_aload_n C dL_law_279 rfl ?_
        refine dp_iload_n C dL_law_280 rfl ?_
        refine dp_iconst C dL_law_281 ?_
        refine dp_iadd C dL_law_282 ?_
        refine dp_sld C hX hbl hbA hL ⟨by omega, by omega⟩ dL_law_283 ?_
        refine dp_aload_n C dL_law_284 rfl ?_
        refine dp_iload_n C dL_law_285 rfl ?_
        refine dp_iconst C dL_law_286 ?_
        refine dp_iadd C dL_law_287 ?_
        refine dp_sld C hX hbl hbA hL ⟨by omega, by omega⟩ dL_law_288 ?_
        refine dp_cVi C (dp_mq (dN_self M1).symm (c_X7_axis C.2.2.1 l (M := M1) (V := M1 9) (X := M1 8)  sc_R sc_R)) gL_law_X7_axis rfl (dp_mM (by decide)) (rfl : dp_x E M1 8 0 = .inr (7, dp_fM E (M1 8 0))) rfl yyX7_axis rfl ⟨Nat.le_of_ble_eq_true rfl, Nat.le_of_ble_eq_true rfl⟩ rfl (Nat.le_of_ble_eq_true rfl) rfl ⟨Nat.le_of_ble_eq_true rfl, Nat.le_of_ble_eq_true rfl⟩ dL_law_289 (fun y2 M2 q2 => ?_)
        obtain ⟨ey, h2⟩ := op_axis h q1 e89 q2
        rw [ey]
        refine dp_eqq (tgt := 707) C dL_law_292 (by decide) ?_
        exact J707 M2 h2
      · skip
        refine dp_aload_n C dL_law_297 rfl ?_
        refine dp_aload_n C dL_law_298 rfl ?_
        refine dp_iload_n C dL_law_299 rfl ?_
        refine dp_iconst C dL_law_300 ?_
        refine dp_iadd C dL_law_301 ?_
        refine dp_sld C hX hbl hbA hL ⟨by omega, by omega⟩ dL_law_302 ?_
        refine dp_aload_n C dL_law_303 rfl ?_
        refine dp_iload_n C dL_law_304 rfl ?_
        refine dp_iconst C dL_law_305 ?_
        refine dp_iadd C dL_law_306 ?_
        refine dp_sld C hX hbl hbA hL ⟨by omega, by omega⟩ dL_law_307 ?_
        refine dp_aload_n C dL_law_308 rfl ?_
        refine dp_iload_n C dL_law_309 rfl ?_
        refine dp_iconst C dL_law_310 ?_
        refine dp_iadd C dL_law_311 ?_
        refine dp_sld C hX hbl hbA hL ⟨by omega, by omega⟩ dL_law_312 ?_
        refine dp_cVi C (dp_mq eCls.symm (c_X6_way C.2.2.1 l (M := M) (V := M 0) (Y := M 20) (X := M 7) hv sc_R sc_R sc_R)) gL_law_X6_way rfl (dp_mC (by decide)) dp_xdp rfl yyX6_way rfl ⟨Nat.le_of_ble_eq_true rfl, Nat.le_of_ble_eq_true rfl⟩ rfl (Nat.le_of_ble_eq_true rfl) rfl ⟨Nat.le_of_ble_eq_true rfl, Nat.le_of_ble_eq_true rfl⟩ dL_law_313 (fun y M1 q1 => ?_)
        have e89 : M1 8 = M 8 ∧ M1 9 = M 9 := by
          obtain ⟨Y9, q9⟩ := q1.2
          rw [q9]
          exact hi89
        have hS : ivS (M1 9) := by rw [e89.2]; exact hs.toS hv
        refine dp_aload_n C dL_law_316 rfl ?_
        refine dp_aload_n C dL_law_317 rfl ?_
        refine dp_iload_n C dL_law_318 rfl ?_
        refine dp_iconst C dL_law_319 ?_
        refine dp_iadd C dL_law_320 ?_
        refine dp_sld C hX hbl hbA hL ⟨by omega, by omega⟩ dL_law_321 ?_
        refine dp_aload_n C dL_law_322 rfl ?_
        refine dp_iload_n C dL_law_323 rfl ?_
        refine dp_iconst C dL_law_324 ?_
        refine dp_iadd C dL_law_325 ?_
        refine dp_sld C hX hbl hbA hL ⟨by omega, by omega⟩ dL_law_326 ?_
        refine dp_aload_n C dL_law_327 rfl ?_
        refine dp_iload_n C dL_law_328 rfl ?_
        refine dp_iconst C dL_law_329 ?_
        refine dp_iadd C dL_law_330 ?_
        refine dp_sld C hX hbl hbA hL ⟨by omega, by omega⟩ dL_law_331 ?_
        refine dp_cVi C (dp_mq (dN_self M1).symm (c_X7_way C.2.2.1 l (M := M1) (V := M1 9) (X := M1 8) hS sc_R sc_R sc_R)) gL_law_X7_way rfl (dp_mM (by decide)) (rfl : dp_x E M1 8 0 = .inr (7, dp_fM E (M1 8 0))) rfl yyX7_way rfl ⟨Nat.le_of_ble_eq_true rfl, Nat.le_of_ble_eq_true rfl⟩ rfl (Nat.le_of_ble_eq_true rfl) rfl ⟨Nat.le_of_ble_eq_true rfl, Nat.le_of_ble_eq_true rfl⟩ dL_law_332 (fun y2 M2 q2 => ?_)
        obtain ⟨ey, h2⟩ := op_way h q1 e89 q2
        rw [ey]
        refine dp_eqq (tgt := 707) C dL_law_335 (by decide) ?_
        exact J707 M2 h2
      · skip
        refine dp_aload_n C dL_law_340 rfl ?_
        refine dp_aload_n C dL_law_341 rfl ?_
        refine dp_iload_n C dL_law_342 rfl ?_
        refine dp_iconst C dL_law_343 ?_
        refine dp_iadd C dL_law_344 ?_
        refine dp_sld C hX hbl hbA hL ⟨by omega, by omega⟩ dL_law_345 ?_
        refine dp_cVi C (dp_mq eCls.symm (c_X6_placeFor C.2.2.1 l (M := M) (V := M 0) (Y := M 20) (X := M 7) hv sc_R)) gL_law_X6_placeFor rfl (dp_mC (by decide)) dp_xdp rfl yyX6_placeFor rfl ⟨Nat.le_of_ble_eq_true rfl, Nat.le_of_ble_eq_true rfl⟩ rfl (Nat.le_of_ble_eq_true rfl) rfl ⟨Nat.le_of_ble_eq_true rfl, Nat.le_of_ble_eq_true rfl⟩ dL_law_346 (fun y M1 q1 => ?_)
        have e89 : M1 8 = M 8 ∧ M1 9 = M 9 := by
          obtain ⟨Y9, q9⟩ := q1.2
          rw [q9]
          exact hi89
        have hS : ivS (M1 9) := by rw [e89.2]; exact hs.toS hv
        refine dp_aload_n C dL_law_349 rfl ?_
        refine dp_aload_n C dL_law_350 rfl ?_
        refine dp_iload_n C dL_law_351 rfl ?_
        refine dp_iconst C dL_law_352 ?_
        refine dp_iadd C dL_law_353 ?_
        refine dp_sld C hX hbl hbA hL ⟨by omega, by omega⟩ dL_law_354 ?_
        refine dp_cVi C (dp_mq (dN_self M1).symm (c_X7_placeFor C.2.2.1 l (M := M1) (V := M1 9) (X := M1 8) hS sc_R)) gL_law_X7_placeFor rfl (dp_mM (by decide)) (rfl : dp_x E M1 8 0 = .inr (7, dp_fM E (M1 8 0))) rfl yyX7_placeFor rfl ⟨Nat.le_of_ble_eq_true rfl, Nat.le_of_ble_eq_true rfl⟩ rfl (Nat.le_of_ble_eq_true rfl) rfl ⟨Nat.le_of_ble_eq_true rfl, Nat.le_of_ble_eq_true rfl⟩ dL_law_355 (fun y2 M2 q2 => ?_)
        obtain ⟨ey, h2⟩ := op_placeFor h q1 e89 q2
        rw [ey]
        refine dp_eqq (tgt := 707) C dL_law_358 (by decide) ?_
        exact J707 M2 h2
      · skip
        refine dp_aload_n C dL_law_363 rfl ?_
        refine dp_aload_n C dL_law_364 rfl ?_
        refine dp_iload_n C dL_law_365 rfl ?_
        refine dp_iconst C dL_law_366 ?_
        refine dp_iadd C dL_law_367 ?_
        refine dp_sld C hX hbl hbA hL ⟨by omega, by omega⟩ dL_law_368 ?_
        refine dp_aload_n C dL_law_369 rfl ?_
        refine dp_iload_n C dL_law_370 rfl ?_
        refine dp_iconst C dL_law_371 ?_
        refine dp_iadd C dL_law_372 ?_
        refine dp_sld C hX hbl hbA hL ⟨by omega, by omega⟩ dL_law_373 ?_
        refine dp_cVi C (dp_mq eCls.symm (c_X6_slew C.2.2.1 l (M := M) (V := M 0) (Y := M 20) (X := M 7) hv h.2.1 sc_R sc_R)) gL_law_X6_slew rfl (dp_mC (by decide)) dp_xdp rfl yyX6_slew rfl ⟨Nat.le_of_ble_eq_true rfl, Nat.le_of_ble_eq_true rfl⟩ rfl (Nat.le_of_ble_eq_true rfl) rfl ⟨Nat.le_of_ble_eq_true rfl, Nat.le_of_ble_eq_true rfl⟩ dL_law_374 (fun y M1 q1 => ?_)
        have e89 : M1 8 = M 8 ∧ M1 9 = M 9 := by
          obtain ⟨Y9, q9⟩ := q1.2
          exact dp_hiq h q9
        have hm : ivM (M1 9) N := by rw [e89.2]; exact hs.toM hv
        have hz : 0 ≤ M1 8 0 0 ∧ M1 8 0 0 ≤ 5 := by rw [e89.1, ← h.2.2.2.2.1]; exact ⟨h.2.1.1, h.2.1.2.1⟩
        refine dp_aload_n C dL_law_377 rfl ?_
        refine dp_aload_n C dL_law_378 rfl ?_
        refine dp_iload_n C dL_law_379 rfl ?_
        refine dp_iconst C dL_law_380 ?_
        refine dp_iadd C dL_law_381 ?_
        refine dp_sld C hX hbl hbA hL ⟨by omega, by omega⟩ dL_law_382 ?_
        refine dp_aload_n C dL_law_383 rfl ?_
        refine dp_iload_n C dL_law_384 rfl ?_
        refine dp_iconst C dL_law_385 ?_
        refine dp_iadd C dL_law_386 ?_
        refine dp_sld C hX hbl hbA hL ⟨by omega, by omega⟩ dL_law_387 ?_
        refine dp_cVi C (dp_mq (dN_self M1).symm (c_X7_slew C.2.2.1 l (M := M1) (V := M1 9) (X := M1 8) hm hz sc_R sc_R)) gL_law_X7_slew rfl (dp_mM (by decide)) (rfl : dp_x E M1 8 0 = .inr (7, dp_fM E (M1 8 0))) rfl yyX7_slew rfl ⟨Nat.le_of_ble_eq_true rfl, Nat.le_of_ble_eq_true rfl⟩ rfl (Nat.le_of_ble_eq_true rfl) rfl ⟨Nat.le_of_ble_eq_true rfl, Nat.le_of_ble_eq_true rfl⟩ dL_law_388 (fun y2 M2 q2 => ?_)
        obtain ⟨ey, h2⟩ := op_slew h hs i1 i2 q1 e89 q2
        rw [ey]
        refine dp_eqq (tgt := 707) C dL_law_391 (by decide) ?_
        exact J707 M2 h2
      · skip
        refine dp_aload_n C dL_law_396 rfl ?_
        refine dp_cVi C (dp_mq eCls.symm (c_X6_isWound C.2.2.1 l (M := M) (V := M 0) (Y := M 20) (X := M 7) hv )) gL_law_X6_isWound rfl (dp_mC (by decide)) dp_xdp rfl yyX6_isWound rfl ⟨Nat.le_of_ble_eq_true rfl, Nat.le_of_ble_eq_true rfl⟩ rfl (Nat.le_of_ble_eq_true rfl) rfl ⟨Nat.le_of_ble_eq_true rfl, Nat.le_of_ble_eq_true rfl⟩ dL_law_397 (fun y M1 q1 => ?_)
        have e89 : M1 8 = M 8 ∧ M1 9 = M 9 := by
          rw [q1.2]
          exact hi89
        have hS : ivS (M1 9) := by rw [e89.2]; exact hs.toS hv
        refine dp_aload_n C dL_law_400 rfl ?_
        refine dp_cVi C (dp_mq (dN_self M1).symm (c_X7_isWound C.2.2.1 l (M := M1) (V := M1 9) (X := M1 8) hS )) gL_law_X7_isWound rfl (dp_mM (by decide)) (rfl : dp_x E M1 8 0 = .inr (7, dp_fM E (M1 8 0))) rfl yyX7_isWound rfl ⟨Nat.le_of_ble_eq_true rfl, Nat.le_of_ble_eq_true rfl⟩ rfl (Nat.le_of_ble_eq_true rfl) rfl ⟨Nat.le_of_ble_eq_true rfl, Nat.le_of_ble_eq_true rfl⟩ dL_law_401 (fun y2 M2 q2 => ?_)
        obtain ⟨ey, h2⟩ := op_isWound h q1 e89 q2
        rw [ey]
        refine dp_eqq (tgt := 707) C dL_law_404 (by decide) ?_
        exact J707 M2 h2
      · skip
        refine dp_aload_n C dL_law_409 rfl ?_
        refine dp_aload_n C dL_law_410 rfl ?_
        refine dp_iload_n C dL_law_411 rfl ?_
        refine dp_iconst C dL_law_412 ?_
        refine dp_iadd C dL_law_413 ?_
        refine dp_sld C hX hbl hbA hL ⟨by omega, by omega⟩ dL_law_414 ?_
        refine dp_aload_n C dL_law_415 rfl ?_
        refine dp_iload_n C dL_law_416 rfl ?_
        refine dp_iconst C dL_law_417 ?_
        refine dp_iadd C dL_law_418 ?_
        refine dp_sld C hX hbl hbA hL ⟨by omega, by omega⟩ dL_law_419 ?_
        refine dp_aload_n C dL_law_420 rfl ?_
        refine dp_iload_n C dL_law_421 rfl ?_
        refine dp_iconst C dL_law_422 ?_
        refine dp_iadd C dL_law_423 ?_
        refine dp_sld C hX hbl hbA hL ⟨by omega, by omega⟩ dL_law_424 ?_
        refine dp_aload_n C dL_law_425 rfl ?_
        refine dp_iload_n C dL_law_426 rfl ?_
        refine dp_iconst C dL_law_427 ?_
        refine dp_iadd C dL_law_428 ?_
        refine dp_sld C hX hbl hbA hL ⟨by omega, by omega⟩ dL_law_429 ?_
        refine dp_aload_n C dL_law_430 rfl ?_
        refine dp_iload_n C dL_law_431 rfl ?_
        refine dp_iconst C dL_law_432 ?_
        refine dp_iadd C dL_law_433 ?_
        refine dp_sld C hX hbl hbA hL ⟨by omega, by omega⟩ dL_law_434 ?_
        refine dp_aload_n C dL_law_435 rfl ?_
        refine dp_iload_n C dL_law_436 rfl ?_
        refine dp_bipush C dL_law_437 (by decide) ?_
        refine dp_iadd C dL_law_439 ?_
        refine dp_sld C hX hbl hbA hL ⟨by omega, by omega⟩ dL_law_440 ?_
        refine dp_cVi C (dp_mq eCls.symm (c_X6_add C.2.2.1 l (M := M) (V := M 0) (Y := M 20) (X := M 7) hv h.2.1 hct.cn sc_R sc_R sc_R sc_R sc_R sc_R)) gL_law_X6_add rfl (dp_mC (by decide)) dp_xdp rfl yyX6_add rfl ⟨Nat.le_of_ble_eq_true rfl, Nat.le_of_ble_eq_true rfl⟩ rfl (Nat.le_of_ble_eq_true rfl) rfl ⟨Nat.le_of_ble_eq_true rfl, Nat.le_of_ble_eq_true rfl⟩ dL_law_441 (fun y M1 q1 => ?_)
        have e89 : M1 8 = M 8 ∧ M1 9 = M 9 := by
          rw [q1.2]
          repeat' split
          · exact hi89
          · exact hi89
          · exact rM_at h.2.1
        have hm : ivM (M1 9) N := by rw [e89.2]; exact hs.toM hv
        have hz : 0 ≤ M1 8 0 0 ∧ M1 8 0 0 ≤ 5 := by rw [e89.1, ← h.2.2.2.2.1]; exact ⟨h.2.1.1, h.2.1.2.1⟩
        refine dp_aload_n C dL_law_444 rfl ?_
        refine dp_aload_n C dL_law_445 rfl ?_
        refine dp_iload_n C dL_law_446 rfl ?_
        refine dp_iconst C dL_law_447 ?_
        refine dp_iadd C dL_law_448 ?_
        refine dp_sld C hX hbl hbA hL ⟨by omega, by omega⟩ dL_law_449 ?_
        refine dp_aload_n C dL_law_450 rfl ?_
        refine dp_iload_n C dL_law_451 rfl ?_
        refine dp_iconst C dL_law_452 ?_
        refine dp_iadd C dL_law_453 ?_
        refine dp_sld C hX hbl hbA hL ⟨by omega, by omega⟩ dL_law_454 ?_
        refine dp_aload_n C dL_law_455 rfl ?_
        refine dp_iload_n C dL_law_456 rfl ?_
        refine dp_iconst C dL_law_457 ?_
        refine dp_iadd C dL_law_458 ?_
        refine dp_sld C hX hbl hbA hL ⟨by omega, by omega⟩ dL_law_459 ?_
        refine dp_aload_n C dL_law_460 rfl ?_
        refine dp_iload_n C dL_law_461 rfl ?_
        refine dp_iconst C dL_law_462 ?_
        refine dp_iadd C dL_law_463 ?_
        refine dp_sld C hX hbl hbA hL ⟨by omega, by omega⟩ dL_law_464 ?_
        refine dp_aload_n C dL_law_465 rfl ?_
        refine dp_iload_n C dL_law_466 rfl ?_
        refine dp_iconst C dL_law_467 ?_
        refine dp_iadd C dL_law_468 ?_
        refine dp_sld C hX hbl hbA hL ⟨by omega, by omega⟩ dL_law_469 ?_
        refine dp_aload_n C dL_law_470 rfl ?_
        refine dp_iload_n C dL_law_471 rfl ?_
        refine dp_bipush C dL_law_472 (by decide) ?_
        refine dp_iadd C dL_law_474 ?_
        refine dp_sld C hX hbl hbA hL ⟨by omega, by omega⟩ dL_law_475 ?_
        refine dp_cVi C (dp_mq (dN_self M1).symm (c_X7_add C.2.2.1 l (M := M1) (V := M1 9) (X := M1 8) hm hz sc_R sc_R sc_R sc_R sc_R sc_R)) gL_law_X7_add rfl (dp_mM (by decide)) (rfl : dp_x E M1 8 0 = .inr (7, dp_fM E (M1 8 0))) rfl yyX7_add rfl ⟨Nat.le_of_ble_eq_true rfl, Nat.le_of_ble_eq_true rfl⟩ rfl (Nat.le_of_ble_eq_true rfl) rfl ⟨Nat.le_of_ble_eq_true rfl, Nat.le_of_ble_eq_true rfl⟩ dL_law_476 (fun y2 M2 q2 => ?_)
        obtain ⟨ey, h2⟩ := op_add h hs i1 i2 q1 e89 q2
        rw [ey]
        refine dp_eqq (tgt := 707) C dL_law_479 (by decide) ?_
        exact J707 M2 h2
      · skip
        refine dp_aload_n C dL_law_484 rfl ?_
        refine dp_aload_n C dL_law_485 rfl ?_
        refine dp_iload_n C dL_law_486 rfl ?_
        refine dp_iconst C dL_law_487 ?_
        refine dp_iadd C dL_law_488 ?_
        refine dp_sld C hX hbl hbA hL ⟨by omega, by omega⟩ dL_law_489 ?_
        refine dp_cVi C (dp_mq eCls.symm (c_X6_drop C.2.2.1 l (M := M) (V := M 0) (Y := M 20) (X := M 7) hv h.2.1 sc_R)) gL_law_X6_drop rfl (dp_mC (by decide)) dp_xdp rfl yyX6_drop rfl ⟨Nat.le_of_ble_eq_true rfl, Nat.le_of_ble_eq_true rfl⟩ rfl (Nat.le_of_ble_eq_true rfl) rfl ⟨Nat.le_of_ble_eq_true rfl, Nat.le_of_ble_eq_true rfl⟩ dL_law_490 (fun y M1 q1 => ?_)
        have e89 : M1 8 = M 8 ∧ M1 9 = M 9 := dp_hiq h q1.2
        have hm : ivM (M1 9) N := by rw [e89.2]; exact hs.toM hv
        have hz : 0 ≤ M1 8 0 0 ∧ M1 8 0 0 ≤ 5 := by rw [e89.1, ← h.2.2.2.2.1]; exact ⟨h.2.1.1, h.2.1.2.1⟩
        refine dp_aload_n C dL_law_493 rfl ?_
        refine dp_aload_n C dL_law_494 rfl ?_
        refine dp_iload_n C dL_law_495 rfl ?_
        refine dp_iconst C dL_law_496 ?_
        refine dp_iadd C dL_law_497 ?_
        refine dp_sld C hX hbl hbA hL ⟨by omega, by omega⟩ dL_law_498 ?_
        refine dp_cVi C (dp_mq (dN_self M1).symm (c_X7_drop C.2.2.1 l (M := M1) (V := M1 9) (X := M1 8) hm hz sc_R)) gL_law_X7_drop rfl (dp_mM (by decide)) (rfl : dp_x E M1 8 0 = .inr (7, dp_fM E (M1 8 0))) rfl yyX7_drop rfl ⟨Nat.le_of_ble_eq_true rfl, Nat.le_of_ble_eq_true rfl⟩ rfl (Nat.le_of_ble_eq_true rfl) rfl ⟨Nat.le_of_ble_eq_true rfl, Nat.le_of_ble_eq_true rfl⟩ dL_law_499 (fun y2 M2 q2 => ?_)
        obtain ⟨ey, h2⟩ := op_drop h hs i1 i2 q1 e89 q2
        rw [ey]
        refine dp_eqq (tgt := 707) C dL_law_502 (by decide) ?_
        exact J707 M2 h2
      · skip
        refine dp_aload_n C dL_law_507 rfl ?_
        refine dp_aload_n C dL_law_508 rfl ?_
        refine dp_iload_n C dL_law_509 rfl ?_
        refine dp_iconst C dL_law_510 ?_
        refine dp_iadd C dL_law_511 ?_
        refine dp_sld C hX hbl hbA hL ⟨by omega, by omega⟩ dL_law_512 ?_
        refine dp_aload_n C dL_law_513 rfl ?_
        refine dp_iload_n C dL_law_514 rfl ?_
        refine dp_iconst C dL_law_515 ?_
        refine dp_iadd C dL_law_516 ?_
        refine dp_sld C hX hbl hbA hL ⟨by omega, by omega⟩ dL_law_517 ?_
        refine dp_cVi C (dp_mq eCls.symm (c_X6_target C.2.2.1 l (M := M) (V := M 0) (Y := M 20) (X := M 7) hv sc_R sc_R)) gL_law_X6_target rfl (dp_mC (by decide)) dp_xdp rfl yyX6_target rfl ⟨Nat.le_of_ble_eq_true rfl, Nat.le_of_ble_eq_true rfl⟩ rfl (Nat.le_of_ble_eq_true rfl) rfl ⟨Nat.le_of_ble_eq_true rfl, Nat.le_of_ble_eq_true rfl⟩ dL_law_518 (fun y M1 q1 => ?_)
        have e89 : M1 8 = M 8 ∧ M1 9 = M 9 := by
          rw [q1.2]
          exact hi89
        have hm : ivM (M1 9) N := by rw [e89.2]; exact hs.toM hv
        refine dp_aload_n C dL_law_521 rfl ?_
        refine dp_aload_n C dL_law_522 rfl ?_
        refine dp_iload_n C dL_law_523 rfl ?_
        refine dp_iconst C dL_law_524 ?_
        refine dp_iadd C dL_law_525 ?_
        refine dp_sld C hX hbl hbA hL ⟨by omega, by omega⟩ dL_law_526 ?_
        refine dp_aload_n C dL_law_527 rfl ?_
        refine dp_iload_n C dL_law_528 rfl ?_
        refine dp_iconst C dL_law_529 ?_
        refine dp_iadd C dL_law_530 ?_
        refine dp_sld C hX hbl hbA hL ⟨by omega, by omega⟩ dL_law_531 ?_
        refine dp_cVi C (dp_mq (dN_self M1).symm (c_X7_target C.2.2.1 l (M := M1) (V := M1 9) (X := M1 8) hm sc_R sc_R)) gL_law_X7_target rfl (dp_mM (by decide)) (rfl : dp_x E M1 8 0 = .inr (7, dp_fM E (M1 8 0))) rfl yyX7_target rfl ⟨Nat.le_of_ble_eq_true rfl, Nat.le_of_ble_eq_true rfl⟩ rfl (Nat.le_of_ble_eq_true rfl) rfl ⟨Nat.le_of_ble_eq_true rfl, Nat.le_of_ble_eq_true rfl⟩ dL_law_532 (fun y2 M2 q2 => ?_)
        obtain ⟨ey, h2⟩ := op_target h hs q1 e89 q2
        rw [ey]
        refine dp_eqq (tgt := 707) C dL_law_535 (by decide) ?_
        exact J707 M2 h2
      · skip
        refine dp_aload_n C dL_law_540 rfl ?_
        refine dp_aload_n C dL_law_541 rfl ?_
        refine dp_iload_n C dL_law_542 rfl ?_
        refine dp_iconst C dL_law_543 ?_
        refine dp_iadd C dL_law_544 ?_
        refine dp_sld C hX hbl hbA hL ⟨by omega, by omega⟩ dL_law_545 ?_
        refine dp_cVi C (dp_mq eCls.symm (c_X6_why C.2.2.1 l (M := M) (V := M 0) (Y := M 20) (X := M 7) hv sc_R)) gL_law_X6_why rfl (dp_mC (by decide)) dp_xdp rfl yyX6_why rfl ⟨Nat.le_of_ble_eq_true rfl, Nat.le_of_ble_eq_true rfl⟩ rfl (Nat.le_of_ble_eq_true rfl) rfl ⟨Nat.le_of_ble_eq_true rfl, Nat.le_of_ble_eq_true rfl⟩ dL_law_546 (fun y M1 q1 => ?_)
        have e89 : M1 8 = M 8 ∧ M1 9 = M 9 := by
          obtain ⟨Y9, q9⟩ := q1.2
          rw [q9]
          exact hi89
        have hm : ivM (M1 9) N := by rw [e89.2]; exact hs.toM hv
        refine dp_aload_n C dL_law_549 rfl ?_
        refine dp_aload_n C dL_law_550 rfl ?_
        refine dp_iload_n C dL_law_551 rfl ?_
        refine dp_iconst C dL_law_552 ?_
        refine dp_iadd C dL_law_553 ?_
        refine dp_sld C hX hbl hbA hL ⟨by omega, by omega⟩ dL_law_554 ?_
        refine dp_cVi C (dp_mq (dN_self M1).symm (c_X7_why C.2.2.1 l (M := M1) (V := M1 9) (X := M1 8) hm sc_R)) gL_law_X7_why rfl (dp_mM (by decide)) (rfl : dp_x E M1 8 0 = .inr (7, dp_fM E (M1 8 0))) rfl yyX7_why rfl ⟨Nat.le_of_ble_eq_true rfl, Nat.le_of_ble_eq_true rfl⟩ rfl (Nat.le_of_ble_eq_true rfl) rfl ⟨Nat.le_of_ble_eq_true rfl, Nat.le_of_ble_eq_true rfl⟩ dL_law_555 (fun y2 M2 q2 => ?_)
        obtain ⟨ey, h2⟩ := op_why h hs q1 e89 q2
        rw [ey]
        refine dp_eqq (tgt := 707) C dL_law_558 (by decide) ?_
        exact J707 M2 h2
      · skip
        refine dp_aload_n C dL_law_563 rfl ?_
        refine dp_cVi C (dp_mq eCls.symm (c_X6_next C.2.2.1 l (M := M) (V := M 0) (Y := M 20) (X := M 7) hv )) gL_law_X6_next rfl (dp_mC (by decide)) dp_xdp rfl yyX6_next rfl ⟨Nat.le_of_ble_eq_true rfl, Nat.le_of_ble_eq_true rfl⟩ rfl (Nat.le_of_ble_eq_true rfl) rfl ⟨Nat.le_of_ble_eq_true rfl, Nat.le_of_ble_eq_true rfl⟩ dL_law_564 (fun y M1 q1 => ?_)
        have e89 : M1 8 = M 8 ∧ M1 9 = M 9 := by
          obtain ⟨Y9, q9⟩ := q1.2
          rw [q9]
          exact hi89
        have hm : ivM (M1 9) N := by rw [e89.2]; exact hs.toM hv
        refine dp_aload_n C dL_law_567 rfl ?_
        refine dp_cVi C (dp_mq (dN_self M1).symm (c_X7_next C.2.2.1 l (M := M1) (V := M1 9) (X := M1 8) hm )) gL_law_X7_next rfl (dp_mM (by decide)) (rfl : dp_x E M1 8 0 = .inr (7, dp_fM E (M1 8 0))) rfl yyX7_next rfl ⟨Nat.le_of_ble_eq_true rfl, Nat.le_of_ble_eq_true rfl⟩ rfl (Nat.le_of_ble_eq_true rfl) rfl ⟨Nat.le_of_ble_eq_true rfl, Nat.le_of_ble_eq_true rfl⟩ dL_law_568 (fun y2 M2 q2 => ?_)
        obtain ⟨ey, h2⟩ := op_next h hs q1 e89 q2
        rw [ey]
        refine dp_eqq (tgt := 707) C dL_law_571 (by decide) ?_
        exact J707 M2 h2
      · skip
        refine dp_aload_n C dL_law_576 rfl ?_
        refine dp_aload_n C dL_law_577 rfl ?_
        refine dp_iload_n C dL_law_578 rfl ?_
        refine dp_iconst C dL_law_579 ?_
        refine dp_iadd C dL_law_580 ?_
        refine dp_sld C hX hbl hbA hL ⟨by omega, by omega⟩ dL_law_581 ?_
        refine dp_cVi C (dp_mq eCls.symm (c_X6_run C.2.2.1 l (M := M) (V := M 0) (Y := M 20) (X := M 7) hv h.2.1 sc_R)) gL_law_X6_run rfl (dp_mC (by decide)) dp_xdp rfl yyX6_run rfl ⟨Nat.le_of_ble_eq_true rfl, Nat.le_of_ble_eq_true rfl⟩ rfl (Nat.le_of_ble_eq_true rfl) rfl ⟨Nat.le_of_ble_eq_true rfl, Nat.le_of_ble_eq_true rfl⟩ dL_law_582 (fun y M1 q1 => ?_)
        have e89 : M1 8 = M 8 ∧ M1 9 = M 9 := by
          obtain ⟨Y9, q9⟩ := q1.2
          exact dp_hiq h q9
        have hm : ivM (M1 9) N := by rw [e89.2]; exact hs.toM hv
        have hz : 0 ≤ M1 8 0 0 ∧ M1 8 0 0 ≤ 5 := by rw [e89.1, ← h.2.2.2.2.1]; exact ⟨h.2.1.1, h.2.1.2.1⟩
        refine dp_aload_n C dL_law_585 rfl ?_
        refine dp_aload_n C dL_law_586 rfl ?_
        refine dp_iload_n C dL_law_587 rfl ?_
        refine dp_iconst C dL_law_588 ?_
        refine dp_iadd C dL_law_589 ?_
        refine dp_sld C hX hbl hbA hL ⟨by omega, by omega⟩ dL_law_590 ?_
        refine dp_cVi C (dp_mq (dN_self M1).symm (c_X7_run C.2.2.1 l (M := M1) (V := M1 9) (X := M1 8) hm hz sc_R)) gL_law_X7_run rfl (dp_mM (by decide)) (rfl : dp_x E M1 8 0 = .inr (7, dp_fM E (M1 8 0))) rfl yyX7_run rfl ⟨Nat.le_of_ble_eq_true rfl, Nat.le_of_ble_eq_true rfl⟩ rfl (Nat.le_of_ble_eq_true rfl) rfl ⟨Nat.le_of_ble_eq_true rfl, Nat.le_of_ble_eq_true rfl⟩ dL_law_591 (fun y2 M2 q2 => ?_)
        obtain ⟨ey, h2⟩ := op_run h hs i1 i2 q1 e89 q2
        rw [ey]
        refine dp_eqq (tgt := 707) C dL_law_594 (by decide) ?_
        exact J707 M2 h2
      · skip
        refine dp_aload_n C dL_law_599 rfl ?_
        refine dp_aload_n C dL_law_600 rfl ?_
        refine dp_iload_n C dL_law_601 rfl ?_
        refine dp_iconst C dL_law_602 ?_
        refine dp_iadd C dL_law_603 ?_
        refine dp_sld C hX hbl hbA hL ⟨by omega, by omega⟩ dL_law_604 ?_
        refine dp_cVi C (dp_mq eCls.symm (c_X6_ifRun C.2.2.1 l (M := M) (V := M 0) (Y := M 20) (X := M 7) hv sc_R)) gL_law_X6_ifRun rfl (dp_mC (by decide)) dp_xdp rfl yyX6_ifRun rfl ⟨Nat.le_of_ble_eq_true rfl, Nat.le_of_ble_eq_true rfl⟩ rfl (Nat.le_of_ble_eq_true rfl) rfl ⟨Nat.le_of_ble_eq_true rfl, Nat.le_of_ble_eq_true rfl⟩ dL_law_605 (fun y M1 q1 => ?_)
        have e89 : M1 8 = M 8 ∧ M1 9 = M 9 := by
          obtain ⟨Y9, q9⟩ := q1.2
          rw [q9]
          split
          · exact ⟨hi89.1.trans (dS_ne (by decide) (by decide)), hi89.2.trans (dS_ne (by decide) (by decide))⟩
          · exact hi89
        have hm : ivM (M1 9) N := by rw [e89.2]; exact hs.toM hv
        refine dp_aload_n C dL_law_608 rfl ?_
        refine dp_aload_n C dL_law_609 rfl ?_
        refine dp_iload_n C dL_law_610 rfl ?_
        refine dp_iconst C dL_law_611 ?_
        refine dp_iadd C dL_law_612 ?_
        refine dp_sld C hX hbl hbA hL ⟨by omega, by omega⟩ dL_law_613 ?_
        refine dp_cVi C (dp_mq (dN_self M1).symm (c_X7_ifRun C.2.2.1 l (M := M1) (V := M1 9) (X := M1 8) hm sc_R)) gL_law_X7_ifRun rfl (dp_mM (by decide)) (rfl : dp_x E M1 8 0 = .inr (7, dp_fM E (M1 8 0))) rfl yyX7_ifRun rfl ⟨Nat.le_of_ble_eq_true rfl, Nat.le_of_ble_eq_true rfl⟩ rfl (Nat.le_of_ble_eq_true rfl) rfl ⟨Nat.le_of_ble_eq_true rfl, Nat.le_of_ble_eq_true rfl⟩ dL_law_614 (fun y2 M2 q2 => ?_)
        obtain ⟨ey, h2⟩ := op_ifRun h hs i1 i2 q1 e89 q2
        rw [ey]
        refine dp_eqq (tgt := 707) C dL_law_617 (by decide) ?_
        exact J707 M2 h2
      · skip
        refine dp_aload_n C dL_law_622 rfl ?_
        refine dp_cVi C (dp_mq eCls.symm (c_X6_undo C.2.2.1 l (M := M) (V := M 0) (Y := M 20) (X := M 7) hv h.2.1 (fun r a b => h.1 r b) )) gL_law_X6_undo rfl (dp_mC (by decide)) dp_xdp rfl yyX6_undo rfl ⟨Nat.le_of_ble_eq_true rfl, Nat.le_of_ble_eq_true rfl⟩ rfl (Nat.le_of_ble_eq_true rfl) rfl ⟨Nat.le_of_ble_eq_true rfl, Nat.le_of_ble_eq_true rfl⟩ dL_law_623 (fun y M1 q1 => ?_)
        have e89 : M1 8 = M 8 ∧ M1 9 = M 9 := by
          rw [q1.2]
          split
          · exact hi89
          · exact hi89
        have hz : 0 ≤ M1 8 0 0 ∧ M1 8 0 0 ≤ 5 := by rw [e89.1, ← h.2.2.2.2.1]; exact ⟨h.2.1.1, h.2.1.2.1⟩
        refine dp_aload_n C dL_law_626 rfl ?_
        refine dp_cVi C (dp_mq (dN_self M1).symm (c_X7_undo C.2.2.1 l (M := M1) (V := M1 9) (X := M1 8) hz )) gL_law_X7_undo rfl (dp_mM (by decide)) (rfl : dp_x E M1 8 0 = .inr (7, dp_fM E (M1 8 0))) rfl yyX7_undo rfl ⟨Nat.le_of_ble_eq_true rfl, Nat.le_of_ble_eq_true rfl⟩ rfl (Nat.le_of_ble_eq_true rfl) rfl ⟨Nat.le_of_ble_eq_true rfl, Nat.le_of_ble_eq_true rfl⟩ dL_law_627 (fun y2 M2 q2 => ?_)
        obtain ⟨ey, h2⟩ := op_undo h q1 e89 q2
        rw [ey]
        refine dp_eqq (tgt := 707) C dL_law_630 (by decide) ?_
        exact J707 M2 h2
      · skip
        refine dp_aload_n C dL_law_635 rfl ?_
        refine dp_aload_n C dL_law_636 rfl ?_
        refine dp_iload_n C dL_law_637 rfl ?_
        refine dp_iconst C dL_law_638 ?_
        refine dp_iadd C dL_law_639 ?_
        refine dp_sld C hX hbl hbA hL ⟨by omega, by omega⟩ dL_law_640 ?_
        refine dp_cVi C (dp_mq eCls.symm (c_X6_type C.2.2.1 l (M := M) (V := M 0) (Y := M 20) (X := M 7) h.2.2.2.1.1 sc_R)) gL_law_X6_type rfl (dp_mC (by decide)) dp_xdp rfl yyX6_type rfl ⟨Nat.le_of_ble_eq_true rfl, Nat.le_of_ble_eq_true rfl⟩ rfl (Nat.le_of_ble_eq_true rfl) rfl ⟨Nat.le_of_ble_eq_true rfl, Nat.le_of_ble_eq_true rfl⟩ dL_law_641 (fun y M1 q1 => ?_)
        have e89 : M1 8 = M 8 ∧ M1 9 = M 9 := by
          rw [q1.2]
          split
          · exact hi89
          · exact hi89
        have hty : 0 ≤ M1 8 0 1 ∧ M1 8 0 1 ≤ 100 := by rw [e89.1, ← h.2.2.2.1.2.2.2.1]; exact ⟨h.2.2.2.1.1.1, h.2.2.2.1.1.2.1⟩
        refine dp_aload_n C dL_law_644 rfl ?_
        refine dp_aload_n C dL_law_645 rfl ?_
        refine dp_iload_n C dL_law_646 rfl ?_
        refine dp_iconst C dL_law_647 ?_
        refine dp_iadd C dL_law_648 ?_
        refine dp_sld C hX hbl hbA hL ⟨by omega, by omega⟩ dL_law_649 ?_
        refine dp_cVi C (dp_mq (dN_self M1).symm (c_X7_type C.2.2.1 l (M := M1) (V := M1 9) (X := M1 8) hty sc_R)) gL_law_X7_type rfl (dp_mM (by decide)) (rfl : dp_x E M1 8 0 = .inr (7, dp_fM E (M1 8 0))) rfl yyX7_type rfl ⟨Nat.le_of_ble_eq_true rfl, Nat.le_of_ble_eq_true rfl⟩ rfl (Nat.le_of_ble_eq_true rfl) rfl ⟨Nat.le_of_ble_eq_true rfl, Nat.le_of_ble_eq_true rfl⟩ dL_law_650 (fun y2 M2 q2 => ?_)
        obtain ⟨ey, h2⟩ := op_type h q1 e89 q2
        rw [ey]
        refine dp_eqq (tgt := 707) C dL_law_653 (by decide) ?_
        exact J707 M2 h2
      · skip
        refine dp_aload_n C dL_law_658 rfl ?_
        refine dp_cVi C (dp_mq eCls.symm (c_X6_clearText C.2.2.1 l (M := M) (V := M 0) (Y := M 20) (X := M 7)  )) gL_law_X6_clearText rfl (dp_mC (by decide)) dp_xdp rfl yyX6_clearText rfl ⟨Nat.le_of_ble_eq_true rfl, Nat.le_of_ble_eq_true rfl⟩ rfl (Nat.le_of_ble_eq_true rfl) rfl ⟨Nat.le_of_ble_eq_true rfl, Nat.le_of_ble_eq_true rfl⟩ dL_law_659 (fun y M1 q1 => ?_)
        have e89 : M1 8 = M 8 ∧ M1 9 = M 9 := by
          rw [q1.2]
          exact hi89
        refine dp_aload_n C dL_law_662 rfl ?_
        refine dp_cVi C (dp_mq (dN_self M1).symm (c_X7_clearText C.2.2.1 l (M := M1) (V := M1 9) (X := M1 8)  )) gL_law_X7_clearText rfl (dp_mM (by decide)) (rfl : dp_x E M1 8 0 = .inr (7, dp_fM E (M1 8 0))) rfl yyX7_clearText rfl ⟨Nat.le_of_ble_eq_true rfl, Nat.le_of_ble_eq_true rfl⟩ rfl (Nat.le_of_ble_eq_true rfl) rfl ⟨Nat.le_of_ble_eq_true rfl, Nat.le_of_ble_eq_true rfl⟩ dL_law_663 (fun y2 M2 q2 => ?_)
        obtain ⟨ey, h2⟩ := op_clearText h q1 e89 q2
        rw [ey]
        refine dp_eqq (tgt := 707) C dL_law_666 (by decide) ?_
        exact J707 M2 h2
      · skip
        refine dp_aload_n C dL_law_671 rfl ?_
        refine dp_aload_n C dL_law_672 rfl ?_
        refine dp_iload_n C dL_law_673 rfl ?_
        refine dp_iconst C dL_law_674 ?_
        refine dp_iadd C dL_law_675 ?_
        refine dp_sld C hX hbl hbA hL ⟨by omega, by omega⟩ dL_law_676 ?_
        refine dp_cVi C (dp_mq eCls.symm (c_X6_fault C.2.2.1 l (M := M) (V := M 0) (Y := M 20) (X := M 7) hv h.2.2.2.1.1 h.2.2.2.1.2.1 sc_R)) gL_law_X6_fault rfl (dp_mC (by decide)) dp_xdp rfl yyX6_fault rfl ⟨Nat.le_of_ble_eq_true rfl, Nat.le_of_ble_eq_true rfl⟩ rfl (Nat.le_of_ble_eq_true rfl) rfl ⟨Nat.le_of_ble_eq_true rfl, Nat.le_of_ble_eq_true rfl⟩ dL_law_677 (fun y M1 q1 => ?_)
        have e89 : M1 8 = M 8 ∧ M1 9 = M 9 := by
          rw [q1.2]
          split
          · exact hi89
          · exact hi89
        have hm : ivM (M1 9) N := by rw [e89.2]; exact hs.toM hv
        have hT : tOK (mT (M1 8)) := by rw [e89.1]; exact h.2.2.2.1.2.2.1
        refine dp_aload_n C dL_law_680 rfl ?_
        refine dp_aload_n C dL_law_681 rfl ?_
        refine dp_iload_n C dL_law_682 rfl ?_
        refine dp_iconst C dL_law_683 ?_
        refine dp_iadd C dL_law_684 ?_
        refine dp_sld C hX hbl hbA hL ⟨by omega, by omega⟩ dL_law_685 ?_
        refine dp_cVi C (dp_mq (dN_self M1).symm (c_X7_fault C.2.2.1 l (M := M1) (V := M1 9) (X := M1 8) hm hT sc_R)) gL_law_X7_fault rfl (dp_mM (by decide)) (rfl : dp_x E M1 8 0 = .inr (7, dp_fM E (M1 8 0))) rfl yyX7_fault rfl ⟨Nat.le_of_ble_eq_true rfl, Nat.le_of_ble_eq_true rfl⟩ rfl (Nat.le_of_ble_eq_true rfl) rfl ⟨Nat.le_of_ble_eq_true rfl, Nat.le_of_ble_eq_true rfl⟩ dL_law_686 (fun y2 M2 q2 => ?_)
        obtain ⟨ey, h2⟩ := op_fault h hs q1 e89 q2
        rw [ey]
        refine dp_eqq (tgt := 707) C dL_law_689 (by decide) ?_
        exact J707 M2 h2
      · skip
        refine dp_aload_n C dL_law_694 rfl ?_
        refine dp_cVi C (dp_mq eCls.symm (c_X6_enter C.2.2.1 l (M := M) (V := M 0) (Y := M 20) (X := M 7) hv h.2.1 hct h.2.2.2.1.1 h.2.2.2.1.2.1 )) gL_law_X6_enter rfl (dp_mC (by decide)) dp_xdp rfl yyX6_enter rfl ⟨Nat.le_of_ble_eq_true rfl, Nat.le_of_ble_eq_true rfl⟩ rfl (Nat.le_of_ble_eq_true rfl) rfl ⟨Nat.le_of_ble_eq_true rfl, Nat.le_of_ble_eq_true rfl⟩ dL_law_695 (fun y M1 q1 => ?_)
        have e89 : M1 8 = M 8 ∧ M1 9 = M 9 := by
          have hJ := rcJ_ok h.2.1
          obtain ⟨X9, -, q9⟩ := q1
          rcases q9 with ⟨-, -, -, q9⟩ | ⟨mm, -, -, -, -, q9⟩
          · rw [q9]
            exact hi89
          · rw [q9]
            exact ⟨hi89.1.trans (dR_ne (by omega)), hi89.2.trans (dR_ne (by omega))⟩
        have hm : ivM (M1 9) N := by rw [e89.2]; exact hs.toM hv
        have hz : 0 ≤ M1 8 0 0 ∧ M1 8 0 0 ≤ 5 := by rw [e89.1, ← h.2.2.2.2.1]; exact ⟨h.2.1.1, h.2.1.2.1⟩
        have hT : tOK (mT (M1 8)) := by rw [e89.1]; exact h.2.2.2.1.2.2.1
        refine dp_aload_n C dL_law_698 rfl ?_
        refine dp_cVi C (dp_mq (dN_self M1).symm (c_X7_enter C.2.2.1 l (M := M1) (V := M1 9) (X := M1 8) hm hz hT )) gL_law_X7_enter rfl (dp_mM (by decide)) (rfl : dp_x E M1 8 0 = .inr (7, dp_fM E (M1 8 0))) rfl yyX7_enter rfl ⟨Nat.le_of_ble_eq_true rfl, Nat.le_of_ble_eq_true rfl⟩ rfl (Nat.le_of_ble_eq_true rfl) rfl ⟨Nat.le_of_ble_eq_true rfl, Nat.le_of_ble_eq_true rfl⟩ dL_law_699 (fun y2 M2 q2 => ?_)
        obtain ⟨ey, h2⟩ := op_enter h hs i1 i2 q1 e89 q2
        rw [ey]
        refine dp_eqq (tgt := 707) C dL_law_702 (by decide) ?_
        exact J707 M2 h2
