/-! THE LAW'S LOOP -/
theorem dp_law_end {E : dp_E} {p : Program} {l : Launch} {e : Env} {s : State} {m : MethodId} {below : List Frame} {meth : Method} {co : Code} {b : Nat} {own : String} {nL : Nat} {Ts : List Cond} {M : dp_M} {pc : Nat} {Lc : List (Option Value)} (C : dp_C E (fun q => s.heap.size ≤ q) p s m #[Value.ref b] meth co code own nL Ts) (hr : meth.sig.returnType = ret) (hd : decode code pc = .ok (.ireturn, 1)) : dp_G E (fun q => s.heap.size ≤ q) p l e room_1 s m #[Value.ref b] below meth co 743748 6871003 (lw_Z below #[Value.ref b] s) M pc Lc [.int (dp_I 1)] := fun H locs ls hW hS hl => va_forget hS.2.2 (lw_ret C.1.1 C.1.2.1 hr C.2.1 hd)
set_option maxHeartbeats 40000000 in
set_option maxRecDepth 100000 in
/-- the law's turns, from the loop's head -/
theorem law_loop {E : dp_E} {p : Program} {l : Launch} {e : Env} {s : State} {m : MethodId} {below : List Frame} {meth : Method} {co : Code} {b L : Nat} {xs : Nat → Int32} (hL : L ≤ 260) (hX : va_X b L xs s s.heap) (hbl : b < s.heap.size) (hr : meth.sig.returnType = ret) (C : dp_C E (fun q => s.heap.size ≤ q) p s m #[Value.ref b] meth co code RL 7 wsL_law) (h90 : eAd E 9 0 = 0) : ∀ (n k tt : Nat) (M : dp_M) (V X : dp_V) (N : Nat), k + n = tt → tt ≤ 57 → iC M V N → dp_G E (fun q => s.heap.size ≤ q) p l e room_1 s m #[Value.ref b] below meth co (1001 + k) (100004 + 4 * k) (lw_Z below #[Value.ref b] s) (dN M V X) 48 [some (.ref b), some (.ref (eAd E 7 0)), some (.ref (eAd E 8 0)), some (.ref (eAd E 8 1)), some (.int (dp_I 1)), some (.int (dp_I ((tt : Int)))), some (.int (dp_I ((k : Int))))] [] := by
  refine dp_ind (fun n ih => ?_)
  intro k tt M V X N hkn htt hI
  refine dp_iload C dL_law_48 rfl ?_
  refine dp_iload C dL_law_50 rfl ?_
  refine dp_icmp_ge (tgt := 106) C dL_law_52 (by decide) ⟨by omega, by omega⟩ ⟨by omega, by omega⟩ (fun c52 => ?_) (fun c52 => ?_)
  · skip
    obtain rfl : n = 0 := by omega
    refine dp_iload C dL_law_106 rfl ?_
    refine dp_if_eq (tgt := 147) C dL_law_108 (by decide) ⟨by omega, by omega⟩ (fun c108 => ?_) (fun c108 => ?_)
    · omega
    · skip
      refine dp_aload_n C dL_law_111 rfl ?_
      refine dp_iconst C dL_law_112 ?_
      refine dp_iconst C dL_law_113 ?_
      refine dp_cVi C (w_axis C.2.2.1 l hI ⟨by omega, by omega⟩ ⟨by omega, by omega⟩) gL_law_X6_axis rfl (dp_mC (by decide)) dp_xdp rfl yyX6_axis rfl ⟨Nat.le_of_ble_eq_true rfl, Nat.le_of_ble_eq_true rfl⟩ rfl (Nat.le_of_ble_eq_true rfl) rfl ⟨by show 1001 + k ≤ 743748; omega, by show 100004 + 4 * k ≤ 6871003; omega⟩ dL_law_114 (fun x114 M114 h114 => ?_)
      obtain ⟨rfl, rfl⟩ := h114
      refine dp_ldc C (-100001) (List.mem_of_getElem? (i := 4) rfl) rfl dL_law_117 ?_
      refine dp_icmp_same (tgt := 147) C (if_neg (by omega)) (by decide) dL_law_119 ?_
      refine dp_aload_n C dL_law_122 rfl ?_
      refine dp_bipush C dL_law_123 (by decide) ?_
      refine dp_cVi C (w_count C.2.2.1 l hI ⟨by omega, by omega⟩ (by omega) (by omega)) gL_law_X6_count rfl (dp_mC (by decide)) dp_xdp rfl yyX6_count rfl ⟨Nat.le_of_ble_eq_true rfl, Nat.le_of_ble_eq_true rfl⟩ rfl (Nat.le_of_ble_eq_true rfl) rfl ⟨by show 1001 + k ≤ 743748; omega, by show 100004 + 4 * k ≤ 6871003; omega⟩ dL_law_125 (fun x125 M125 h125 => ?_)
      obtain ⟨rfl, rfl⟩ := h125
      refine dp_ldc C (-100001) (List.mem_of_getElem? (i := 4) rfl) rfl dL_law_128 ?_
      refine dp_icmp_same (tgt := 147) C (by rfl) (by decide) dL_law_130 ?_
      refine dp_aload_n C dL_law_133 rfl ?_
      refine dp_iconst C dL_law_134 ?_
      refine dp_cVi C (w_why C.2.2.1 l hI (x := -1) ⟨by omega, by omega⟩) gL_law_X6_why rfl (dp_mC (by decide)) dp_xdp rfl yyX6_why rfl ⟨Nat.le_of_ble_eq_true rfl, Nat.le_of_ble_eq_true rfl⟩ rfl (Nat.le_of_ble_eq_true rfl) rfl ⟨by show 1001 + k ≤ 743748; omega, by show 100004 + 4 * k ≤ 6871003; omega⟩ dL_law_135 (fun x135 M135 h135 => ?_)
      obtain ⟨rfl, M2, rfl, hI2⟩ := h135
      refine dp_ldc C (-100001) (List.mem_of_getElem? (i := 4) rfl) rfl dL_law_138 ?_
      refine dp_icmp_same (tgt := 147) C (if_neg (by omega)) (by decide) dL_law_140 ?_
      refine dp_iconst C dL_law_143 ?_
      refine dp_goto (tgt := 148) C dL_law_144 (by decide) ?_
      refine dp_wid (k1 := 743748) (k2 := 6871003) (by omega) (by omega) ?_
      exact dp_law_end C hr dL_law_148
  · skip
    obtain ⟨n, rfl⟩ : ∃ n', n = n' + 1 := ⟨n - 1, by omega⟩
    refine dp_iload C dL_law_55 rfl ?_
    refine dp_if_eq (tgt := 106) C dL_law_57 (by decide) ⟨by omega, by omega⟩ (fun c57 => ?_) (fun c57 => ?_)
    · omega
    · skip
      refine dp_aload_n C dL_law_60 rfl ?_
      refine dp_aload_n C dL_law_61 rfl ?_
      refine dp_aload_n C dL_law_62 rfl ?_
      refine dp_aload_n C dL_law_63 rfl ?_
      refine dp_iconst C dL_law_64 ?_
      refine dp_iload C dL_law_65 rfl ?_
      refine dp_iadd C dL_law_67 ?_
      refine dp_ccell C hX hbl (Nat.not_le.mpr hbl) hL (by omega) gL_law_L_cell ⟨Nat.le_of_ble_eq_true rfl, Nat.le_of_ble_eq_true rfl⟩ (Nat.le_of_ble_eq_true rfl) rfl ⟨by show 1001 + k ≤ 743748; omega, by show 100004 + 4 * k ≤ 6871003; omega⟩ dL_law_68 (fun v68 hv68 => ?_)
      refine dp_sipush C dL_law_71 (by decide) ?_
      refine dp_iload C dL_law_74 rfl ?_
      refine dp_imul C dL_law_76 ?_
      refine dp_ixorA C dL_law_77 (fun v77 hw77 => ?_)
      refine dp_cSi C (c_L_acts C.2.2.1 l hI hw77) gL_law_L_acts rfl yyL_acts rfl ⟨Nat.le_of_ble_eq_true rfl, Nat.le_of_ble_eq_true rfl⟩ rfl (Nat.le_of_ble_eq_true rfl) rfl ⟨by show 1001 + k ≤ 743748; omega, by show 100004 + 4 * k ≤ 6871003; omega⟩ dL_law_78 (fun x78 M78 h78 => ?_)
      obtain ⟨rfl, M2, V2, X2, N2, rfl, hI2⟩ := h78
      refine dp_if_eq (tgt := 97) C dL_law_81 (by decide) ⟨by omega, by omega⟩ (fun c81 => ?_) (fun c81 => ?_)
      · omega
      · skip
        refine dp_aload_n C dL_law_84 rfl ?_
        refine dp_aload_n C dL_law_85 rfl ?_
        refine dp_aload_n C dL_law_86 rfl ?_
        refine dp_cIso C (fun q h => h) h90 hI2 gL_law_L_isSo ⟨Nat.le_of_ble_eq_true rfl, Nat.le_of_ble_eq_true rfl⟩ (Nat.le_of_ble_eq_true rfl) rfl ⟨by show 1001 + k + 1 ≤ 743748; omega, by show 100004 + 4 * k + 4 ≤ 6871003; omega⟩ dL_law_87 (fun M3 X3 hI3 => ?_)
        refine dp_if_eq (tgt := 97) C dL_law_90 (by decide) ⟨by omega, by omega⟩ (fun c90 => ?_) (fun c90 => ?_)
        · omega
        · skip
          refine dp_iconst C dL_law_93 ?_
          refine dp_goto (tgt := 98) C dL_law_94 (by decide) ?_
          refine dp_istore C dL_law_98 (Nat.le_of_ble_eq_true rfl) ?_
          dsimp only [List.set]
          refine dp_iinc C dL_law_100 rfl ?_
          dsimp only [List.set]
          refine dp_goto (tgt := 48) C dL_law_103 (by decide) ?_
          have z9 := ih n (by omega) (k + 1) tt M3 V2 X3 N2 (by omega) htt hI3
          rw [show 1001 + (k + 1) = 1001 + k + 1 by omega, show 100004 + 4 * (k + 1) = 100004 + 4 * k + 4 by omega] at z9
          exact z9
set_option maxHeartbeats 40000000 in
set_option maxRecDepth 100000 in
/-- the law, behind the making of its rows -/
theorem law_first {E : dp_E} {p : Program} {l : Launch} {e : Env} {s : State} {m : MethodId} {below : List Frame} {meth : Method} {co : Code} {b L : Nat} {xs : Nat → Int32} (hL : L ≤ 260) (hX : va_X b L xs s s.heap) (hbl : b < s.heap.size) (hr : meth.sig.returnType = ret) (C : dp_C E (fun q => s.heap.size ≤ q) p s m #[Value.ref b] meth co code RL 7 wsL_law) (h90 : eAd E 9 0 = 0) {M : dp_M} {X : dp_V} (hI0 : iC M (lbV Y0) 0) : dp_G E (fun q => s.heap.size ≤ q) p l e room_1 s m #[Value.ref b] below meth co (1000) (100000) (lw_Z below #[Value.ref b] s) (dN M Y0 X) 18 [some (.ref b), some (.ref (eAd E 7 0)), some (.ref (eAd E 8 0)), some (.ref (eAd E 8 1)), none, none, none] [] := by
  skip
  refine dp_aload_n C dL_law_18 rfl ?_
  refine dp_cSv C (c_L_begins C.2.2.1 l ) gL_law_L_begins rfl yyL_begins rfl ⟨Nat.le_of_ble_eq_true rfl, Nat.le_of_ble_eq_true rfl⟩ rfl (Nat.le_of_ble_eq_true rfl) rfl ⟨Nat.le_of_ble_eq_true rfl, Nat.le_of_ble_eq_true rfl⟩ dL_law_19 (fun M19 h19 => ?_)
  obtain rfl := h19
  refine dp_aload_n C dL_law_22 rfl ?_
  refine dp_aload_n C dL_law_23 rfl ?_
  refine dp_aload_n C dL_law_24 rfl ?_
  refine dp_cIso C (fun q h => h) h90 hI0 gL_law_L_isSo ⟨Nat.le_of_ble_eq_true rfl, Nat.le_of_ble_eq_true rfl⟩ (Nat.le_of_ble_eq_true rfl) rfl ⟨by show 1000 + 1 ≤ 743748; omega, by show 100000 + 4 ≤ 6871003; omega⟩ dL_law_25 (fun M2 X2 hI2 => ?_)
  refine dp_istore C dL_law_28 (Nat.le_of_ble_eq_true rfl) ?_
  dsimp only [List.set]
  refine dp_bipush C dL_law_30 (by decide) ?_
  refine dp_aload_n C dL_law_32 rfl ?_
  refine dp_iconst C dL_law_33 ?_
  refine dp_ccell C hX hbl (Nat.not_le.mpr hbl) hL (by omega) gL_law_L_cell ⟨Nat.le_of_ble_eq_true rfl, Nat.le_of_ble_eq_true rfl⟩ (Nat.le_of_ble_eq_true rfl) rfl ⟨by show 1001 ≤ 743748; omega, by show 100004 ≤ 6871003; omega⟩ dL_law_34 (fun v34 hv34 => ?_)
  refine dp_bipush C dL_law_37 (by decide) ?_
  refine dp_cSi C (c_L_low C.2.2.1 l ⟨by omega, by omega⟩) gL_law_L_low rfl yyL_low rfl ⟨Nat.le_of_ble_eq_true rfl, Nat.le_of_ble_eq_true rfl⟩ rfl (Nat.le_of_ble_eq_true rfl) rfl ⟨Nat.le_of_ble_eq_true rfl, Nat.le_of_ble_eq_true rfl⟩ dL_law_39 (fun x39 M39 h39 => ?_)
  obtain ⟨⟨hv0, hv1⟩, rfl⟩ := h39
  refine dp_iadd C dL_law_42 ?_
  obtain ⟨tt, htt, htb⟩ : ∃ tt : Nat, 8 + x39 = tt ∧ tt ≤ 57 := ⟨(8 + x39).toNat, by omega, by omega⟩
  rw [htt]
  refine dp_istore C dL_law_43 (Nat.le_of_ble_eq_true rfl) ?_
  dsimp only [List.set]
  refine dp_iconst C dL_law_45 ?_
  refine dp_istore C dL_law_46 (Nat.le_of_ble_eq_true rfl) ?_
  dsimp only [List.set]
  exact law_loop hL hX hbl hr C h90 tt 0 tt M2 _ X2 0 (by omega) htb hI2
