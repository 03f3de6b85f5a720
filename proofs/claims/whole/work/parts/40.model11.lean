/-! THE REFERENCE'S TEXT: typed X 0 1, its characters X 4, where it is read X 0 5, the numbers X 5, the reason kept X 0 6 -/
/-- the text as the class's -/
def mT (X : dp_V) : dp_V := fun c => if c = 3 then (fun _ => X 0 1) else X c
theorem sgM {X : dp_V} {i : Int} (h0 : 0 ≤ i) (h1 : i < X 0 1) (h2 : X 0 1 ≤ 100) : sgF (mT X) i = X 4 i.toNat := by
  have e3 : mT X 3 0 = X 0 1 := rfl
  have e4 : mT X 4 i.toNat = X 4 i.toNat := rfl
  unfold sgF
  rw [e3, e4, if_neg (by omega), if_pos h1, if_pos (by omega)]
theorem sgM_out {X : dp_V} {i : Int} (h0 : 0 ≤ i) (h1 : X 0 1 ≤ i) : sgF (mT X) i = 0 := by
  have e3 : mT X 3 0 = X 0 1 := rfl
  unfold sgF
  rw [e3, if_neg (by omega), if_neg (by omega)]
theorem rpG_end {T : dp_V} {s : Int} {n : Nat} {d v : Int} (h : ¬ (48 ≤ sgF T (s + 1 + d) ∧ sgF T (s + 1 + d) ≤ 57)) : rpG T s n d v = (d, v) := by
  cases n with
  | zero => rfl
  | succ n => exact if_neg h
theorem rpG_go {T : dp_V} {s : Int} {n : Nat} {d v : Int} (h : 48 ≤ sgF T (s + 1 + d) ∧ sgF T (s + 1 + d) ≤ 57) : rpG T s (n + 1) d v = rpG T s n (d + 1) (v * 10 + (sgF T (s + 1 + d) - 48)) := if_pos h
theorem u2_5 {X : dp_V} {x y : Int} : u2 (u2 X 0 5 x) 0 5 y = u2 X 0 5 y := by
  funext c k
  simp only [u2_ap]
  split <;> (try split) <;> rfl
/-- a part read -/
def ipX (X : dp_V) (q : Nat) : dp_V := if sgF (mT X) (X 0 5) = dp_pl q then u2 (u2 X 0 5 (X 0 5 + 1 + (rpG (mT X) (X 0 5) 5 0 0).1)) 5 q (rpG (mT X) (X 0 5) 5 0 0).2 else X
/-- was the part read -/
def ipB (X : dp_V) (q : Nat) : Int := dp_b (¬ rpR (mT X) (X 0 5) q = -1)
theorem yyX7_isPart : yX7_isPart.cls = RX7 ∧ yX7_isPart.cls ≠ "java/lang/invoke/MethodHandle" ∧ yX7_isPart.cls ≠ "java/lang/invoke/VarHandle" ∧ (parseMethodDescriptor yX7_isPart.desc).map (fun d => d.parameters.length) = some 2 := by decide +kernel
set_option maxHeartbeats 4000000 in
set_option maxRecDepth 100000 in
theorem c_X7_isPart {E : dp_E} (hE : dp_OK E) (l : Launch) {M : dp_M} {V X : dp_V} (hT : tOK (mT X)) (hat : 0 ≤ X 0 5 ∧ X 0 5 ≤ X 0 1) {q : Nat} (hq : q < 6) : dp_met E l yX7_isPart wsX7_isPart 1 22 [.ref (eAd E 8 0), .int (dp_I (dp_pl q)), .int (dp_I (q : Int))] (dN M V X) (dp_qi E (fun y M1 => y = ipB X q ∧ M1 = dN M V (ipX X q))) := by
  refine dp_of (cc := cX7_isPart) (nL := 5) (own := RX7) (ret := some (.boolean)) (by decide +kernel) rfl rfl hE (by simp [Value.category]) (Nat.le_of_ble_eq_true rfl) ?_
  intro p e s m below meth co C hret
  show dp_G _ _ _ _ _ _ _ _ _ _ _ _ _ _ _ _ _ [some (.ref (eAd E 8 0)), some (.int (dp_I (dp_pl q))), some (.int (dp_I (q : Int))), none, none] _
  have hX7 : ∀ w ∈ u_ws RX7 TX7 12, w ∈ wsX7_isPart := fun w h => List.mem_cons_of_mem _ (List.mem_append_right _ (h))
  have hl := @dp_pl_bd q
  have h31 : 0 ≤ X 0 1 ∧ X 0 1 ≤ 100 := ⟨hT.1, hT.2.1⟩
  have hch : ∀ j : Nat, j < 100 → 0 ≤ X 4 j ∧ X 4 j ≤ 126 := fun j hj => hT.2.2 j hj
  have hc5 : X 0 5 < X 0 1 → 0 ≤ X 4 (X 0 5).toNat ∧ X 4 (X 0 5).toNat ≤ 126 := fun q9 => hch _ (by omega)
  have J117 : ∀ (d v a : Int), a = X 0 5 + 1 + d → 0 ≤ d → d ≤ 5 → rpG (mT X) (X 0 5) 5 0 0 = (d, v) → sgF (mT X) (X 0 5) = dp_pl q → dp_G E (dp_A E) p l e (dp_rm 1 22) s m [.ref (eAd E 8 0), .int (dp_I (dp_pl q)), .int (dp_I (q : Int))].toArray below meth co 0 0 (MQ below (dp_qi E (fun y M1 => y = ipB X q ∧ M1 = dN M V (ipX X q))) [.ref (eAd E 8 0), .int (dp_I (dp_pl q)), .int (dp_I (q : Int))].toArray s 0 0 (dp_A E)) (dN M V (u2 X 0 5 a)) 117 [some (.ref (eAd E 8 0)), some (.int (dp_I (dp_pl q))), some (.int (dp_I (q : Int))), some (.int (dp_I (X 0 5 + 1))), some (.int (dp_I v))] [] := by
    intro d v a ha hd0 hd5 hr hs
    refine dp_aload_n C dX7_isPart_117 rfl ?_
    refine dp_getf C (k := 10) (dp_mM (by decide)) dp_xmo rfl hX7 (by decide) (List.mem_of_getElem? (i := 4) rfl) rfl dX7_isPart_118 ?_
    refine dp_iload_n C dX7_isPart_121 rfl ?_
    refine dp_iload C dX7_isPart_122 rfl ?_
    refine dp_ast_mp C (j := q) ⟨by omega, by omega⟩ (Int.toNat_natCast _) dX7_isPart_124 ?_
    refine dp_aload_n C dX7_isPart_125 rfl ?_
    refine dp_getf C (k := 9) (dp_mM (by decide)) dp_xmo rfl hX7 (by decide) (List.mem_of_getElem? (i := 1) rfl) rfl dX7_isPart_126 ?_
    rw [u2_ne (show 0 ≠ 5 by decide), u2_same, u1_same]
    refine dp_iload_n C dX7_isPart_129 rfl ?_
    refine dp_icmp_le (tgt := 137) C dX7_isPart_130 (by decide) ⟨by omega, by omega⟩ ⟨by omega, by omega⟩ (fun c130 => ?_) (fun c130 => ?_)
    · skip
      refine dp_iconst C dX7_isPart_137 ?_
      refine dp_zret C hret (by first | decide | exact dp_nb) dX7_isPart_138 ?_
      have hr : ipB X q = dp_b (¬ d = 0) := by
        unfold ipB rpR
        rw [hr, if_pos hs]
        refine dp_bc ?_
        split <;> omega
      rw [hr]
      refine ⟨by first | exact (dp_b_t (by omega)).symm | exact (dp_b_f (by omega)).symm, ?_⟩
      unfold ipX
      rw [if_pos hs, ‹rpG (mT X) (X 0 5) 5 0 0 = (d, v)›, ha]
    · skip
      refine dp_iconst C dX7_isPart_133 ?_
      refine dp_goto (tgt := 138) C dX7_isPart_134 (by decide) ?_
      refine dp_zret C hret (by first | decide | exact dp_nb) dX7_isPart_138 ?_
      have hr : ipB X q = dp_b (¬ d = 0) := by
        unfold ipB rpR
        rw [hr, if_pos hs]
        refine dp_bc ?_
        split <;> omega
      rw [hr]
      refine ⟨by first | exact (dp_b_t (by omega)).symm | exact (dp_b_f (by omega)).symm, ?_⟩
      unfold ipX
      rw [if_pos hs, ‹rpG (mT X) (X 0 5) 5 0 0 = (d, v)›, ha]
  have J44 : ∀ (n : Nat) (d v a : Int), d + n = 5 → a = X 0 5 + 1 + d → 0 ≤ d → a ≤ X 0 1 → rpG (mT X) (X 0 5) n d v = rpG (mT X) (X 0 5) 5 0 0 → sgF (mT X) (X 0 5) = dp_pl q → dp_G E (dp_A E) p l e (dp_rm 1 22) s m [.ref (eAd E 8 0), .int (dp_I (dp_pl q)), .int (dp_I (q : Int))].toArray below meth co 0 0 (MQ below (dp_qi E (fun y M1 => y = ipB X q ∧ M1 = dN M V (ipX X q))) [.ref (eAd E 8 0), .int (dp_I (dp_pl q)), .int (dp_I (q : Int))].toArray s 0 0 (dp_A E)) (dN M V (u2 X 0 5 a)) 44 [some (.ref (eAd E 8 0)), some (.int (dp_I (dp_pl q))), some (.int (dp_I (q : Int))), some (.int (dp_I (X 0 5 + 1))), some (.int (dp_I v))] [] := by
    refine dp_ind (fun n ih => ?_)
    intro d v a hdn ha hd0 hla hf hs
    have ha0 : 0 ≤ a := by omega
    refine dp_aload_n C dX7_isPart_44 rfl ?_
    refine dp_getf C (k := 9) (dp_mM (by decide)) dp_xmo rfl hX7 (by decide) (List.mem_of_getElem? (i := 1) rfl) rfl dX7_isPart_45 ?_
    rw [u2_same, u1_same]
    refine dp_aload_n C dX7_isPart_48 rfl ?_
    refine dp_getf C (k := 5) (dp_mM (by decide)) dp_xmo rfl hX7 (by decide) (List.mem_of_getElem? (i := 2) rfl) rfl dX7_isPart_49 ?_
    rw [u2_same, u1_ne (by decide)]
    refine dp_icmp_ge (tgt := 117) C dX7_isPart_52 (by decide) ⟨by omega, by omega⟩ ⟨by omega, by omega⟩ (fun c52 => ?_) (fun c52 => ?_)
    · skip
      have he9 : rpG (mT X) (X 0 5) n d v = (d, v) := rpG_end (by rw [← ha, sgM_out (by omega) (by omega)]; decide)
      exact J117 d v a ha hd0 (by omega) (by rw [← hf]; exact he9) hs
    · skip
      refine dp_aload_n C dX7_isPart_55 rfl ?_
      refine dp_getf C (k := 9) (dp_mM (by decide)) dp_xmo rfl hX7 (by decide) (List.mem_of_getElem? (i := 1) rfl) rfl dX7_isPart_56 ?_
      rw [u2_same, u1_same]
      refine dp_iload_n C dX7_isPart_59 rfl ?_
      refine dp_isub C dX7_isPart_60 ?_
      refine dp_iconst C dX7_isPart_61 ?_
      refine dp_icmp_ge (tgt := 117) C dX7_isPart_62 (by decide) ⟨by omega, by omega⟩ ⟨by omega, by omega⟩ (fun c62 => ?_) (fun c62 => ?_)
      · skip
        obtain rfl : n = 0 := by omega
        have he9 : rpG (mT X) (X 0 5) 0 d v = (d, v) := rfl
        exact J117 d v a ha hd0 (by omega) (by rw [← hf]; exact he9) hs
      · skip
        obtain ⟨n, rfl⟩ : ∃ n', n = n' + 1 := ⟨n - 1, by omega⟩
        have hga := sgM (X := X) (i := a) (by omega) (by omega) (by omega)
        have hca := hch a.toNat (by omega)
        refine dp_aload_n C dX7_isPart_65 rfl ?_
        refine dp_getf C (k := 4) (dp_mM (by decide)) dp_xmo rfl hX7 (by decide) (List.mem_of_getElem? (i := 3) rfl) rfl dX7_isPart_66 ?_
        refine dp_aload_n C dX7_isPart_69 rfl ?_
        refine dp_getf C (k := 9) (dp_mM (by decide)) dp_xmo rfl hX7 (by decide) (List.mem_of_getElem? (i := 1) rfl) rfl dX7_isPart_70 ?_
        rw [u2_same, u1_same]
        refine dp_ald_mt C (j := a.toNat) ⟨by omega, by omega⟩ rfl dX7_isPart_73 ?_
        rw [u2_ne (show 4 ≠ 0 by decide)]
        refine dp_bipush C dX7_isPart_74 (by decide) ?_
        refine dp_bipush C dX7_isPart_76 (by decide) ?_
        refine dp_cSi C (c_X7_in C.2.2.1 l ⟨by omega, by omega⟩ ⟨by omega, by omega⟩ ⟨by omega, by omega⟩) gX7_isPart_X7_in rfl yyX7_in rfl ⟨Nat.le_of_ble_eq_true rfl, Nat.le_of_ble_eq_true rfl⟩ rfl (Nat.le_of_ble_eq_true rfl) rfl ⟨Nat.zero_le _, Nat.zero_le _⟩ dX7_isPart_78 (fun x78 M78 h78 => ?_)
        obtain ⟨rfl, rfl⟩ := h78
        refine dp_ifz_eq (tgt := 117) C dX7_isPart_81 (by decide) (fun c81 => ?_) (fun c81 => ?_)
        · skip
          have he9 : rpG (mT X) (X 0 5) (n + 1) d v = (d, v) := rpG_end (by rw [← ha, hga]; exact c81)
          exact J117 d v a ha hd0 (by omega) (by rw [← hf]; exact he9) hs
        · skip
          have hg := rpG_go (T := mT X) (s := X 0 5) (n := n) (d := d) (v := v) (by rw [← ha, hga]; exact c81)
          rw [← ha, hga] at hg
          refine dp_bipush C dX7_isPart_84 (by decide) ?_
          refine dp_iload C dX7_isPart_86 rfl ?_
          refine dp_imul C dX7_isPart_88 ?_
          refine dp_aload_n C dX7_isPart_89 rfl ?_
          refine dp_getf C (k := 4) (dp_mM (by decide)) dp_xmo rfl hX7 (by decide) (List.mem_of_getElem? (i := 3) rfl) rfl dX7_isPart_90 ?_
          refine dp_aload_n C dX7_isPart_93 rfl ?_
          refine dp_getf C (k := 9) (dp_mM (by decide)) dp_xmo rfl hX7 (by decide) (List.mem_of_getElem? (i := 1) rfl) rfl dX7_isPart_94 ?_
          rw [u2_same, u1_same]
          refine dp_ald_mt C (j := a.toNat) ⟨by omega, by omega⟩ rfl dX7_isPart_97 ?_
          rw [u2_ne (show 4 ≠ 0 by decide)]
          refine dp_iadd C dX7_isPart_98 ?_
          refine dp_bipush C dX7_isPart_99 (by decide) ?_
          refine dp_isub C dX7_isPart_101 ?_
          refine dp_istore C dX7_isPart_102 (Nat.le_of_ble_eq_true rfl) ?_
          dsimp only [List.set]
          refine dp_aload_n C dX7_isPart_104 rfl ?_
          refine dp_dup C dX7_isPart_105 rfl ?_
          refine dp_getf C (k := 9) (dp_mM (by decide)) dp_xmo rfl hX7 (by decide) (List.mem_of_getElem? (i := 1) rfl) rfl dX7_isPart_106 ?_
          rw [u2_same, u1_same]
          refine dp_iconst C dX7_isPart_109 ?_
          refine dp_iadd C dX7_isPart_110 ?_
          refine dp_putM C  (k := 5) hX7 (by decide) (List.mem_of_getElem? (i := 1) rfl) rfl (tyX7_ok _ (by decide)) rfl rfl dX7_isPart_111 ?_
          refine dp_goto (tgt := 44) C dX7_isPart_114 (by decide) ?_
          rw [u2_5]
          exact ih n (by omega) (d + 1) _ _ (by omega) (by omega) (by omega) (by omega) (by rw [← hf, hg]; congr 1; omega) hs
  refine dp_aload_n C dX7_isPart_0 rfl ?_
  refine dp_getf C (k := 9) (dp_mM (by decide)) dp_xmo rfl hX7 (by decide) (List.mem_of_getElem? (i := 1) rfl) rfl dX7_isPart_1 ?_
  refine dp_aload_n C dX7_isPart_4 rfl ?_
  refine dp_getf C (k := 5) (dp_mM (by decide)) dp_xmo rfl hX7 (by decide) (List.mem_of_getElem? (i := 2) rfl) rfl dX7_isPart_5 ?_
  refine dp_icmp_eq (tgt := 24) C dX7_isPart_8 (by decide) ⟨by omega, by omega⟩ ⟨by omega, by omega⟩ (fun c8 => ?_) (fun c8 => ?_)
  · skip
    have hs : sgF (mT X) (X 0 5) = 0 := sgM_out (by omega) (by omega)
    refine dp_iconst C dX7_isPart_24 ?_
    refine dp_zret C hret (by first | decide | exact dp_nb) dX7_isPart_25 ?_
    have hn : ¬ sgF (mT X) (X 0 5) = dp_pl q := by first | omega | (rw [hs]; assumption)
    unfold ipB rpR ipX
    rw [if_neg hn, if_neg hn]
    exact ⟨rfl, rfl⟩
  · skip
    have hs := sgM (X := X) (i := X 0 5) (by omega) (by omega) (by omega)
    have hc5b := hc5 (by omega)
    refine dp_aload_n C dX7_isPart_11 rfl ?_
    refine dp_getf C (k := 4) (dp_mM (by decide)) dp_xmo rfl hX7 (by decide) (List.mem_of_getElem? (i := 3) rfl) rfl dX7_isPart_12 ?_
    refine dp_aload_n C dX7_isPart_15 rfl ?_
    refine dp_getf C (k := 9) (dp_mM (by decide)) dp_xmo rfl hX7 (by decide) (List.mem_of_getElem? (i := 1) rfl) rfl dX7_isPart_16 ?_
    refine dp_ald_mt C (j := (X 0 5).toNat) ⟨by omega, by omega⟩ rfl dX7_isPart_19 ?_
    refine dp_iload_n C dX7_isPart_20 rfl ?_
    refine dp_icmp_eq (tgt := 26) C dX7_isPart_21 (by decide) ⟨by omega, by omega⟩ ⟨by omega, by omega⟩ (fun c21 => ?_) (fun c21 => ?_)
    · skip
      refine dp_aload_n C dX7_isPart_26 rfl ?_
      refine dp_dup C dX7_isPart_27 rfl ?_
      refine dp_getf C (k := 9) (dp_mM (by decide)) dp_xmo rfl hX7 (by decide) (List.mem_of_getElem? (i := 1) rfl) rfl dX7_isPart_28 ?_
      refine dp_iconst C dX7_isPart_31 ?_
      refine dp_iadd C dX7_isPart_32 ?_
      refine dp_putM C  (k := 5) hX7 (by decide) (List.mem_of_getElem? (i := 1) rfl) rfl (tyX7_ok _ (by decide)) rfl rfl dX7_isPart_33 ?_
      refine dp_aload_n C dX7_isPart_36 rfl ?_
      refine dp_getf C (k := 9) (dp_mM (by decide)) dp_xmo rfl hX7 (by decide) (List.mem_of_getElem? (i := 1) rfl) rfl dX7_isPart_37 ?_
      refine dp_istore_n C dX7_isPart_40 (Nat.le_of_ble_eq_true rfl) ?_
      dsimp only [List.set]
      refine dp_iconst C dX7_isPart_41 ?_
      refine dp_istore C dX7_isPart_42 (Nat.le_of_ble_eq_true rfl) ?_
      dsimp only [List.set]
      exact J44 5 0 0 _ (by omega) (by omega) (by omega) (by omega) rfl (by rw [sgM (by omega) (by omega) (by omega)]; assumption)
    · skip
      refine dp_iconst C dX7_isPart_24 ?_
      refine dp_zret C hret (by first | decide | exact dp_nb) dX7_isPart_25 ?_
      have hn : ¬ sgF (mT X) (X 0 5) = dp_pl q := by first | omega | (rw [hs]; assumption)
      unfold ipB rpR ipX
      rw [if_neg hn, if_neg hn]
      exact ⟨rfl, rfl⟩
