theorem yyL_acts : yL_acts.cls ≠ "java/lang/invoke/MethodHandle" ∧ yL_acts.cls ≠ "java/lang/invoke/VarHandle" ∧ (parseMethodDescriptor yL_acts.desc).map (fun d => d.parameters.length) = some 4 := by decide +kernel
set_option maxHeartbeats 4000000 in
set_option maxRecDepth 100000 in
theorem c_L_acts {E : dp_E} (hE : dp_OK E) (l : Launch) {M : dp_M} {V X : dp_V} {N : Nat} (hI0 : iC M V N) {z : Int} (hz : dp_R z) : dp_met E l yL_acts wsL_acts 8 207 [.ref (eAd E 7 0), .ref (eAd E 8 0), .ref (eAd E 8 1), .int (dp_I z)] (dN M V X) (dp_qi E (fun y M1 => y = 1 ∧ ∃ M2 V2 X2 N2, M1 = dN M2 V2 X2 ∧ iC M2 V2 N2)) := by
  refine dp_of (cc := cL_acts) (nL := 23) (own := RL) (ret := some (.boolean)) (by decide +kernel) rfl rfl hE (by simp [Value.category]) (Nat.le_of_ble_eq_true rfl) ?_
  intro p e s m below meth co C hret
  show dp_G _ _ _ _ _ _ _ _ _ _ _ _ _ _ _ _ _ [some (.ref (eAd E 7 0)), some (.ref (eAd E 8 0)), some (.ref (eAd E 8 1)), some (.int (dp_I z)), none, none, none, none, none, none, none, none, none, none, none, none, none, none, none, none, none, none, none] _
  have hm := hI0.m
  have hq := hI0.q
  have hs9 := hI0.s
  have h4 : N ≤ 4 := hI0.2.2.2.2.2.1
  have hN : V 0 3 = (N : Int) := hm.1
  have hT := hm.2.2.2
  have h0 := hs9.1
  have h1 := hs9.2.1
  have ho : 0 ≤ V 1 0 ∧ V 1 0 ≤ 500 := by omega
  have hA3 := hs9.2.2.2.1
  have hA4 := hs9.2.2.2.2
  have hAx : ∀ a, a < 2 → ivA (a + 3) (V (a + 3)) := fun a ha => by
    rcases (by omega : a = 0 ∨ a = 1) with rfl | rfl
    · exact hA3
    · exact hA4
  have J639 : ∀ (n j k : Nat) (v ii : Int) (V' : dp_V), 14 * k + j + n = 42 → ii = 14 * (k : Int) + (j : Int) → k < N → ¬ V (k + 6) 6 = 1 → (∀ c, c < 6 → V' c = V c) → (∀ t kk : Nat, kk < 14 → (14 * k ≤ 14 * t + kk ∧ 14 * t + kk < 14 * k + j → V' (t + 6) kk = V (t + 7) kk) ∧ (¬ (14 * k ≤ 14 * t + kk ∧ 14 * t + kk < 14 * k + j) → V' (t + 6) kk = V (t + 6) kk)) → dp_G E (dp_A E) p l e (dp_rm 8 207) s m [.ref (eAd E 7 0), .ref (eAd E 8 0), .ref (eAd E 8 1), .int (dp_I z)].toArray below meth co 0 0 (MQ below (dp_qi E (fun y M1 => y = 1 ∧ ∃ M2 V2 X2 N2, M1 = dN M2 V2 X2 ∧ iC M2 V2 N2)) [.ref (eAd E 7 0), .ref (eAd E 8 0), .ref (eAd E 8 1), .int (dp_I z)].toArray s 0 0 (dp_A E)) (dN M V' X) 639 [some (.ref (eAd E 7 0)), some (.ref (eAd E 8 0)), some (.ref (eAd E 8 1)), some (.int (dp_I z)), some (.int (dp_I v)), some (.int (dp_I ((N : Int)))), none, none, none, none, none, none, none, none, none, none, none, none, none, some (.int (dp_I ((k : Int)))), some (.int (dp_I ii)), none, none] [] := by
    refine dp_ind (fun n ih => ?_)
    intro j k v ii V' hkn hii hkN hk1 hlo hsh
    refine dp_iload C dL_acts_639 rfl ?_
    refine dp_bipush C dL_acts_641 (by decide) ?_
    refine dp_iadd C dL_acts_643 ?_
    refine dp_bipush C dL_acts_644 (by decide) ?_
    refine dp_icmp_ge (tgt := 666) C dL_acts_646 (by decide) ⟨by omega, by omega⟩ ⟨by omega, by omega⟩ (fun c646 => ?_) (fun c646 => ?_)
    · skip
      obtain rfl : n = 0 := by omega
      refine dp_aload_n C dL_acts_666 rfl ?_
      refine dp_bipush C dL_acts_667 (by decide) ?_
      refine dp_dup2 C dL_acts_669 rfl rfl ?_
      refine dp_ald_g C 7 (c9 := 0) (k9 := 3) (by omega) (by decide) rfl rfl dL_acts_670 ?_
      rw [hlo 0 (by decide), hN]
      refine dp_iconst C dL_acts_671 ?_
      refine dp_isub C dL_acts_672 ?_
      refine dp_ast_g C 7 (c9 := 0) (k9 := 3) (by omega) (by decide) rfl rfl dL_acts_673 ?_
      refine dp_aload_n C dL_acts_674 rfl ?_
      refine dp_iload C dL_acts_675 rfl ?_
      refine dp_cVi C (w_drop C.2.2.1 l hI0 (x := (k : Int)) ⟨by omega, by omega⟩) gL_acts_X6_drop rfl (dp_mC (by decide)) dp_xdp rfl yyX6_drop rfl ⟨Nat.le_of_ble_eq_true rfl, Nat.le_of_ble_eq_true rfl⟩ rfl (Nat.le_of_ble_eq_true rfl) rfl ⟨Nat.zero_le _, Nat.zero_le _⟩ dL_acts_677 (fun x677 M677 h677 => ?_)
      have h677b := Or.resolve_left h677 (fun w => w.1 ⟨by omega, by omega⟩)
      obtain ⟨_, _, rfl, M2, rfl, hI⟩ := Or.resolve_left h677b (fun w => hk1 (by have w2 := w.2.1; rw [Int.toNat_natCast] at w2; exact w2))
      rw [Int.toNat_natCast] at hI
      refine dp_iload C dL_acts_680 rfl ?_
      refine dp_iconst C dL_acts_682 ?_
      refine dp_isub C dL_acts_683 ?_
      refine dp_icmp_same (tgt := 691) C rfl (by decide) dL_acts_684 ?_
      refine dp_iconst C dL_acts_687 ?_
      refine dp_goto (tgt := 692) C dL_acts_688 (by decide) ?_
      refine dp_zret C hret (by first | decide | exact dp_nb) dL_acts_692 ?_
      refine ⟨rfl, M2, _, _, N - 1, rfl, hI.ex (fun c hc => ?_) (fun t kk ht hkk => ?_)⟩
      · funext kk
        have e : rmM V N k c kk = u2 V 0 3 ((N : Int) - 1) c kk := if_neg (by omega)
        rw [e, u2_ap, u2_ap, hlo c hc]
      · rw [u2_ne (by omega)]
        have h9 := hsh t kk hkk
        by_cases z : k ≤ t
        · rw [h9.1 (by omega)]
          exact (if_pos (by omega)).symm
        · rw [h9.2 (by omega)]
          have e : rmM V N k (t + 6) kk = u2 V 0 3 ((N : Int) - 1) (t + 6) kk := if_neg (by omega)
          rw [e, u2_ne (by omega)]
    · skip
      obtain ⟨n, rfl⟩ : ∃ n', n = n' + 1 := ⟨n - 1, by omega⟩
      obtain ⟨t, r, htr, hr14⟩ : ∃ t r : Nat, 14 * k + j = 14 * t + r ∧ r < 14 := ⟨(14 * k + j) / 14, (14 * k + j) % 14, by omega, by omega⟩
      refine dp_aload_n C dL_acts_649 rfl ?_
      refine dp_iload C dL_acts_650 rfl ?_
      refine dp_aload_n C dL_acts_652 rfl ?_
      refine dp_iload C dL_acts_653 rfl ?_
      refine dp_bipush C dL_acts_655 (by decide) ?_
      refine dp_iadd C dL_acts_657 ?_
      refine dp_ald_q C (t + 1) r (by omega) (by omega) (by omega) dL_acts_658 ?_
      refine dp_ast_q C t r (by omega) (by omega) (by omega) dL_acts_659 ?_
      refine dp_iinc C dL_acts_660 rfl ?_
      dsimp only [List.set]
      refine dp_goto (tgt := 639) C dL_acts_663 (by decide) ?_
      refine ih n (by omega) (j + 1) k _ _ _ (by omega) (by omega) hkN hk1 (fun c hc => ?_) (fun t9 kk hkk => ?_)
      · rw [u2_ne (by omega)]; exact hlo c hc
      · by_cases e : t9 = t ∧ kk = r
        · obtain ⟨rfl, rfl⟩ := e
          rw [u2_same, u1_same]
          refine ⟨fun _ => ?_, fun q => by omega⟩
          rw [show V' (t9 + 1 + 6) kk = V (t9 + 1 + 6) kk from (hsh (t9 + 1) kk hkk).2 (by omega)]
        · have e2 : u2 V' (t + 6) r (V' (t + 1 + 6) r) (t9 + 6) kk = V' (t9 + 6) kk := by
            rw [u2_ap]
            by_cases z : t9 + 6 = t + 6
            · rw [if_pos z, if_neg (fun w => e ⟨by omega, w⟩), z]
            · rw [if_neg z]
          rw [e2]
          have h9 := hsh t9 kk hkk
          exact ⟨fun q => h9.1 (by omega), fun q => h9.2 (by omega)⟩
  have J809 : ∀ (n j : Nat) (v ji : Int) (V' : dp_V), j + n = 14 → ji = j → 0 ≤ v → v < 10000000 → N < 4 → V' = uc V (N + 6) (zf (V (N + 6)) j) → dp_G E (dp_A E) p l e (dp_rm 8 207) s m [.ref (eAd E 7 0), .ref (eAd E 8 0), .ref (eAd E 8 1), .int (dp_I z)].toArray below meth co 0 0 (MQ below (dp_qi E (fun y M1 => y = 1 ∧ ∃ M2 V2 X2 N2, M1 = dN M2 V2 X2 ∧ iC M2 V2 N2)) [.ref (eAd E 7 0), .ref (eAd E 8 0), .ref (eAd E 8 1), .int (dp_I z)].toArray s 0 0 (dp_A E)) (dN M V' X) 809 [some (.ref (eAd E 7 0)), some (.ref (eAd E 8 0)), some (.ref (eAd E 8 1)), some (.int (dp_I z)), some (.int (dp_I v)), some (.int (dp_I ((N : Int)))), none, none, none, none, none, none, none, none, none, none, none, none, none, none, none, some (.int (dp_I (14 * (N : Int)))), some (.int (dp_I ji))] [] := by
    refine dp_ind (fun n ih => ?_)
    intro j v ji V' hkn hji hv0 hv1 hN4 hV'
    refine dp_iload C dL_acts_809 rfl ?_
    refine dp_bipush C dL_acts_811 (by decide) ?_
    refine dp_icmp_ge (tgt := 830) C dL_acts_813 (by decide) ⟨by omega, by omega⟩ ⟨by omega, by omega⟩ (fun c813 => ?_) (fun c813 => ?_)
    · skip
      obtain rfl : n = 0 := by omega
      obtain rfl : j = 14 := by omega
      subst hV'
      refine dp_aload_n C dL_acts_830 rfl ?_
      refine dp_iload C dL_acts_831 rfl ?_
      refine dp_iload C dL_acts_833 rfl ?_
      refine dp_ldc C (36000) (List.mem_of_getElem? (i := 3) rfl) rfl dL_acts_835 ?_
      refine dp_irem C ⟨by omega, by omega, by omega, by omega⟩ dL_acts_837 ?_
      obtain ⟨a0, ha0, ha0l, ha0h⟩ : ∃ a0 : Int, v % 36000 = a0 ∧ 0 ≤ a0 ∧ a0 ≤ 35999 := ⟨_, rfl, by omega, by omega⟩
      rw [ha0]
      refine dp_ast_q C N 0 (by omega) (by omega) (by decide) dL_acts_838 ?_
      refine dp_aload_n C dL_acts_839 rfl ?_
      refine dp_iload C dL_acts_840 rfl ?_
      refine dp_iconst C dL_acts_842 ?_
      refine dp_iadd C dL_acts_843 ?_
      refine dp_sipush C dL_acts_844 (by decide) ?_
      refine dp_iload C dL_acts_847 rfl ?_
      refine dp_bipush C dL_acts_849 (by decide) ?_
      refine dp_idiv C ⟨by omega, by omega, by omega, by omega⟩ dL_acts_851 ?_
      refine dp_sipush C dL_acts_852 (by decide) ?_
      refine dp_irem C ⟨by omega, by omega, by omega, by omega⟩ dL_acts_855 ?_
      refine dp_iadd C dL_acts_856 ?_
      obtain ⟨a1, ha1, ha1l, ha1h⟩ : ∃ a1 : Int, 500 + v / 7 % 8001 = a1 ∧ 500 ≤ a1 ∧ a1 ≤ 8500 := ⟨_, rfl, by omega, by omega⟩
      rw [ha1]
      refine dp_ast_q C N 1 (by omega) (by omega) (by decide) dL_acts_857 ?_
      refine dp_aload_n C dL_acts_858 rfl ?_
      refine dp_iload C dL_acts_859 rfl ?_
      refine dp_iconst C dL_acts_861 ?_
      refine dp_iadd C dL_acts_862 ?_
      refine dp_aload_n C dL_acts_863 rfl ?_
      refine dp_iconst C dL_acts_864 ?_
      refine dp_ald_g C 4 (c9 := 0) (k9 := 0) (by omega) (by decide) rfl rfl dL_acts_865 ?_
      rw [u2_ne (show 0 ≠ N + 6 by omega), u2_ne (show 0 ≠ N + 6 by omega), uc_ne (show 0 ≠ N + 6 by omega)]
      refine dp_iload C dL_acts_866 rfl ?_
      refine dp_bipush C dL_acts_868 (by decide) ?_
      refine dp_idiv C ⟨by omega, by omega, by omega, by omega⟩ dL_acts_870 ?_
      refine dp_sipush C dL_acts_871 (by decide) ?_
      refine dp_irem C ⟨by omega, by omega, by omega, by omega⟩ dL_acts_874 ?_
      refine dp_iadd C dL_acts_875 ?_
      refine dp_ldc C (43200) (List.mem_of_getElem? (i := 6) rfl) rfl dL_acts_876 ?_
      refine dp_irem C ⟨by omega, by omega, by omega, by omega⟩ dL_acts_878 ?_
      obtain ⟨a2, ha2, ha2l, ha2h⟩ : ∃ a2 : Int, (V 0 0 + v / 11 % 300) % 43200 = a2 ∧ 0 ≤ a2 ∧ a2 ≤ 43199 := ⟨_, rfl, by omega, by omega⟩
      rw [ha2]
      refine dp_ast_q C N 2 (by omega) (by omega) (by decide) dL_acts_879 ?_
      refine dp_aload_n C dL_acts_880 rfl ?_
      refine dp_iload C dL_acts_881 rfl ?_
      refine dp_iconst C dL_acts_883 ?_
      refine dp_iadd C dL_acts_884 ?_
      refine dp_aload_n C dL_acts_885 rfl ?_
      refine dp_iload C dL_acts_886 rfl ?_
      refine dp_iconst C dL_acts_888 ?_
      refine dp_iadd C dL_acts_889 ?_
      refine dp_ald_q C N 2 (by omega) (by omega) (by decide) dL_acts_890 ?_
      simp (decide := true) only [u2_same, u1, reduceIte]
      refine dp_iconst C dL_acts_891 ?_
      refine dp_iadd C dL_acts_892 ?_
      refine dp_iload C dL_acts_893 rfl ?_
      refine dp_bipush C dL_acts_895 (by decide) ?_
      refine dp_idiv C ⟨by omega, by omega, by omega, by omega⟩ dL_acts_897 ?_
      refine dp_sipush C dL_acts_898 (by decide) ?_
      refine dp_irem C ⟨by omega, by omega, by omega, by omega⟩ dL_acts_901 ?_
      obtain ⟨b3, hb3, hb3l, hb3h⟩ : ∃ b3 : Int, v / 13 % 900 = b3 ∧ 0 ≤ b3 ∧ b3 ≤ 899 := ⟨_, rfl, by omega, by omega⟩
      rw [hb3]
      refine dp_iadd C dL_acts_902 ?_
      refine dp_ast_q C N 3 (by omega) (by omega) (by decide) dL_acts_903 ?_
      refine dp_aload_n C dL_acts_904 rfl ?_
      refine dp_iload C dL_acts_905 rfl ?_
      refine dp_iconst C dL_acts_907 ?_
      refine dp_iadd C dL_acts_908 ?_
      refine dp_aload_n C dL_acts_909 rfl ?_
      refine dp_iload C dL_acts_910 rfl ?_
      refine dp_iconst C dL_acts_912 ?_
      refine dp_iadd C dL_acts_913 ?_
      refine dp_ald_q C N 3 (by omega) (by omega) (by decide) dL_acts_914 ?_
      simp (decide := true) only [u2_same, u1, reduceIte]
      refine dp_ldc C (43200) (List.mem_of_getElem? (i := 6) rfl) rfl dL_acts_915 ?_
      refine dp_icmp_le (tgt := 925) C dL_acts_917 (by decide) ⟨by omega, by omega⟩ ⟨by omega, by omega⟩ (fun c917 => ?_) (fun c917 => ?_)
      · skip
        obtain ⟨a3, ha3, a3l, a3h⟩ : ∃ a3 : Int, (a2 + 1 + b3) = a3 ∧ a2 < a3 ∧ a3 ≤ 43200 := ⟨_, rfl, by omega, by omega⟩
        rw [ha3]
        refine dp_aload_n C dL_acts_925 rfl ?_
        refine dp_iload C dL_acts_926 rfl ?_
        refine dp_iconst C dL_acts_928 ?_
        refine dp_iadd C dL_acts_929 ?_
        refine dp_ald_q C N 3 (by omega) (by omega) (by decide) dL_acts_930 ?_
        simp (decide := true) only [u2_same, u1, reduceIte]
        refine dp_ast_q C N 3 (by omega) (by omega) (by decide) dL_acts_931 ?_
        refine dp_aload_n C dL_acts_932 rfl ?_
        refine dp_iload C dL_acts_933 rfl ?_
        refine dp_iconst C dL_acts_935 ?_
        refine dp_iadd C dL_acts_936 ?_
        refine dp_iconst C dL_acts_937 ?_
        refine dp_iload C dL_acts_938 rfl ?_
        refine dp_iconst C dL_acts_940 ?_
        refine dp_idiv C ⟨by omega, by omega, by omega, by omega⟩ dL_acts_941 ?_
        refine dp_bipush C dL_acts_942 (by decide) ?_
        refine dp_irem C ⟨by omega, by omega, by omega, by omega⟩ dL_acts_944 ?_
        refine dp_iadd C dL_acts_945 ?_
        obtain ⟨a4, ha4, ha4l, ha4h⟩ : ∃ a4 : Int, 1 + v / 3 % 80 = a4 ∧ 1 ≤ a4 ∧ a4 ≤ 80 := ⟨_, rfl, by omega, by omega⟩
        rw [ha4]
        refine dp_ast_q C N 4 (by omega) (by omega) (by decide) dL_acts_946 ?_
        refine dp_aload_n C dL_acts_947 rfl ?_
        refine dp_iload C dL_acts_948 rfl ?_
        refine dp_iconst C dL_acts_950 ?_
        refine dp_iadd C dL_acts_951 ?_
        refine dp_iload C dL_acts_952 rfl ?_
        refine dp_bipush C dL_acts_954 (by decide) ?_
        refine dp_idiv C ⟨by omega, by omega, by omega, by omega⟩ dL_acts_956 ?_
        refine dp_iconst C dL_acts_957 ?_
        refine dp_irem C ⟨by omega, by omega, by omega, by omega⟩ dL_acts_958 ?_
        obtain ⟨a5, ha5, ha5l, ha5h⟩ : ∃ a5 : Int, v / 17 % 4 = a5 ∧ 0 ≤ a5 ∧ a5 ≤ 3 := ⟨_, rfl, by omega, by omega⟩
        rw [ha5]
        refine dp_ast_q C N 5 (by omega) (by omega) (by decide) dL_acts_959 ?_
        refine dp_aload_n C dL_acts_960 rfl ?_
        refine dp_bipush C dL_acts_961 (by decide) ?_
        refine dp_dup2 C dL_acts_963 rfl rfl ?_
        refine dp_ald_g C 7 (c9 := 0) (k9 := 3) (by omega) (by decide) rfl rfl dL_acts_964 ?_
        rw [u2_ne (show 0 ≠ N + 6 by omega), u2_ne (show 0 ≠ N + 6 by omega), u2_ne (show 0 ≠ N + 6 by omega), u2_ne (show 0 ≠ N + 6 by omega), u2_ne (show 0 ≠ N + 6 by omega), u2_ne (show 0 ≠ N + 6 by omega), u2_ne (show 0 ≠ N + 6 by omega), uc_ne (show 0 ≠ N + 6 by omega), hN]
        refine dp_iconst C dL_acts_965 ?_
        refine dp_iadd C dL_acts_966 ?_
        refine dp_ast_g C 7 (c9 := 0) (k9 := 3) (by omega) (by decide) rfl rfl dL_acts_967 ?_
        refine dp_aload_n C dL_acts_968 rfl ?_
        refine dp_aload_n C dL_acts_969 rfl ?_
        refine dp_iload C dL_acts_970 rfl ?_
        refine dp_ald_q C N 0 (by omega) (by omega) (by decide) dL_acts_972 ?_
        rw [u2_ne (show N + 6 ≠ 0 by omega)]
        simp (decide := true) only [u2_same, u1, reduceIte]
        refine dp_aload_n C dL_acts_973 rfl ?_
        refine dp_iload C dL_acts_974 rfl ?_
        refine dp_iconst C dL_acts_976 ?_
        refine dp_iadd C dL_acts_977 ?_
        refine dp_ald_q C N 1 (by omega) (by omega) (by decide) dL_acts_978 ?_
        rw [u2_ne (show N + 6 ≠ 0 by omega)]
        simp (decide := true) only [u2_same, u1, reduceIte]
        refine dp_aload_n C dL_acts_979 rfl ?_
        refine dp_iload C dL_acts_980 rfl ?_
        refine dp_iconst C dL_acts_982 ?_
        refine dp_iadd C dL_acts_983 ?_
        refine dp_ald_q C N 2 (by omega) (by omega) (by decide) dL_acts_984 ?_
        rw [u2_ne (show N + 6 ≠ 0 by omega)]
        simp (decide := true) only [u2_same, u1, reduceIte]
        refine dp_aload_n C dL_acts_985 rfl ?_
        refine dp_iload C dL_acts_986 rfl ?_
        refine dp_iconst C dL_acts_988 ?_
        refine dp_iadd C dL_acts_989 ?_
        refine dp_ald_q C N 3 (by omega) (by omega) (by decide) dL_acts_990 ?_
        rw [u2_ne (show N + 6 ≠ 0 by omega)]
        simp (decide := true) only [u2_same, u1, reduceIte]
        refine dp_aload_n C dL_acts_991 rfl ?_
        refine dp_iload C dL_acts_992 rfl ?_
        refine dp_iconst C dL_acts_994 ?_
        refine dp_iadd C dL_acts_995 ?_
        refine dp_ald_q C N 4 (by omega) (by omega) (by decide) dL_acts_996 ?_
        rw [u2_ne (show N + 6 ≠ 0 by omega)]
        simp (decide := true) only [u2_same, u1, reduceIte]
        refine dp_aload_n C dL_acts_997 rfl ?_
        refine dp_iload C dL_acts_998 rfl ?_
        refine dp_iconst C dL_acts_1000 ?_
        refine dp_iadd C dL_acts_1001 ?_
        refine dp_ald_q C N 5 (by omega) (by omega) (by decide) dL_acts_1002 ?_
        rw [u2_ne (show N + 6 ≠ 0 by omega)]
        simp (decide := true) only [u2_same, u1, reduceIte]
        refine dp_cVi C (w_add C.2.2.1 l hI0 hN4 (by unfold irF; rw [dp_b_t ⟨by omega, by omega, by omega, by omega, by omega, by omega, by omega, by omega, by omega, by omega, by omega, by omega, by omega⟩]; decide) ⟨by omega, by omega⟩ ⟨by omega, by omega⟩ ⟨by omega, by omega⟩ ⟨by omega, by omega⟩ ⟨by omega, by omega⟩ ⟨by omega, by omega⟩) gL_acts_X6_add rfl (dp_mC (by decide)) dp_xdp rfl yyX6_add rfl ⟨Nat.le_of_ble_eq_true rfl, Nat.le_of_ble_eq_true rfl⟩ rfl (Nat.le_of_ble_eq_true rfl) rfl ⟨Nat.zero_le _, Nat.zero_le _⟩ dL_acts_1003 (fun x1003 M1003 h1003 => ?_)
        obtain ⟨rfl, M2, rfl, hI⟩ := h1003
        refine dp_iload C dL_acts_1006 rfl ?_
        refine dp_icmp_same (tgt := 1015) C rfl (by decide) dL_acts_1008 ?_
        refine dp_iconst C dL_acts_1011 ?_
        refine dp_goto (tgt := 1016) C dL_acts_1012 (by decide) ?_
        refine dp_zret C hret (by first | decide | exact dp_nb) dL_acts_1016 ?_
        refine ⟨rfl, M2, _, _, N + 1, rfl, ?_⟩
        rw [u2_again, ← hN]
        exact hI
      · skip
        obtain ⟨a3, ha3, a3l, a3h⟩ : ∃ a3 : Int, (43200 : Int) = a3 ∧ a2 < a3 ∧ a3 ≤ 43200 := ⟨_, rfl, by omega, by omega⟩
        refine dp_ldc C (43200) (List.mem_of_getElem? (i := 6) rfl) rfl dL_acts_920 ?_
        refine dp_goto (tgt := 931) C dL_acts_922 (by decide) ?_
        refine dp_ast_q C N 3 (by omega) (by omega) (by decide) dL_acts_931 ?_
        refine dp_aload_n C dL_acts_932 rfl ?_
        refine dp_iload C dL_acts_933 rfl ?_
        refine dp_iconst C dL_acts_935 ?_
        refine dp_iadd C dL_acts_936 ?_
        refine dp_iconst C dL_acts_937 ?_
        refine dp_iload C dL_acts_938 rfl ?_
        refine dp_iconst C dL_acts_940 ?_
        refine dp_idiv C ⟨by omega, by omega, by omega, by omega⟩ dL_acts_941 ?_
        refine dp_bipush C dL_acts_942 (by decide) ?_
        refine dp_irem C ⟨by omega, by omega, by omega, by omega⟩ dL_acts_944 ?_
        refine dp_iadd C dL_acts_945 ?_
        obtain ⟨a4, ha4, ha4l, ha4h⟩ : ∃ a4 : Int, 1 + v / 3 % 80 = a4 ∧ 1 ≤ a4 ∧ a4 ≤ 80 := ⟨_, rfl, by omega, by omega⟩
        rw [ha4]
        refine dp_ast_q C N 4 (by omega) (by omega) (by decide) dL_acts_946 ?_
        refine dp_aload_n C dL_acts_947 rfl ?_
        refine dp_iload C dL_acts_948 rfl ?_
        refine dp_iconst C dL_acts_950 ?_
        refine dp_iadd C dL_acts_951 ?_
        refine dp_iload C dL_acts_952 rfl ?_
        refine dp_bipush C dL_acts_954 (by decide) ?_
        refine dp_idiv C ⟨by omega, by omega, by omega, by omega⟩ dL_acts_956 ?_
        refine dp_iconst C dL_acts_957 ?_
        refine dp_irem C ⟨by omega, by omega, by omega, by omega⟩ dL_acts_958 ?_
        obtain ⟨a5, ha5, ha5l, ha5h⟩ : ∃ a5 : Int, v / 17 % 4 = a5 ∧ 0 ≤ a5 ∧ a5 ≤ 3 := ⟨_, rfl, by omega, by omega⟩
        rw [ha5]
        refine dp_ast_q C N 5 (by omega) (by omega) (by decide) dL_acts_959 ?_
        refine dp_aload_n C dL_acts_960 rfl ?_
        refine dp_bipush C dL_acts_961 (by decide) ?_
        refine dp_dup2 C dL_acts_963 rfl rfl ?_
        refine dp_ald_g C 7 (c9 := 0) (k9 := 3) (by omega) (by decide) rfl rfl dL_acts_964 ?_
        rw [u2_ne (show 0 ≠ N + 6 by omega), u2_ne (show 0 ≠ N + 6 by omega), u2_ne (show 0 ≠ N + 6 by omega), u2_ne (show 0 ≠ N + 6 by omega), u2_ne (show 0 ≠ N + 6 by omega), u2_ne (show 0 ≠ N + 6 by omega), u2_ne (show 0 ≠ N + 6 by omega), uc_ne (show 0 ≠ N + 6 by omega), hN]
        refine dp_iconst C dL_acts_965 ?_
        refine dp_iadd C dL_acts_966 ?_
        refine dp_ast_g C 7 (c9 := 0) (k9 := 3) (by omega) (by decide) rfl rfl dL_acts_967 ?_
        refine dp_aload_n C dL_acts_968 rfl ?_
        refine dp_aload_n C dL_acts_969 rfl ?_
        refine dp_iload C dL_acts_970 rfl ?_
        refine dp_ald_q C N 0 (by omega) (by omega) (by decide) dL_acts_972 ?_
        rw [u2_ne (show N + 6 ≠ 0 by omega)]
        simp (decide := true) only [u2_same, u1, reduceIte]
        refine dp_aload_n C dL_acts_973 rfl ?_
        refine dp_iload C dL_acts_974 rfl ?_
        refine dp_iconst C dL_acts_976 ?_
        refine dp_iadd C dL_acts_977 ?_
        refine dp_ald_q C N 1 (by omega) (by omega) (by decide) dL_acts_978 ?_
        rw [u2_ne (show N + 6 ≠ 0 by omega)]
        simp (decide := true) only [u2_same, u1, reduceIte]
        refine dp_aload_n C dL_acts_979 rfl ?_
        refine dp_iload C dL_acts_980 rfl ?_
        refine dp_iconst C dL_acts_982 ?_
        refine dp_iadd C dL_acts_983 ?_
        refine dp_ald_q C N 2 (by omega) (by omega) (by decide) dL_acts_984 ?_
        rw [u2_ne (show N + 6 ≠ 0 by omega)]
        simp (decide := true) only [u2_same, u1, reduceIte]
        refine dp_aload_n C dL_acts_985 rfl ?_
        refine dp_iload C dL_acts_986 rfl ?_
        refine dp_iconst C dL_acts_988 ?_
        refine dp_iadd C dL_acts_989 ?_
        refine dp_ald_q C N 3 (by omega) (by omega) (by decide) dL_acts_990 ?_
        rw [u2_ne (show N + 6 ≠ 0 by omega)]
        simp (decide := true) only [u2_same, u1, reduceIte]
        refine dp_aload_n C dL_acts_991 rfl ?_
        refine dp_iload C dL_acts_992 rfl ?_
        refine dp_iconst C dL_acts_994 ?_
        refine dp_iadd C dL_acts_995 ?_
        refine dp_ald_q C N 4 (by omega) (by omega) (by decide) dL_acts_996 ?_
        rw [u2_ne (show N + 6 ≠ 0 by omega)]
        simp (decide := true) only [u2_same, u1, reduceIte]
        refine dp_aload_n C dL_acts_997 rfl ?_
        refine dp_iload C dL_acts_998 rfl ?_
        refine dp_iconst C dL_acts_1000 ?_
        refine dp_iadd C dL_acts_1001 ?_
        refine dp_ald_q C N 5 (by omega) (by omega) (by decide) dL_acts_1002 ?_
        rw [u2_ne (show N + 6 ≠ 0 by omega)]
        simp (decide := true) only [u2_same, u1, reduceIte]
        refine dp_cVi C (w_add C.2.2.1 l hI0 hN4 (by unfold irF; rw [dp_b_t ⟨by omega, by omega, by omega, by omega, by omega, by omega, by omega, by omega, by omega, by omega, by omega, by omega, by omega⟩]; decide) ⟨by omega, by omega⟩ ⟨by omega, by omega⟩ ⟨by omega, by omega⟩ ⟨by omega, by omega⟩ ⟨by omega, by omega⟩ ⟨by omega, by omega⟩) gL_acts_X6_add rfl (dp_mC (by decide)) dp_xdp rfl yyX6_add rfl ⟨Nat.le_of_ble_eq_true rfl, Nat.le_of_ble_eq_true rfl⟩ rfl (Nat.le_of_ble_eq_true rfl) rfl ⟨Nat.zero_le _, Nat.zero_le _⟩ dL_acts_1003 (fun x1003 M1003 h1003 => ?_)
        obtain ⟨rfl, M2, rfl, hI⟩ := h1003
        refine dp_iload C dL_acts_1006 rfl ?_
        refine dp_icmp_same (tgt := 1015) C rfl (by decide) dL_acts_1008 ?_
        refine dp_iconst C dL_acts_1011 ?_
        refine dp_goto (tgt := 1016) C dL_acts_1012 (by decide) ?_
        refine dp_zret C hret (by first | decide | exact dp_nb) dL_acts_1016 ?_
        refine ⟨rfl, M2, _, _, N + 1, rfl, ?_⟩
        rw [u2_again, ← hN]
        exact hI
    · skip
      obtain ⟨n, rfl⟩ : ∃ n', n = n' + 1 := ⟨n - 1, by omega⟩
      obtain rfl := hji
      subst hV'
      refine dp_aload_n C dL_acts_816 rfl ?_
      refine dp_iload C dL_acts_817 rfl ?_
      refine dp_iload C dL_acts_819 rfl ?_
      refine dp_iadd C dL_acts_821 ?_
      refine dp_iconst C dL_acts_822 ?_
      refine dp_ast_q C N j (by omega) (by omega) (by omega) dL_acts_823 ?_
      refine dp_iinc C dL_acts_824 rfl ?_
      dsimp only [List.set]
      refine dp_goto (tgt := 809) C dL_acts_827 (by decide) ?_
      exact ih n (by omega) (j + 1) _ _ _ (by omega) (by omega) hv0 hv1 hN4 zf_s
  have J96 : ∀ v : Int, 0 ≤ v → v < 10000000 → dp_G E (dp_A E) p l e (dp_rm 8 207) s m [.ref (eAd E 7 0), .ref (eAd E 8 0), .ref (eAd E 8 1), .int (dp_I z)].toArray below meth co 0 0 (MQ below (dp_qi E (fun y M1 => y = 1 ∧ ∃ M2 V2 X2 N2, M1 = dN M2 V2 X2 ∧ iC M2 V2 N2)) [.ref (eAd E 7 0), .ref (eAd E 8 0), .ref (eAd E 8 1), .int (dp_I z)].toArray s 0 0 (dp_A E)) (dN M V X) 96 [some (.ref (eAd E 7 0)), some (.ref (eAd E 8 0)), some (.ref (eAd E 8 1)), some (.int (dp_I z)), some (.int (dp_I v)), some (.int (dp_I ((N : Int)))), none, none, none, none, none, none, none, none, none, none, none, none, none, none, none, none, none] [] := by
    intro v hv0 hv1
    refine dp_iload C dL_acts_96 rfl ?_
    refine dp_iconst C dL_acts_98 ?_
    refine dp_irem C ⟨by omega, by omega, by omega, by omega⟩ dL_acts_99 ?_
    refine dp_istore C dL_acts_100 (Nat.le_of_ble_eq_true rfl) ?_
    dsimp only [List.set]
    refine dp_iload C dL_acts_102 rfl ?_
    refine dp_iconst C dL_acts_104 ?_
    refine dp_idiv C ⟨by omega, by omega, by omega, by omega⟩ dL_acts_105 ?_
    refine dp_iload C dL_acts_106 rfl ?_
    refine dp_if_ne (tgt := 117) C dL_acts_108 (by decide) ⟨by omega, by omega⟩ (fun c108 => ?_) (fun c108 => ?_)
    · skip
      
      refine dp_iload C dL_acts_117 rfl ?_
      refine dp_iconst C dL_acts_119 ?_
      refine dp_icmp_ne (tgt := 129) C dL_acts_120 (by decide) ⟨by omega, by omega⟩ ⟨by omega, by omega⟩ (fun c120 => ?_) (fun c120 => ?_)
      · skip
        obtain ⟨k, hk, hk2, hk4⟩ : ∃ k : Nat, v % 4 = k ∧ 2 ≤ k ∧ k < 4 := ⟨(v % 4).toNat, by omega, by omega, by omega⟩
        rw [hk]
        have hs9 : dp_sm k = 100 := by
          rcases (by omega : k = 2 ∨ k = 3) with rfl | rfl <;> rfl
        refine dp_bipush C dL_acts_129 (by decide) ?_
        refine dp_irem C ⟨by omega, by omega, by omega, by omega⟩ dL_acts_131 ?_
        refine dp_istore C dL_acts_132 (Nat.le_of_ble_eq_true rfl) ?_
        dsimp only [List.set]
        refine dp_aload_n C dL_acts_134 rfl ?_
        refine dp_iload C dL_acts_135 rfl ?_
        refine dp_ald_g C k (c9 := 1) (k9 := k) (by omega) (by omega) (dp_ceS (by omega)).1 (dp_ceS (by omega)).2 dL_acts_137 ?_
        refine dp_istore C dL_acts_138 (Nat.le_of_ble_eq_true rfl) ?_
        dsimp only [List.set]
        refine dp_aload_n C dL_acts_140 rfl ?_
        refine dp_iload C dL_acts_141 rfl ?_
        refine dp_iload C dL_acts_143 rfl ?_
        refine dp_ast_g C k (c9 := 1) (k9 := k) (by omega) (by omega) (dp_ceS (by omega)).1 (dp_ceS (by omega)).2 dL_acts_145 ?_
        refine dp_aload_n C dL_acts_146 rfl ?_
        refine dp_iload C dL_acts_147 rfl ?_
        refine dp_iload C dL_acts_149 rfl ?_
        refine dp_cVi C (w_set C.2.2.1 l hI0 (k := k) hk4 (by rw [hs9]; omega)) gL_acts_X6_set rfl (dp_mC (by decide)) dp_xdp rfl yyX6_set rfl ⟨Nat.le_of_ble_eq_true rfl, Nat.le_of_ble_eq_true rfl⟩ rfl (Nat.le_of_ble_eq_true rfl) rfl ⟨Nat.zero_le _, Nat.zero_le _⟩ dL_acts_151 (fun x151 M151 h151 => ?_)
        obtain ⟨rfl, M2, rfl, hI⟩ := h151
        refine dp_iload C dL_acts_154 rfl ?_
        refine dp_icmp_same (tgt := 163) C rfl (by decide) dL_acts_156 ?_
        refine dp_iconst C dL_acts_159 ?_
        refine dp_goto (tgt := 164) C dL_acts_160 (by decide) ?_
        refine dp_zret C hret (by first | decide | exact dp_nb) dL_acts_164 ?_
        exact ⟨rfl, _, _, _, _, rfl, hI⟩
      · skip
        have hk1 : v % 4 = 1 := c120
        rw [hk1]
        refine dp_sipush C dL_acts_123 (by decide) ?_
        refine dp_goto (tgt := 131) C dL_acts_126 (by decide) ?_
        refine dp_irem C ⟨by omega, by omega, by omega, by omega⟩ dL_acts_131 ?_
        refine dp_istore C dL_acts_132 (Nat.le_of_ble_eq_true rfl) ?_
        dsimp only [List.set]
        refine dp_aload_n C dL_acts_134 rfl ?_
        refine dp_iload C dL_acts_135 rfl ?_
        refine dp_ald_g C 1 (c9 := 1) (k9 := 1) (by omega) (by decide) rfl rfl dL_acts_137 ?_
        refine dp_istore C dL_acts_138 (Nat.le_of_ble_eq_true rfl) ?_
        dsimp only [List.set]
        refine dp_aload_n C dL_acts_140 rfl ?_
        refine dp_iload C dL_acts_141 rfl ?_
        refine dp_iload C dL_acts_143 rfl ?_
        refine dp_ast_g C 1 (c9 := 1) (k9 := 1) (by omega) (by decide) rfl rfl dL_acts_145 ?_
        refine dp_aload_n C dL_acts_146 rfl ?_
        refine dp_iload C dL_acts_147 rfl ?_
        refine dp_iload C dL_acts_149 rfl ?_
        refine dp_cVi C (w_set C.2.2.1 l hI0 (k := 1) (by decide) (show 0 ≤ _ ∧ _ ≤ (27000 : Int) by omega)) gL_acts_X6_set rfl (dp_mC (by decide)) dp_xdp rfl yyX6_set rfl ⟨Nat.le_of_ble_eq_true rfl, Nat.le_of_ble_eq_true rfl⟩ rfl (Nat.le_of_ble_eq_true rfl) rfl ⟨Nat.zero_le _, Nat.zero_le _⟩ dL_acts_151 (fun x151 M151 h151 => ?_)
        obtain ⟨rfl, M2, rfl, hI⟩ := h151
        refine dp_iload C dL_acts_154 rfl ?_
        refine dp_icmp_same (tgt := 163) C rfl (by decide) dL_acts_156 ?_
        refine dp_iconst C dL_acts_159 ?_
        refine dp_goto (tgt := 164) C dL_acts_160 (by decide) ?_
        refine dp_zret C hret (by first | decide | exact dp_nb) dL_acts_164 ?_
        exact ⟨rfl, _, _, _, _, rfl, hI⟩
    · skip
      have hk0 : v % 4 = 0 := c108
      rw [hk0]
      refine dp_sipush C dL_acts_111 (by decide) ?_
      refine dp_goto (tgt := 131) C dL_acts_114 (by decide) ?_
      refine dp_irem C ⟨by omega, by omega, by omega, by omega⟩ dL_acts_131 ?_
      refine dp_istore C dL_acts_132 (Nat.le_of_ble_eq_true rfl) ?_
      dsimp only [List.set]
      refine dp_aload_n C dL_acts_134 rfl ?_
      refine dp_iload C dL_acts_135 rfl ?_
      refine dp_ald_g C 0 (c9 := 1) (k9 := 0) (by omega) (by decide) rfl rfl dL_acts_137 ?_
      refine dp_istore C dL_acts_138 (Nat.le_of_ble_eq_true rfl) ?_
      dsimp only [List.set]
      refine dp_aload_n C dL_acts_140 rfl ?_
      refine dp_iload C dL_acts_141 rfl ?_
      refine dp_iload C dL_acts_143 rfl ?_
      refine dp_ast_g C 0 (c9 := 1) (k9 := 0) (by omega) (by decide) rfl rfl dL_acts_145 ?_
      refine dp_aload_n C dL_acts_146 rfl ?_
      refine dp_iload C dL_acts_147 rfl ?_
      refine dp_iload C dL_acts_149 rfl ?_
      refine dp_cVi C (w_set C.2.2.1 l hI0 (k := 0) (by decide) (show 0 ≤ _ ∧ _ ≤ (500 : Int) by omega)) gL_acts_X6_set rfl (dp_mC (by decide)) dp_xdp rfl yyX6_set rfl ⟨Nat.le_of_ble_eq_true rfl, Nat.le_of_ble_eq_true rfl⟩ rfl (Nat.le_of_ble_eq_true rfl) rfl ⟨Nat.zero_le _, Nat.zero_le _⟩ dL_acts_151 (fun x151 M151 h151 => ?_)
      obtain ⟨rfl, M2, rfl, hI⟩ := h151
      refine dp_iload C dL_acts_154 rfl ?_
      refine dp_icmp_same (tgt := 163) C rfl (by decide) dL_acts_156 ?_
      refine dp_iconst C dL_acts_159 ?_
      refine dp_goto (tgt := 164) C dL_acts_160 (by decide) ?_
      refine dp_zret C hret (by first | decide | exact dp_nb) dL_acts_164 ?_
      exact ⟨rfl, _, _, _, _, rfl, hI⟩
  have J165 : ∀ v : Int, 0 ≤ v → v < 10000000 → dp_G E (dp_A E) p l e (dp_rm 8 207) s m [.ref (eAd E 7 0), .ref (eAd E 8 0), .ref (eAd E 8 1), .int (dp_I z)].toArray below meth co 0 0 (MQ below (dp_qi E (fun y M1 => y = 1 ∧ ∃ M2 V2 X2 N2, M1 = dN M2 V2 X2 ∧ iC M2 V2 N2)) [.ref (eAd E 7 0), .ref (eAd E 8 0), .ref (eAd E 8 1), .int (dp_I z)].toArray s 0 0 (dp_A E)) (dN M V X) 165 [some (.ref (eAd E 7 0)), some (.ref (eAd E 8 0)), some (.ref (eAd E 8 1)), some (.int (dp_I z)), some (.int (dp_I v)), some (.int (dp_I ((N : Int)))), none, none, none, none, none, none, none, none, none, none, none, none, none, none, none, none, none] [] := by
    intro v hv0 hv1
    refine dp_iload C dL_acts_165 rfl ?_
    refine dp_iconst C dL_acts_167 ?_
    refine dp_irem C ⟨by omega, by omega, by omega, by omega⟩ dL_acts_168 ?_
    obtain ⟨a, ha, hab⟩ : ∃ a : Nat, v % 2 = a ∧ a < 2 := ⟨(v % 2).toNat, by omega, by omega⟩
    rw [ha]
    refine dp_istore C dL_acts_169 (Nat.le_of_ble_eq_true rfl) ?_
    dsimp only [List.set]
    refine dp_iload C dL_acts_171 rfl ?_
    refine dp_iconst C dL_acts_173 ?_
    refine dp_idiv C ⟨by omega, by omega, by omega, by omega⟩ dL_acts_174 ?_
    refine dp_iconst C dL_acts_175 ?_
    refine dp_irem C ⟨by omega, by omega, by omega, by omega⟩ dL_acts_176 ?_
    refine dp_istore C dL_acts_177 (Nat.le_of_ble_eq_true rfl) ?_
    dsimp only [List.set]
    refine dp_iload C dL_acts_179 rfl ?_
    refine dp_if_ne (tgt := 196) C dL_acts_181 (by decide) ⟨by omega, by omega⟩ (fun c181 => ?_) (fun c181 => ?_)
    · skip
      refine dp_iload C dL_acts_196 rfl ?_
      refine dp_iconst C dL_acts_198 ?_
      refine dp_icmp_ne (tgt := 212) C dL_acts_199 (by decide) ⟨by omega, by omega⟩ ⟨by omega, by omega⟩ (fun c199 => ?_) (fun c199 => ?_)
      · skip
        have c2 : v / 2 % 3 = 2 := by omega
        rw [c2]
        refine dp_iconst C dL_acts_212 ?_
        refine dp_iload C dL_acts_213 rfl ?_
        refine dp_bipush C dL_acts_215 (by decide) ?_
        refine dp_idiv C ⟨by omega, by omega, by omega, by omega⟩ dL_acts_217 ?_
        refine dp_iload C dL_acts_218 rfl ?_
        refine dp_iconst C dL_acts_220 ?_
        refine dp_irem C ⟨by omega, by omega, by omega, by omega⟩ dL_acts_221 ?_
        refine dp_if_ne (tgt := 231) C dL_acts_222 (by decide) ⟨by omega, by omega⟩ (fun c222 => ?_) (fun c222 => ?_)
        · skip
          refine dp_bipush C dL_acts_231 (by decide) ?_
          refine dp_irem C ⟨by omega, by omega, by omega, by omega⟩ dL_acts_233 ?_
          refine dp_iadd C dL_acts_234 ?_
          refine dp_istore C dL_acts_235 (Nat.le_of_ble_eq_true rfl) ?_
          dsimp only [List.set]
          have hA := hAx a hab
          unfold ivA at hA
          refine dp_aload_n C dL_acts_237 rfl ?_
          refine dp_bipush C dL_acts_238 (by decide) ?_
          refine dp_bipush C dL_acts_240 (by decide) ?_
          refine dp_iload C dL_acts_242 rfl ?_
          refine dp_imul C dL_acts_244 ?_
          refine dp_iadd C dL_acts_245 ?_
          refine dp_iload C dL_acts_246 rfl ?_
          refine dp_iadd C dL_acts_248 ?_
          refine dp_ald_g C (8 + 7 * a + 2) (c9 := a + 3) (k9 := 2) (by omega) (by omega) (dp_ceA (by omega) (by decide)).1 (dp_ceA (by omega) (by decide)).2 dL_acts_249 ?_
          refine dp_istore C dL_acts_250 (Nat.le_of_ble_eq_true rfl) ?_
          dsimp only [List.set]
          refine dp_aload_n C dL_acts_252 rfl ?_
          refine dp_bipush C dL_acts_253 (by decide) ?_
          refine dp_bipush C dL_acts_255 (by decide) ?_
          refine dp_iload C dL_acts_257 rfl ?_
          refine dp_imul C dL_acts_259 ?_
          refine dp_iadd C dL_acts_260 ?_
          refine dp_iload C dL_acts_261 rfl ?_
          refine dp_iadd C dL_acts_263 ?_
          refine dp_iload C dL_acts_264 rfl ?_
          refine dp_ast_g C (8 + 7 * a + 2) (c9 := a + 3) (k9 := 2) (by omega) (by omega) (dp_ceA (by omega) (by decide)).1 (dp_ceA (by omega) (by decide)).2 dL_acts_266 ?_
          refine dp_aload_n C dL_acts_267 rfl ?_
          refine dp_bipush C dL_acts_268 (by decide) ?_
          refine dp_bipush C dL_acts_270 (by decide) ?_
          refine dp_iload C dL_acts_272 rfl ?_
          refine dp_imul C dL_acts_274 ?_
          refine dp_iadd C dL_acts_275 ?_
          refine dp_aload_n C dL_acts_276 rfl ?_
          refine dp_bipush C dL_acts_277 (by decide) ?_
          refine dp_bipush C dL_acts_279 (by decide) ?_
          refine dp_iload C dL_acts_281 rfl ?_
          refine dp_imul C dL_acts_283 ?_
          refine dp_iadd C dL_acts_284 ?_
          refine dp_ald_g C (8 + 7 * a + 4) (c9 := a + 3) (k9 := 4) (by omega) (by omega) (dp_ceA (by omega) (by decide)).1 (dp_ceA (by omega) (by decide)).2 dL_acts_285 ?_
          simp (decide := true) only [u2_same, u1, reduceIte]
          refine dp_aload_n C dL_acts_286 rfl ?_
          refine dp_bipush C dL_acts_287 (by decide) ?_
          refine dp_bipush C dL_acts_289 (by decide) ?_
          refine dp_iload C dL_acts_291 rfl ?_
          refine dp_imul C dL_acts_293 ?_
          refine dp_iadd C dL_acts_294 ?_
          refine dp_ald_g C (8 + 7 * a + 0) (c9 := a + 3) (k9 := 0) (by omega) (by omega) (dp_ceA (by omega) (by decide)).1 (dp_ceA (by omega) (by decide)).2 dL_acts_295 ?_
          simp (decide := true) only [u2_same, u1, reduceIte]
          refine dp_icmp_le (tgt := 312) C dL_acts_296 (by decide) ⟨by omega, by omega⟩ ⟨by omega, by omega⟩ (fun c296 => ?_) (fun c296 => ?_)
          · skip
            refine dp_aload_n C dL_acts_312 rfl ?_
            refine dp_bipush C dL_acts_313 (by decide) ?_
            refine dp_bipush C dL_acts_315 (by decide) ?_
            refine dp_iload C dL_acts_317 rfl ?_
            refine dp_imul C dL_acts_319 ?_
            refine dp_iadd C dL_acts_320 ?_
            refine dp_ald_g C (8 + 7 * a + 4) (c9 := a + 3) (k9 := 4) (by omega) (by omega) (dp_ceA (by omega) (by decide)).1 (dp_ceA (by omega) (by decide)).2 dL_acts_321 ?_
            simp (decide := true) only [u2_same, u1, reduceIte]
            refine dp_ast_g C (8 + 7 * a + 4) (c9 := a + 3) (k9 := 4) (by omega) (by omega) (dp_ceA (by omega) (by decide)).1 (dp_ceA (by omega) (by decide)).2 dL_acts_322 ?_
            refine dp_aload_n C dL_acts_323 rfl ?_
            refine dp_iload C dL_acts_324 rfl ?_
            refine dp_iload C dL_acts_326 rfl ?_
            refine dp_iload C dL_acts_328 rfl ?_
            refine dp_cVi C (w_setAxis C.2.2.1 l hI0 (a := a) (k := 2) hab (by decide) (show (1 : Int) ≤ _ ∧ _ ≤ (2000 : Int) by omega)) gL_acts_X6_setAxis rfl (dp_mC (by decide)) dp_xdp rfl yyX6_setAxis rfl ⟨Nat.le_of_ble_eq_true rfl, Nat.le_of_ble_eq_true rfl⟩ rfl (Nat.le_of_ble_eq_true rfl) rfl ⟨Nat.zero_le _, Nat.zero_le _⟩ dL_acts_330 (fun x330 M330 h330 => ?_)
            obtain ⟨rfl, M2, rfl, hI⟩ := h330
            refine dp_iload C dL_acts_333 rfl ?_
            refine dp_icmp_same (tgt := 342) C rfl (by decide) dL_acts_335 ?_
            refine dp_iconst C dL_acts_338 ?_
            refine dp_goto (tgt := 343) C dL_acts_339 (by decide) ?_
            refine dp_zret C hret (by first | decide | exact dp_nb) dL_acts_343 ?_
            refine ⟨rfl, M2, _, _, N, rfl, ?_⟩
            rw [ch_law (p := 2) (by decide) (by first | (rw [if_pos rfl]; unfold mn; split <;> omega) | (rw [if_neg (by decide)]))]
            exact hI
          · omega
        · skip
          refine dp_sipush C dL_acts_225 (by decide) ?_
          refine dp_goto (tgt := 233) C dL_acts_228 (by decide) ?_
          refine dp_irem C ⟨by omega, by omega, by omega, by omega⟩ dL_acts_233 ?_
          refine dp_iadd C dL_acts_234 ?_
          refine dp_istore C dL_acts_235 (Nat.le_of_ble_eq_true rfl) ?_
          dsimp only [List.set]
          have hA := hAx a hab
          unfold ivA at hA
          refine dp_aload_n C dL_acts_237 rfl ?_
          refine dp_bipush C dL_acts_238 (by decide) ?_
          refine dp_bipush C dL_acts_240 (by decide) ?_
          refine dp_iload C dL_acts_242 rfl ?_
          refine dp_imul C dL_acts_244 ?_
          refine dp_iadd C dL_acts_245 ?_
          refine dp_iload C dL_acts_246 rfl ?_
          refine dp_iadd C dL_acts_248 ?_
          refine dp_ald_g C (8 + 7 * a + 2) (c9 := a + 3) (k9 := 2) (by omega) (by omega) (dp_ceA (by omega) (by decide)).1 (dp_ceA (by omega) (by decide)).2 dL_acts_249 ?_
          refine dp_istore C dL_acts_250 (Nat.le_of_ble_eq_true rfl) ?_
          dsimp only [List.set]
          refine dp_aload_n C dL_acts_252 rfl ?_
          refine dp_bipush C dL_acts_253 (by decide) ?_
          refine dp_bipush C dL_acts_255 (by decide) ?_
          refine dp_iload C dL_acts_257 rfl ?_
          refine dp_imul C dL_acts_259 ?_
          refine dp_iadd C dL_acts_260 ?_
          refine dp_iload C dL_acts_261 rfl ?_
          refine dp_iadd C dL_acts_263 ?_
          refine dp_iload C dL_acts_264 rfl ?_
          refine dp_ast_g C (8 + 7 * a + 2) (c9 := a + 3) (k9 := 2) (by omega) (by omega) (dp_ceA (by omega) (by decide)).1 (dp_ceA (by omega) (by decide)).2 dL_acts_266 ?_
          refine dp_aload_n C dL_acts_267 rfl ?_
          refine dp_bipush C dL_acts_268 (by decide) ?_
          refine dp_bipush C dL_acts_270 (by decide) ?_
          refine dp_iload C dL_acts_272 rfl ?_
          refine dp_imul C dL_acts_274 ?_
          refine dp_iadd C dL_acts_275 ?_
          refine dp_aload_n C dL_acts_276 rfl ?_
          refine dp_bipush C dL_acts_277 (by decide) ?_
          refine dp_bipush C dL_acts_279 (by decide) ?_
          refine dp_iload C dL_acts_281 rfl ?_
          refine dp_imul C dL_acts_283 ?_
          refine dp_iadd C dL_acts_284 ?_
          refine dp_ald_g C (8 + 7 * a + 4) (c9 := a + 3) (k9 := 4) (by omega) (by omega) (dp_ceA (by omega) (by decide)).1 (dp_ceA (by omega) (by decide)).2 dL_acts_285 ?_
          simp (decide := true) only [u2_same, u1, reduceIte]
          refine dp_aload_n C dL_acts_286 rfl ?_
          refine dp_bipush C dL_acts_287 (by decide) ?_
          refine dp_bipush C dL_acts_289 (by decide) ?_
          refine dp_iload C dL_acts_291 rfl ?_
          refine dp_imul C dL_acts_293 ?_
          refine dp_iadd C dL_acts_294 ?_
          refine dp_ald_g C (8 + 7 * a + 0) (c9 := a + 3) (k9 := 0) (by omega) (by omega) (dp_ceA (by omega) (by decide)).1 (dp_ceA (by omega) (by decide)).2 dL_acts_295 ?_
          simp (decide := true) only [u2_same, u1, reduceIte]
          refine dp_icmp_le (tgt := 312) C dL_acts_296 (by decide) ⟨by omega, by omega⟩ ⟨by omega, by omega⟩ (fun c296 => ?_) (fun c296 => ?_)
          · skip
            refine dp_aload_n C dL_acts_312 rfl ?_
            refine dp_bipush C dL_acts_313 (by decide) ?_
            refine dp_bipush C dL_acts_315 (by decide) ?_
            refine dp_iload C dL_acts_317 rfl ?_
            refine dp_imul C dL_acts_319 ?_
            refine dp_iadd C dL_acts_320 ?_
            refine dp_ald_g C (8 + 7 * a + 4) (c9 := a + 3) (k9 := 4) (by omega) (by omega) (dp_ceA (by omega) (by decide)).1 (dp_ceA (by omega) (by decide)).2 dL_acts_321 ?_
            simp (decide := true) only [u2_same, u1, reduceIte]
            refine dp_ast_g C (8 + 7 * a + 4) (c9 := a + 3) (k9 := 4) (by omega) (by omega) (dp_ceA (by omega) (by decide)).1 (dp_ceA (by omega) (by decide)).2 dL_acts_322 ?_
            refine dp_aload_n C dL_acts_323 rfl ?_
            refine dp_iload C dL_acts_324 rfl ?_
            refine dp_iload C dL_acts_326 rfl ?_
            refine dp_iload C dL_acts_328 rfl ?_
            refine dp_cVi C (w_setAxis C.2.2.1 l hI0 (a := a) (k := 2) hab (by decide) (show (1 : Int) ≤ _ ∧ _ ≤ (2000 : Int) by omega)) gL_acts_X6_setAxis rfl (dp_mC (by decide)) dp_xdp rfl yyX6_setAxis rfl ⟨Nat.le_of_ble_eq_true rfl, Nat.le_of_ble_eq_true rfl⟩ rfl (Nat.le_of_ble_eq_true rfl) rfl ⟨Nat.zero_le _, Nat.zero_le _⟩ dL_acts_330 (fun x330 M330 h330 => ?_)
            obtain ⟨rfl, M2, rfl, hI⟩ := h330
            refine dp_iload C dL_acts_333 rfl ?_
            refine dp_icmp_same (tgt := 342) C rfl (by decide) dL_acts_335 ?_
            refine dp_iconst C dL_acts_338 ?_
            refine dp_goto (tgt := 343) C dL_acts_339 (by decide) ?_
            refine dp_zret C hret (by first | decide | exact dp_nb) dL_acts_343 ?_
            refine ⟨rfl, M2, _, _, N, rfl, ?_⟩
            rw [ch_law (p := 2) (by decide) (by first | (rw [if_pos rfl]; unfold mn; split <;> omega) | (rw [if_neg (by decide)]))]
            exact hI
          · omega
      · skip
        rw [c199]
        refine dp_iload C dL_acts_202 rfl ?_
        refine dp_bipush C dL_acts_204 (by decide) ?_
        refine dp_idiv C ⟨by omega, by omega, by omega, by omega⟩ dL_acts_206 ?_
        refine dp_iconst C dL_acts_207 ?_
        refine dp_irem C ⟨by omega, by omega, by omega, by omega⟩ dL_acts_208 ?_
        refine dp_goto (tgt := 235) C dL_acts_209 (by decide) ?_
        refine dp_istore C dL_acts_235 (Nat.le_of_ble_eq_true rfl) ?_
        dsimp only [List.set]
        have hA := hAx a hab
        unfold ivA at hA
        refine dp_aload_n C dL_acts_237 rfl ?_
        refine dp_bipush C dL_acts_238 (by decide) ?_
        refine dp_bipush C dL_acts_240 (by decide) ?_
        refine dp_iload C dL_acts_242 rfl ?_
        refine dp_imul C dL_acts_244 ?_
        refine dp_iadd C dL_acts_245 ?_
        refine dp_iload C dL_acts_246 rfl ?_
        refine dp_iadd C dL_acts_248 ?_
        refine dp_ald_g C (8 + 7 * a + 1) (c9 := a + 3) (k9 := 1) (by omega) (by omega) (dp_ceA (by omega) (by decide)).1 (dp_ceA (by omega) (by decide)).2 dL_acts_249 ?_
        refine dp_istore C dL_acts_250 (Nat.le_of_ble_eq_true rfl) ?_
        dsimp only [List.set]
        refine dp_aload_n C dL_acts_252 rfl ?_
        refine dp_bipush C dL_acts_253 (by decide) ?_
        refine dp_bipush C dL_acts_255 (by decide) ?_
        refine dp_iload C dL_acts_257 rfl ?_
        refine dp_imul C dL_acts_259 ?_
        refine dp_iadd C dL_acts_260 ?_
        refine dp_iload C dL_acts_261 rfl ?_
        refine dp_iadd C dL_acts_263 ?_
        refine dp_iload C dL_acts_264 rfl ?_
        refine dp_ast_g C (8 + 7 * a + 1) (c9 := a + 3) (k9 := 1) (by omega) (by omega) (dp_ceA (by omega) (by decide)).1 (dp_ceA (by omega) (by decide)).2 dL_acts_266 ?_
        refine dp_aload_n C dL_acts_267 rfl ?_
        refine dp_bipush C dL_acts_268 (by decide) ?_
        refine dp_bipush C dL_acts_270 (by decide) ?_
        refine dp_iload C dL_acts_272 rfl ?_
        refine dp_imul C dL_acts_274 ?_
        refine dp_iadd C dL_acts_275 ?_
        refine dp_aload_n C dL_acts_276 rfl ?_
        refine dp_bipush C dL_acts_277 (by decide) ?_
        refine dp_bipush C dL_acts_279 (by decide) ?_
        refine dp_iload C dL_acts_281 rfl ?_
        refine dp_imul C dL_acts_283 ?_
        refine dp_iadd C dL_acts_284 ?_
        refine dp_ald_g C (8 + 7 * a + 4) (c9 := a + 3) (k9 := 4) (by omega) (by omega) (dp_ceA (by omega) (by decide)).1 (dp_ceA (by omega) (by decide)).2 dL_acts_285 ?_
        simp (decide := true) only [u2_same, u1, reduceIte]
        refine dp_aload_n C dL_acts_286 rfl ?_
        refine dp_bipush C dL_acts_287 (by decide) ?_
        refine dp_bipush C dL_acts_289 (by decide) ?_
        refine dp_iload C dL_acts_291 rfl ?_
        refine dp_imul C dL_acts_293 ?_
        refine dp_iadd C dL_acts_294 ?_
        refine dp_ald_g C (8 + 7 * a + 0) (c9 := a + 3) (k9 := 0) (by omega) (by omega) (dp_ceA (by omega) (by decide)).1 (dp_ceA (by omega) (by decide)).2 dL_acts_295 ?_
        simp (decide := true) only [u2_same, u1, reduceIte]
        refine dp_icmp_le (tgt := 312) C dL_acts_296 (by decide) ⟨by omega, by omega⟩ ⟨by omega, by omega⟩ (fun c296 => ?_) (fun c296 => ?_)
        · skip
          refine dp_aload_n C dL_acts_312 rfl ?_
          refine dp_bipush C dL_acts_313 (by decide) ?_
          refine dp_bipush C dL_acts_315 (by decide) ?_
          refine dp_iload C dL_acts_317 rfl ?_
          refine dp_imul C dL_acts_319 ?_
          refine dp_iadd C dL_acts_320 ?_
          refine dp_ald_g C (8 + 7 * a + 4) (c9 := a + 3) (k9 := 4) (by omega) (by omega) (dp_ceA (by omega) (by decide)).1 (dp_ceA (by omega) (by decide)).2 dL_acts_321 ?_
          simp (decide := true) only [u2_same, u1, reduceIte]
          refine dp_ast_g C (8 + 7 * a + 4) (c9 := a + 3) (k9 := 4) (by omega) (by omega) (dp_ceA (by omega) (by decide)).1 (dp_ceA (by omega) (by decide)).2 dL_acts_322 ?_
          refine dp_aload_n C dL_acts_323 rfl ?_
          refine dp_iload C dL_acts_324 rfl ?_
          refine dp_iload C dL_acts_326 rfl ?_
          refine dp_iload C dL_acts_328 rfl ?_
          refine dp_cVi C (w_setAxis C.2.2.1 l hI0 (a := a) (k := 1) hab (by decide) (show (0 : Int) ≤ _ ∧ _ ≤ (2 : Int) by omega)) gL_acts_X6_setAxis rfl (dp_mC (by decide)) dp_xdp rfl yyX6_setAxis rfl ⟨Nat.le_of_ble_eq_true rfl, Nat.le_of_ble_eq_true rfl⟩ rfl (Nat.le_of_ble_eq_true rfl) rfl ⟨Nat.zero_le _, Nat.zero_le _⟩ dL_acts_330 (fun x330 M330 h330 => ?_)
          obtain ⟨rfl, M2, rfl, hI⟩ := h330
          refine dp_iload C dL_acts_333 rfl ?_
          refine dp_icmp_same (tgt := 342) C rfl (by decide) dL_acts_335 ?_
          refine dp_iconst C dL_acts_338 ?_
          refine dp_goto (tgt := 343) C dL_acts_339 (by decide) ?_
          refine dp_zret C hret (by first | decide | exact dp_nb) dL_acts_343 ?_
          refine ⟨rfl, M2, _, _, N, rfl, ?_⟩
          rw [ch_law (p := 1) (by decide) (by first | (rw [if_pos rfl]; unfold mn; split <;> omega) | (rw [if_neg (by decide)]))]
          exact hI
        · omega
    · skip
      rw [c181]
      refine dp_iload C dL_acts_184 rfl ?_
      refine dp_bipush C dL_acts_186 (by decide) ?_
      refine dp_idiv C ⟨by omega, by omega, by omega, by omega⟩ dL_acts_188 ?_
      refine dp_sipush C dL_acts_189 (by decide) ?_
      refine dp_irem C ⟨by omega, by omega, by omega, by omega⟩ dL_acts_192 ?_
      refine dp_goto (tgt := 235) C dL_acts_193 (by decide) ?_
      refine dp_istore C dL_acts_235 (Nat.le_of_ble_eq_true rfl) ?_
      dsimp only [List.set]
      have hA := hAx a hab
      unfold ivA at hA
      refine dp_aload_n C dL_acts_237 rfl ?_
      refine dp_bipush C dL_acts_238 (by decide) ?_
      refine dp_bipush C dL_acts_240 (by decide) ?_
      refine dp_iload C dL_acts_242 rfl ?_
      refine dp_imul C dL_acts_244 ?_
      refine dp_iadd C dL_acts_245 ?_
      refine dp_iload C dL_acts_246 rfl ?_
      refine dp_iadd C dL_acts_248 ?_
      refine dp_ald_g C (8 + 7 * a + 0) (c9 := a + 3) (k9 := 0) (by omega) (by omega) (dp_ceA (by omega) (by decide)).1 (dp_ceA (by omega) (by decide)).2 dL_acts_249 ?_
      refine dp_istore C dL_acts_250 (Nat.le_of_ble_eq_true rfl) ?_
      dsimp only [List.set]
      refine dp_aload_n C dL_acts_252 rfl ?_
      refine dp_bipush C dL_acts_253 (by decide) ?_
      refine dp_bipush C dL_acts_255 (by decide) ?_
      refine dp_iload C dL_acts_257 rfl ?_
      refine dp_imul C dL_acts_259 ?_
      refine dp_iadd C dL_acts_260 ?_
      refine dp_iload C dL_acts_261 rfl ?_
      refine dp_iadd C dL_acts_263 ?_
      refine dp_iload C dL_acts_264 rfl ?_
      refine dp_ast_g C (8 + 7 * a + 0) (c9 := a + 3) (k9 := 0) (by omega) (by omega) (dp_ceA (by omega) (by decide)).1 (dp_ceA (by omega) (by decide)).2 dL_acts_266 ?_
      refine dp_aload_n C dL_acts_267 rfl ?_
      refine dp_bipush C dL_acts_268 (by decide) ?_
      refine dp_bipush C dL_acts_270 (by decide) ?_
      refine dp_iload C dL_acts_272 rfl ?_
      refine dp_imul C dL_acts_274 ?_
      refine dp_iadd C dL_acts_275 ?_
      refine dp_aload_n C dL_acts_276 rfl ?_
      refine dp_bipush C dL_acts_277 (by decide) ?_
      refine dp_bipush C dL_acts_279 (by decide) ?_
      refine dp_iload C dL_acts_281 rfl ?_
      refine dp_imul C dL_acts_283 ?_
      refine dp_iadd C dL_acts_284 ?_
      refine dp_ald_g C (8 + 7 * a + 4) (c9 := a + 3) (k9 := 4) (by omega) (by omega) (dp_ceA (by omega) (by decide)).1 (dp_ceA (by omega) (by decide)).2 dL_acts_285 ?_
      simp (decide := true) only [u2_same, u1, reduceIte]
      refine dp_aload_n C dL_acts_286 rfl ?_
      refine dp_bipush C dL_acts_287 (by decide) ?_
      refine dp_bipush C dL_acts_289 (by decide) ?_
      refine dp_iload C dL_acts_291 rfl ?_
      refine dp_imul C dL_acts_293 ?_
      refine dp_iadd C dL_acts_294 ?_
      refine dp_ald_g C (8 + 7 * a + 0) (c9 := a + 3) (k9 := 0) (by omega) (by omega) (dp_ceA (by omega) (by decide)).1 (dp_ceA (by omega) (by decide)).2 dL_acts_295 ?_
      simp (decide := true) only [u2_same, u1, reduceIte]
      refine dp_icmp_le (tgt := 312) C dL_acts_296 (by decide) ⟨by omega, by omega⟩ ⟨by omega, by omega⟩ (fun c296 => ?_) (fun c296 => ?_)
      · skip
        refine dp_aload_n C dL_acts_312 rfl ?_
        refine dp_bipush C dL_acts_313 (by decide) ?_
        refine dp_bipush C dL_acts_315 (by decide) ?_
        refine dp_iload C dL_acts_317 rfl ?_
        refine dp_imul C dL_acts_319 ?_
        refine dp_iadd C dL_acts_320 ?_
        refine dp_ald_g C (8 + 7 * a + 4) (c9 := a + 3) (k9 := 4) (by omega) (by omega) (dp_ceA (by omega) (by decide)).1 (dp_ceA (by omega) (by decide)).2 dL_acts_321 ?_
        simp (decide := true) only [u2_same, u1, reduceIte]
        refine dp_ast_g C (8 + 7 * a + 4) (c9 := a + 3) (k9 := 4) (by omega) (by omega) (dp_ceA (by omega) (by decide)).1 (dp_ceA (by omega) (by decide)).2 dL_acts_322 ?_
        refine dp_aload_n C dL_acts_323 rfl ?_
        refine dp_iload C dL_acts_324 rfl ?_
        refine dp_iload C dL_acts_326 rfl ?_
        refine dp_iload C dL_acts_328 rfl ?_
        refine dp_cVi C (w_setAxis C.2.2.1 l hI0 (a := a) (k := 0) hab (by decide) (show (0 : Int) ≤ _ ∧ _ ≤ (300 : Int) by omega)) gL_acts_X6_setAxis rfl (dp_mC (by decide)) dp_xdp rfl yyX6_setAxis rfl ⟨Nat.le_of_ble_eq_true rfl, Nat.le_of_ble_eq_true rfl⟩ rfl (Nat.le_of_ble_eq_true rfl) rfl ⟨Nat.zero_le _, Nat.zero_le _⟩ dL_acts_330 (fun x330 M330 h330 => ?_)
        obtain ⟨rfl, M2, rfl, hI⟩ := h330
        refine dp_iload C dL_acts_333 rfl ?_
        refine dp_icmp_same (tgt := 342) C rfl (by decide) dL_acts_335 ?_
        refine dp_iconst C dL_acts_338 ?_
        refine dp_goto (tgt := 343) C dL_acts_339 (by decide) ?_
        refine dp_zret C hret (by first | decide | exact dp_nb) dL_acts_343 ?_
        refine ⟨rfl, M2, _, _, N, rfl, ?_⟩
        rw [ch_law (p := 0) (by decide) (by first | (rw [if_pos rfl]; unfold mn; split <;> omega) | (rw [if_neg (by decide)]))]
        exact hI
      · skip
        refine dp_aload_n C dL_acts_299 rfl ?_
        refine dp_bipush C dL_acts_300 (by decide) ?_
        refine dp_bipush C dL_acts_302 (by decide) ?_
        refine dp_iload C dL_acts_304 rfl ?_
        refine dp_imul C dL_acts_306 ?_
        refine dp_iadd C dL_acts_307 ?_
        refine dp_ald_g C (8 + 7 * a + 0) (c9 := a + 3) (k9 := 0) (by omega) (by omega) (dp_ceA (by omega) (by decide)).1 (dp_ceA (by omega) (by decide)).2 dL_acts_308 ?_
        simp (decide := true) only [u2_same, u1, reduceIte]
        refine dp_goto (tgt := 322) C dL_acts_309 (by decide) ?_
        refine dp_ast_g C (8 + 7 * a + 4) (c9 := a + 3) (k9 := 4) (by omega) (by omega) (dp_ceA (by omega) (by decide)).1 (dp_ceA (by omega) (by decide)).2 dL_acts_322 ?_
        refine dp_aload_n C dL_acts_323 rfl ?_
        refine dp_iload C dL_acts_324 rfl ?_
        refine dp_iload C dL_acts_326 rfl ?_
        refine dp_iload C dL_acts_328 rfl ?_
        refine dp_cVi C (w_setAxis C.2.2.1 l hI0 (a := a) (k := 0) hab (by decide) (show (0 : Int) ≤ _ ∧ _ ≤ (300 : Int) by omega)) gL_acts_X6_setAxis rfl (dp_mC (by decide)) dp_xdp rfl yyX6_setAxis rfl ⟨Nat.le_of_ble_eq_true rfl, Nat.le_of_ble_eq_true rfl⟩ rfl (Nat.le_of_ble_eq_true rfl) rfl ⟨Nat.zero_le _, Nat.zero_le _⟩ dL_acts_330 (fun x330 M330 h330 => ?_)
        obtain ⟨rfl, M2, rfl, hI⟩ := h330
        refine dp_iload C dL_acts_333 rfl ?_
        refine dp_icmp_same (tgt := 342) C rfl (by decide) dL_acts_335 ?_
        refine dp_iconst C dL_acts_338 ?_
        refine dp_goto (tgt := 343) C dL_acts_339 (by decide) ?_
        refine dp_zret C hret (by first | decide | exact dp_nb) dL_acts_343 ?_
        refine ⟨rfl, M2, _, _, N, rfl, ?_⟩
        rw [ch_law (p := 0) (by decide) (by first | (rw [if_pos rfl]; unfold mn; split <;> omega) | (rw [if_neg (by decide)]))]
        exact hI
  have J344 : ∀ v : Int, 0 ≤ v → v < 10000000 → dp_G E (dp_A E) p l e (dp_rm 8 207) s m [.ref (eAd E 7 0), .ref (eAd E 8 0), .ref (eAd E 8 1), .int (dp_I z)].toArray below meth co 0 0 (MQ below (dp_qi E (fun y M1 => y = 1 ∧ ∃ M2 V2 X2 N2, M1 = dN M2 V2 X2 ∧ iC M2 V2 N2)) [.ref (eAd E 7 0), .ref (eAd E 8 0), .ref (eAd E 8 1), .int (dp_I z)].toArray s 0 0 (dp_A E)) (dN M V X) 344 [some (.ref (eAd E 7 0)), some (.ref (eAd E 8 0)), some (.ref (eAd E 8 1)), some (.int (dp_I z)), some (.int (dp_I v)), some (.int (dp_I ((N : Int)))), none, none, none, none, none, none, none, none, none, none, none, none, none, none, none, none, none] [] := by
    intro v hv0 hv1
    refine dp_iload C dL_acts_344 rfl ?_
    refine dp_iconst C dL_acts_346 ?_
    refine dp_irem C ⟨by omega, by omega, by omega, by omega⟩ dL_acts_347 ?_
    refine dp_if_ne (tgt := 361) C dL_acts_348 (by decide) ⟨by omega, by omega⟩ (fun c348 => ?_) (fun c348 => ?_)
    · skip
      refine dp_aload_n C dL_acts_361 rfl ?_
      refine dp_iconst C dL_acts_362 ?_
      refine dp_ald_g C 4 (c9 := 0) (k9 := 0) (by omega) (by decide) rfl rfl dL_acts_363 ?_
      refine dp_sipush C dL_acts_364 (by decide) ?_
      refine dp_idiv C ⟨by omega, by omega, by omega, by omega⟩ dL_acts_367 ?_
      refine dp_iload C dL_acts_368 rfl ?_
      refine dp_iconst C dL_acts_370 ?_
      refine dp_idiv C ⟨by omega, by omega, by omega, by omega⟩ dL_acts_371 ?_
      refine dp_iconst C dL_acts_372 ?_
      refine dp_irem C ⟨by omega, by omega, by omega, by omega⟩ dL_acts_373 ?_
      refine dp_iadd C dL_acts_374 ?_
      refine dp_bipush C dL_acts_375 (by decide) ?_
      refine dp_irem C ⟨by omega, by omega, by omega, by omega⟩ dL_acts_377 ?_
      obtain ⟨d, hd, hdb⟩ : ∃ d : Nat, (V 0 0 / 1440 + v / 2 % 3) % 30 = d ∧ d < 30 := ⟨((V 0 0 / 1440 + v / 2 % 3) % 30).toNat, by omega, by omega⟩
      rw [hd]
      refine dp_istore C dL_acts_378 (Nat.le_of_ble_eq_true rfl) ?_
      dsimp only [List.set]
      refine dp_iload C dL_acts_380 rfl ?_
      refine dp_bipush C dL_acts_382 (by decide) ?_
      refine dp_idiv C ⟨by omega, by omega, by omega, by omega⟩ dL_acts_384 ?_
      refine dp_bipush C dL_acts_385 (by decide) ?_
      refine dp_irem C ⟨by omega, by omega, by omega, by omega⟩ dL_acts_387 ?_
      refine dp_istore C dL_acts_388 (Nat.le_of_ble_eq_true rfl) ?_
      dsimp only [List.set]
      refine dp_sipush C dL_acts_390 (by decide) ?_
      refine dp_iload C dL_acts_393 rfl ?_
      refine dp_imul C dL_acts_395 ?_
      refine dp_aload_n C dL_acts_396 rfl ?_
      refine dp_iconst C dL_acts_397 ?_
      refine dp_ald_g C 4 (c9 := 0) (k9 := 0) (by omega) (by decide) rfl rfl dL_acts_398 ?_
      refine dp_icmp_ge (tgt := 421) C dL_acts_399 (by decide) ⟨by omega, by omega⟩ ⟨by omega, by omega⟩ (fun c399 => ?_) (fun c399 => ?_)
      · skip
        refine dp_aload_n C dL_acts_421 rfl ?_
        refine dp_bipush C dL_acts_422 (by decide) ?_
        refine dp_iload C dL_acts_424 rfl ?_
        refine dp_iadd C dL_acts_426 ?_
        refine dp_ald_g C (22 + d) (c9 := 2) (k9 := d) (by omega) (by omega) (dp_ceU (by omega)).1 (dp_ceU (by omega)).2 dL_acts_427 ?_
        refine dp_istore C dL_acts_428 (Nat.le_of_ble_eq_true rfl) ?_
        dsimp only [List.set]
        refine dp_aload_n C dL_acts_430 rfl ?_
        refine dp_bipush C dL_acts_431 (by decide) ?_
        refine dp_iload C dL_acts_433 rfl ?_
        refine dp_iadd C dL_acts_435 ?_
        refine dp_iload C dL_acts_436 rfl ?_
        refine dp_ast_g C (22 + d) (c9 := 2) (k9 := d) (by omega) (by omega) (dp_ceU (by omega)).1 (dp_ceU (by omega)).2 dL_acts_438 ?_
        refine dp_aload_n C dL_acts_439 rfl ?_
        refine dp_iload C dL_acts_440 rfl ?_
        refine dp_iload C dL_acts_442 rfl ?_
        refine dp_cVi C (w_gust C.2.2.1 l hI0 (d := d) (g := v / 60 % 100) hdb (by omega) (by omega)) gL_acts_X6_gust rfl (dp_mC (by decide)) dp_xdp rfl yyX6_gust rfl ⟨Nat.le_of_ble_eq_true rfl, Nat.le_of_ble_eq_true rfl⟩ rfl (Nat.le_of_ble_eq_true rfl) rfl ⟨Nat.zero_le _, Nat.zero_le _⟩ dL_acts_444 (fun x444 M444 h444 => ?_)
        obtain ⟨rfl, M2, rfl, hI⟩ := h444
        refine dp_iload C dL_acts_447 rfl ?_
        refine dp_icmp_same (tgt := 456) C rfl (by decide) dL_acts_449 ?_
        refine dp_iconst C dL_acts_452 ?_
        refine dp_goto (tgt := 457) C dL_acts_453 (by decide) ?_
        refine dp_zret C hret (by first | decide | exact dp_nb) dL_acts_457 ?_
        exact ⟨rfl, _, _, _, _, rfl, hI⟩
      · skip
        refine dp_aload_n C dL_acts_402 rfl ?_
        refine dp_iload C dL_acts_403 rfl ?_
        refine dp_iload C dL_acts_405 rfl ?_
        refine dp_cVi C (w_gust0 C.2.2.1 l hI0 (d := (d : Int)) (g := v / 60 % 100) (by omega) (by omega) (by omega)) gL_acts_X6_gust rfl (dp_mC (by decide)) dp_xdp rfl yyX6_gust rfl ⟨Nat.le_of_ble_eq_true rfl, Nat.le_of_ble_eq_true rfl⟩ rfl (Nat.le_of_ble_eq_true rfl) rfl ⟨Nat.zero_le _, Nat.zero_le _⟩ dL_acts_407 (fun x407 M407 h407 => ?_)
        obtain ⟨rfl, rfl⟩ := h407
        refine dp_ldc C (-100002) (List.mem_of_getElem? (i := 2) rfl) rfl dL_acts_410 ?_
        refine dp_icmp_same (tgt := 419) C rfl (by decide) dL_acts_412 ?_
        refine dp_iconst C dL_acts_415 ?_
        refine dp_goto (tgt := 420) C dL_acts_416 (by decide) ?_
        refine dp_zret C hret (by first | decide | exact dp_nb) dL_acts_420 ?_
        exact ⟨rfl, _, _, _, _, rfl, hI0⟩
    · skip
      refine dp_iload C dL_acts_351 rfl ?_
      refine dp_iconst C dL_acts_353 ?_
      refine dp_idiv C ⟨by omega, by omega, by omega, by omega⟩ dL_acts_354 ?_
      refine dp_bipush C dL_acts_355 (by decide) ?_
      refine dp_irem C ⟨by omega, by omega, by omega, by omega⟩ dL_acts_357 ?_
      obtain ⟨d, hd, hdb⟩ : ∃ d : Nat, v / 2 % 30 = d ∧ d < 30 := ⟨(v / 2 % 30).toNat, by omega, by omega⟩
      rw [hd]
      refine dp_goto (tgt := 378) C dL_acts_358 (by decide) ?_
      refine dp_istore C dL_acts_378 (Nat.le_of_ble_eq_true rfl) ?_
      dsimp only [List.set]
      refine dp_iload C dL_acts_380 rfl ?_
      refine dp_bipush C dL_acts_382 (by decide) ?_
      refine dp_idiv C ⟨by omega, by omega, by omega, by omega⟩ dL_acts_384 ?_
      refine dp_bipush C dL_acts_385 (by decide) ?_
      refine dp_irem C ⟨by omega, by omega, by omega, by omega⟩ dL_acts_387 ?_
      refine dp_istore C dL_acts_388 (Nat.le_of_ble_eq_true rfl) ?_
      dsimp only [List.set]
      refine dp_sipush C dL_acts_390 (by decide) ?_
      refine dp_iload C dL_acts_393 rfl ?_
      refine dp_imul C dL_acts_395 ?_
      refine dp_aload_n C dL_acts_396 rfl ?_
      refine dp_iconst C dL_acts_397 ?_
      refine dp_ald_g C 4 (c9 := 0) (k9 := 0) (by omega) (by decide) rfl rfl dL_acts_398 ?_
      refine dp_icmp_ge (tgt := 421) C dL_acts_399 (by decide) ⟨by omega, by omega⟩ ⟨by omega, by omega⟩ (fun c399 => ?_) (fun c399 => ?_)
      · skip
        refine dp_aload_n C dL_acts_421 rfl ?_
        refine dp_bipush C dL_acts_422 (by decide) ?_
        refine dp_iload C dL_acts_424 rfl ?_
        refine dp_iadd C dL_acts_426 ?_
        refine dp_ald_g C (22 + d) (c9 := 2) (k9 := d) (by omega) (by omega) (dp_ceU (by omega)).1 (dp_ceU (by omega)).2 dL_acts_427 ?_
        refine dp_istore C dL_acts_428 (Nat.le_of_ble_eq_true rfl) ?_
        dsimp only [List.set]
        refine dp_aload_n C dL_acts_430 rfl ?_
        refine dp_bipush C dL_acts_431 (by decide) ?_
        refine dp_iload C dL_acts_433 rfl ?_
        refine dp_iadd C dL_acts_435 ?_
        refine dp_iload C dL_acts_436 rfl ?_
        refine dp_ast_g C (22 + d) (c9 := 2) (k9 := d) (by omega) (by omega) (dp_ceU (by omega)).1 (dp_ceU (by omega)).2 dL_acts_438 ?_
        refine dp_aload_n C dL_acts_439 rfl ?_
        refine dp_iload C dL_acts_440 rfl ?_
        refine dp_iload C dL_acts_442 rfl ?_
        refine dp_cVi C (w_gust C.2.2.1 l hI0 (d := d) (g := v / 60 % 100) hdb (by omega) (by omega)) gL_acts_X6_gust rfl (dp_mC (by decide)) dp_xdp rfl yyX6_gust rfl ⟨Nat.le_of_ble_eq_true rfl, Nat.le_of_ble_eq_true rfl⟩ rfl (Nat.le_of_ble_eq_true rfl) rfl ⟨Nat.zero_le _, Nat.zero_le _⟩ dL_acts_444 (fun x444 M444 h444 => ?_)
        obtain ⟨rfl, M2, rfl, hI⟩ := h444
        refine dp_iload C dL_acts_447 rfl ?_
        refine dp_icmp_same (tgt := 456) C rfl (by decide) dL_acts_449 ?_
        refine dp_iconst C dL_acts_452 ?_
        refine dp_goto (tgt := 457) C dL_acts_453 (by decide) ?_
        refine dp_zret C hret (by first | decide | exact dp_nb) dL_acts_457 ?_
        exact ⟨rfl, _, _, _, _, rfl, hI⟩
      · skip
        refine dp_aload_n C dL_acts_402 rfl ?_
        refine dp_iload C dL_acts_403 rfl ?_
        refine dp_iload C dL_acts_405 rfl ?_
        refine dp_cVi C (w_gust0 C.2.2.1 l hI0 (d := (d : Int)) (g := v / 60 % 100) (by omega) (by omega) (by omega)) gL_acts_X6_gust rfl (dp_mC (by decide)) dp_xdp rfl yyX6_gust rfl ⟨Nat.le_of_ble_eq_true rfl, Nat.le_of_ble_eq_true rfl⟩ rfl (Nat.le_of_ble_eq_true rfl) rfl ⟨Nat.zero_le _, Nat.zero_le _⟩ dL_acts_407 (fun x407 M407 h407 => ?_)
        obtain ⟨rfl, rfl⟩ := h407
        refine dp_ldc C (-100002) (List.mem_of_getElem? (i := 2) rfl) rfl dL_acts_410 ?_
        refine dp_icmp_same (tgt := 419) C rfl (by decide) dL_acts_412 ?_
        refine dp_iconst C dL_acts_415 ?_
        refine dp_goto (tgt := 420) C dL_acts_416 (by decide) ?_
        refine dp_zret C hret (by first | decide | exact dp_nb) dL_acts_420 ?_
        exact ⟨rfl, _, _, _, _, rfl, hI0⟩
  have J458 : ∀ v : Int, 0 ≤ v → v < 10000000 → dp_G E (dp_A E) p l e (dp_rm 8 207) s m [.ref (eAd E 7 0), .ref (eAd E 8 0), .ref (eAd E 8 1), .int (dp_I z)].toArray below meth co 0 0 (MQ below (dp_qi E (fun y M1 => y = 1 ∧ ∃ M2 V2 X2 N2, M1 = dN M2 V2 X2 ∧ iC M2 V2 N2)) [.ref (eAd E 7 0), .ref (eAd E 8 0), .ref (eAd E 8 1), .int (dp_I z)].toArray s 0 0 (dp_A E)) (dN M V X) 458 [some (.ref (eAd E 7 0)), some (.ref (eAd E 8 0)), some (.ref (eAd E 8 1)), some (.int (dp_I z)), some (.int (dp_I v)), some (.int (dp_I ((N : Int)))), none, none, none, none, none, none, none, none, none, none, none, none, none, none, none, none, none] [] := by
    intro v hv0 hv1
    refine dp_iload C dL_acts_458 rfl ?_
    refine dp_ldc C (36000) (List.mem_of_getElem? (i := 3) rfl) rfl dL_acts_460 ?_
    refine dp_irem C ⟨by omega, by omega, by omega, by omega⟩ dL_acts_462 ?_
    refine dp_istore C dL_acts_463 (Nat.le_of_ble_eq_true rfl) ?_
    dsimp only [List.set]
    refine dp_sipush C dL_acts_465 (by decide) ?_
    refine dp_iload C dL_acts_468 rfl ?_
    refine dp_iconst C dL_acts_470 ?_
    refine dp_idiv C ⟨by omega, by omega, by omega, by omega⟩ dL_acts_471 ?_
    refine dp_sipush C dL_acts_472 (by decide) ?_
    refine dp_irem C ⟨by omega, by omega, by omega, by omega⟩ dL_acts_475 ?_
    refine dp_iadd C dL_acts_476 ?_
    refine dp_istore C dL_acts_477 (Nat.le_of_ble_eq_true rfl) ?_
    dsimp only [List.set]
    refine dp_aload_n C dL_acts_479 rfl ?_
    refine dp_iload C dL_acts_480 rfl ?_
    refine dp_cSi C (c_L_pick C.2.2.1 l hs9 (z := v % 36000) (by omega)) gL_acts_L_pick rfl yyL_pick rfl ⟨Nat.le_of_ble_eq_true rfl, Nat.le_of_ble_eq_true rfl⟩ rfl (Nat.le_of_ble_eq_true rfl) rfl ⟨Nat.zero_le _, Nat.zero_le _⟩ dL_acts_482 (fun x482 M482 h482 => ?_)
    obtain ⟨rfl, X1, rfl, hs1⟩ := h482
    have hap := @apF_bd V (v % 36000) (by omega)
    have hlb := lnN_bd hs9.2.2.2.2 (show -40000 ≤ 500 + v / 3 % 8501 ∧ 500 + v / 3 % 8501 ≤ 40000 by omega) ho
    have hlg := lnN_ge hs9.2.2.2.2 (show -40000 ≤ 500 + v / 3 % 8501 ∧ 500 + v / 3 % 8501 ≤ 40000 by omega) ho
    have hl4 : (wyP 4 (V 4) (500 + v / 3 % 8501) (V 1 0) = 0 ∧ lnN 4 (V 4) (500 + v / 3 % 8501) (V 1 0) = -1) ∨ (¬ wyP 4 (V 4) (500 + v / 3 % 8501) (V 1 0) = 0 ∧ 0 ≤ lnN 4 (V 4) (500 + v / 3 % 8501) (V 1 0)) := by
      by_cases q : wyP 4 (V 4) (500 + v / 3 % 8501) (V 1 0) = 0
      · exact Or.inl ⟨q, hlg.1 q⟩
      · exact Or.inr ⟨q, by have := hlg.2 q; omega⟩
    have hl3 : (wyP 3 (V 3) (apF V (v % 36000)) (V 1 0) = 0 ∧ pfF V (v % 36000) = -100004) ∨ (¬ wyP 3 (V 3) (apF V (v % 36000)) (V 1 0) = 0 ∧ pfF V (v % 36000) = apF V (v % 36000)) := by
      by_cases q : wyP 3 (V 3) (apF V (v % 36000)) (V 1 0) = 0
      · exact Or.inl ⟨q, if_pos q⟩
      · exact Or.inr ⟨q, if_neg q⟩
    have hub := @uwN_bd V N (by omega)
    have hkb := @kdF_bd V
    refine dp_istore C dL_acts_485 (Nat.le_of_ble_eq_true rfl) ?_
    dsimp only [List.set]
    refine dp_aload_n C dL_acts_487 rfl ?_
    refine dp_aload_n C dL_acts_488 rfl ?_
    refine dp_cSi C (c_L_under C.2.2.1 l hm h4 hq) gL_acts_L_under rfl yyL_under rfl ⟨Nat.le_of_ble_eq_true rfl, Nat.le_of_ble_eq_true rfl⟩ rfl (Nat.le_of_ble_eq_true rfl) rfl ⟨Nat.zero_le _, Nat.zero_le _⟩ dL_acts_489 (fun x489 M489 h489 => ?_)
    obtain ⟨rfl, rfl⟩ := h489
    refine dp_if_ge (tgt := 519) C dL_acts_492 (by decide) ⟨by omega, by omega⟩ (fun c492 => ?_) (fun c492 => ?_)
    · skip
      refine dp_aload_n C dL_acts_519 rfl ?_
      refine dp_iload C dL_acts_520 rfl ?_
      refine dp_iload C dL_acts_522 rfl ?_
      refine dp_cVi C (w_slew C.2.2.1 l hI0 (z := v % 36000) (el := 500 + v / 3 % 8501) (by omega) (by omega)) gL_acts_X6_slew rfl (dp_mC (by decide)) dp_xdp rfl yyX6_slew rfl ⟨Nat.le_of_ble_eq_true rfl, Nat.le_of_ble_eq_true rfl⟩ rfl (Nat.le_of_ble_eq_true rfl) rfl ⟨Nat.zero_le _, Nat.zero_le _⟩ dL_acts_524 (fun x524 M524 h524 => ?_)
      obtain ⟨_, rfl, M2, rfl, hI⟩ := Or.resolve_left h524 (fun ⟨q1, q2, q3, q4, _⟩ => by omega)
      refine dp_ldc C (-100002) (List.mem_of_getElem? (i := 2) rfl) rfl dL_acts_527 ?_
      refine dp_icmp_same (tgt := 536) C rfl (by decide) dL_acts_529 ?_
      refine dp_iconst C dL_acts_532 ?_
      refine dp_goto (tgt := 537) C dL_acts_533 (by decide) ?_
      refine dp_zret C hret (by first | decide | exact dp_nb) dL_acts_537 ?_
      exact ⟨rfl, _, _, _, _, rfl, hI⟩
    · skip
      refine dp_aload_n C dL_acts_495 rfl ?_
      refine dp_cSi C (c_L_day C.2.2.1 l hs9) gL_acts_L_day rfl yyL_day rfl ⟨Nat.le_of_ble_eq_true rfl, Nat.le_of_ble_eq_true rfl⟩ rfl (Nat.le_of_ble_eq_true rfl) rfl ⟨Nat.zero_le _, Nat.zero_le _⟩ dL_acts_496 (fun x496 M496 h496 => ?_)
      obtain ⟨rfl, rfl⟩ := h496
      refine dp_if_eq (tgt := 519) C dL_acts_499 (by decide) ⟨by omega, by omega⟩ (fun c499 => ?_) (fun c499 => ?_)
      · skip
        refine dp_aload_n C dL_acts_519 rfl ?_
        refine dp_iload C dL_acts_520 rfl ?_
        refine dp_iload C dL_acts_522 rfl ?_
        refine dp_cVi C (w_slew C.2.2.1 l hI0 (z := v % 36000) (el := 500 + v / 3 % 8501) (by omega) (by omega)) gL_acts_X6_slew rfl (dp_mC (by decide)) dp_xdp rfl yyX6_slew rfl ⟨Nat.le_of_ble_eq_true rfl, Nat.le_of_ble_eq_true rfl⟩ rfl (Nat.le_of_ble_eq_true rfl) rfl ⟨Nat.zero_le _, Nat.zero_le _⟩ dL_acts_524 (fun x524 M524 h524 => ?_)
        obtain ⟨_, rfl, M2, rfl, hI⟩ := Or.resolve_left h524 (fun ⟨q1, q2, q3, q4, _⟩ => by omega)
        refine dp_ldc C (-100002) (List.mem_of_getElem? (i := 2) rfl) rfl dL_acts_527 ?_
        refine dp_icmp_same (tgt := 536) C rfl (by decide) dL_acts_529 ?_
        refine dp_iconst C dL_acts_532 ?_
        refine dp_goto (tgt := 537) C dL_acts_533 (by decide) ?_
        refine dp_zret C hret (by first | decide | exact dp_nb) dL_acts_537 ?_
        exact ⟨rfl, _, _, _, _, rfl, hI⟩
      · skip
        refine dp_iload C dL_acts_502 rfl ?_
        refine dp_ldc C (-100000) (List.mem_of_getElem? (i := 4) rfl) rfl dL_acts_504 ?_
        refine dp_icmp_lt (tgt := 519) C dL_acts_506 (by decide) ⟨by omega, by omega⟩ ⟨by omega, by omega⟩ (fun c506 => ?_) (fun c506 => ?_)
        · skip
          refine dp_aload_n C dL_acts_519 rfl ?_
          refine dp_iload C dL_acts_520 rfl ?_
          refine dp_iload C dL_acts_522 rfl ?_
          refine dp_cVi C (w_slew C.2.2.1 l hI0 (z := v % 36000) (el := 500 + v / 3 % 8501) (by omega) (by omega)) gL_acts_X6_slew rfl (dp_mC (by decide)) dp_xdp rfl yyX6_slew rfl ⟨Nat.le_of_ble_eq_true rfl, Nat.le_of_ble_eq_true rfl⟩ rfl (Nat.le_of_ble_eq_true rfl) rfl ⟨Nat.zero_le _, Nat.zero_le _⟩ dL_acts_524 (fun x524 M524 h524 => ?_)
          obtain ⟨_, rfl, M2, rfl, hI⟩ := Or.resolve_left h524 (fun ⟨q1, q2, q3, q4, _⟩ => by omega)
          refine dp_ldc C (-100002) (List.mem_of_getElem? (i := 2) rfl) rfl dL_acts_527 ?_
          refine dp_icmp_same (tgt := 536) C rfl (by decide) dL_acts_529 ?_
          refine dp_iconst C dL_acts_532 ?_
          refine dp_goto (tgt := 537) C dL_acts_533 (by decide) ?_
          refine dp_zret C hret (by first | decide | exact dp_nb) dL_acts_537 ?_
          exact ⟨rfl, _, _, _, _, rfl, hI⟩
        · skip
          refine dp_aload_n C dL_acts_509 rfl ?_
          refine dp_iconst C dL_acts_510 ?_
          refine dp_iload C dL_acts_511 rfl ?_
          refine dp_cSi C (c_L_length C.2.2.1 l (a := 1) (to := 500 + v / 3 % 8501) (by decide) hs9.2.2.2.2 ho (by omega)) gL_acts_L_length rfl yyL_length rfl ⟨Nat.le_of_ble_eq_true rfl, Nat.le_of_ble_eq_true rfl⟩ rfl (Nat.le_of_ble_eq_true rfl) rfl ⟨Nat.zero_le _, Nat.zero_le _⟩ dL_acts_513 (fun x513 M513 h513 => ?_)
          obtain ⟨rfl, X2, rfl, hs2⟩ := h513
          rw [show (1 : Nat) + 3 = 4 from rfl]
          refine dp_if_ge (tgt := 538) C dL_acts_516 (by decide) ⟨by omega, by omega⟩ (fun c516 => ?_) (fun c516 => ?_)
          · skip
            have np3 : ¬ wyP 3 (V 3) (apF V (v % 36000)) (V 1 0) = 0 := by omega
            have np4 : ¬ wyP 4 (V 4) (500 + v / 3 % 8501) (V 1 0) = 0 := by omega
            have epf : pfF V (v % 36000) = apF V (v % 36000) := by omega
            rw [epf]
            refine dp_aload_n C dL_acts_538 rfl ?_
            refine dp_iload C dL_acts_539 rfl ?_
            refine dp_iload C dL_acts_541 rfl ?_
            refine dp_cVi C (w_slew C.2.2.1 l hI0 (z := v % 36000) (el := 500 + v / 3 % 8501) (by omega) (by omega)) gL_acts_X6_slew rfl (dp_mC (by decide)) dp_xdp rfl yyX6_slew rfl ⟨Nat.le_of_ble_eq_true rfl, Nat.le_of_ble_eq_true rfl⟩ rfl (Nat.le_of_ble_eq_true rfl) rfl ⟨Nat.zero_le _, Nat.zero_le _⟩ dL_acts_543 (fun x543 M543 h543 => ?_)
            obtain ⟨_, _, _, _, rfl, M2, rfl, hI⟩ := Or.resolve_right h543 (fun ⟨q, _⟩ => q ⟨by omega, by omega, np3, np4⟩)
            refine dp_aload_n C dL_acts_546 rfl ?_
            refine dp_iload C dL_acts_547 rfl ?_
            refine dp_iload C dL_acts_549 rfl ?_
            refine dp_cSi C (c_L_slews C.2.2.1 l hs9 hap (by omega) np3 np4) gL_acts_L_slews rfl yyL_slews rfl ⟨Nat.le_of_ble_eq_true rfl, Nat.le_of_ble_eq_true rfl⟩ rfl (Nat.le_of_ble_eq_true rfl) rfl ⟨Nat.zero_le _, Nat.zero_le _⟩ dL_acts_551 (fun x551 M551 h551 => ?_)
            obtain ⟨rfl, X3, rfl, hs3⟩ := h551
            refine dp_icmp_same (tgt := 561) C rfl (by decide) dL_acts_554 ?_
            refine dp_iconst C dL_acts_557 ?_
            refine dp_goto (tgt := 562) C dL_acts_558 (by decide) ?_
            refine dp_zret C hret (by first | decide | exact dp_nb) dL_acts_562 ?_
            exact ⟨rfl, _, _, _, _, rfl, hI⟩
          · skip
            refine dp_aload_n C dL_acts_519 rfl ?_
            refine dp_iload C dL_acts_520 rfl ?_
            refine dp_iload C dL_acts_522 rfl ?_
            refine dp_cVi C (w_slew C.2.2.1 l hI0 (z := v % 36000) (el := 500 + v / 3 % 8501) (by omega) (by omega)) gL_acts_X6_slew rfl (dp_mC (by decide)) dp_xdp rfl yyX6_slew rfl ⟨Nat.le_of_ble_eq_true rfl, Nat.le_of_ble_eq_true rfl⟩ rfl (Nat.le_of_ble_eq_true rfl) rfl ⟨Nat.zero_le _, Nat.zero_le _⟩ dL_acts_524 (fun x524 M524 h524 => ?_)
            obtain ⟨_, rfl, M2, rfl, hI⟩ := Or.resolve_left h524 (fun ⟨q1, q2, q3, q4, _⟩ => by omega)
            refine dp_ldc C (-100002) (List.mem_of_getElem? (i := 2) rfl) rfl dL_acts_527 ?_
            refine dp_icmp_same (tgt := 536) C rfl (by decide) dL_acts_529 ?_
            refine dp_iconst C dL_acts_532 ?_
            refine dp_goto (tgt := 537) C dL_acts_533 (by decide) ?_
            refine dp_zret C hret (by first | decide | exact dp_nb) dL_acts_537 ?_
            exact ⟨rfl, _, _, _, _, rfl, hI⟩
  have J563 : ∀ v : Int, 0 ≤ v → v < 10000000 → dp_G E (dp_A E) p l e (dp_rm 8 207) s m [.ref (eAd E 7 0), .ref (eAd E 8 0), .ref (eAd E 8 1), .int (dp_I z)].toArray below meth co 0 0 (MQ below (dp_qi E (fun y M1 => y = 1 ∧ ∃ M2 V2 X2 N2, M1 = dN M2 V2 X2 ∧ iC M2 V2 N2)) [.ref (eAd E 7 0), .ref (eAd E 8 0), .ref (eAd E 8 1), .int (dp_I z)].toArray s 0 0 (dp_A E)) (dN M V X) 563 [some (.ref (eAd E 7 0)), some (.ref (eAd E 8 0)), some (.ref (eAd E 8 1)), some (.int (dp_I z)), some (.int (dp_I v)), some (.int (dp_I ((N : Int)))), none, none, none, none, none, none, none, none, none, none, none, none, none, none, none, none, none] [] := by
    intro v hv0 hv1
    refine dp_iload C dL_acts_563 rfl ?_
    refine dp_if_eq (tgt := 575) C dL_acts_565 (by decide) ⟨by omega, by omega⟩ (fun c565 => ?_) (fun c565 => ?_)
    · skip
      refine dp_aload_n C dL_acts_575 rfl ?_
      refine dp_iload C dL_acts_576 rfl ?_
      refine dp_cVi C (w_drop C.2.2.1 l hI0 (x := (N : Int)) ⟨by omega, by omega⟩) gL_acts_X6_drop rfl (dp_mC (by decide)) dp_xdp rfl yyX6_drop rfl ⟨Nat.le_of_ble_eq_true rfl, Nat.le_of_ble_eq_true rfl⟩ rfl (Nat.le_of_ble_eq_true rfl) rfl ⟨Nat.zero_le _, Nat.zero_le _⟩ dL_acts_578 (fun x578 M578 h578 => ?_)
      obtain ⟨_, rfl, rfl⟩ := Or.resolve_right h578 (fun w => by rcases w with ⟨q, _⟩ | ⟨q, _⟩ <;> omega)
      refine dp_ldc C (-100001) (List.mem_of_getElem? (i := 5) rfl) rfl dL_acts_581 ?_
      refine dp_icmp_same (tgt := 590) C rfl (by decide) dL_acts_583 ?_
      refine dp_iconst C dL_acts_586 ?_
      refine dp_goto (tgt := 591) C dL_acts_587 (by decide) ?_
      refine dp_zret C hret (by first | decide | exact dp_nb) dL_acts_591 ?_
      exact ⟨rfl, _, _, _, _, rfl, hI0⟩
    · skip
      refine dp_iload C dL_acts_568 rfl ?_
      refine dp_iconst C dL_acts_570 ?_
      refine dp_irem C ⟨by omega, by omega, by omega, by omega⟩ dL_acts_571 ?_
      refine dp_if_le (tgt := 592) C dL_acts_572 (by decide) ⟨by omega, by omega⟩ (fun c572 => ?_) (fun c572 => ?_)
      · skip
        refine dp_iload C dL_acts_592 rfl ?_
        refine dp_iconst C dL_acts_594 ?_
        refine dp_idiv C ⟨by omega, by omega, by omega, by omega⟩ dL_acts_595 ?_
        refine dp_iload C dL_acts_596 rfl ?_
        refine dp_irem C ⟨by omega, by omega, by omega, by omega⟩ dL_acts_598 ?_
        obtain ⟨k, hk, hkb⟩ : ∃ k : Nat, v / 3 % (N : Int) = k ∧ k < N := ⟨(v / 3 % (N : Int)).toNat, by have := Int.emod_nonneg (v / 3) (show (N : Int) ≠ 0 by omega); omega, by have := Int.emod_nonneg (v / 3) (show (N : Int) ≠ 0 by omega); have := Int.emod_lt_of_pos (v / 3) (show 0 < (N : Int) by omega); omega⟩
        rw [hk]
        refine dp_istore C dL_acts_599 (Nat.le_of_ble_eq_true rfl) ?_
        dsimp only [List.set]
        refine dp_aload_n C dL_acts_601 rfl ?_
        refine dp_bipush C dL_acts_602 (by decide) ?_
        refine dp_iload C dL_acts_604 rfl ?_
        refine dp_imul C dL_acts_606 ?_
        refine dp_bipush C dL_acts_607 (by decide) ?_
        refine dp_iadd C dL_acts_609 ?_
        have hsk := hT k hkb
        unfold ivT at hsk
        refine dp_ald_q C k 6 (by omega) (by omega) (by decide) dL_acts_610 ?_
        refine dp_iconst C dL_acts_611 ?_
        refine dp_icmp_ne (tgt := 632) C dL_acts_612 (by decide) ⟨by omega, by omega⟩ ⟨by omega, by omega⟩ (fun c612 => ?_) (fun c612 => ?_)
        · skip
          refine dp_bipush C dL_acts_632 (by decide) ?_
          refine dp_iload C dL_acts_634 rfl ?_
          refine dp_imul C dL_acts_636 ?_
          refine dp_istore C dL_acts_637 (Nat.le_of_ble_eq_true rfl) ?_
          dsimp only [List.set]
          exact J639 (42 - 14 * k) 0 k _ _ V (by omega) (by omega) hkb c612 (fun c _ => rfl) (fun t kk _ => ⟨fun q => by omega, fun _ => rfl⟩)
        · skip
          refine dp_aload_n C dL_acts_615 rfl ?_
          refine dp_iload C dL_acts_616 rfl ?_
          refine dp_cVi C (w_drop C.2.2.1 l hI0 (x := (k : Int)) ⟨by omega, by omega⟩) gL_acts_X6_drop rfl (dp_mC (by decide)) dp_xdp rfl yyX6_drop rfl ⟨Nat.le_of_ble_eq_true rfl, Nat.le_of_ble_eq_true rfl⟩ rfl (Nat.le_of_ble_eq_true rfl) rfl ⟨Nat.zero_le _, Nat.zero_le _⟩ dL_acts_618 (fun x618 M618 h618 => ?_)
          have h618b := Or.resolve_left h618 (fun w => w.1 ⟨by omega, by omega⟩)
          obtain ⟨_, _, rfl, rfl⟩ := Or.resolve_right h618b (fun w => w.2.1 (by rw [Int.toNat_natCast]; exact c612))
          refine dp_ldc C (-100002) (List.mem_of_getElem? (i := 2) rfl) rfl dL_acts_621 ?_
          refine dp_icmp_same (tgt := 630) C rfl (by decide) dL_acts_623 ?_
          refine dp_iconst C dL_acts_626 ?_
          refine dp_goto (tgt := 631) C dL_acts_627 (by decide) ?_
          refine dp_zret C hret (by first | decide | exact dp_nb) dL_acts_631 ?_
          exact ⟨rfl, _, _, _, _, rfl, hI0⟩
      · skip
        refine dp_aload_n C dL_acts_575 rfl ?_
        refine dp_iload C dL_acts_576 rfl ?_
        refine dp_cVi C (w_drop C.2.2.1 l hI0 (x := (N : Int)) ⟨by omega, by omega⟩) gL_acts_X6_drop rfl (dp_mC (by decide)) dp_xdp rfl yyX6_drop rfl ⟨Nat.le_of_ble_eq_true rfl, Nat.le_of_ble_eq_true rfl⟩ rfl (Nat.le_of_ble_eq_true rfl) rfl ⟨Nat.zero_le _, Nat.zero_le _⟩ dL_acts_578 (fun x578 M578 h578 => ?_)
        obtain ⟨_, rfl, rfl⟩ := Or.resolve_right h578 (fun w => by rcases w with ⟨q, _⟩ | ⟨q, _⟩ <;> omega)
        refine dp_ldc C (-100001) (List.mem_of_getElem? (i := 5) rfl) rfl dL_acts_581 ?_
        refine dp_icmp_same (tgt := 590) C rfl (by decide) dL_acts_583 ?_
        refine dp_iconst C dL_acts_586 ?_
        refine dp_goto (tgt := 591) C dL_acts_587 (by decide) ?_
        refine dp_zret C hret (by first | decide | exact dp_nb) dL_acts_591 ?_
        exact ⟨rfl, _, _, _, _, rfl, hI0⟩
  have J693 : ∀ v : Int, 0 ≤ v → v < 10000000 → dp_G E (dp_A E) p l e (dp_rm 8 207) s m [.ref (eAd E 7 0), .ref (eAd E 8 0), .ref (eAd E 8 1), .int (dp_I z)].toArray below meth co 0 0 (MQ below (dp_qi E (fun y M1 => y = 1 ∧ ∃ M2 V2 X2 N2, M1 = dN M2 V2 X2 ∧ iC M2 V2 N2)) [.ref (eAd E 7 0), .ref (eAd E 8 0), .ref (eAd E 8 1), .int (dp_I z)].toArray s 0 0 (dp_A E)) (dN M V X) 693 [some (.ref (eAd E 7 0)), some (.ref (eAd E 8 0)), some (.ref (eAd E 8 1)), some (.int (dp_I z)), some (.int (dp_I v)), some (.int (dp_I ((N : Int)))), none, none, none, none, none, none, none, none, none, none, none, none, none, none, none, none, none] [] := by
    intro v hv0 hv1
    refine dp_iload C dL_acts_693 rfl ?_
    refine dp_iconst C dL_acts_695 ?_
    refine dp_irem C ⟨by omega, by omega, by omega, by omega⟩ dL_acts_696 ?_
    refine dp_if_ne (tgt := 711) C dL_acts_697 (by decide) ⟨by omega, by omega⟩ (fun c697 => ?_) (fun c697 => ?_)
    · skip
      refine dp_iload C dL_acts_711 rfl ?_
      refine dp_iconst C dL_acts_713 ?_
      refine dp_idiv C ⟨by omega, by omega, by omega, by omega⟩ dL_acts_714 ?_
      refine dp_bipush C dL_acts_715 (by decide) ?_
      refine dp_irem C ⟨by omega, by omega, by omega, by omega⟩ dL_acts_717 ?_
      obtain ⟨mm, hmm, hmmb⟩ : ∃ mm : Nat, v / 4 % 90 = mm ∧ mm < 90 := ⟨(v / 4 % 90).toNat, by omega, by omega⟩
      rw [hmm]
      refine dp_istore C dL_acts_718 (Nat.le_of_ble_eq_true rfl) ?_
      dsimp only [List.set]
      refine dp_aload_n C dL_acts_720 rfl ?_
      refine dp_iconst C dL_acts_721 ?_
      refine dp_ald_g C 4 (c9 := 0) (k9 := 0) (by omega) (by decide) rfl rfl dL_acts_722 ?_
      refine dp_iload C dL_acts_723 rfl ?_
      refine dp_iadd C dL_acts_725 ?_
      refine dp_ldc C (43200) (List.mem_of_getElem? (i := 6) rfl) rfl dL_acts_726 ?_
      refine dp_icmp_le (tgt := 748) C dL_acts_728 (by decide) ⟨by omega, by omega⟩ ⟨by omega, by omega⟩ (fun c728 => ?_) (fun c728 => ?_)
      · skip
        refine dp_aload_n C dL_acts_748 rfl ?_
        refine dp_iload C dL_acts_749 rfl ?_
        refine dp_cVi C (w_run C.2.2.1 l hI0 (k := mm) (by omega) (by omega)) gL_acts_X6_run rfl (dp_mC (by decide)) dp_xdp rfl yyX6_run rfl ⟨Nat.le_of_ble_eq_true rfl, Nat.le_of_ble_eq_true rfl⟩ rfl (Nat.le_of_ble_eq_true rfl) rfl ⟨Nat.zero_le _, Nat.zero_le _⟩ dL_acts_751 (fun x751 M751 h751 => ?_)
        obtain ⟨rfl, M2, rfl, hI⟩ := h751
        refine dp_aload_n C dL_acts_754 rfl ?_
        refine dp_aload_n C dL_acts_755 rfl ?_
        refine dp_iload C dL_acts_756 rfl ?_
        refine dp_cSi C (c_L_runs C.2.2.1 l hm h4 hq (kk := mm) (by omega)) gL_acts_L_runs rfl yyL_runs rfl ⟨Nat.le_of_ble_eq_true rfl, Nat.le_of_ble_eq_true rfl⟩ rfl (Nat.le_of_ble_eq_true rfl) rfl ⟨Nat.zero_le _, Nat.zero_le _⟩ dL_acts_758 (fun x758 M758 h758 => ?_)
        obtain ⟨rfl, X3, rfl, hs3⟩ := h758
        refine dp_icmp_same (tgt := 768) C rfl (by decide) dL_acts_761 ?_
        refine dp_iconst C dL_acts_764 ?_
        refine dp_goto (tgt := 769) C dL_acts_765 (by decide) ?_
        refine dp_zret C hret (by first | decide | exact dp_nb) dL_acts_769 ?_
        exact ⟨rfl, _, _, _, _, rfl, hI⟩
      · skip
        refine dp_aload_n C dL_acts_731 rfl ?_
        refine dp_iload C dL_acts_732 rfl ?_
        refine dp_cVi C (w_run0 C.2.2.1 l hI0 (k := (mm : Int)) (by omega) (by omega)) gL_acts_X6_run rfl (dp_mC (by decide)) dp_xdp rfl yyX6_run rfl ⟨Nat.le_of_ble_eq_true rfl, Nat.le_of_ble_eq_true rfl⟩ rfl (Nat.le_of_ble_eq_true rfl) rfl ⟨Nat.zero_le _, Nat.zero_le _⟩ dL_acts_734 (fun x734 M734 h734 => ?_)
        obtain ⟨rfl, M2, rfl, hI⟩ := h734
        refine dp_ldc C (-100003) (List.mem_of_getElem? (i := 7) rfl) rfl dL_acts_737 ?_
        refine dp_icmp_same (tgt := 746) C rfl (by decide) dL_acts_739 ?_
        refine dp_iconst C dL_acts_742 ?_
        refine dp_goto (tgt := 747) C dL_acts_743 (by decide) ?_
        refine dp_zret C hret (by first | decide | exact dp_nb) dL_acts_747 ?_
        exact ⟨rfl, _, _, _, _, rfl, hI⟩
    · skip
      refine dp_iload C dL_acts_700 rfl ?_
      refine dp_iconst C dL_acts_702 ?_
      refine dp_idiv C ⟨by omega, by omega, by omega, by omega⟩ dL_acts_703 ?_
      refine dp_sipush C dL_acts_704 (by decide) ?_
      refine dp_irem C ⟨by omega, by omega, by omega, by omega⟩ dL_acts_707 ?_
      obtain ⟨mm, hmm, hmmb⟩ : ∃ mm : Nat, v / 4 % 1500 = mm ∧ mm < 1500 := ⟨(v / 4 % 1500).toNat, by omega, by omega⟩
      rw [hmm]
      refine dp_goto (tgt := 718) C dL_acts_708 (by decide) ?_
      refine dp_istore C dL_acts_718 (Nat.le_of_ble_eq_true rfl) ?_
      dsimp only [List.set]
      refine dp_aload_n C dL_acts_720 rfl ?_
      refine dp_iconst C dL_acts_721 ?_
      refine dp_ald_g C 4 (c9 := 0) (k9 := 0) (by omega) (by decide) rfl rfl dL_acts_722 ?_
      refine dp_iload C dL_acts_723 rfl ?_
      refine dp_iadd C dL_acts_725 ?_
      refine dp_ldc C (43200) (List.mem_of_getElem? (i := 6) rfl) rfl dL_acts_726 ?_
      refine dp_icmp_le (tgt := 748) C dL_acts_728 (by decide) ⟨by omega, by omega⟩ ⟨by omega, by omega⟩ (fun c728 => ?_) (fun c728 => ?_)
      · skip
        refine dp_aload_n C dL_acts_748 rfl ?_
        refine dp_iload C dL_acts_749 rfl ?_
        refine dp_cVi C (w_run C.2.2.1 l hI0 (k := mm) (by omega) (by omega)) gL_acts_X6_run rfl (dp_mC (by decide)) dp_xdp rfl yyX6_run rfl ⟨Nat.le_of_ble_eq_true rfl, Nat.le_of_ble_eq_true rfl⟩ rfl (Nat.le_of_ble_eq_true rfl) rfl ⟨Nat.zero_le _, Nat.zero_le _⟩ dL_acts_751 (fun x751 M751 h751 => ?_)
        obtain ⟨rfl, M2, rfl, hI⟩ := h751
        refine dp_aload_n C dL_acts_754 rfl ?_
        refine dp_aload_n C dL_acts_755 rfl ?_
        refine dp_iload C dL_acts_756 rfl ?_
        refine dp_cSi C (c_L_runs C.2.2.1 l hm h4 hq (kk := mm) (by omega)) gL_acts_L_runs rfl yyL_runs rfl ⟨Nat.le_of_ble_eq_true rfl, Nat.le_of_ble_eq_true rfl⟩ rfl (Nat.le_of_ble_eq_true rfl) rfl ⟨Nat.zero_le _, Nat.zero_le _⟩ dL_acts_758 (fun x758 M758 h758 => ?_)
        obtain ⟨rfl, X3, rfl, hs3⟩ := h758
        refine dp_icmp_same (tgt := 768) C rfl (by decide) dL_acts_761 ?_
        refine dp_iconst C dL_acts_764 ?_
        refine dp_goto (tgt := 769) C dL_acts_765 (by decide) ?_
        refine dp_zret C hret (by first | decide | exact dp_nb) dL_acts_769 ?_
        exact ⟨rfl, _, _, _, _, rfl, hI⟩
      · skip
        refine dp_aload_n C dL_acts_731 rfl ?_
        refine dp_iload C dL_acts_732 rfl ?_
        refine dp_cVi C (w_run0 C.2.2.1 l hI0 (k := (mm : Int)) (by omega) (by omega)) gL_acts_X6_run rfl (dp_mC (by decide)) dp_xdp rfl yyX6_run rfl ⟨Nat.le_of_ble_eq_true rfl, Nat.le_of_ble_eq_true rfl⟩ rfl (Nat.le_of_ble_eq_true rfl) rfl ⟨Nat.zero_le _, Nat.zero_le _⟩ dL_acts_734 (fun x734 M734 h734 => ?_)
        obtain ⟨rfl, M2, rfl, hI⟩ := h734
        refine dp_ldc C (-100003) (List.mem_of_getElem? (i := 7) rfl) rfl dL_acts_737 ?_
        refine dp_icmp_same (tgt := 746) C rfl (by decide) dL_acts_739 ?_
        refine dp_iconst C dL_acts_742 ?_
        refine dp_goto (tgt := 747) C dL_acts_743 (by decide) ?_
        refine dp_zret C hret (by first | decide | exact dp_nb) dL_acts_747 ?_
        exact ⟨rfl, _, _, _, _, rfl, hI⟩
  have J770 : ∀ v : Int, 0 ≤ v → v < 10000000 → dp_G E (dp_A E) p l e (dp_rm 8 207) s m [.ref (eAd E 7 0), .ref (eAd E 8 0), .ref (eAd E 8 1), .int (dp_I z)].toArray below meth co 0 0 (MQ below (dp_qi E (fun y M1 => y = 1 ∧ ∃ M2 V2 X2 N2, M1 = dN M2 V2 X2 ∧ iC M2 V2 N2)) [.ref (eAd E 7 0), .ref (eAd E 8 0), .ref (eAd E 8 1), .int (dp_I z)].toArray s 0 0 (dp_A E)) (dN M V X) 770 [some (.ref (eAd E 7 0)), some (.ref (eAd E 8 0)), some (.ref (eAd E 8 1)), some (.int (dp_I z)), some (.int (dp_I v)), some (.int (dp_I ((N : Int)))), none, none, none, none, none, none, none, none, none, none, none, none, none, none, none, none, none] [] := by
    intro v hv0 hv1
    refine dp_iload C dL_acts_770 rfl ?_
    refine dp_iconst C dL_acts_772 ?_
    refine dp_icmp_ne (tgt := 799) C dL_acts_773 (by decide) ⟨by omega, by omega⟩ ⟨by omega, by omega⟩ (fun c773 => ?_) (fun c773 => ?_)
    · skip
      refine dp_bipush C dL_acts_799 (by decide) ?_
      refine dp_iload C dL_acts_801 rfl ?_
      refine dp_imul C dL_acts_803 ?_
      refine dp_istore C dL_acts_804 (Nat.le_of_ble_eq_true rfl) ?_
      dsimp only [List.set]
      refine dp_iconst C dL_acts_806 ?_
      refine dp_istore C dL_acts_807 (Nat.le_of_ble_eq_true rfl) ?_
      dsimp only [List.set]
      exact J809 14 0 _ _ V (by omega) (by omega) hv0 hv1 (by omega) (by rw [zf_0, uc_id])
    · skip
      refine dp_aload_n C dL_acts_776 rfl ?_
      refine dp_iconst C dL_acts_777 ?_
      refine dp_sipush C dL_acts_778 (by decide) ?_
      refine dp_iconst C dL_acts_781 ?_
      refine dp_iconst C dL_acts_782 ?_
      refine dp_iconst C dL_acts_783 ?_
      refine dp_iconst C dL_acts_784 ?_
      refine dp_cVi C (w_addno C.2.2.1 l hI0 (by rfl) ⟨by omega, by omega⟩ ⟨by omega, by omega⟩ ⟨by omega, by omega⟩ ⟨by omega, by omega⟩ ⟨by omega, by omega⟩ ⟨by omega, by omega⟩) gL_acts_X6_add rfl (dp_mC (by decide)) dp_xdp rfl yyX6_add rfl ⟨Nat.le_of_ble_eq_true rfl, Nat.le_of_ble_eq_true rfl⟩ rfl (Nat.le_of_ble_eq_true rfl) rfl ⟨Nat.zero_le _, Nat.zero_le _⟩ dL_acts_785 (fun x785 M785 h785 => ?_)
      obtain ⟨rfl, rfl⟩ := h785
      refine dp_ldc C (-100001) (List.mem_of_getElem? (i := 5) rfl) rfl dL_acts_788 ?_
      refine dp_icmp_same (tgt := 797) C rfl (by decide) dL_acts_790 ?_
      refine dp_iconst C dL_acts_793 ?_
      refine dp_goto (tgt := 798) C dL_acts_794 (by decide) ?_
      refine dp_zret C hret (by first | decide | exact dp_nb) dL_acts_798 ?_
      exact ⟨rfl, _, _, _, _, rfl, hI0⟩
  refine dp_iload_n C dL_acts_0 rfl ?_
  refine dp_iconst C dL_acts_1 ?_
  refine dp_ishrA C dL_acts_2 (fun v2 w2 => ?_)
  refine dp_ldc C (10000000) (List.mem_of_getElem? (i := 1) rfl) rfl dL_acts_3 ?_
  refine dp_cSi C (c_L_low C.2.2.1 l ⟨by omega, by omega⟩) gL_acts_L_low rfl yyL_low rfl ⟨Nat.le_of_ble_eq_true rfl, Nat.le_of_ble_eq_true rfl⟩ rfl (Nat.le_of_ble_eq_true rfl) rfl ⟨Nat.zero_le _, Nat.zero_le _⟩ dL_acts_5 (fun x5 M5 h5 => ?_)
  obtain ⟨⟨hv0, hv1⟩, rfl⟩ := h5
  have hv9 : x5 < 10000000 := hv1
  refine dp_istore C dL_acts_8 (Nat.le_of_ble_eq_true rfl) ?_
  dsimp only [List.set]
  refine dp_aload_n C dL_acts_10 rfl ?_
  refine dp_bipush C dL_acts_11 (by decide) ?_
  refine dp_ald_g C 7 (c9 := 0) (k9 := 3) (by omega) (by decide) rfl rfl dL_acts_13 ?_
  rw [hN]
  refine dp_istore C dL_acts_14 (Nat.le_of_ble_eq_true rfl) ?_
  dsimp only [List.set]
  refine dp_iload_n C dL_acts_16 rfl ?_
  refine dp_bipush C dL_acts_17 (by decide) ?_
  refine dp_cSi C (c_L_low C.2.2.1 l ⟨by omega, by omega⟩) gL_acts_L_low rfl yyL_low rfl ⟨Nat.le_of_ble_eq_true rfl, Nat.le_of_ble_eq_true rfl⟩ rfl (Nat.le_of_ble_eq_true rfl) rfl ⟨Nat.zero_le _, Nat.zero_le _⟩ dL_acts_19 (fun x19 M19 h19 => ?_)
  obtain ⟨⟨hw0, hw1⟩, rfl⟩ := h19
  refine dp_table (td := 770) C [96, 96, 165, 165, 165, 344, 344, 344, 458, 458, 563, 693, 693, 693, 693] dL_acts_22 (by decide) (by decide) (by decide) ⟨by omega, by omega⟩ (fun c22 => ?_) ?_
  · skip
    exact J770 _ hv0 hv1
  · simp only [dp_sw]
    refine ⟨fun c22 => ?_, fun c22 => ?_, fun c22 => ?_, fun c22 => ?_, fun c22 => ?_, fun c22 => ?_, fun c22 => ?_, fun c22 => ?_, fun c22 => ?_, fun c22 => ?_, fun c22 => ?_, fun c22 => ?_, fun c22 => ?_, fun c22 => ?_, fun c22 => ?_, trivial⟩
    · skip
      exact J96 _ hv0 hv1
    · skip
      exact J96 _ hv0 hv1
    · skip
      exact J165 _ hv0 hv1
    · skip
      exact J165 _ hv0 hv1
    · skip
      exact J165 _ hv0 hv1
    · skip
      exact J344 _ hv0 hv1
    · skip
      exact J344 _ hv0 hv1
    · skip
      exact J344 _ hv0 hv1
    · skip
      exact J458 _ hv0 hv1
    · skip
      exact J458 _ hv0 hv1
    · skip
      exact J563 _ hv0 hv1
    · skip
      exact J693 _ hv0 hv1
    · skip
      exact J693 _ hv0 hv1
    · skip
      exact J693 _ hv0 hv1
    · skip
      exact J693 _ hv0 hv1
