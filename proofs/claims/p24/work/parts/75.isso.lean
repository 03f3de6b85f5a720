set_option maxHeartbeats 40000000 in
set_option maxRecDepth 100000 in
/-- the look at all, behind the counts' row: every comparison holds -/
theorem isSo_walk {E : dp_E} {A : Nat → Prop} {p : Program} {l : Launch} {e : Env} {s : State} {m : MethodId} {args : Array Value} {below : List Frame} {meth : Method} {co : Code} {Q : State → Prop} (C : dp_C E A p s m args meth co cL_isSo RL 11 wsL_isSo) (h9 : ¬ eAd E 9 0 = 0) {M : dp_M} {V X : dp_V} {N : Nat} (hI0 : iC M V N) (hX0 : ∀ s9 : Nat, X 2 s9 = 0) (hend : ∀ (M2 : dp_M) (X2 : dp_V) (L : List (Option Value)), iC M2 V N → dp_G E A p l e (nw_rm 6 157 1 4) s m args below meth co 1 4 Q (dN M2 V X2) 715 L [.int (dp_I 1)]) : dp_G E A p l e (nw_rm 6 157 1 4) s m args below meth co 1 4 Q (dN M V X) 4 [some (.ref (eAd E 7 0)), some (.ref (eAd E 8 0)), some (.ref (eAd E 8 1)), some (.ref (eAd E 8 2)), none, none, none, none, none, none, none] [] := by
  have hm := hI0.m
  have hq := hI0.q
  have hs9 := hI0.s
  have h4 : N ≤ 4 := hI0.2.2.2.2.2.1
  have hcb := hI0.2.2.2.2.2.2
  have hN : V 0 3 = (N : Int) := hm.1
  have hT := hm.2.2.2
  have h0 := hs9.1
  have h1 := hs9.2.1
  have hA3 := hs9.2.2.2.1
  unfold ivA at hA3
  have hub := @uwN_bd V N (by omega)
  have ea3 : axL 3 = -27000 ∧ axH 3 = 27000 := ⟨rfl, rfl⟩
  have J561 : ∀ (n i : Nat) (ii : Int) (k : Nat) (M' : dp_M) (X' : dp_V), i + n = 13 → ii = i → k < N → iC M' V N → (dp_G E A p l e (nw_rm 6 157 1 4) s m args below meth co 1 4 Q (dN M' V X') 657 [some (.ref (eAd E 7 0)), some (.ref (eAd E 8 0)), some (.ref (eAd E 8 1)), some (.ref (eAd E 8 2)), none, none, some (.int (dp_I 1)), some (.int (dp_I ((k : Int)))), some (.int (dp_I ((V (k + 6) 6)))), none, none] []) → dp_G E A p l e (nw_rm 6 157 1 4) s m args below meth co 1 4 Q (dN M' V X') 561 [some (.ref (eAd E 7 0)), some (.ref (eAd E 8 0)), some (.ref (eAd E 8 1)), some (.ref (eAd E 8 2)), none, none, some (.int (dp_I 1)), some (.int (dp_I ((k : Int)))), some (.int (dp_I ((V (k + 6) 6)))), some (.int (dp_I ii)), none] [] := by
    refine dp_ind (fun n ih => ?_)
    intro i ii k M' X' hin hii hkN hI1 K9
    have hst := hT k hkN
    unfold ivT at hst
    refine dp_iload C dL_isSo_561 rfl ?_
    refine dp_bipush C dL_isSo_563 (by decide) ?_
    refine dp_icmp_ge (tgt := 657) C dL_isSo_565 (by decide) ⟨by omega, by omega⟩ ⟨by omega, by omega⟩ (fun c565 => ?_) (fun c565 => ?_)
    · skip
      obtain rfl : n = 0 := by omega
      refine dp_dr 9 ?_
      dsimp only [List.set]
      exact K9
    · skip
      obtain ⟨n, rfl⟩ : ∃ n', n = n' + 1 := ⟨n - 1, by omega⟩
      obtain rfl := hii
      refine dp_iload C dL_isSo_568 rfl ?_
      refine dp_bipush C dL_isSo_570 (by decide) ?_
      refine dp_icmp_lt (tgt := 601) C dL_isSo_572 (by decide) ⟨by omega, by omega⟩ ⟨by omega, by omega⟩ (fun c572 => ?_) (fun c572 => ?_)
      · skip
        refine dp_iconst C dL_isSo_601 ?_
        refine dp_goto (tgt := 606) C dL_isSo_602 (by decide) ?_
        refine dp_istore C dL_isSo_606 (Nat.le_of_ble_eq_true rfl) ?_
        dsimp only [List.set]
        refine dp_iload C dL_isSo_608 rfl ?_
        refine dp_if_eq (tgt := 648) C dL_isSo_610 (by decide) ⟨by omega, by omega⟩ (fun c610 => ?_) (fun c610 => ?_)
        · omega
        · skip
          refine dp_aload_n C dL_isSo_613 rfl ?_
          refine dp_iload C dL_isSo_614 rfl ?_
          refine dp_iload C dL_isSo_616 rfl ?_
          refine dp_cVi C (w_target C.2.2.1 l hI1 (x := (k : Int)) (k := (i : Int)) ⟨by omega, by omega⟩ ⟨by omega, by omega⟩) gL_isSo_X6_target rfl (dp_mC (by decide)) dp_xdp rfl yyX6_target rfl ⟨Nat.le_of_ble_eq_true rfl, Nat.le_of_ble_eq_true rfl⟩ rfl (Nat.le_of_ble_eq_true rfl) rfl ⟨Nat.le_of_ble_eq_true rfl, Nat.le_of_ble_eq_true rfl⟩ dL_isSo_618 (fun x618 M618 h618 => ?_)
          obtain ⟨rfl, rfl⟩ := h618
          rw [if_pos ⟨by omega, by omega⟩, Int.toNat_natCast]
          refine dp_iload C dL_isSo_621 rfl ?_
          refine dp_if_eq (tgt := 639) C dL_isSo_623 (by decide) ⟨by omega, by omega⟩ (fun c623 => ?_) (fun c623 => ?_)
          · omega
          · skip
            refine dp_aload_n C dL_isSo_626 rfl ?_
            refine dp_bipush C dL_isSo_627 (by decide) ?_
            refine dp_iload C dL_isSo_629 rfl ?_
            refine dp_imul C dL_isSo_631 ?_
            refine dp_iload C dL_isSo_632 rfl ?_
            refine dp_iadd C dL_isSo_634 ?_
            refine dp_ald_q C k i (by omega) (by omega) (by omega) dL_isSo_635 ?_
            refine dp_goto (tgt := 641) C dL_isSo_636 (by decide) ?_
            refine dp_icmp_same (tgt := 648) C ((tgT_told (by omega)).1 (by omega)) (by decide) dL_isSo_641 ?_
            refine dp_iconst C dL_isSo_644 ?_
            refine dp_goto (tgt := 649) C dL_isSo_645 (by decide) ?_
            refine dp_istore C dL_isSo_649 (Nat.le_of_ble_eq_true rfl) ?_
            dsimp only [List.set]
            refine dp_iinc C dL_isSo_651 rfl ?_
            dsimp only [List.set]
            refine dp_goto (tgt := 561) C dL_isSo_654 (by decide) ?_
            refine dp_dr 10 ?_
            dsimp only [List.set]
            exact ih n (by omega) (i + 1) _ k M' X' (by omega) (by omega) hkN hI1 K9
      · skip
        refine dp_iload C dL_isSo_575 rfl ?_
        refine dp_bipush C dL_isSo_577 (by decide) ?_
        refine dp_icmp_eq (tgt := 601) C dL_isSo_579 (by decide) ⟨by omega, by omega⟩ ⟨by omega, by omega⟩ (fun c579 => ?_) (fun c579 => ?_)
        · skip
          refine dp_iconst C dL_isSo_601 ?_
          refine dp_goto (tgt := 606) C dL_isSo_602 (by decide) ?_
          refine dp_istore C dL_isSo_606 (Nat.le_of_ble_eq_true rfl) ?_
          dsimp only [List.set]
          refine dp_iload C dL_isSo_608 rfl ?_
          refine dp_if_eq (tgt := 648) C dL_isSo_610 (by decide) ⟨by omega, by omega⟩ (fun c610 => ?_) (fun c610 => ?_)
          · omega
          · skip
            refine dp_aload_n C dL_isSo_613 rfl ?_
            refine dp_iload C dL_isSo_614 rfl ?_
            refine dp_iload C dL_isSo_616 rfl ?_
            refine dp_cVi C (w_target C.2.2.1 l hI1 (x := (k : Int)) (k := (i : Int)) ⟨by omega, by omega⟩ ⟨by omega, by omega⟩) gL_isSo_X6_target rfl (dp_mC (by decide)) dp_xdp rfl yyX6_target rfl ⟨Nat.le_of_ble_eq_true rfl, Nat.le_of_ble_eq_true rfl⟩ rfl (Nat.le_of_ble_eq_true rfl) rfl ⟨Nat.le_of_ble_eq_true rfl, Nat.le_of_ble_eq_true rfl⟩ dL_isSo_618 (fun x618 M618 h618 => ?_)
            obtain ⟨rfl, rfl⟩ := h618
            rw [if_pos ⟨by omega, by omega⟩, Int.toNat_natCast]
            refine dp_iload C dL_isSo_621 rfl ?_
            refine dp_if_eq (tgt := 639) C dL_isSo_623 (by decide) ⟨by omega, by omega⟩ (fun c623 => ?_) (fun c623 => ?_)
            · omega
            · skip
              refine dp_aload_n C dL_isSo_626 rfl ?_
              refine dp_bipush C dL_isSo_627 (by decide) ?_
              refine dp_iload C dL_isSo_629 rfl ?_
              refine dp_imul C dL_isSo_631 ?_
              refine dp_iload C dL_isSo_632 rfl ?_
              refine dp_iadd C dL_isSo_634 ?_
              refine dp_ald_q C k i (by omega) (by omega) (by omega) dL_isSo_635 ?_
              refine dp_goto (tgt := 641) C dL_isSo_636 (by decide) ?_
              refine dp_icmp_same (tgt := 648) C ((tgT_told (by omega)).1 (by omega)) (by decide) dL_isSo_641 ?_
              refine dp_iconst C dL_isSo_644 ?_
              refine dp_goto (tgt := 649) C dL_isSo_645 (by decide) ?_
              refine dp_istore C dL_isSo_649 (Nat.le_of_ble_eq_true rfl) ?_
              dsimp only [List.set]
              refine dp_iinc C dL_isSo_651 rfl ?_
              dsimp only [List.set]
              refine dp_goto (tgt := 561) C dL_isSo_654 (by decide) ?_
              refine dp_dr 10 ?_
              dsimp only [List.set]
              exact ih n (by omega) (i + 1) _ k M' X' (by omega) (by omega) hkN hI1 K9
        · skip
          refine dp_iload C dL_isSo_582 rfl ?_
          refine dp_iconst C dL_isSo_584 ?_
          refine dp_icmp_eq (tgt := 601) C dL_isSo_585 (by decide) ⟨by omega, by omega⟩ ⟨by omega, by omega⟩ (fun c585 => ?_) (fun c585 => ?_)
          · skip
            refine dp_iconst C dL_isSo_601 ?_
            refine dp_goto (tgt := 606) C dL_isSo_602 (by decide) ?_
            refine dp_istore C dL_isSo_606 (Nat.le_of_ble_eq_true rfl) ?_
            dsimp only [List.set]
            refine dp_iload C dL_isSo_608 rfl ?_
            refine dp_if_eq (tgt := 648) C dL_isSo_610 (by decide) ⟨by omega, by omega⟩ (fun c610 => ?_) (fun c610 => ?_)
            · omega
            · skip
              refine dp_aload_n C dL_isSo_613 rfl ?_
              refine dp_iload C dL_isSo_614 rfl ?_
              refine dp_iload C dL_isSo_616 rfl ?_
              refine dp_cVi C (w_target C.2.2.1 l hI1 (x := (k : Int)) (k := (i : Int)) ⟨by omega, by omega⟩ ⟨by omega, by omega⟩) gL_isSo_X6_target rfl (dp_mC (by decide)) dp_xdp rfl yyX6_target rfl ⟨Nat.le_of_ble_eq_true rfl, Nat.le_of_ble_eq_true rfl⟩ rfl (Nat.le_of_ble_eq_true rfl) rfl ⟨Nat.le_of_ble_eq_true rfl, Nat.le_of_ble_eq_true rfl⟩ dL_isSo_618 (fun x618 M618 h618 => ?_)
              obtain ⟨rfl, rfl⟩ := h618
              rw [if_pos ⟨by omega, by omega⟩, Int.toNat_natCast]
              refine dp_iload C dL_isSo_621 rfl ?_
              refine dp_if_eq (tgt := 639) C dL_isSo_623 (by decide) ⟨by omega, by omega⟩ (fun c623 => ?_) (fun c623 => ?_)
              · omega
              · skip
                refine dp_aload_n C dL_isSo_626 rfl ?_
                refine dp_bipush C dL_isSo_627 (by decide) ?_
                refine dp_iload C dL_isSo_629 rfl ?_
                refine dp_imul C dL_isSo_631 ?_
                refine dp_iload C dL_isSo_632 rfl ?_
                refine dp_iadd C dL_isSo_634 ?_
                refine dp_ald_q C k i (by omega) (by omega) (by omega) dL_isSo_635 ?_
                refine dp_goto (tgt := 641) C dL_isSo_636 (by decide) ?_
                refine dp_icmp_same (tgt := 648) C ((tgT_told (by omega)).1 (by omega)) (by decide) dL_isSo_641 ?_
                refine dp_iconst C dL_isSo_644 ?_
                refine dp_goto (tgt := 649) C dL_isSo_645 (by decide) ?_
                refine dp_istore C dL_isSo_649 (Nat.le_of_ble_eq_true rfl) ?_
                dsimp only [List.set]
                refine dp_iinc C dL_isSo_651 rfl ?_
                dsimp only [List.set]
                refine dp_goto (tgt := 561) C dL_isSo_654 (by decide) ?_
                refine dp_dr 10 ?_
                dsimp only [List.set]
                exact ih n (by omega) (i + 1) _ k M' X' (by omega) (by omega) hkN hI1 K9
          · skip
            refine dp_iload C dL_isSo_588 rfl ?_
            refine dp_iconst C dL_isSo_590 ?_
            refine dp_icmp_ne (tgt := 605) C dL_isSo_591 (by decide) ⟨by omega, by omega⟩ ⟨by omega, by omega⟩ (fun c591 => ?_) (fun c591 => ?_)
            · skip
              refine dp_iconst C dL_isSo_605 ?_
              refine dp_istore C dL_isSo_606 (Nat.le_of_ble_eq_true rfl) ?_
              dsimp only [List.set]
              refine dp_iload C dL_isSo_608 rfl ?_
              refine dp_if_eq (tgt := 648) C dL_isSo_610 (by decide) ⟨by omega, by omega⟩ (fun c610 => ?_) (fun c610 => ?_)
              · omega
              · skip
                refine dp_aload_n C dL_isSo_613 rfl ?_
                refine dp_iload C dL_isSo_614 rfl ?_
                refine dp_iload C dL_isSo_616 rfl ?_
                refine dp_cVi C (w_target C.2.2.1 l hI1 (x := (k : Int)) (k := (i : Int)) ⟨by omega, by omega⟩ ⟨by omega, by omega⟩) gL_isSo_X6_target rfl (dp_mC (by decide)) dp_xdp rfl yyX6_target rfl ⟨Nat.le_of_ble_eq_true rfl, Nat.le_of_ble_eq_true rfl⟩ rfl (Nat.le_of_ble_eq_true rfl) rfl ⟨Nat.le_of_ble_eq_true rfl, Nat.le_of_ble_eq_true rfl⟩ dL_isSo_618 (fun x618 M618 h618 => ?_)
                obtain ⟨rfl, rfl⟩ := h618
                rw [if_pos ⟨by omega, by omega⟩, Int.toNat_natCast]
                refine dp_iload C dL_isSo_621 rfl ?_
                refine dp_if_eq (tgt := 639) C dL_isSo_623 (by decide) ⟨by omega, by omega⟩ (fun c623 => ?_) (fun c623 => ?_)
                · skip
                  refine dp_ldc C (-100004) (List.mem_of_getElem? (i := 3) rfl) rfl dL_isSo_639 ?_
                  refine dp_icmp_same (tgt := 648) C ((tgT_told (by omega)).2 (by omega)) (by decide) dL_isSo_641 ?_
                  refine dp_iconst C dL_isSo_644 ?_
                  refine dp_goto (tgt := 649) C dL_isSo_645 (by decide) ?_
                  refine dp_istore C dL_isSo_649 (Nat.le_of_ble_eq_true rfl) ?_
                  dsimp only [List.set]
                  refine dp_iinc C dL_isSo_651 rfl ?_
                  dsimp only [List.set]
                  refine dp_goto (tgt := 561) C dL_isSo_654 (by decide) ?_
                  refine dp_dr 10 ?_
                  dsimp only [List.set]
                  exact ih n (by omega) (i + 1) _ k M' X' (by omega) (by omega) hkN hI1 K9
                · omega
            · skip
              refine dp_iload C dL_isSo_594 rfl ?_
              refine dp_bipush C dL_isSo_596 (by decide) ?_
              refine dp_icmp_eq (tgt := 605) C dL_isSo_598 (by decide) ⟨by omega, by omega⟩ ⟨by omega, by omega⟩ (fun c598 => ?_) (fun c598 => ?_)
              · skip
                refine dp_iconst C dL_isSo_605 ?_
                refine dp_istore C dL_isSo_606 (Nat.le_of_ble_eq_true rfl) ?_
                dsimp only [List.set]
                refine dp_iload C dL_isSo_608 rfl ?_
                refine dp_if_eq (tgt := 648) C dL_isSo_610 (by decide) ⟨by omega, by omega⟩ (fun c610 => ?_) (fun c610 => ?_)
                · omega
                · skip
                  refine dp_aload_n C dL_isSo_613 rfl ?_
                  refine dp_iload C dL_isSo_614 rfl ?_
                  refine dp_iload C dL_isSo_616 rfl ?_
                  refine dp_cVi C (w_target C.2.2.1 l hI1 (x := (k : Int)) (k := (i : Int)) ⟨by omega, by omega⟩ ⟨by omega, by omega⟩) gL_isSo_X6_target rfl (dp_mC (by decide)) dp_xdp rfl yyX6_target rfl ⟨Nat.le_of_ble_eq_true rfl, Nat.le_of_ble_eq_true rfl⟩ rfl (Nat.le_of_ble_eq_true rfl) rfl ⟨Nat.le_of_ble_eq_true rfl, Nat.le_of_ble_eq_true rfl⟩ dL_isSo_618 (fun x618 M618 h618 => ?_)
                  obtain ⟨rfl, rfl⟩ := h618
                  rw [if_pos ⟨by omega, by omega⟩, Int.toNat_natCast]
                  refine dp_iload C dL_isSo_621 rfl ?_
                  refine dp_if_eq (tgt := 639) C dL_isSo_623 (by decide) ⟨by omega, by omega⟩ (fun c623 => ?_) (fun c623 => ?_)
                  · skip
                    refine dp_ldc C (-100004) (List.mem_of_getElem? (i := 3) rfl) rfl dL_isSo_639 ?_
                    refine dp_icmp_same (tgt := 648) C ((tgT_told (by omega)).2 (by omega)) (by decide) dL_isSo_641 ?_
                    refine dp_iconst C dL_isSo_644 ?_
                    refine dp_goto (tgt := 649) C dL_isSo_645 (by decide) ?_
                    refine dp_istore C dL_isSo_649 (Nat.le_of_ble_eq_true rfl) ?_
                    dsimp only [List.set]
                    refine dp_iinc C dL_isSo_651 rfl ?_
                    dsimp only [List.set]
                    refine dp_goto (tgt := 561) C dL_isSo_654 (by decide) ?_
                    refine dp_dr 10 ?_
                    dsimp only [List.set]
                    exact ih n (by omega) (i + 1) _ k M' X' (by omega) (by omega) hkN hI1 K9
                  · omega
              · skip
                refine dp_iconst C dL_isSo_601 ?_
                refine dp_goto (tgt := 606) C dL_isSo_602 (by decide) ?_
                refine dp_istore C dL_isSo_606 (Nat.le_of_ble_eq_true rfl) ?_
                dsimp only [List.set]
                refine dp_iload C dL_isSo_608 rfl ?_
                refine dp_if_eq (tgt := 648) C dL_isSo_610 (by decide) ⟨by omega, by omega⟩ (fun c610 => ?_) (fun c610 => ?_)
                · omega
                · skip
                  refine dp_aload_n C dL_isSo_613 rfl ?_
                  refine dp_iload C dL_isSo_614 rfl ?_
                  refine dp_iload C dL_isSo_616 rfl ?_
                  refine dp_cVi C (w_target C.2.2.1 l hI1 (x := (k : Int)) (k := (i : Int)) ⟨by omega, by omega⟩ ⟨by omega, by omega⟩) gL_isSo_X6_target rfl (dp_mC (by decide)) dp_xdp rfl yyX6_target rfl ⟨Nat.le_of_ble_eq_true rfl, Nat.le_of_ble_eq_true rfl⟩ rfl (Nat.le_of_ble_eq_true rfl) rfl ⟨Nat.le_of_ble_eq_true rfl, Nat.le_of_ble_eq_true rfl⟩ dL_isSo_618 (fun x618 M618 h618 => ?_)
                  obtain ⟨rfl, rfl⟩ := h618
                  rw [if_pos ⟨by omega, by omega⟩, Int.toNat_natCast]
                  refine dp_iload C dL_isSo_621 rfl ?_
                  refine dp_if_eq (tgt := 639) C dL_isSo_623 (by decide) ⟨by omega, by omega⟩ (fun c623 => ?_) (fun c623 => ?_)
                  · omega
                  · skip
                    refine dp_aload_n C dL_isSo_626 rfl ?_
                    refine dp_bipush C dL_isSo_627 (by decide) ?_
                    refine dp_iload C dL_isSo_629 rfl ?_
                    refine dp_imul C dL_isSo_631 ?_
                    refine dp_iload C dL_isSo_632 rfl ?_
                    refine dp_iadd C dL_isSo_634 ?_
                    refine dp_ald_q C k i (by omega) (by omega) (by omega) dL_isSo_635 ?_
                    refine dp_goto (tgt := 641) C dL_isSo_636 (by decide) ?_
                    refine dp_icmp_same (tgt := 648) C ((tgT_told (by omega)).1 (by omega)) (by decide) dL_isSo_641 ?_
                    refine dp_iconst C dL_isSo_644 ?_
                    refine dp_goto (tgt := 649) C dL_isSo_645 (by decide) ?_
                    refine dp_istore C dL_isSo_649 (Nat.le_of_ble_eq_true rfl) ?_
                    dsimp only [List.set]
                    refine dp_iinc C dL_isSo_651 rfl ?_
                    dsimp only [List.set]
                    refine dp_goto (tgt := 561) C dL_isSo_654 (by decide) ?_
                    refine dp_dr 10 ?_
                    dsimp only [List.set]
                    exact ih n (by omega) (i + 1) _ k M' X' (by omega) (by omega) hkN hI1 K9
  have J532 : ∀ (n k : Nat) (ki : Int) (M' : dp_M) (X' : dp_V), k + n = N → ki = k → iC M' V N → dp_G E A p l e (nw_rm 6 157 1 4) s m args below meth co 1 4 Q (dN M' V X') 532 [some (.ref (eAd E 7 0)), some (.ref (eAd E 8 0)), some (.ref (eAd E 8 1)), some (.ref (eAd E 8 2)), none, none, some (.int (dp_I 1)), some (.int (dp_I ki)), none, none, none] [] := by
    refine dp_ind (fun n ih => ?_)
    intro k ki M' X' hkn hki hI1
    refine dp_iload C dL_isSo_532 rfl ?_
    refine dp_aload_n C dL_isSo_534 rfl ?_
    refine dp_bipush C dL_isSo_535 (by decide) ?_
    refine dp_ald_g C 7 (c9 := 0) (k9 := 3) (by omega) (by decide) rfl rfl dL_isSo_537 ?_
    refine dp_icmp_ge (tgt := 691) C dL_isSo_538 (by decide) ⟨by omega, by omega⟩ ⟨by omega, by omega⟩ (fun c538 => ?_) (fun c538 => ?_)
    · skip
      obtain rfl : n = 0 := by omega
      refine dp_iload C dL_isSo_691 rfl ?_
      refine dp_if_eq (tgt := 714) C dL_isSo_693 (by decide) ⟨by omega, by omega⟩ (fun c693 => ?_) (fun c693 => ?_)
      · omega
      · skip
        refine dp_aload_n C dL_isSo_696 rfl ?_
        refine dp_aload_n C dL_isSo_697 rfl ?_
        refine dp_bipush C dL_isSo_698 (by decide) ?_
        refine dp_ald_g C 7 (c9 := 0) (k9 := 3) (by omega) (by decide) rfl rfl dL_isSo_700 ?_
        rw [hN]
        refine dp_iconst C dL_isSo_701 ?_
        refine dp_cVi C (w_target C.2.2.1 l hI1 (x := (N : Int)) (k := 0) ⟨by omega, by omega⟩ ⟨by omega, by omega⟩) gL_isSo_X6_target rfl (dp_mC (by decide)) dp_xdp rfl yyX6_target rfl ⟨Nat.le_of_ble_eq_true rfl, Nat.le_of_ble_eq_true rfl⟩ rfl (Nat.le_of_ble_eq_true rfl) rfl ⟨Nat.le_of_ble_eq_true rfl, Nat.le_of_ble_eq_true rfl⟩ dL_isSo_702 (fun x702 M702 h702 => ?_)
        obtain ⟨rfl, rfl⟩ := h702
        rw [if_neg (by omega)]
        refine dp_ldc C (-100001) (List.mem_of_getElem? (i := 4) rfl) rfl dL_isSo_705 ?_
        refine dp_icmp_same (tgt := 714) C rfl (by decide) dL_isSo_707 ?_
        refine dp_iconst C dL_isSo_710 ?_
        refine dp_goto (tgt := 715) C dL_isSo_711 (by decide) ?_
        exact hend _ _ _ hI1
    · skip
      obtain ⟨n, rfl⟩ : ∃ n', n = n' + 1 := ⟨n - 1, by omega⟩
      obtain rfl := hki
      have hkN : k < N := by omega
      have hst := hT k hkN
      unfold ivT at hst
      refine dp_iload C dL_isSo_541 rfl ?_
      refine dp_if_eq (tgt := 691) C dL_isSo_543 (by decide) ⟨by omega, by omega⟩ (fun c543 => ?_) (fun c543 => ?_)
      · omega
      · skip
        refine dp_aload_n C dL_isSo_546 rfl ?_
        refine dp_bipush C dL_isSo_547 (by decide) ?_
        refine dp_iload C dL_isSo_549 rfl ?_
        refine dp_imul C dL_isSo_551 ?_
        refine dp_bipush C dL_isSo_552 (by decide) ?_
        refine dp_iadd C dL_isSo_554 ?_
        refine dp_ald_q C k 6 (by omega) (by omega) (by decide) dL_isSo_555 ?_
        refine dp_istore C dL_isSo_556 (Nat.le_of_ble_eq_true rfl) ?_
        dsimp only [List.set]
        refine dp_iconst C dL_isSo_558 ?_
        refine dp_istore C dL_isSo_559 (Nat.le_of_ble_eq_true rfl) ?_
        dsimp only [List.set]
        refine J561 13 0 _ k M' X' (by omega) (by omega) hkN hI1 ?_
        refine dp_iload C dL_isSo_657 rfl ?_
        refine dp_if_eq (tgt := 682) C dL_isSo_659 (by decide) ⟨by omega, by omega⟩ (fun c659 => ?_) (fun c659 => ?_)
        · omega
        · skip
          refine dp_aload_n C dL_isSo_662 rfl ?_
          refine dp_iload C dL_isSo_663 rfl ?_
          refine dp_cVi C (w_why C.2.2.1 l hI1 (x := (k : Int)) ⟨by omega, by omega⟩) gL_isSo_X6_why rfl (dp_mC (by decide)) dp_xdp rfl yyX6_why rfl ⟨Nat.le_of_ble_eq_true rfl, Nat.le_of_ble_eq_true rfl⟩ rfl (Nat.le_of_ble_eq_true rfl) rfl ⟨Nat.le_of_ble_eq_true rfl, Nat.le_of_ble_eq_true rfl⟩ dL_isSo_665 (fun x665 M665 h665 => ?_)
          obtain ⟨rfl, M2, rfl, hI2⟩ := h665
          rw [if_pos ⟨by omega, by omega⟩, Int.toNat_natCast]
          refine dp_aload_n C dL_isSo_668 rfl ?_
          refine dp_aload_n C dL_isSo_669 rfl ?_
          refine dp_iload C dL_isSo_670 rfl ?_
          refine dp_cSi C (c_L_why C.2.2.1 l hm h4 hq hkN) gL_isSo_L_why rfl yyL_why rfl ⟨Nat.le_of_ble_eq_true rfl, Nat.le_of_ble_eq_true rfl⟩ rfl (Nat.le_of_ble_eq_true rfl) rfl ⟨Nat.le_of_ble_eq_true rfl, Nat.le_of_ble_eq_true rfl⟩ dL_isSo_672 (fun x672 M672 h672 => ?_)
          obtain ⟨rfl, X2, rfl, hs2⟩ := h672
          refine dp_icmp_same (tgt := 682) C rfl (by decide) dL_isSo_675 ?_
          refine dp_iconst C dL_isSo_678 ?_
          refine dp_goto (tgt := 683) C dL_isSo_679 (by decide) ?_
          refine dp_istore C dL_isSo_683 (Nat.le_of_ble_eq_true rfl) ?_
          dsimp only [List.set]
          refine dp_iinc C dL_isSo_685 rfl ?_
          dsimp only [List.set]
          refine dp_goto (tgt := 532) C dL_isSo_688 (by decide) ?_
          refine dp_dr 8 ?_
          dsimp only [List.set]
          exact ih n (by omega) (k + 1) _ _ _ (by omega) (by omega) hI2
        
  have J298 : ∀ (M2 : dp_M) (X' : dp_V), iC M2 V N → dp_G E A p l e (nw_rm 6 157 1 4) s m args below meth co 1 4 Q (dN M2 V X') 298 [some (.ref (eAd E 7 0)), some (.ref (eAd E 8 0)), some (.ref (eAd E 8 1)), some (.ref (eAd E 8 2)), none, none, none, none, none, none, none] [.int (dp_I 1)] := by
    intro M2 X' hI2
    refine dp_istore C dL_isSo_298 (Nat.le_of_ble_eq_true rfl) ?_
    dsimp only [List.set]
    refine dp_iconst C dL_isSo_300 ?_
    refine dp_istore C dL_isSo_301 (Nat.le_of_ble_eq_true rfl) ?_
    dsimp only [List.set]
    refine dp_iload C dL_isSo_303 rfl ?_
    refine dp_iconst C dL_isSo_305 ?_
    refine dp_icmp_ge (tgt := 343) C dL_isSo_306 (by decide) ⟨by omega, by omega⟩ ⟨by omega, by omega⟩ (fun c306 => ?_) (fun c306 => ?_)
    · omega
    · skip
      refine dp_iload C dL_isSo_309 rfl ?_
      refine dp_if_eq (tgt := 334) C dL_isSo_311 (by decide) ⟨by omega, by omega⟩ (fun c311 => ?_) (fun c311 => ?_)
      · omega
      · skip
        refine dp_aload_n C dL_isSo_314 rfl ?_
        refine dp_bipush C dL_isSo_315 (by decide) ?_
        refine dp_iload C dL_isSo_317 rfl ?_
        refine dp_iadd C dL_isSo_319 ?_
        refine dp_cVi C (w_count C.2.2.1 l hI2 ⟨by omega, by omega⟩ (by omega) (by omega)) gL_isSo_X6_count rfl (dp_mC (by decide)) dp_xdp rfl yyX6_count rfl ⟨Nat.le_of_ble_eq_true rfl, Nat.le_of_ble_eq_true rfl⟩ rfl (Nat.le_of_ble_eq_true rfl) rfl ⟨Nat.le_of_ble_eq_true rfl, Nat.le_of_ble_eq_true rfl⟩ dL_isSo_320 (fun x320 M320 h320 => ?_)
        obtain ⟨rfl, rfl⟩ := h320
        refine dp_aload_n C dL_isSo_323 rfl ?_
        refine dp_iload C dL_isSo_324 rfl ?_
        refine dp_ald_g C 0 (c9 := 1) (k9 := 0) (by omega) (by decide) rfl rfl dL_isSo_326 ?_
        refine dp_icmp_same (tgt := 334) C rfl (by decide) dL_isSo_327 ?_
        refine dp_iconst C dL_isSo_330 ?_
        refine dp_goto (tgt := 335) C dL_isSo_331 (by decide) ?_
        refine dp_istore C dL_isSo_335 (Nat.le_of_ble_eq_true rfl) ?_
        dsimp only [List.set]
        refine dp_iinc C dL_isSo_337 rfl ?_
        dsimp only [List.set]
        try rw [show (0 : Int) + 1 = 1 from rfl]
        try rw [show (1 : Int) + 1 = 2 from rfl]
        try rw [show (2 : Int) + 1 = 3 from rfl]
        try rw [show (3 : Int) + 1 = 4 from rfl]
        try rw [show (4 : Int) + 1 = 5 from rfl]
        refine dp_goto (tgt := 303) C dL_isSo_340 (by decide) ?_
        refine dp_iload C dL_isSo_303 rfl ?_
        refine dp_iconst C dL_isSo_305 ?_
        refine dp_icmp_ge (tgt := 343) C dL_isSo_306 (by decide) ⟨by omega, by omega⟩ ⟨by omega, by omega⟩ (fun c306 => ?_) (fun c306 => ?_)
        · omega
        · skip
          refine dp_iload C dL_isSo_309 rfl ?_
          refine dp_if_eq (tgt := 334) C dL_isSo_311 (by decide) ⟨by omega, by omega⟩ (fun c311 => ?_) (fun c311 => ?_)
          · omega
          · skip
            refine dp_aload_n C dL_isSo_314 rfl ?_
            refine dp_bipush C dL_isSo_315 (by decide) ?_
            refine dp_iload C dL_isSo_317 rfl ?_
            refine dp_iadd C dL_isSo_319 ?_
            refine dp_cVi C (w_count C.2.2.1 l hI2 ⟨by omega, by omega⟩ (by omega) (by omega)) gL_isSo_X6_count rfl (dp_mC (by decide)) dp_xdp rfl yyX6_count rfl ⟨Nat.le_of_ble_eq_true rfl, Nat.le_of_ble_eq_true rfl⟩ rfl (Nat.le_of_ble_eq_true rfl) rfl ⟨Nat.le_of_ble_eq_true rfl, Nat.le_of_ble_eq_true rfl⟩ dL_isSo_320 (fun x320 M320 h320 => ?_)
            obtain ⟨rfl, rfl⟩ := h320
            refine dp_aload_n C dL_isSo_323 rfl ?_
            refine dp_iload C dL_isSo_324 rfl ?_
            refine dp_ald_g C 1 (c9 := 1) (k9 := 1) (by omega) (by decide) rfl rfl dL_isSo_326 ?_
            refine dp_icmp_same (tgt := 334) C rfl (by decide) dL_isSo_327 ?_
            refine dp_iconst C dL_isSo_330 ?_
            refine dp_goto (tgt := 335) C dL_isSo_331 (by decide) ?_
            refine dp_istore C dL_isSo_335 (Nat.le_of_ble_eq_true rfl) ?_
            dsimp only [List.set]
            refine dp_iinc C dL_isSo_337 rfl ?_
            dsimp only [List.set]
            try rw [show (0 : Int) + 1 = 1 from rfl]
            try rw [show (1 : Int) + 1 = 2 from rfl]
            try rw [show (2 : Int) + 1 = 3 from rfl]
            try rw [show (3 : Int) + 1 = 4 from rfl]
            try rw [show (4 : Int) + 1 = 5 from rfl]
            refine dp_goto (tgt := 303) C dL_isSo_340 (by decide) ?_
            refine dp_iload C dL_isSo_303 rfl ?_
            refine dp_iconst C dL_isSo_305 ?_
            refine dp_icmp_ge (tgt := 343) C dL_isSo_306 (by decide) ⟨by omega, by omega⟩ ⟨by omega, by omega⟩ (fun c306 => ?_) (fun c306 => ?_)
            · omega
            · skip
              refine dp_iload C dL_isSo_309 rfl ?_
              refine dp_if_eq (tgt := 334) C dL_isSo_311 (by decide) ⟨by omega, by omega⟩ (fun c311 => ?_) (fun c311 => ?_)
              · omega
              · skip
                refine dp_aload_n C dL_isSo_314 rfl ?_
                refine dp_bipush C dL_isSo_315 (by decide) ?_
                refine dp_iload C dL_isSo_317 rfl ?_
                refine dp_iadd C dL_isSo_319 ?_
                refine dp_cVi C (w_count C.2.2.1 l hI2 ⟨by omega, by omega⟩ (by omega) (by omega)) gL_isSo_X6_count rfl (dp_mC (by decide)) dp_xdp rfl yyX6_count rfl ⟨Nat.le_of_ble_eq_true rfl, Nat.le_of_ble_eq_true rfl⟩ rfl (Nat.le_of_ble_eq_true rfl) rfl ⟨Nat.le_of_ble_eq_true rfl, Nat.le_of_ble_eq_true rfl⟩ dL_isSo_320 (fun x320 M320 h320 => ?_)
                obtain ⟨rfl, rfl⟩ := h320
                refine dp_aload_n C dL_isSo_323 rfl ?_
                refine dp_iload C dL_isSo_324 rfl ?_
                refine dp_ald_g C 2 (c9 := 1) (k9 := 2) (by omega) (by decide) rfl rfl dL_isSo_326 ?_
                refine dp_icmp_same (tgt := 334) C rfl (by decide) dL_isSo_327 ?_
                refine dp_iconst C dL_isSo_330 ?_
                refine dp_goto (tgt := 335) C dL_isSo_331 (by decide) ?_
                refine dp_istore C dL_isSo_335 (Nat.le_of_ble_eq_true rfl) ?_
                dsimp only [List.set]
                refine dp_iinc C dL_isSo_337 rfl ?_
                dsimp only [List.set]
                try rw [show (0 : Int) + 1 = 1 from rfl]
                try rw [show (1 : Int) + 1 = 2 from rfl]
                try rw [show (2 : Int) + 1 = 3 from rfl]
                try rw [show (3 : Int) + 1 = 4 from rfl]
                try rw [show (4 : Int) + 1 = 5 from rfl]
                refine dp_goto (tgt := 303) C dL_isSo_340 (by decide) ?_
                refine dp_iload C dL_isSo_303 rfl ?_
                refine dp_iconst C dL_isSo_305 ?_
                refine dp_icmp_ge (tgt := 343) C dL_isSo_306 (by decide) ⟨by omega, by omega⟩ ⟨by omega, by omega⟩ (fun c306 => ?_) (fun c306 => ?_)
                · omega
                · skip
                  refine dp_iload C dL_isSo_309 rfl ?_
                  refine dp_if_eq (tgt := 334) C dL_isSo_311 (by decide) ⟨by omega, by omega⟩ (fun c311 => ?_) (fun c311 => ?_)
                  · omega
                  · skip
                    refine dp_aload_n C dL_isSo_314 rfl ?_
                    refine dp_bipush C dL_isSo_315 (by decide) ?_
                    refine dp_iload C dL_isSo_317 rfl ?_
                    refine dp_iadd C dL_isSo_319 ?_
                    refine dp_cVi C (w_count C.2.2.1 l hI2 ⟨by omega, by omega⟩ (by omega) (by omega)) gL_isSo_X6_count rfl (dp_mC (by decide)) dp_xdp rfl yyX6_count rfl ⟨Nat.le_of_ble_eq_true rfl, Nat.le_of_ble_eq_true rfl⟩ rfl (Nat.le_of_ble_eq_true rfl) rfl ⟨Nat.le_of_ble_eq_true rfl, Nat.le_of_ble_eq_true rfl⟩ dL_isSo_320 (fun x320 M320 h320 => ?_)
                    obtain ⟨rfl, rfl⟩ := h320
                    refine dp_aload_n C dL_isSo_323 rfl ?_
                    refine dp_iload C dL_isSo_324 rfl ?_
                    refine dp_ald_g C 3 (c9 := 1) (k9 := 3) (by omega) (by decide) rfl rfl dL_isSo_326 ?_
                    refine dp_icmp_same (tgt := 334) C rfl (by decide) dL_isSo_327 ?_
                    refine dp_iconst C dL_isSo_330 ?_
                    refine dp_goto (tgt := 335) C dL_isSo_331 (by decide) ?_
                    refine dp_istore C dL_isSo_335 (Nat.le_of_ble_eq_true rfl) ?_
                    dsimp only [List.set]
                    refine dp_iinc C dL_isSo_337 rfl ?_
                    dsimp only [List.set]
                    try rw [show (0 : Int) + 1 = 1 from rfl]
                    try rw [show (1 : Int) + 1 = 2 from rfl]
                    try rw [show (2 : Int) + 1 = 3 from rfl]
                    try rw [show (3 : Int) + 1 = 4 from rfl]
                    try rw [show (4 : Int) + 1 = 5 from rfl]
                    refine dp_goto (tgt := 303) C dL_isSo_340 (by decide) ?_
                    refine dp_iload C dL_isSo_303 rfl ?_
                    refine dp_iconst C dL_isSo_305 ?_
                    refine dp_icmp_ge (tgt := 343) C dL_isSo_306 (by decide) ⟨by omega, by omega⟩ ⟨by omega, by omega⟩ (fun c306 => ?_) (fun c306 => ?_)
                    · skip
                      refine dp_iconst C dL_isSo_343 ?_
                      refine dp_istore C dL_isSo_344 (Nat.le_of_ble_eq_true rfl) ?_
                      dsimp only [List.set]
                      refine dp_iload C dL_isSo_346 rfl ?_
                      refine dp_iconst C dL_isSo_348 ?_
                      refine dp_icmp_ge (tgt := 529) C dL_isSo_349 (by decide) ⟨by omega, by omega⟩ ⟨by omega, by omega⟩ (fun c349 => ?_) (fun c349 => ?_)
                      · omega
                      · skip
                        refine dp_bipush C dL_isSo_352 (by decide) ?_
                        refine dp_bipush C dL_isSo_354 (by decide) ?_
                        refine dp_iload C dL_isSo_356 rfl ?_
                        refine dp_imul C dL_isSo_358 ?_
                        refine dp_iadd C dL_isSo_359 ?_
                        refine dp_istore C dL_isSo_360 (Nat.le_of_ble_eq_true rfl) ?_
                        dsimp only [List.set]
                        refine dp_iconst C dL_isSo_362 ?_
                        refine dp_istore C dL_isSo_363 (Nat.le_of_ble_eq_true rfl) ?_
                        dsimp only [List.set]
                        refine dp_iload C dL_isSo_365 rfl ?_
                        refine dp_iconst C dL_isSo_367 ?_
                        refine dp_icmp_ge (tgt := 407) C dL_isSo_368 (by decide) ⟨by omega, by omega⟩ ⟨by omega, by omega⟩ (fun c368 => ?_) (fun c368 => ?_)
                        · omega
                        · skip
                          refine dp_iload C dL_isSo_371 rfl ?_
                          refine dp_if_eq (tgt := 398) C dL_isSo_373 (by decide) ⟨by omega, by omega⟩ (fun c373 => ?_) (fun c373 => ?_)
                          · omega
                          · skip
                            refine dp_aload_n C dL_isSo_376 rfl ?_
                            refine dp_iload C dL_isSo_377 rfl ?_
                            refine dp_iload C dL_isSo_379 rfl ?_
                            refine dp_cVi C (w_axis C.2.2.1 l hI2 ⟨by omega, by omega⟩ ⟨by omega, by omega⟩) gL_isSo_X6_axis rfl (dp_mC (by decide)) dp_xdp rfl yyX6_axis rfl ⟨Nat.le_of_ble_eq_true rfl, Nat.le_of_ble_eq_true rfl⟩ rfl (Nat.le_of_ble_eq_true rfl) rfl ⟨Nat.le_of_ble_eq_true rfl, Nat.le_of_ble_eq_true rfl⟩ dL_isSo_381 (fun x381 M381 h381 => ?_)
                            obtain ⟨rfl, rfl⟩ := h381
                            refine dp_aload_n C dL_isSo_384 rfl ?_
                            refine dp_iload C dL_isSo_385 rfl ?_
                            refine dp_iload C dL_isSo_387 rfl ?_
                            refine dp_iadd C dL_isSo_389 ?_
                            refine dp_ald_g C 8 (c9 := 3) (k9 := 0) (by omega) (by decide) rfl rfl dL_isSo_390 ?_
                            refine dp_icmp_same (tgt := 398) C (by first | rfl | decide) (by decide) dL_isSo_391 ?_
                            refine dp_iconst C dL_isSo_394 ?_
                            refine dp_goto (tgt := 399) C dL_isSo_395 (by decide) ?_
                            refine dp_istore C dL_isSo_399 (Nat.le_of_ble_eq_true rfl) ?_
                            dsimp only [List.set]
                            refine dp_iinc C dL_isSo_401 rfl ?_
                            dsimp only [List.set]
                            try rw [show (0 : Int) + 1 = 1 from rfl]
                            try rw [show (1 : Int) + 1 = 2 from rfl]
                            try rw [show (2 : Int) + 1 = 3 from rfl]
                            try rw [show (3 : Int) + 1 = 4 from rfl]
                            try rw [show (4 : Int) + 1 = 5 from rfl]
                            refine dp_goto (tgt := 365) C dL_isSo_404 (by decide) ?_
                            refine dp_iload C dL_isSo_365 rfl ?_
                            refine dp_iconst C dL_isSo_367 ?_
                            refine dp_icmp_ge (tgt := 407) C dL_isSo_368 (by decide) ⟨by omega, by omega⟩ ⟨by omega, by omega⟩ (fun c368 => ?_) (fun c368 => ?_)
                            · omega
                            · skip
                              refine dp_iload C dL_isSo_371 rfl ?_
                              refine dp_if_eq (tgt := 398) C dL_isSo_373 (by decide) ⟨by omega, by omega⟩ (fun c373 => ?_) (fun c373 => ?_)
                              · omega
                              · skip
                                refine dp_aload_n C dL_isSo_376 rfl ?_
                                refine dp_iload C dL_isSo_377 rfl ?_
                                refine dp_iload C dL_isSo_379 rfl ?_
                                refine dp_cVi C (w_axis C.2.2.1 l hI2 ⟨by omega, by omega⟩ ⟨by omega, by omega⟩) gL_isSo_X6_axis rfl (dp_mC (by decide)) dp_xdp rfl yyX6_axis rfl ⟨Nat.le_of_ble_eq_true rfl, Nat.le_of_ble_eq_true rfl⟩ rfl (Nat.le_of_ble_eq_true rfl) rfl ⟨Nat.le_of_ble_eq_true rfl, Nat.le_of_ble_eq_true rfl⟩ dL_isSo_381 (fun x381 M381 h381 => ?_)
                                obtain ⟨rfl, rfl⟩ := h381
                                refine dp_aload_n C dL_isSo_384 rfl ?_
                                refine dp_iload C dL_isSo_385 rfl ?_
                                refine dp_iload C dL_isSo_387 rfl ?_
                                refine dp_iadd C dL_isSo_389 ?_
                                refine dp_ald_g C 9 (c9 := 3) (k9 := 1) (by omega) (by decide) rfl rfl dL_isSo_390 ?_
                                refine dp_icmp_same (tgt := 398) C (by first | rfl | decide) (by decide) dL_isSo_391 ?_
                                refine dp_iconst C dL_isSo_394 ?_
                                refine dp_goto (tgt := 399) C dL_isSo_395 (by decide) ?_
                                refine dp_istore C dL_isSo_399 (Nat.le_of_ble_eq_true rfl) ?_
                                dsimp only [List.set]
                                refine dp_iinc C dL_isSo_401 rfl ?_
                                dsimp only [List.set]
                                try rw [show (0 : Int) + 1 = 1 from rfl]
                                try rw [show (1 : Int) + 1 = 2 from rfl]
                                try rw [show (2 : Int) + 1 = 3 from rfl]
                                try rw [show (3 : Int) + 1 = 4 from rfl]
                                try rw [show (4 : Int) + 1 = 5 from rfl]
                                refine dp_goto (tgt := 365) C dL_isSo_404 (by decide) ?_
                                refine dp_iload C dL_isSo_365 rfl ?_
                                refine dp_iconst C dL_isSo_367 ?_
                                refine dp_icmp_ge (tgt := 407) C dL_isSo_368 (by decide) ⟨by omega, by omega⟩ ⟨by omega, by omega⟩ (fun c368 => ?_) (fun c368 => ?_)
                                · omega
                                · skip
                                  refine dp_iload C dL_isSo_371 rfl ?_
                                  refine dp_if_eq (tgt := 398) C dL_isSo_373 (by decide) ⟨by omega, by omega⟩ (fun c373 => ?_) (fun c373 => ?_)
                                  · omega
                                  · skip
                                    refine dp_aload_n C dL_isSo_376 rfl ?_
                                    refine dp_iload C dL_isSo_377 rfl ?_
                                    refine dp_iload C dL_isSo_379 rfl ?_
                                    refine dp_cVi C (w_axis C.2.2.1 l hI2 ⟨by omega, by omega⟩ ⟨by omega, by omega⟩) gL_isSo_X6_axis rfl (dp_mC (by decide)) dp_xdp rfl yyX6_axis rfl ⟨Nat.le_of_ble_eq_true rfl, Nat.le_of_ble_eq_true rfl⟩ rfl (Nat.le_of_ble_eq_true rfl) rfl ⟨Nat.le_of_ble_eq_true rfl, Nat.le_of_ble_eq_true rfl⟩ dL_isSo_381 (fun x381 M381 h381 => ?_)
                                    obtain ⟨rfl, rfl⟩ := h381
                                    refine dp_aload_n C dL_isSo_384 rfl ?_
                                    refine dp_iload C dL_isSo_385 rfl ?_
                                    refine dp_iload C dL_isSo_387 rfl ?_
                                    refine dp_iadd C dL_isSo_389 ?_
                                    refine dp_ald_g C 10 (c9 := 3) (k9 := 2) (by omega) (by decide) rfl rfl dL_isSo_390 ?_
                                    refine dp_icmp_same (tgt := 398) C (by first | rfl | decide) (by decide) dL_isSo_391 ?_
                                    refine dp_iconst C dL_isSo_394 ?_
                                    refine dp_goto (tgt := 399) C dL_isSo_395 (by decide) ?_
                                    refine dp_istore C dL_isSo_399 (Nat.le_of_ble_eq_true rfl) ?_
                                    dsimp only [List.set]
                                    refine dp_iinc C dL_isSo_401 rfl ?_
                                    dsimp only [List.set]
                                    try rw [show (0 : Int) + 1 = 1 from rfl]
                                    try rw [show (1 : Int) + 1 = 2 from rfl]
                                    try rw [show (2 : Int) + 1 = 3 from rfl]
                                    try rw [show (3 : Int) + 1 = 4 from rfl]
                                    try rw [show (4 : Int) + 1 = 5 from rfl]
                                    refine dp_goto (tgt := 365) C dL_isSo_404 (by decide) ?_
                                    refine dp_iload C dL_isSo_365 rfl ?_
                                    refine dp_iconst C dL_isSo_367 ?_
                                    refine dp_icmp_ge (tgt := 407) C dL_isSo_368 (by decide) ⟨by omega, by omega⟩ ⟨by omega, by omega⟩ (fun c368 => ?_) (fun c368 => ?_)
                                    · omega
                                    · skip
                                      refine dp_iload C dL_isSo_371 rfl ?_
                                      refine dp_if_eq (tgt := 398) C dL_isSo_373 (by decide) ⟨by omega, by omega⟩ (fun c373 => ?_) (fun c373 => ?_)
                                      · omega
                                      · skip
                                        refine dp_aload_n C dL_isSo_376 rfl ?_
                                        refine dp_iload C dL_isSo_377 rfl ?_
                                        refine dp_iload C dL_isSo_379 rfl ?_
                                        refine dp_cVi C (w_axis C.2.2.1 l hI2 ⟨by omega, by omega⟩ ⟨by omega, by omega⟩) gL_isSo_X6_axis rfl (dp_mC (by decide)) dp_xdp rfl yyX6_axis rfl ⟨Nat.le_of_ble_eq_true rfl, Nat.le_of_ble_eq_true rfl⟩ rfl (Nat.le_of_ble_eq_true rfl) rfl ⟨Nat.le_of_ble_eq_true rfl, Nat.le_of_ble_eq_true rfl⟩ dL_isSo_381 (fun x381 M381 h381 => ?_)
                                        obtain ⟨rfl, rfl⟩ := h381
                                        refine dp_aload_n C dL_isSo_384 rfl ?_
                                        refine dp_iload C dL_isSo_385 rfl ?_
                                        refine dp_iload C dL_isSo_387 rfl ?_
                                        refine dp_iadd C dL_isSo_389 ?_
                                        refine dp_ald_g C 11 (c9 := 3) (k9 := 3) (by omega) (by decide) rfl rfl dL_isSo_390 ?_
                                        refine dp_icmp_same (tgt := 398) C (by first | rfl | decide) (by decide) dL_isSo_391 ?_
                                        refine dp_iconst C dL_isSo_394 ?_
                                        refine dp_goto (tgt := 399) C dL_isSo_395 (by decide) ?_
                                        refine dp_istore C dL_isSo_399 (Nat.le_of_ble_eq_true rfl) ?_
                                        dsimp only [List.set]
                                        refine dp_iinc C dL_isSo_401 rfl ?_
                                        dsimp only [List.set]
                                        try rw [show (0 : Int) + 1 = 1 from rfl]
                                        try rw [show (1 : Int) + 1 = 2 from rfl]
                                        try rw [show (2 : Int) + 1 = 3 from rfl]
                                        try rw [show (3 : Int) + 1 = 4 from rfl]
                                        try rw [show (4 : Int) + 1 = 5 from rfl]
                                        refine dp_goto (tgt := 365) C dL_isSo_404 (by decide) ?_
                                        refine dp_iload C dL_isSo_365 rfl ?_
                                        refine dp_iconst C dL_isSo_367 ?_
                                        refine dp_icmp_ge (tgt := 407) C dL_isSo_368 (by decide) ⟨by omega, by omega⟩ ⟨by omega, by omega⟩ (fun c368 => ?_) (fun c368 => ?_)
                                        · omega
                                        · skip
                                          refine dp_iload C dL_isSo_371 rfl ?_
                                          refine dp_if_eq (tgt := 398) C dL_isSo_373 (by decide) ⟨by omega, by omega⟩ (fun c373 => ?_) (fun c373 => ?_)
                                          · omega
                                          · skip
                                            refine dp_aload_n C dL_isSo_376 rfl ?_
                                            refine dp_iload C dL_isSo_377 rfl ?_
                                            refine dp_iload C dL_isSo_379 rfl ?_
                                            refine dp_cVi C (w_axis C.2.2.1 l hI2 ⟨by omega, by omega⟩ ⟨by omega, by omega⟩) gL_isSo_X6_axis rfl (dp_mC (by decide)) dp_xdp rfl yyX6_axis rfl ⟨Nat.le_of_ble_eq_true rfl, Nat.le_of_ble_eq_true rfl⟩ rfl (Nat.le_of_ble_eq_true rfl) rfl ⟨Nat.le_of_ble_eq_true rfl, Nat.le_of_ble_eq_true rfl⟩ dL_isSo_381 (fun x381 M381 h381 => ?_)
                                            obtain ⟨rfl, rfl⟩ := h381
                                            refine dp_aload_n C dL_isSo_384 rfl ?_
                                            refine dp_iload C dL_isSo_385 rfl ?_
                                            refine dp_iload C dL_isSo_387 rfl ?_
                                            refine dp_iadd C dL_isSo_389 ?_
                                            refine dp_ald_g C 12 (c9 := 3) (k9 := 4) (by omega) (by decide) rfl rfl dL_isSo_390 ?_
                                            refine dp_icmp_same (tgt := 398) C (by first | rfl | decide) (by decide) dL_isSo_391 ?_
                                            refine dp_iconst C dL_isSo_394 ?_
                                            refine dp_goto (tgt := 399) C dL_isSo_395 (by decide) ?_
                                            refine dp_istore C dL_isSo_399 (Nat.le_of_ble_eq_true rfl) ?_
                                            dsimp only [List.set]
                                            refine dp_iinc C dL_isSo_401 rfl ?_
                                            dsimp only [List.set]
                                            try rw [show (0 : Int) + 1 = 1 from rfl]
                                            try rw [show (1 : Int) + 1 = 2 from rfl]
                                            try rw [show (2 : Int) + 1 = 3 from rfl]
                                            try rw [show (3 : Int) + 1 = 4 from rfl]
                                            try rw [show (4 : Int) + 1 = 5 from rfl]
                                            refine dp_goto (tgt := 365) C dL_isSo_404 (by decide) ?_
                                            refine dp_iload C dL_isSo_365 rfl ?_
                                            refine dp_iconst C dL_isSo_367 ?_
                                            refine dp_icmp_ge (tgt := 407) C dL_isSo_368 (by decide) ⟨by omega, by omega⟩ ⟨by omega, by omega⟩ (fun c368 => ?_) (fun c368 => ?_)
                                            · skip
                                              refine dp_iload C dL_isSo_407 rfl ?_
                                              refine dp_if_eq (tgt := 520) C dL_isSo_409 (by decide) ⟨by omega, by omega⟩ (fun c409 => ?_) (fun c409 => ?_)
                                              · omega
                                              · skip
                                                refine dp_aload_n C dL_isSo_412 rfl ?_
                                                refine dp_iload C dL_isSo_413 rfl ?_
                                                refine dp_iconst C dL_isSo_415 ?_
                                                refine dp_cVi C (w_axis C.2.2.1 l hI2 ⟨by omega, by omega⟩ ⟨by omega, by omega⟩) gL_isSo_X6_axis rfl (dp_mC (by decide)) dp_xdp rfl yyX6_axis rfl ⟨Nat.le_of_ble_eq_true rfl, Nat.le_of_ble_eq_true rfl⟩ rfl (Nat.le_of_ble_eq_true rfl) rfl ⟨Nat.le_of_ble_eq_true rfl, Nat.le_of_ble_eq_true rfl⟩ dL_isSo_416 (fun x416 M416 h416 => ?_)
                                                obtain ⟨rfl, rfl⟩ := h416
                                                refine dp_aload_n C dL_isSo_419 rfl ?_
                                                refine dp_iload C dL_isSo_420 rfl ?_
                                                refine dp_cSi C (c_L_dish C.2.2.1 l (a := 0) (by decide)) gL_isSo_L_dish rfl yyL_dish rfl ⟨Nat.le_of_ble_eq_true rfl, Nat.le_of_ble_eq_true rfl⟩ rfl (Nat.le_of_ble_eq_true rfl) rfl ⟨Nat.le_of_ble_eq_true rfl, Nat.le_of_ble_eq_true rfl⟩ dL_isSo_422 (fun x422 M422 h422 => ?_)
                                                obtain ⟨rfl, rfl⟩ := h422
                                                rw [show (0 : Nat) + 3 = 3 from rfl]
                                                refine dp_icmp_same (tgt := 520) C (by first | rfl | decide) (by decide) dL_isSo_425 ?_
                                                refine dp_aload_n C dL_isSo_428 rfl ?_
                                                refine dp_iload C dL_isSo_429 rfl ?_
                                                refine dp_bipush C dL_isSo_431 (by decide) ?_
                                                refine dp_cVi C (w_axis C.2.2.1 l hI2 ⟨by omega, by omega⟩ ⟨by omega, by omega⟩) gL_isSo_X6_axis rfl (dp_mC (by decide)) dp_xdp rfl yyX6_axis rfl ⟨Nat.le_of_ble_eq_true rfl, Nat.le_of_ble_eq_true rfl⟩ rfl (Nat.le_of_ble_eq_true rfl) rfl ⟨Nat.le_of_ble_eq_true rfl, Nat.le_of_ble_eq_true rfl⟩ dL_isSo_433 (fun x433 M433 h433 => ?_)
                                                obtain ⟨rfl, rfl⟩ := h433
                                                refine dp_aload_n C dL_isSo_436 rfl ?_
                                                refine dp_iload C dL_isSo_437 rfl ?_
                                                refine dp_iconst C dL_isSo_439 ?_
                                                refine dp_iadd C dL_isSo_440 ?_
                                                refine dp_ald_g C 13 (c9 := 3) (k9 := 5) (by omega) (by decide) rfl rfl dL_isSo_441 ?_
                                                refine dp_icmp_same (tgt := 520) C (by first | rfl | decide) (by decide) dL_isSo_442 ?_
                                                refine dp_aload_n C dL_isSo_445 rfl ?_
                                                refine dp_iload C dL_isSo_446 rfl ?_
                                                refine dp_bipush C dL_isSo_448 (by decide) ?_
                                                refine dp_cVi C (w_axis C.2.2.1 l hI2 ⟨by omega, by omega⟩ ⟨by omega, by omega⟩) gL_isSo_X6_axis rfl (dp_mC (by decide)) dp_xdp rfl yyX6_axis rfl ⟨Nat.le_of_ble_eq_true rfl, Nat.le_of_ble_eq_true rfl⟩ rfl (Nat.le_of_ble_eq_true rfl) rfl ⟨Nat.le_of_ble_eq_true rfl, Nat.le_of_ble_eq_true rfl⟩ dL_isSo_450 (fun x450 M450 h450 => ?_)
                                                obtain ⟨rfl, rfl⟩ := h450
                                                refine dp_aload_n C dL_isSo_453 rfl ?_
                                                refine dp_iload C dL_isSo_454 rfl ?_
                                                refine dp_bipush C dL_isSo_456 (by decide) ?_
                                                refine dp_iadd C dL_isSo_458 ?_
                                                refine dp_ald_g C 14 (c9 := 3) (k9 := 6) (by omega) (by decide) rfl rfl dL_isSo_459 ?_
                                                refine dp_icmp_same (tgt := 520) C (by first | rfl | decide) (by decide) dL_isSo_460 ?_
                                                refine dp_aload_n C dL_isSo_463 rfl ?_
                                                refine dp_iload C dL_isSo_464 rfl ?_
                                                refine dp_bipush C dL_isSo_466 (by decide) ?_
                                                refine dp_cVi C (w_axis C.2.2.1 l hI2 ⟨by omega, by omega⟩ ⟨by omega, by omega⟩) gL_isSo_X6_axis rfl (dp_mC (by decide)) dp_xdp rfl yyX6_axis rfl ⟨Nat.le_of_ble_eq_true rfl, Nat.le_of_ble_eq_true rfl⟩ rfl (Nat.le_of_ble_eq_true rfl) rfl ⟨Nat.le_of_ble_eq_true rfl, Nat.le_of_ble_eq_true rfl⟩ dL_isSo_468 (fun x468 M468 h468 => ?_)
                                                obtain ⟨rfl, rfl⟩ := h468
                                                refine dp_aload_n C dL_isSo_471 rfl ?_
                                                refine dp_iload C dL_isSo_472 rfl ?_
                                                refine dp_iconst C dL_isSo_474 ?_
                                                refine dp_iadd C dL_isSo_475 ?_
                                                refine dp_ald_g C 11 (c9 := 3) (k9 := 3) (by omega) (by decide) rfl rfl dL_isSo_476 ?_
                                                refine dp_icmp_same (tgt := 520) C (Eq.trans (by rfl) (hcb 3 (Or.inl rfl)).symm) (by decide) dL_isSo_477 ?_
                                                refine dp_aload_n C dL_isSo_480 rfl ?_
                                                refine dp_iload C dL_isSo_481 rfl ?_
                                                refine dp_iconst C dL_isSo_483 ?_
                                                refine dp_iadd C dL_isSo_484 ?_
                                                refine dp_ald_g C 11 (c9 := 3) (k9 := 3) (by omega) (by decide) rfl rfl dL_isSo_485 ?_
                                                refine dp_iload C dL_isSo_486 rfl ?_
                                                refine dp_if_ne (tgt := 495) C dL_isSo_488 (by decide) ⟨by omega, by omega⟩ (fun c488 => ?_) (fun c488 => ?_)
                                                · omega
                                                · skip
                                                  refine dp_iconst C dL_isSo_491 ?_
                                                  refine dp_goto (tgt := 498) C dL_isSo_492 (by decide) ?_
                                                  refine dp_aload_n C dL_isSo_498 rfl ?_
                                                  refine dp_iload C dL_isSo_499 rfl ?_
                                                  refine dp_iconst C dL_isSo_501 ?_
                                                  refine dp_iadd C dL_isSo_502 ?_
                                                  refine dp_ald_g C 13 (c9 := 3) (k9 := 5) (by omega) (by decide) rfl rfl dL_isSo_503 ?_
                                                  refine dp_iadd C dL_isSo_504 ?_
                                                  refine dp_aload_n C dL_isSo_505 rfl ?_
                                                  refine dp_iload C dL_isSo_506 rfl ?_
                                                  refine dp_bipush C dL_isSo_508 (by decide) ?_
                                                  refine dp_iadd C dL_isSo_510 ?_
                                                  refine dp_ald_g C 14 (c9 := 3) (k9 := 6) (by omega) (by decide) rfl rfl dL_isSo_511 ?_
                                                  refine dp_isub C dL_isSo_512 ?_
                                                  refine dp_icmp_same (tgt := 520) C (by have q9 := hcb 3 (Or.inl rfl); have e9 : axS 3 = 0 := rfl; omega) (by decide) dL_isSo_513 ?_
                                                  refine dp_iconst C dL_isSo_516 ?_
                                                  refine dp_goto (tgt := 521) C dL_isSo_517 (by decide) ?_
                                                  refine dp_istore C dL_isSo_521 (Nat.le_of_ble_eq_true rfl) ?_
                                                  dsimp only [List.set]
                                                  refine dp_iinc C dL_isSo_523 rfl ?_
                                                  dsimp only [List.set]
                                                  try rw [show (0 : Int) + 1 = 1 from rfl]
                                                  try rw [show (1 : Int) + 1 = 2 from rfl]
                                                  try rw [show (2 : Int) + 1 = 3 from rfl]
                                                  try rw [show (3 : Int) + 1 = 4 from rfl]
                                                  try rw [show (4 : Int) + 1 = 5 from rfl]
                                                  refine dp_goto (tgt := 346) C dL_isSo_526 (by decide) ?_
                                                  refine dp_iload C dL_isSo_346 rfl ?_
                                                  refine dp_iconst C dL_isSo_348 ?_
                                                  refine dp_icmp_ge (tgt := 529) C dL_isSo_349 (by decide) ⟨by omega, by omega⟩ ⟨by omega, by omega⟩ (fun c349 => ?_) (fun c349 => ?_)
                                                  · omega
                                                  · skip
                                                    refine dp_bipush C dL_isSo_352 (by decide) ?_
                                                    refine dp_bipush C dL_isSo_354 (by decide) ?_
                                                    refine dp_iload C dL_isSo_356 rfl ?_
                                                    refine dp_imul C dL_isSo_358 ?_
                                                    refine dp_iadd C dL_isSo_359 ?_
                                                    refine dp_istore C dL_isSo_360 (Nat.le_of_ble_eq_true rfl) ?_
                                                    dsimp only [List.set]
                                                    refine dp_iconst C dL_isSo_362 ?_
                                                    refine dp_istore C dL_isSo_363 (Nat.le_of_ble_eq_true rfl) ?_
                                                    dsimp only [List.set]
                                                    refine dp_iload C dL_isSo_365 rfl ?_
                                                    refine dp_iconst C dL_isSo_367 ?_
                                                    refine dp_icmp_ge (tgt := 407) C dL_isSo_368 (by decide) ⟨by omega, by omega⟩ ⟨by omega, by omega⟩ (fun c368 => ?_) (fun c368 => ?_)
                                                    · omega
                                                    · skip
                                                      refine dp_iload C dL_isSo_371 rfl ?_
                                                      refine dp_if_eq (tgt := 398) C dL_isSo_373 (by decide) ⟨by omega, by omega⟩ (fun c373 => ?_) (fun c373 => ?_)
                                                      · omega
                                                      · skip
                                                        refine dp_aload_n C dL_isSo_376 rfl ?_
                                                        refine dp_iload C dL_isSo_377 rfl ?_
                                                        refine dp_iload C dL_isSo_379 rfl ?_
                                                        refine dp_cVi C (w_axis C.2.2.1 l hI2 ⟨by omega, by omega⟩ ⟨by omega, by omega⟩) gL_isSo_X6_axis rfl (dp_mC (by decide)) dp_xdp rfl yyX6_axis rfl ⟨Nat.le_of_ble_eq_true rfl, Nat.le_of_ble_eq_true rfl⟩ rfl (Nat.le_of_ble_eq_true rfl) rfl ⟨Nat.le_of_ble_eq_true rfl, Nat.le_of_ble_eq_true rfl⟩ dL_isSo_381 (fun x381 M381 h381 => ?_)
                                                        obtain ⟨rfl, rfl⟩ := h381
                                                        refine dp_aload_n C dL_isSo_384 rfl ?_
                                                        refine dp_iload C dL_isSo_385 rfl ?_
                                                        refine dp_iload C dL_isSo_387 rfl ?_
                                                        refine dp_iadd C dL_isSo_389 ?_
                                                        refine dp_ald_g C 15 (c9 := 4) (k9 := 0) (by omega) (by decide) rfl rfl dL_isSo_390 ?_
                                                        refine dp_icmp_same (tgt := 398) C (by first | rfl | decide) (by decide) dL_isSo_391 ?_
                                                        refine dp_iconst C dL_isSo_394 ?_
                                                        refine dp_goto (tgt := 399) C dL_isSo_395 (by decide) ?_
                                                        refine dp_istore C dL_isSo_399 (Nat.le_of_ble_eq_true rfl) ?_
                                                        dsimp only [List.set]
                                                        refine dp_iinc C dL_isSo_401 rfl ?_
                                                        dsimp only [List.set]
                                                        try rw [show (0 : Int) + 1 = 1 from rfl]
                                                        try rw [show (1 : Int) + 1 = 2 from rfl]
                                                        try rw [show (2 : Int) + 1 = 3 from rfl]
                                                        try rw [show (3 : Int) + 1 = 4 from rfl]
                                                        try rw [show (4 : Int) + 1 = 5 from rfl]
                                                        refine dp_goto (tgt := 365) C dL_isSo_404 (by decide) ?_
                                                        refine dp_iload C dL_isSo_365 rfl ?_
                                                        refine dp_iconst C dL_isSo_367 ?_
                                                        refine dp_icmp_ge (tgt := 407) C dL_isSo_368 (by decide) ⟨by omega, by omega⟩ ⟨by omega, by omega⟩ (fun c368 => ?_) (fun c368 => ?_)
                                                        · omega
                                                        · skip
                                                          refine dp_iload C dL_isSo_371 rfl ?_
                                                          refine dp_if_eq (tgt := 398) C dL_isSo_373 (by decide) ⟨by omega, by omega⟩ (fun c373 => ?_) (fun c373 => ?_)
                                                          · omega
                                                          · skip
                                                            refine dp_aload_n C dL_isSo_376 rfl ?_
                                                            refine dp_iload C dL_isSo_377 rfl ?_
                                                            refine dp_iload C dL_isSo_379 rfl ?_
                                                            refine dp_cVi C (w_axis C.2.2.1 l hI2 ⟨by omega, by omega⟩ ⟨by omega, by omega⟩) gL_isSo_X6_axis rfl (dp_mC (by decide)) dp_xdp rfl yyX6_axis rfl ⟨Nat.le_of_ble_eq_true rfl, Nat.le_of_ble_eq_true rfl⟩ rfl (Nat.le_of_ble_eq_true rfl) rfl ⟨Nat.le_of_ble_eq_true rfl, Nat.le_of_ble_eq_true rfl⟩ dL_isSo_381 (fun x381 M381 h381 => ?_)
                                                            obtain ⟨rfl, rfl⟩ := h381
                                                            refine dp_aload_n C dL_isSo_384 rfl ?_
                                                            refine dp_iload C dL_isSo_385 rfl ?_
                                                            refine dp_iload C dL_isSo_387 rfl ?_
                                                            refine dp_iadd C dL_isSo_389 ?_
                                                            refine dp_ald_g C 16 (c9 := 4) (k9 := 1) (by omega) (by decide) rfl rfl dL_isSo_390 ?_
                                                            refine dp_icmp_same (tgt := 398) C (by first | rfl | decide) (by decide) dL_isSo_391 ?_
                                                            refine dp_iconst C dL_isSo_394 ?_
                                                            refine dp_goto (tgt := 399) C dL_isSo_395 (by decide) ?_
                                                            refine dp_istore C dL_isSo_399 (Nat.le_of_ble_eq_true rfl) ?_
                                                            dsimp only [List.set]
                                                            refine dp_iinc C dL_isSo_401 rfl ?_
                                                            dsimp only [List.set]
                                                            try rw [show (0 : Int) + 1 = 1 from rfl]
                                                            try rw [show (1 : Int) + 1 = 2 from rfl]
                                                            try rw [show (2 : Int) + 1 = 3 from rfl]
                                                            try rw [show (3 : Int) + 1 = 4 from rfl]
                                                            try rw [show (4 : Int) + 1 = 5 from rfl]
                                                            refine dp_goto (tgt := 365) C dL_isSo_404 (by decide) ?_
                                                            refine dp_iload C dL_isSo_365 rfl ?_
                                                            refine dp_iconst C dL_isSo_367 ?_
                                                            refine dp_icmp_ge (tgt := 407) C dL_isSo_368 (by decide) ⟨by omega, by omega⟩ ⟨by omega, by omega⟩ (fun c368 => ?_) (fun c368 => ?_)
                                                            · omega
                                                            · skip
                                                              refine dp_iload C dL_isSo_371 rfl ?_
                                                              refine dp_if_eq (tgt := 398) C dL_isSo_373 (by decide) ⟨by omega, by omega⟩ (fun c373 => ?_) (fun c373 => ?_)
                                                              · omega
                                                              · skip
                                                                refine dp_aload_n C dL_isSo_376 rfl ?_
                                                                refine dp_iload C dL_isSo_377 rfl ?_
                                                                refine dp_iload C dL_isSo_379 rfl ?_
                                                                refine dp_cVi C (w_axis C.2.2.1 l hI2 ⟨by omega, by omega⟩ ⟨by omega, by omega⟩) gL_isSo_X6_axis rfl (dp_mC (by decide)) dp_xdp rfl yyX6_axis rfl ⟨Nat.le_of_ble_eq_true rfl, Nat.le_of_ble_eq_true rfl⟩ rfl (Nat.le_of_ble_eq_true rfl) rfl ⟨Nat.le_of_ble_eq_true rfl, Nat.le_of_ble_eq_true rfl⟩ dL_isSo_381 (fun x381 M381 h381 => ?_)
                                                                obtain ⟨rfl, rfl⟩ := h381
                                                                refine dp_aload_n C dL_isSo_384 rfl ?_
                                                                refine dp_iload C dL_isSo_385 rfl ?_
                                                                refine dp_iload C dL_isSo_387 rfl ?_
                                                                refine dp_iadd C dL_isSo_389 ?_
                                                                refine dp_ald_g C 17 (c9 := 4) (k9 := 2) (by omega) (by decide) rfl rfl dL_isSo_390 ?_
                                                                refine dp_icmp_same (tgt := 398) C (by first | rfl | decide) (by decide) dL_isSo_391 ?_
                                                                refine dp_iconst C dL_isSo_394 ?_
                                                                refine dp_goto (tgt := 399) C dL_isSo_395 (by decide) ?_
                                                                refine dp_istore C dL_isSo_399 (Nat.le_of_ble_eq_true rfl) ?_
                                                                dsimp only [List.set]
                                                                refine dp_iinc C dL_isSo_401 rfl ?_
                                                                dsimp only [List.set]
                                                                try rw [show (0 : Int) + 1 = 1 from rfl]
                                                                try rw [show (1 : Int) + 1 = 2 from rfl]
                                                                try rw [show (2 : Int) + 1 = 3 from rfl]
                                                                try rw [show (3 : Int) + 1 = 4 from rfl]
                                                                try rw [show (4 : Int) + 1 = 5 from rfl]
                                                                refine dp_goto (tgt := 365) C dL_isSo_404 (by decide) ?_
                                                                refine dp_iload C dL_isSo_365 rfl ?_
                                                                refine dp_iconst C dL_isSo_367 ?_
                                                                refine dp_icmp_ge (tgt := 407) C dL_isSo_368 (by decide) ⟨by omega, by omega⟩ ⟨by omega, by omega⟩ (fun c368 => ?_) (fun c368 => ?_)
                                                                · omega
                                                                · skip
                                                                  refine dp_iload C dL_isSo_371 rfl ?_
                                                                  refine dp_if_eq (tgt := 398) C dL_isSo_373 (by decide) ⟨by omega, by omega⟩ (fun c373 => ?_) (fun c373 => ?_)
                                                                  · omega
                                                                  · skip
                                                                    refine dp_aload_n C dL_isSo_376 rfl ?_
                                                                    refine dp_iload C dL_isSo_377 rfl ?_
                                                                    refine dp_iload C dL_isSo_379 rfl ?_
                                                                    refine dp_cVi C (w_axis C.2.2.1 l hI2 ⟨by omega, by omega⟩ ⟨by omega, by omega⟩) gL_isSo_X6_axis rfl (dp_mC (by decide)) dp_xdp rfl yyX6_axis rfl ⟨Nat.le_of_ble_eq_true rfl, Nat.le_of_ble_eq_true rfl⟩ rfl (Nat.le_of_ble_eq_true rfl) rfl ⟨Nat.le_of_ble_eq_true rfl, Nat.le_of_ble_eq_true rfl⟩ dL_isSo_381 (fun x381 M381 h381 => ?_)
                                                                    obtain ⟨rfl, rfl⟩ := h381
                                                                    refine dp_aload_n C dL_isSo_384 rfl ?_
                                                                    refine dp_iload C dL_isSo_385 rfl ?_
                                                                    refine dp_iload C dL_isSo_387 rfl ?_
                                                                    refine dp_iadd C dL_isSo_389 ?_
                                                                    refine dp_ald_g C 18 (c9 := 4) (k9 := 3) (by omega) (by decide) rfl rfl dL_isSo_390 ?_
                                                                    refine dp_icmp_same (tgt := 398) C (by first | rfl | decide) (by decide) dL_isSo_391 ?_
                                                                    refine dp_iconst C dL_isSo_394 ?_
                                                                    refine dp_goto (tgt := 399) C dL_isSo_395 (by decide) ?_
                                                                    refine dp_istore C dL_isSo_399 (Nat.le_of_ble_eq_true rfl) ?_
                                                                    dsimp only [List.set]
                                                                    refine dp_iinc C dL_isSo_401 rfl ?_
                                                                    dsimp only [List.set]
                                                                    try rw [show (0 : Int) + 1 = 1 from rfl]
                                                                    try rw [show (1 : Int) + 1 = 2 from rfl]
                                                                    try rw [show (2 : Int) + 1 = 3 from rfl]
                                                                    try rw [show (3 : Int) + 1 = 4 from rfl]
                                                                    try rw [show (4 : Int) + 1 = 5 from rfl]
                                                                    refine dp_goto (tgt := 365) C dL_isSo_404 (by decide) ?_
                                                                    refine dp_iload C dL_isSo_365 rfl ?_
                                                                    refine dp_iconst C dL_isSo_367 ?_
                                                                    refine dp_icmp_ge (tgt := 407) C dL_isSo_368 (by decide) ⟨by omega, by omega⟩ ⟨by omega, by omega⟩ (fun c368 => ?_) (fun c368 => ?_)
                                                                    · omega
                                                                    · skip
                                                                      refine dp_iload C dL_isSo_371 rfl ?_
                                                                      refine dp_if_eq (tgt := 398) C dL_isSo_373 (by decide) ⟨by omega, by omega⟩ (fun c373 => ?_) (fun c373 => ?_)
                                                                      · omega
                                                                      · skip
                                                                        refine dp_aload_n C dL_isSo_376 rfl ?_
                                                                        refine dp_iload C dL_isSo_377 rfl ?_
                                                                        refine dp_iload C dL_isSo_379 rfl ?_
                                                                        refine dp_cVi C (w_axis C.2.2.1 l hI2 ⟨by omega, by omega⟩ ⟨by omega, by omega⟩) gL_isSo_X6_axis rfl (dp_mC (by decide)) dp_xdp rfl yyX6_axis rfl ⟨Nat.le_of_ble_eq_true rfl, Nat.le_of_ble_eq_true rfl⟩ rfl (Nat.le_of_ble_eq_true rfl) rfl ⟨Nat.le_of_ble_eq_true rfl, Nat.le_of_ble_eq_true rfl⟩ dL_isSo_381 (fun x381 M381 h381 => ?_)
                                                                        obtain ⟨rfl, rfl⟩ := h381
                                                                        refine dp_aload_n C dL_isSo_384 rfl ?_
                                                                        refine dp_iload C dL_isSo_385 rfl ?_
                                                                        refine dp_iload C dL_isSo_387 rfl ?_
                                                                        refine dp_iadd C dL_isSo_389 ?_
                                                                        refine dp_ald_g C 19 (c9 := 4) (k9 := 4) (by omega) (by decide) rfl rfl dL_isSo_390 ?_
                                                                        refine dp_icmp_same (tgt := 398) C (by first | rfl | decide) (by decide) dL_isSo_391 ?_
                                                                        refine dp_iconst C dL_isSo_394 ?_
                                                                        refine dp_goto (tgt := 399) C dL_isSo_395 (by decide) ?_
                                                                        refine dp_istore C dL_isSo_399 (Nat.le_of_ble_eq_true rfl) ?_
                                                                        dsimp only [List.set]
                                                                        refine dp_iinc C dL_isSo_401 rfl ?_
                                                                        dsimp only [List.set]
                                                                        try rw [show (0 : Int) + 1 = 1 from rfl]
                                                                        try rw [show (1 : Int) + 1 = 2 from rfl]
                                                                        try rw [show (2 : Int) + 1 = 3 from rfl]
                                                                        try rw [show (3 : Int) + 1 = 4 from rfl]
                                                                        try rw [show (4 : Int) + 1 = 5 from rfl]
                                                                        refine dp_goto (tgt := 365) C dL_isSo_404 (by decide) ?_
                                                                        refine dp_iload C dL_isSo_365 rfl ?_
                                                                        refine dp_iconst C dL_isSo_367 ?_
                                                                        refine dp_icmp_ge (tgt := 407) C dL_isSo_368 (by decide) ⟨by omega, by omega⟩ ⟨by omega, by omega⟩ (fun c368 => ?_) (fun c368 => ?_)
                                                                        · skip
                                                                          refine dp_iload C dL_isSo_407 rfl ?_
                                                                          refine dp_if_eq (tgt := 520) C dL_isSo_409 (by decide) ⟨by omega, by omega⟩ (fun c409 => ?_) (fun c409 => ?_)
                                                                          · omega
                                                                          · skip
                                                                            refine dp_aload_n C dL_isSo_412 rfl ?_
                                                                            refine dp_iload C dL_isSo_413 rfl ?_
                                                                            refine dp_iconst C dL_isSo_415 ?_
                                                                            refine dp_cVi C (w_axis C.2.2.1 l hI2 ⟨by omega, by omega⟩ ⟨by omega, by omega⟩) gL_isSo_X6_axis rfl (dp_mC (by decide)) dp_xdp rfl yyX6_axis rfl ⟨Nat.le_of_ble_eq_true rfl, Nat.le_of_ble_eq_true rfl⟩ rfl (Nat.le_of_ble_eq_true rfl) rfl ⟨Nat.le_of_ble_eq_true rfl, Nat.le_of_ble_eq_true rfl⟩ dL_isSo_416 (fun x416 M416 h416 => ?_)
                                                                            obtain ⟨rfl, rfl⟩ := h416
                                                                            refine dp_aload_n C dL_isSo_419 rfl ?_
                                                                            refine dp_iload C dL_isSo_420 rfl ?_
                                                                            refine dp_cSi C (c_L_dish C.2.2.1 l (a := 1) (by decide)) gL_isSo_L_dish rfl yyL_dish rfl ⟨Nat.le_of_ble_eq_true rfl, Nat.le_of_ble_eq_true rfl⟩ rfl (Nat.le_of_ble_eq_true rfl) rfl ⟨Nat.le_of_ble_eq_true rfl, Nat.le_of_ble_eq_true rfl⟩ dL_isSo_422 (fun x422 M422 h422 => ?_)
                                                                            obtain ⟨rfl, rfl⟩ := h422
                                                                            rw [show (1 : Nat) + 3 = 4 from rfl]
                                                                            refine dp_icmp_same (tgt := 520) C (by first | rfl | decide) (by decide) dL_isSo_425 ?_
                                                                            refine dp_aload_n C dL_isSo_428 rfl ?_
                                                                            refine dp_iload C dL_isSo_429 rfl ?_
                                                                            refine dp_bipush C dL_isSo_431 (by decide) ?_
                                                                            refine dp_cVi C (w_axis C.2.2.1 l hI2 ⟨by omega, by omega⟩ ⟨by omega, by omega⟩) gL_isSo_X6_axis rfl (dp_mC (by decide)) dp_xdp rfl yyX6_axis rfl ⟨Nat.le_of_ble_eq_true rfl, Nat.le_of_ble_eq_true rfl⟩ rfl (Nat.le_of_ble_eq_true rfl) rfl ⟨Nat.le_of_ble_eq_true rfl, Nat.le_of_ble_eq_true rfl⟩ dL_isSo_433 (fun x433 M433 h433 => ?_)
                                                                            obtain ⟨rfl, rfl⟩ := h433
                                                                            refine dp_aload_n C dL_isSo_436 rfl ?_
                                                                            refine dp_iload C dL_isSo_437 rfl ?_
                                                                            refine dp_iconst C dL_isSo_439 ?_
                                                                            refine dp_iadd C dL_isSo_440 ?_
                                                                            refine dp_ald_g C 20 (c9 := 4) (k9 := 5) (by omega) (by decide) rfl rfl dL_isSo_441 ?_
                                                                            refine dp_icmp_same (tgt := 520) C (by first | rfl | decide) (by decide) dL_isSo_442 ?_
                                                                            refine dp_aload_n C dL_isSo_445 rfl ?_
                                                                            refine dp_iload C dL_isSo_446 rfl ?_
                                                                            refine dp_bipush C dL_isSo_448 (by decide) ?_
                                                                            refine dp_cVi C (w_axis C.2.2.1 l hI2 ⟨by omega, by omega⟩ ⟨by omega, by omega⟩) gL_isSo_X6_axis rfl (dp_mC (by decide)) dp_xdp rfl yyX6_axis rfl ⟨Nat.le_of_ble_eq_true rfl, Nat.le_of_ble_eq_true rfl⟩ rfl (Nat.le_of_ble_eq_true rfl) rfl ⟨Nat.le_of_ble_eq_true rfl, Nat.le_of_ble_eq_true rfl⟩ dL_isSo_450 (fun x450 M450 h450 => ?_)
                                                                            obtain ⟨rfl, rfl⟩ := h450
                                                                            refine dp_aload_n C dL_isSo_453 rfl ?_
                                                                            refine dp_iload C dL_isSo_454 rfl ?_
                                                                            refine dp_bipush C dL_isSo_456 (by decide) ?_
                                                                            refine dp_iadd C dL_isSo_458 ?_
                                                                            refine dp_ald_g C 21 (c9 := 4) (k9 := 6) (by omega) (by decide) rfl rfl dL_isSo_459 ?_
                                                                            refine dp_icmp_same (tgt := 520) C (by first | rfl | decide) (by decide) dL_isSo_460 ?_
                                                                            refine dp_aload_n C dL_isSo_463 rfl ?_
                                                                            refine dp_iload C dL_isSo_464 rfl ?_
                                                                            refine dp_bipush C dL_isSo_466 (by decide) ?_
                                                                            refine dp_cVi C (w_axis C.2.2.1 l hI2 ⟨by omega, by omega⟩ ⟨by omega, by omega⟩) gL_isSo_X6_axis rfl (dp_mC (by decide)) dp_xdp rfl yyX6_axis rfl ⟨Nat.le_of_ble_eq_true rfl, Nat.le_of_ble_eq_true rfl⟩ rfl (Nat.le_of_ble_eq_true rfl) rfl ⟨Nat.le_of_ble_eq_true rfl, Nat.le_of_ble_eq_true rfl⟩ dL_isSo_468 (fun x468 M468 h468 => ?_)
                                                                            obtain ⟨rfl, rfl⟩ := h468
                                                                            refine dp_aload_n C dL_isSo_471 rfl ?_
                                                                            refine dp_iload C dL_isSo_472 rfl ?_
                                                                            refine dp_iconst C dL_isSo_474 ?_
                                                                            refine dp_iadd C dL_isSo_475 ?_
                                                                            refine dp_ald_g C 18 (c9 := 4) (k9 := 3) (by omega) (by decide) rfl rfl dL_isSo_476 ?_
                                                                            refine dp_icmp_same (tgt := 520) C (Eq.trans (by rfl) (hcb 4 (Or.inr rfl)).symm) (by decide) dL_isSo_477 ?_
                                                                            refine dp_aload_n C dL_isSo_480 rfl ?_
                                                                            refine dp_iload C dL_isSo_481 rfl ?_
                                                                            refine dp_iconst C dL_isSo_483 ?_
                                                                            refine dp_iadd C dL_isSo_484 ?_
                                                                            refine dp_ald_g C 18 (c9 := 4) (k9 := 3) (by omega) (by decide) rfl rfl dL_isSo_485 ?_
                                                                            refine dp_iload C dL_isSo_486 rfl ?_
                                                                            refine dp_if_ne (tgt := 495) C dL_isSo_488 (by decide) ⟨by omega, by omega⟩ (fun c488 => ?_) (fun c488 => ?_)
                                                                            · skip
                                                                              refine dp_sipush C dL_isSo_495 (by decide) ?_
                                                                              refine dp_aload_n C dL_isSo_498 rfl ?_
                                                                              refine dp_iload C dL_isSo_499 rfl ?_
                                                                              refine dp_iconst C dL_isSo_501 ?_
                                                                              refine dp_iadd C dL_isSo_502 ?_
                                                                              refine dp_ald_g C 20 (c9 := 4) (k9 := 5) (by omega) (by decide) rfl rfl dL_isSo_503 ?_
                                                                              refine dp_iadd C dL_isSo_504 ?_
                                                                              refine dp_aload_n C dL_isSo_505 rfl ?_
                                                                              refine dp_iload C dL_isSo_506 rfl ?_
                                                                              refine dp_bipush C dL_isSo_508 (by decide) ?_
                                                                              refine dp_iadd C dL_isSo_510 ?_
                                                                              refine dp_ald_g C 21 (c9 := 4) (k9 := 6) (by omega) (by decide) rfl rfl dL_isSo_511 ?_
                                                                              refine dp_isub C dL_isSo_512 ?_
                                                                              refine dp_icmp_same (tgt := 520) C (by have q9 := hcb 4 (Or.inr rfl); have e9 : axS 4 = 9000 := rfl; omega) (by decide) dL_isSo_513 ?_
                                                                              refine dp_iconst C dL_isSo_516 ?_
                                                                              refine dp_goto (tgt := 521) C dL_isSo_517 (by decide) ?_
                                                                              refine dp_istore C dL_isSo_521 (Nat.le_of_ble_eq_true rfl) ?_
                                                                              dsimp only [List.set]
                                                                              refine dp_iinc C dL_isSo_523 rfl ?_
                                                                              dsimp only [List.set]
                                                                              try rw [show (0 : Int) + 1 = 1 from rfl]
                                                                              try rw [show (1 : Int) + 1 = 2 from rfl]
                                                                              try rw [show (2 : Int) + 1 = 3 from rfl]
                                                                              try rw [show (3 : Int) + 1 = 4 from rfl]
                                                                              try rw [show (4 : Int) + 1 = 5 from rfl]
                                                                              refine dp_goto (tgt := 346) C dL_isSo_526 (by decide) ?_
                                                                              refine dp_iload C dL_isSo_346 rfl ?_
                                                                              refine dp_iconst C dL_isSo_348 ?_
                                                                              refine dp_icmp_ge (tgt := 529) C dL_isSo_349 (by decide) ⟨by omega, by omega⟩ ⟨by omega, by omega⟩ (fun c349 => ?_) (fun c349 => ?_)
                                                                              · skip
                                                                                refine dp_iconst C dL_isSo_529 ?_
                                                                                refine dp_istore C dL_isSo_530 (Nat.le_of_ble_eq_true rfl) ?_
                                                                                dsimp only [List.set]
                                                                                refine dp_dr 8 ?_
                                                                                refine dp_dr 9 ?_
                                                                                dsimp only [List.set]
                                                                                exact J532 N 0 _ _ _ (by omega) (by omega) hI2
                                                                              · omega
                                                                            · omega
                                                                        · omega
                                            · omega
                    · omega
  have J220 : ∀ (X' : dp_V) (az : Int), az = (V 3 3 - V 3 4) % 36000 → dp_G E A p l e (nw_rm 6 157 1 4) s m args below meth co 1 4 Q (dN M V X') 220 [some (.ref (eAd E 7 0)), some (.ref (eAd E 8 0)), some (.ref (eAd E 8 1)), some (.ref (eAd E 8 2)), some (.int (dp_I (uwN V N))), some (.int (dp_I az)), none, none, none, none, none] [] := by
    intro X' az haz
    refine dp_aload_n C dL_isSo_220 rfl ?_
    refine dp_bipush C dL_isSo_221 (by decide) ?_
    refine dp_cVi C (w_count C.2.2.1 l hI0 ⟨by omega, by omega⟩ (by omega) (by omega)) gL_isSo_X6_count rfl (dp_mC (by decide)) dp_xdp rfl yyX6_count rfl ⟨Nat.le_of_ble_eq_true rfl, Nat.le_of_ble_eq_true rfl⟩ rfl (Nat.le_of_ble_eq_true rfl) rfl ⟨Nat.le_of_ble_eq_true rfl, Nat.le_of_ble_eq_true rfl⟩ dL_isSo_223 (fun x223 M223 h223 => ?_)
    obtain ⟨rfl, rfl⟩ := h223
    refine dp_aload_n C dL_isSo_226 rfl ?_
    refine dp_iconst C dL_isSo_227 ?_
    refine dp_ald_g C 5 (c9 := 0) (k9 := 1) (by omega) (by decide) rfl rfl dL_isSo_228 ?_
    refine dp_icmp_same (tgt := 297) C rfl (by decide) dL_isSo_229 ?_
    refine dp_aload_n C dL_isSo_232 rfl ?_
    refine dp_bipush C dL_isSo_233 (by decide) ?_
    refine dp_cVi C (w_count C.2.2.1 l hI0 ⟨by omega, by omega⟩ (by omega) (by omega)) gL_isSo_X6_count rfl (dp_mC (by decide)) dp_xdp rfl yyX6_count rfl ⟨Nat.le_of_ble_eq_true rfl, Nat.le_of_ble_eq_true rfl⟩ rfl (Nat.le_of_ble_eq_true rfl) rfl ⟨Nat.le_of_ble_eq_true rfl, Nat.le_of_ble_eq_true rfl⟩ dL_isSo_235 (fun x235 M235 h235 => ?_)
    obtain ⟨rfl, rfl⟩ := h235
    refine dp_aload_n C dL_isSo_238 rfl ?_
    refine dp_bipush C dL_isSo_239 (by decide) ?_
    refine dp_ald_g C 6 (c9 := 0) (k9 := 2) (by omega) (by decide) rfl rfl dL_isSo_241 ?_
    refine dp_icmp_same (tgt := 297) C rfl (by decide) dL_isSo_242 ?_
    refine dp_aload_n C dL_isSo_245 rfl ?_
    refine dp_bipush C dL_isSo_246 (by decide) ?_
    refine dp_cVi C (w_count C.2.2.1 l hI0 ⟨by omega, by omega⟩ (by omega) (by omega)) gL_isSo_X6_count rfl (dp_mC (by decide)) dp_xdp rfl yyX6_count rfl ⟨Nat.le_of_ble_eq_true rfl, Nat.le_of_ble_eq_true rfl⟩ rfl (Nat.le_of_ble_eq_true rfl) rfl ⟨Nat.le_of_ble_eq_true rfl, Nat.le_of_ble_eq_true rfl⟩ dL_isSo_248 (fun x248 M248 h248 => ?_)
    obtain ⟨rfl, rfl⟩ := h248
    refine dp_iload C dL_isSo_251 rfl ?_
    refine dp_icmp_same (tgt := 297) C haz.symm (by decide) dL_isSo_253 ?_
    refine dp_aload_n C dL_isSo_256 rfl ?_
    refine dp_cVi C (w_next C.2.2.1 l hI0) gL_isSo_X6_next rfl (dp_mC (by decide)) dp_xdp rfl yyX6_next rfl ⟨Nat.le_of_ble_eq_true rfl, Nat.le_of_ble_eq_true rfl⟩ rfl (Nat.le_of_ble_eq_true rfl) rfl ⟨Nat.le_of_ble_eq_true rfl, Nat.le_of_ble_eq_true rfl⟩ dL_isSo_257 (fun x257 M257 h257 => ?_)
    obtain ⟨rfl, M2, rfl, hI2⟩ := h257
    refine dp_aload_n C dL_isSo_260 rfl ?_
    refine dp_aload_n C dL_isSo_261 rfl ?_
    refine dp_cSi C (c_L_next C.2.2.1 l hm h4 hq) gL_isSo_L_next rfl yyL_next rfl ⟨Nat.le_of_ble_eq_true rfl, Nat.le_of_ble_eq_true rfl⟩ rfl (Nat.le_of_ble_eq_true rfl) rfl ⟨Nat.le_of_ble_eq_true rfl, Nat.le_of_ble_eq_true rfl⟩ dL_isSo_262 (fun x262 M262 h262 => ?_)
    obtain ⟨rfl, X2, rfl, hs2⟩ := h262
    refine dp_icmp_same (tgt := 297) C rfl (by decide) dL_isSo_265 ?_
    refine dp_aload_n C dL_isSo_268 rfl ?_
    refine dp_cVi C (w_isWound C.2.2.1 l hI2) gL_isSo_X6_isWound rfl (dp_mC (by decide)) dp_xdp rfl yyX6_isWound rfl ⟨Nat.le_of_ble_eq_true rfl, Nat.le_of_ble_eq_true rfl⟩ rfl (Nat.le_of_ble_eq_true rfl) rfl ⟨Nat.le_of_ble_eq_true rfl, Nat.le_of_ble_eq_true rfl⟩ dL_isSo_269 (fun x269 M269 h269 => ?_)
    obtain ⟨rfl, rfl⟩ := h269
    refine dp_aload_n C dL_isSo_272 rfl ?_
    refine dp_bipush C dL_isSo_273 (by decide) ?_
    refine dp_ald_g C 11 (c9 := 3) (k9 := 3) (by omega) (by decide) rfl rfl dL_isSo_275 ?_
    refine dp_cSi C (c_L_size C.2.2.1 l ⟨by omega, by omega⟩) gL_isSo_L_size rfl yyL_size rfl ⟨Nat.le_of_ble_eq_true rfl, Nat.le_of_ble_eq_true rfl⟩ rfl (Nat.le_of_ble_eq_true rfl) rfl ⟨Nat.le_of_ble_eq_true rfl, Nat.le_of_ble_eq_true rfl⟩ dL_isSo_276 (fun x276 M276 h276 => ?_)
    obtain ⟨rfl, rfl⟩ := h276
    have hab : 0 ≤ ab (V 3 3) ∧ ab (V 3 3) ≤ 27000 := by unfold ab; split <;> omega
    refine dp_aload_n C dL_isSo_279 rfl ?_
    refine dp_iconst C dL_isSo_280 ?_
    refine dp_ald_g C 1 (c9 := 1) (k9 := 1) (by omega) (by decide) rfl rfl dL_isSo_281 ?_
    refine dp_icmp_le (tgt := 289) C dL_isSo_282 (by decide) ⟨by omega, by omega⟩ ⟨by omega, by omega⟩ (fun c282 => ?_) (fun c282 => ?_)
    · skip
      refine dp_iconst C dL_isSo_289 ?_
      refine dp_icmp_same (tgt := 297) C (dp_b_f (by omega)) (by decide) dL_isSo_290 ?_
      refine dp_iconst C dL_isSo_293 ?_
      refine dp_goto (tgt := 298) C dL_isSo_294 (by decide) ?_
      refine dp_dr 4 ?_
      refine dp_dr 5 ?_
      dsimp only [List.set]
      exact J298 _ _ hI2
    · skip
      refine dp_iconst C dL_isSo_285 ?_
      refine dp_goto (tgt := 290) C dL_isSo_286 (by decide) ?_
      refine dp_icmp_same (tgt := 297) C (dp_b_t (by omega)) (by decide) dL_isSo_290 ?_
      refine dp_iconst C dL_isSo_293 ?_
      refine dp_goto (tgt := 298) C dL_isSo_294 (by decide) ?_
      refine dp_dr 4 ?_
      refine dp_dr 5 ?_
      dsimp only [List.set]
      exact J298 _ _ hI2
  have J69 : ∀ (X' : dp_V) (az : Int), (∀ s9 : Nat, s9 < 4 → X' 2 s9 = cnG V (s9 : Int) 0 N) → az = (V 3 3 - V 3 4) % 36000 → dp_G E A p l e (nw_rm 6 157 1 4) s m args below meth co 1 4 Q (dN M V X') 69 [some (.ref (eAd E 7 0)), some (.ref (eAd E 8 0)), some (.ref (eAd E 8 1)), some (.ref (eAd E 8 2)), some (.int (dp_I (uwN V N))), none, none, none, none, none, none] [.int (dp_I az)] := by
    intro X' az hcn haz
    refine dp_istore C dL_isSo_69 (Nat.le_of_ble_eq_true rfl) ?_
    dsimp only [List.set]
    refine dp_aload_n C dL_isSo_71 rfl ?_
    refine dp_iconst C dL_isSo_72 ?_
    refine dp_cVi C (w_count C.2.2.1 l hI0 ⟨by omega, by omega⟩ (by omega) (by omega)) gL_isSo_X6_count rfl (dp_mC (by decide)) dp_xdp rfl yyX6_count rfl ⟨Nat.le_of_ble_eq_true rfl, Nat.le_of_ble_eq_true rfl⟩ rfl (Nat.le_of_ble_eq_true rfl) rfl ⟨Nat.le_of_ble_eq_true rfl, Nat.le_of_ble_eq_true rfl⟩ dL_isSo_73 (fun x73 M73 h73 => ?_)
    obtain ⟨rfl, rfl⟩ := h73
    refine dp_aload_n C dL_isSo_76 rfl ?_
    refine dp_iconst C dL_isSo_77 ?_
    refine dp_ald_g C 4 (c9 := 0) (k9 := 0) (by omega) (by decide) rfl rfl dL_isSo_78 ?_
    refine dp_icmp_same (tgt := 297) C rfl (by decide) dL_isSo_79 ?_
    refine dp_aload_n C dL_isSo_82 rfl ?_
    refine dp_iconst C dL_isSo_83 ?_
    refine dp_cVi C (w_count C.2.2.1 l hI0 ⟨by omega, by omega⟩ (by omega) (by omega)) gL_isSo_X6_count rfl (dp_mC (by decide)) dp_xdp rfl yyX6_count rfl ⟨Nat.le_of_ble_eq_true rfl, Nat.le_of_ble_eq_true rfl⟩ rfl (Nat.le_of_ble_eq_true rfl) rfl ⟨Nat.le_of_ble_eq_true rfl, Nat.le_of_ble_eq_true rfl⟩ dL_isSo_84 (fun x84 M84 h84 => ?_)
    obtain ⟨rfl, rfl⟩ := h84
    refine dp_aload_n C dL_isSo_87 rfl ?_
    refine dp_iconst C dL_isSo_88 ?_
    refine dp_ald_g C 4 (c9 := 0) (k9 := 0) (by omega) (by decide) rfl rfl dL_isSo_89 ?_
    refine dp_sipush C dL_isSo_90 (by decide) ?_
    refine dp_idiv C ⟨by omega, by omega, by omega, by omega⟩ dL_isSo_93 ?_
    refine dp_icmp_same (tgt := 297) C rfl (by decide) dL_isSo_94 ?_
    refine dp_aload_n C dL_isSo_97 rfl ?_
    refine dp_iconst C dL_isSo_98 ?_
    refine dp_cVi C (w_count C.2.2.1 l hI0 ⟨by omega, by omega⟩ (by omega) (by omega)) gL_isSo_X6_count rfl (dp_mC (by decide)) dp_xdp rfl yyX6_count rfl ⟨Nat.le_of_ble_eq_true rfl, Nat.le_of_ble_eq_true rfl⟩ rfl (Nat.le_of_ble_eq_true rfl) rfl ⟨Nat.le_of_ble_eq_true rfl, Nat.le_of_ble_eq_true rfl⟩ dL_isSo_99 (fun x99 M99 h99 => ?_)
    obtain ⟨rfl, rfl⟩ := h99
    refine dp_aload_n C dL_isSo_102 rfl ?_
    refine dp_bipush C dL_isSo_103 (by decide) ?_
    refine dp_aload_n C dL_isSo_105 rfl ?_
    refine dp_iconst C dL_isSo_106 ?_
    refine dp_ald_g C 4 (c9 := 0) (k9 := 0) (by omega) (by decide) rfl rfl dL_isSo_107 ?_
    refine dp_sipush C dL_isSo_108 (by decide) ?_
    refine dp_idiv C ⟨by omega, by omega, by omega, by omega⟩ dL_isSo_111 ?_
    refine dp_iadd C dL_isSo_112 ?_
    refine dp_ald_g C (22 + (V 0 0 / 1440).toNat) (c9 := 2) (k9 := (V 0 0 / 1440).toNat) (by omega) (by omega) (dp_ceU (by omega)).1 (dp_ceU (by omega)).2 dL_isSo_113 ?_
    refine dp_icmp_same (tgt := 297) C rfl (by decide) dL_isSo_114 ?_
    refine dp_aload_n C dL_isSo_117 rfl ?_
    refine dp_iconst C dL_isSo_118 ?_
    refine dp_cVi C (w_count C.2.2.1 l hI0 ⟨by omega, by omega⟩ (by omega) (by omega)) gL_isSo_X6_count rfl (dp_mC (by decide)) dp_xdp rfl yyX6_count rfl ⟨Nat.le_of_ble_eq_true rfl, Nat.le_of_ble_eq_true rfl⟩ rfl (Nat.le_of_ble_eq_true rfl) rfl ⟨Nat.le_of_ble_eq_true rfl, Nat.le_of_ble_eq_true rfl⟩ dL_isSo_119 (fun x119 M119 h119 => ?_)
    obtain ⟨rfl, rfl⟩ := h119
    refine dp_aload_n C dL_isSo_122 rfl ?_
    refine dp_cSi C (c_L_day C.2.2.1 l hs9) gL_isSo_L_day rfl yyL_day rfl ⟨Nat.le_of_ble_eq_true rfl, Nat.le_of_ble_eq_true rfl⟩ rfl (Nat.le_of_ble_eq_true rfl) rfl ⟨Nat.le_of_ble_eq_true rfl, Nat.le_of_ble_eq_true rfl⟩ dL_isSo_123 (fun x123 M123 h123 => ?_)
    obtain ⟨rfl, rfl⟩ := h123
    refine dp_icmp_same (tgt := 297) C rfl (by decide) dL_isSo_126 ?_
    refine dp_aload_n C dL_isSo_129 rfl ?_
    refine dp_iconst C dL_isSo_130 ?_
    refine dp_cVi C (w_count C.2.2.1 l hI0 ⟨by omega, by omega⟩ (by omega) (by omega)) gL_isSo_X6_count rfl (dp_mC (by decide)) dp_xdp rfl yyX6_count rfl ⟨Nat.le_of_ble_eq_true rfl, Nat.le_of_ble_eq_true rfl⟩ rfl (Nat.le_of_ble_eq_true rfl) rfl ⟨Nat.le_of_ble_eq_true rfl, Nat.le_of_ble_eq_true rfl⟩ dL_isSo_131 (fun x131 M131 h131 => ?_)
    obtain ⟨rfl, rfl⟩ := h131
    refine dp_aload_n C dL_isSo_134 rfl ?_
    refine dp_bipush C dL_isSo_135 (by decide) ?_
    refine dp_ald_g C 7 (c9 := 0) (k9 := 3) (by omega) (by decide) rfl rfl dL_isSo_137 ?_
    refine dp_icmp_same (tgt := 297) C hN.symm (by decide) dL_isSo_138 ?_
    refine dp_aload_n C dL_isSo_141 rfl ?_
    refine dp_iconst C dL_isSo_142 ?_
    refine dp_cVi C (w_count C.2.2.1 l hI0 ⟨by omega, by omega⟩ (by omega) (by omega)) gL_isSo_X6_count rfl (dp_mC (by decide)) dp_xdp rfl yyX6_count rfl ⟨Nat.le_of_ble_eq_true rfl, Nat.le_of_ble_eq_true rfl⟩ rfl (Nat.le_of_ble_eq_true rfl) rfl ⟨Nat.le_of_ble_eq_true rfl, Nat.le_of_ble_eq_true rfl⟩ dL_isSo_143 (fun x143 M143 h143 => ?_)
    obtain ⟨rfl, rfl⟩ := h143
    refine dp_aload_n C dL_isSo_146 rfl ?_
    refine dp_iconst C dL_isSo_147 ?_
    refine dp_ald_m C h9 0 (by omega) (by omega) dL_isSo_148 ?_
    refine dp_icmp_same (tgt := 297) C (hcn 0 (by decide)).symm (by decide) dL_isSo_149 ?_
    refine dp_aload_n C dL_isSo_152 rfl ?_
    refine dp_bipush C dL_isSo_153 (by decide) ?_
    refine dp_cVi C (w_count C.2.2.1 l hI0 ⟨by omega, by omega⟩ (by omega) (by omega)) gL_isSo_X6_count rfl (dp_mC (by decide)) dp_xdp rfl yyX6_count rfl ⟨Nat.le_of_ble_eq_true rfl, Nat.le_of_ble_eq_true rfl⟩ rfl (Nat.le_of_ble_eq_true rfl) rfl ⟨Nat.le_of_ble_eq_true rfl, Nat.le_of_ble_eq_true rfl⟩ dL_isSo_155 (fun x155 M155 h155 => ?_)
    obtain ⟨rfl, rfl⟩ := h155
    refine dp_aload_n C dL_isSo_158 rfl ?_
    refine dp_iconst C dL_isSo_159 ?_
    refine dp_ald_m C h9 2 (by omega) (by omega) dL_isSo_160 ?_
    refine dp_icmp_same (tgt := 297) C (hcn 2 (by decide)).symm (by decide) dL_isSo_161 ?_
    refine dp_aload_n C dL_isSo_164 rfl ?_
    refine dp_bipush C dL_isSo_165 (by decide) ?_
    refine dp_cVi C (w_count C.2.2.1 l hI0 ⟨by omega, by omega⟩ (by omega) (by omega)) gL_isSo_X6_count rfl (dp_mC (by decide)) dp_xdp rfl yyX6_count rfl ⟨Nat.le_of_ble_eq_true rfl, Nat.le_of_ble_eq_true rfl⟩ rfl (Nat.le_of_ble_eq_true rfl) rfl ⟨Nat.le_of_ble_eq_true rfl, Nat.le_of_ble_eq_true rfl⟩ dL_isSo_167 (fun x167 M167 h167 => ?_)
    obtain ⟨rfl, rfl⟩ := h167
    refine dp_aload_n C dL_isSo_170 rfl ?_
    refine dp_iconst C dL_isSo_171 ?_
    refine dp_ald_m C h9 3 (by omega) (by omega) dL_isSo_172 ?_
    refine dp_icmp_same (tgt := 297) C (hcn 3 (by decide)).symm (by decide) dL_isSo_173 ?_
    refine dp_aload_n C dL_isSo_176 rfl ?_
    refine dp_bipush C dL_isSo_177 (by decide) ?_
    refine dp_cVi C (w_count C.2.2.1 l hI0 ⟨by omega, by omega⟩ (by omega) (by omega)) gL_isSo_X6_count rfl (dp_mC (by decide)) dp_xdp rfl yyX6_count rfl ⟨Nat.le_of_ble_eq_true rfl, Nat.le_of_ble_eq_true rfl⟩ rfl (Nat.le_of_ble_eq_true rfl) rfl ⟨Nat.le_of_ble_eq_true rfl, Nat.le_of_ble_eq_true rfl⟩ dL_isSo_179 (fun x179 M179 h179 => ?_)
    obtain ⟨rfl, rfl⟩ := h179
    refine dp_iload C dL_isSo_182 rfl ?_
    refine dp_icmp_same (tgt := 297) C rfl (by decide) dL_isSo_184 ?_
    refine dp_aload_n C dL_isSo_187 rfl ?_
    refine dp_bipush C dL_isSo_188 (by decide) ?_
    refine dp_cVi C (w_count C.2.2.1 l hI0 ⟨by omega, by omega⟩ (by omega) (by omega)) gL_isSo_X6_count rfl (dp_mC (by decide)) dp_xdp rfl yyX6_count rfl ⟨Nat.le_of_ble_eq_true rfl, Nat.le_of_ble_eq_true rfl⟩ rfl (Nat.le_of_ble_eq_true rfl) rfl ⟨Nat.le_of_ble_eq_true rfl, Nat.le_of_ble_eq_true rfl⟩ dL_isSo_190 (fun x190 M190 h190 => ?_)
    obtain ⟨rfl, rfl⟩ := h190
    refine dp_iload C dL_isSo_193 rfl ?_
    refine dp_if_ge (tgt := 203) C dL_isSo_195 (by decide) ⟨by omega, by omega⟩ (fun c195 => ?_) (fun c195 => ?_)
    · skip
      obtain ⟨t, ht, hu, hu2, h6⟩ := uwN_t (V := V) (N := N) (by omega)
      have hmu : muN V N = V (t + 6) 9 - V 0 0 := by unfold muN; rw [hu, if_neg (by omega), Int.toNat_natCast]
      rw [hu]
      refine dp_aload_n C dL_isSo_203 rfl ?_
      refine dp_bipush C dL_isSo_204 (by decide) ?_
      refine dp_iload C dL_isSo_206 rfl ?_
      refine dp_imul C dL_isSo_208 ?_
      refine dp_bipush C dL_isSo_209 (by decide) ?_
      refine dp_iadd C dL_isSo_211 ?_
      refine dp_ald_q C t 9 (by omega) (by omega) (by decide) dL_isSo_212 ?_
      refine dp_aload_n C dL_isSo_213 rfl ?_
      refine dp_iconst C dL_isSo_214 ?_
      refine dp_ald_g C 4 (c9 := 0) (k9 := 0) (by omega) (by decide) rfl rfl dL_isSo_215 ?_
      refine dp_isub C dL_isSo_216 ?_
      refine dp_icmp_same (tgt := 297) C hmu (by decide) dL_isSo_217 ?_
      try rw [← hu]
      exact J220 _ _ haz
    · skip
      have hmu : muN V N = -100004 := by unfold muN; rw [if_pos (uwN_neg c195)]
      refine dp_ldc C (-100004) (List.mem_of_getElem? (i := 3) rfl) rfl dL_isSo_198 ?_
      refine dp_goto (tgt := 217) C dL_isSo_200 (by decide) ?_
      refine dp_icmp_same (tgt := 297) C hmu (by decide) dL_isSo_217 ?_
      try rw [← hu]
      exact J220 _ _ haz
  have J7 : ∀ (n k : Nat) (ki : Int) (X' : dp_V), k + n = N → ki = k → (∀ s9 : Nat, s9 < 4 → X' 2 s9 = cnG V (s9 : Int) 0 k) → dp_G E A p l e (nw_rm 6 157 1 4) s m args below meth co 1 4 Q (dN M V X') 7 [some (.ref (eAd E 7 0)), some (.ref (eAd E 8 0)), some (.ref (eAd E 8 1)), some (.ref (eAd E 8 2)), some (.int (dp_I ki)), none, none, none, none, none, none] [] := by
    refine dp_ind (fun n ih => ?_)
    intro k ki X' hkn hki hcn
    refine dp_iload C dL_isSo_7 rfl ?_
    refine dp_aload_n C dL_isSo_9 rfl ?_
    refine dp_bipush C dL_isSo_10 (by decide) ?_
    refine dp_ald_g C 7 (c9 := 0) (k9 := 3) (by omega) (by decide) rfl rfl dL_isSo_12 ?_
    refine dp_icmp_ge (tgt := 38) C dL_isSo_13 (by decide) ⟨by omega, by omega⟩ ⟨by omega, by omega⟩ (fun c13 => ?_) (fun c13 => ?_)
    · skip
      obtain rfl : n = 0 := by omega
      have ekN : k = N := by omega
      rw [ekN] at hcn
      refine dp_aload_n C dL_isSo_38 rfl ?_
      refine dp_aload_n C dL_isSo_39 rfl ?_
      refine dp_cSi C (c_L_under C.2.2.1 l hm h4 hq) gL_isSo_L_under rfl yyL_under rfl ⟨Nat.le_of_ble_eq_true rfl, Nat.le_of_ble_eq_true rfl⟩ rfl (Nat.le_of_ble_eq_true rfl) rfl ⟨Nat.le_of_ble_eq_true rfl, Nat.le_of_ble_eq_true rfl⟩ dL_isSo_40 (fun x40 M40 h40 => ?_)
      obtain ⟨rfl, rfl⟩ := h40
      refine dp_istore C dL_isSo_43 (Nat.le_of_ble_eq_true rfl) ?_
      dsimp only [List.set]
      refine dp_aload_n C dL_isSo_45 rfl ?_
      refine dp_iconst C dL_isSo_46 ?_
      refine dp_cSi C (c_L_dish C.2.2.1 l (a := 0) (by decide)) gL_isSo_L_dish rfl yyL_dish rfl ⟨Nat.le_of_ble_eq_true rfl, Nat.le_of_ble_eq_true rfl⟩ rfl (Nat.le_of_ble_eq_true rfl) rfl ⟨Nat.le_of_ble_eq_true rfl, Nat.le_of_ble_eq_true rfl⟩ dL_isSo_47 (fun x47 M47 h47 => ?_)
      obtain ⟨rfl, rfl⟩ := h47
      rw [show (0 : Nat) + 3 = 3 from rfl]
      refine dp_if_ge (tgt := 64) C dL_isSo_50 (by decide) ⟨by omega, by omega⟩ (fun c50 => ?_) (fun c50 => ?_)
      · skip
        refine dp_aload_n C dL_isSo_64 rfl ?_
        refine dp_iconst C dL_isSo_65 ?_
        refine dp_cSi C (c_L_dish C.2.2.1 l (a := 0) (by decide)) gL_isSo_L_dish rfl yyL_dish rfl ⟨Nat.le_of_ble_eq_true rfl, Nat.le_of_ble_eq_true rfl⟩ rfl (Nat.le_of_ble_eq_true rfl) rfl ⟨Nat.le_of_ble_eq_true rfl, Nat.le_of_ble_eq_true rfl⟩ dL_isSo_66 (fun x66 M66 h66 => ?_)
        obtain ⟨rfl, rfl⟩ := h66
        rw [show (0 : Nat) + 3 = 3 from rfl]
        exact J69 _ _ hcn (by omega)
      · skip
        refine dp_aload_n C dL_isSo_53 rfl ?_
        refine dp_iconst C dL_isSo_54 ?_
        refine dp_cSi C (c_L_dish C.2.2.1 l (a := 0) (by decide)) gL_isSo_L_dish rfl yyL_dish rfl ⟨Nat.le_of_ble_eq_true rfl, Nat.le_of_ble_eq_true rfl⟩ rfl (Nat.le_of_ble_eq_true rfl) rfl ⟨Nat.le_of_ble_eq_true rfl, Nat.le_of_ble_eq_true rfl⟩ dL_isSo_55 (fun x55 M55 h55 => ?_)
        obtain ⟨rfl, rfl⟩ := h55
        rw [show (0 : Nat) + 3 = 3 from rfl]
        refine dp_ldc C (36000) (List.mem_of_getElem? (i := 2) rfl) rfl dL_isSo_58 ?_
        refine dp_iadd C dL_isSo_60 ?_
        refine dp_goto (tgt := 69) C dL_isSo_61 (by decide) ?_
        exact J69 _ _ hcn (by omega)
    · skip
      obtain ⟨n, rfl⟩ : ∃ n', n = n' + 1 := ⟨n - 1, by omega⟩
      obtain rfl := hki
      have hkN : k < N := by omega
      have hst := hT k hkN
      unfold ivT at hst
      obtain ⟨s9, hs9, hs4⟩ : ∃ s9 : Nat, V (k + 6) 6 = s9 ∧ s9 < 4 := ⟨(V (k + 6) 6).toNat, by omega, by omega⟩
      refine dp_aload_n C dL_isSo_16 rfl ?_
      refine dp_aload_n C dL_isSo_17 rfl ?_
      refine dp_bipush C dL_isSo_18 (by decide) ?_
      refine dp_iload C dL_isSo_20 rfl ?_
      refine dp_imul C dL_isSo_22 ?_
      refine dp_bipush C dL_isSo_23 (by decide) ?_
      refine dp_iadd C dL_isSo_25 ?_
      refine dp_ald_q C k 6 (by omega) (by omega) (by decide) dL_isSo_26 ?_
      rw [hs9]
      refine dp_dup2 C dL_isSo_27 rfl rfl ?_
      refine dp_ald_m C h9 s9 (by omega) (by omega) dL_isSo_28 ?_
      refine dp_iconst C dL_isSo_29 ?_
      refine dp_iadd C dL_isSo_30 ?_
      refine dp_ast_m C h9 s9 (by omega) (by omega) dL_isSo_31 ?_
      refine dp_iinc C dL_isSo_32 rfl ?_
      dsimp only [List.set]
      refine dp_goto (tgt := 7) C dL_isSo_35 (by decide) ?_
      exact ih n (by omega) (k + 1) _ _ (by omega) (by omega) (fun u hu => by
        rw [cnG_snoc, Nat.zero_add, u2_same]
        by_cases z : u = s9
        · subst z
          rw [u1_same, hcn u hu, if_pos hs9]
        · rw [u1_ne z, hcn u hu, if_neg (by omega)]
          omega)
  refine dp_iconst C dL_isSo_4 ?_
  refine dp_istore C dL_isSo_5 (Nat.le_of_ble_eq_true rfl) ?_
  dsimp only [List.set]
  exact J7 N 0 _ _ (by omega) (by omega) (fun s9 _ => hX0 s9)
