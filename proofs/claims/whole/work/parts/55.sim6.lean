theorem Sim.et {V W T T' : dp_V} {N : Nat} (h : Sim V W N) (hT : sgF T = sgF T') : ∀ i : Nat, N + i ≤ 10 → Sim (etV V T N i) (emV W T' N i) (N + i) := by
  have hp : ∀ i : Nat, posT T i = posT T' i := by
    intro i
    induction i with
    | zero => rfl
    | succ i ih =>
      show rdR T (posT T i) = rdR T' (posT T' i)
      rw [ih, rdR_tx hT]
  intro i
  induction i with
  | zero => intro _; exact h
  | succ i ih =>
    intro hi
    have a := (ih (by omega)).aq (a0 := nuv T (posT T i) 0) (a1 := nuv T (posT T i) 1) (a2 := nuv T (posT T i) 2) (a3 := nuv T (posT T i) 3) (a4 := nuv T (posT T i) 4) (a5 := nuv T (posT T i) 5) (by omega)
    show Sim _ (adV (emV W T' N i) (N + i) (nuv T' (posT T' i) 0) (nuv T' (posT T' i) 1) (nuv T' (posT T' i) 2) (nuv T' (posT T' i) 3) (nuv T' (posT T' i) 4) (nuv T' (posT T' i) 5)) _
    rw [← hp i, ← nuv_tx hT, ← nuv_tx hT, ← nuv_tx hT, ← nuv_tx hT, ← nuv_tx hT, ← nuv_tx hT]
    exact a
