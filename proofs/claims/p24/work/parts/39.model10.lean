theorem rnG_iv {N : Nat} : ∀ {n : Nat} {V : dp_V}, ivM V N → V 0 0 + n ≤ 43200 → ivM (rnG N n V) N := by
  intro n
  induction n with
  | zero => intro V h _; exact h
  | succ n ih =>
    intro V h hx
    obtain ⟨a, b⟩ := stM_iv h (by omega)
    exact ih a (by omega)
/-- the reference runs k minutes; how many become done -/
def ruM (V : dp_V) (N k : Nat) : dp_V := rnG N k (miM V N)
def ruC (V : dp_V) (N k : Nat) : Int := mc V N + rcG N k (miM V N)
