/-! MORE RULES FOR THE LAW: comparisons that are always equal; numbers by their places -/
section DM2
variable {E : dp_E} {A : Nat → Prop} {p : Program} {l : Launch} {e : Env} {R : Room} {s : State} {m : MethodId} {args : Array Value} {below : List Frame} {meth : Method} {co : Code} {ce sl : Nat} {Q : State → Prop} {cc : ByteArray} {own : String} {nL : Nat} {Ts : List Cond} {M : dp_M} {pc : Nat} {L : List (Option Value)} {st : List Value}
theorem dp_icmp_same (C : dp_C E A p s m args meth co cc own nL Ts) {x y off : Int} {tgt : Nat} (h : x = y) (ht : (pc : Int) + off = (tgt : Int)) (hd : decode cc pc = .ok (.if_icmp .ne off, 3)) (k : dp_G E A p l e R s m args below meth co ce sl Q M (pc + 3) L st) : dp_G E A p l e R s m args below meth co ce sl Q M pc L (.int (dp_I y) :: .int (dp_I x) :: st) := fun H locs ls hW hS hL => by
  subst h
  exact lv_icmp_ne C.1.1 C.1.2.1 hd ht (fun q => absurd rfl q) (fun _ => k H locs ls hW hS hL)
end DM2
theorem dp_ceS {k : Nat} (hk : k < 4) : dp_ce k = 1 ∧ dp_sl k = k := by
  unfold dp_ce dp_sl
  rw [if_pos hk, if_pos hk]
  exact ⟨rfl, rfl⟩
theorem cnG_snoc {V : dp_V} {s : Int} : ∀ n k : Nat, cnG V s k (n + 1) = cnG V s k n + (if V (k + n + 6) 6 = s then 1 else 0) := by
  intro n
  induction n with
  | zero =>
    intro k
    show (if V (k + 6) 6 = s then 1 else 0) + 0 = 0 + (if V (k + 0 + 6) 6 = s then 1 else 0)
    rw [Nat.add_zero]
    omega
  | succ n ih =>
    intro k
    show (if V (k + 6) 6 = s then 1 else 0) + cnG V s (k + 1) (n + 1) = (if V (k + 6) 6 = s then 1 else 0) + cnG V s (k + 1) n + (if V (k + (n + 1) + 6) 6 = s then 1 else 0)
    rw [ih (k + 1), show k + 1 + n = k + (n + 1) by omega]
    omega
theorem ch_law {V : dp_V} {c p : Nat} {x s : Int} (hp : p < 3) (hs : s = (if p = 0 then mn (V c 4) x else V c 4)) : u2 (u2 V c p x) c 4 s = chV V c (p : Int) x := by
  unfold chV
  rcases (by omega : p = 0 ∨ p = 1 ∨ p = 2) with rfl | rfl | rfl
  · rw [if_pos rfl] at hs
    rw [if_pos (show ((0 : Nat) : Int) = 0 from rfl), hs]
  · rw [if_neg (by decide)] at hs
    rw [if_neg (by decide), if_pos (show ((1 : Nat) : Int) = 1 from rfl), hs, show V c 4 = u2 V c 1 x c 4 by rw [u2_same, u1_ne (by decide)], u2_id]
  · rw [if_neg (by decide)] at hs
    rw [if_neg (by decide), if_neg (by decide), if_pos (show ((2 : Nat) : Int) = 2 from rfl), hs, show V c 4 = u2 V c 2 x c 4 by rw [u2_same, u1_ne (by decide)], u2_id]
theorem TS.ex {f g g' : Nat → Int} (h : TS f g) (e : ∀ k, k < 14 → g' k = g k) : TS f g' := by
  obtain ⟨a, b, c, d, i⟩ := h
  refine ⟨fun k hk => by rw [e k (by omega)]; exact a k hk, by rw [e 11 (by decide)]; exact b, fun q => ?_, fun q => by rw [e 13 (by decide)]; exact d q, fun q => by rw [e 10 (by decide)]; exact i q⟩
  rw [e 7 (by decide), e 8 (by decide), e 9 (by decide), e 12 (by decide)]
  exact c q
/-- the law's numbers of targets that are no more do not matter -/
theorem iC.ex {M : dp_M} {W W' : dp_V} {N : Nat} (h : iC M W N) (h6 : ∀ c, c < 6 → W' c = W c) (ht : ∀ t k, t < N → k < 14 → W' (t + 6) k = W (t + 6) k) : iC M W' N := by
  obtain ⟨a, b, c, d, e, f, g⟩ := h
  refine ⟨a, b, ⟨?_, ?_, ?_, c.2.2.2.1, fun t q => (c.2.2.2.2 t q).ex (fun k hk => ht t k q hk)⟩, d, e, f, g.row (h6 3 (by decide)) (h6 4 (by decide))⟩
  · rw [h6 0 (by decide)]; exact c.1
  · rw [h6 1 (by decide), h6 2 (by decide), h6 3 (by decide), h6 4 (by decide)]; exact c.2.1
  · rw [h6 0 (by decide)]; exact c.2.2.1
/-- which numbers of a target are told -/
theorem tgT_told {f : Nat → Int} {i : Nat} (hi : i < 13) : ((i < 7 ∨ i = 11 ∨ f 6 = 2 ∨ (f 6 = 1 ∧ ¬ i = 10)) → tgT f (i : Int) = f i) ∧ (¬ (i < 7 ∨ i = 11 ∨ f 6 = 2 ∨ (f 6 = 1 ∧ ¬ i = 10)) → tgT f (i : Int) = -100004) := by
  have e7 : tgT f ((7 : Nat) : Int) = ibF (f 6) (f 7) := rfl
  have e8 : tgT f ((8 : Nat) : Int) = ibF (f 6) (f 8) := rfl
  have e9 : tgT f ((9 : Nat) : Int) = ibF (f 6) (f 9) := rfl
  have e10 : tgT f ((10 : Nat) : Int) = (if f 6 = 2 then f 10 else -100004) := rfl
  have e12 : tgT f ((12 : Nat) : Int) = ibF (f 6) (f 12) := rfl
  unfold ibF at e7 e8 e9 e12
  rcases (by omega : i = 0 ∨ i = 1 ∨ i = 2 ∨ i = 3 ∨ i = 4 ∨ i = 5 ∨ i = 6 ∨ i = 7 ∨ i = 8 ∨ i = 9 ∨ i = 10 ∨ i = 11 ∨ i = 12) with rfl | rfl | rfl | rfl | rfl | rfl | rfl | rfl | rfl | rfl | rfl | rfl | rfl
  · exact ⟨fun _ => rfl, fun q => by omega⟩
  · exact ⟨fun _ => rfl, fun q => by omega⟩
  · exact ⟨fun _ => rfl, fun q => by omega⟩
  · exact ⟨fun _ => rfl, fun q => by omega⟩
  · exact ⟨fun _ => rfl, fun q => by omega⟩
  · exact ⟨fun _ => rfl, fun q => by omega⟩
  · exact ⟨fun _ => rfl, fun q => by omega⟩
  · rw [e7]
    exact ⟨fun q => by (repeat' split) <;> first | rfl | omega, fun q => by (repeat' split) <;> first | rfl | omega⟩
  · rw [e8]
    exact ⟨fun q => by (repeat' split) <;> first | rfl | omega, fun q => by (repeat' split) <;> first | rfl | omega⟩
  · rw [e9]
    exact ⟨fun q => by (repeat' split) <;> first | rfl | omega, fun q => by (repeat' split) <;> first | rfl | omega⟩
  · rw [e10]
    exact ⟨fun q => by (repeat' split) <;> first | rfl | omega, fun q => by (repeat' split) <;> first | rfl | omega⟩
  · exact ⟨fun _ => rfl, fun q => by omega⟩
  · rw [e12]
    exact ⟨fun q => by (repeat' split) <;> first | rfl | omega, fun q => by (repeat' split) <;> first | rfl | omega⟩
