/-! THE WORLD: all cells of the class and of the reference, by region and cell, over a memory of whole numbers -/
abbrev dp_V : Type := Nat → Nat → Int
abbrev dp_M : Type := Nat → Nat → Nat → Int
abbrev dp_E : Type := va_G × (Nat → Nat → Nat) × (ClassId × ClassId × ClassId × ClassId) × (Nat × Nat × Nat × Nat)
abbrev eAd (E : dp_E) : Nat → Nat → Nat := E.2.1
abbrev eI (E : dp_E) : ClassId := E.2.2.1.1
abbrev eC (E : dp_E) : ClassId := E.2.2.1.2.1
abbrev eT (E : dp_E) : ClassId := E.2.2.1.2.2.1
abbrev eS (E : dp_E) : ClassId := E.2.2.1.2.2.2
abbrev z0 (E : dp_E) : Nat := E.2.2.2.1
abbrev z1 (E : dp_E) : Nat := E.2.2.2.2.1
abbrev z2 (E : dp_E) : Nat := E.2.2.2.2.2.1
abbrev z3 (E : dp_E) : Nat := E.2.2.2.2.2.2
/-! numbers -/
def dp_I (x : Int) : Int32 := Int32.ofInt x
def dp_R (x : Int) : Prop := -2147483648 ≤ x ∧ x < 2147483648
def dp_b (P : Prop) [Decidable P] : Int := if P then 1 else 0
theorem dp_I_add (x y : Int) : dp_I x + dp_I y = dp_I (x + y) := (Int32.ofInt_add x y).symm
theorem dp_I_sub (x y : Int) : dp_I x - dp_I y = dp_I (x - y) := (Int32.ofInt_sub x y).symm
theorem dp_I_mul (x y : Int) : dp_I x * dp_I y = dp_I (x * y) := (Int32.ofInt_mul x y).symm
theorem dp_I_neg (x : Int) : - dp_I x = dp_I (-x) := (Int32.ofInt_neg x).symm
theorem dp_I_toInt {x : Int} (h : dp_R x) : (dp_I x).toInt = x := Int32.toInt_ofInt_of_le (by have := h.1; omega) (by have := h.2; omega)
theorem dp_R_to (x : Int32) : dp_R x.toInt := ⟨by have := x.le_toInt; omega, by have := x.toInt_lt; omega⟩
theorem dp_I_of (x : Int32) : x = dp_I x.toInt := (Int32.ofInt_toInt x).symm
theorem dp_I_lt {x y : Int} (hx : dp_R x) (hy : dp_R y) : dp_I x < dp_I y ↔ x < y := by rw [Int32.lt_iff_toInt_lt, dp_I_toInt hx, dp_I_toInt hy]
theorem dp_I_le {x y : Int} (hx : dp_R x) (hy : dp_R y) : dp_I x ≤ dp_I y ↔ x ≤ y := by rw [Int32.le_iff_toInt_le, dp_I_toInt hx, dp_I_toInt hy]
theorem dp_I_eq {x y : Int} (hx : dp_R x) (hy : dp_R y) : dp_I x = dp_I y ↔ x = y := by rw [← Int32.toInt_inj, dp_I_toInt hx, dp_I_toInt hy]
theorem dp_I_z : (0 : Int32) = dp_I 0 := rfl
theorem dp_R0 : dp_R 0 := ⟨by decide, by decide⟩
theorem dp_I_nat {x : Int} (h : 0 ≤ x) (h2 : x < 2147483648) : (dp_I x).toNatClampNeg = x.toNat := Int32.toNatClampNeg_ofInt_of_le (by omega) (by omega)
theorem dp_in {x : Int} {n : Nat} (h0 : 0 ≤ x) (h1 : x < n) (hn : n < 2147483648) : vp_in (dp_I x) n := by
  intro h
  rcases h with h | h
  · rw [dp_I_z, dp_I_lt ⟨by omega, by omega⟩ dp_R0] at h
    omega
  · rw [dp_I_nat h0 (by omega)] at h
    omega
theorem dp_I_div {x y : Int} (h0 : 0 ≤ x) (h1 : x < 2147483648) (h2 : 0 < y) (h3 : y < 2147483648) : dp_I x / dp_I y = dp_I (x / y) := by
  have e : dp_I (x.tdiv y) = dp_I x / dp_I y := Int32.ofInt_tdiv (by show (-2147483648 : Int) ≤ x; omega) (by show x ≤ (2147483647 : Int); omega) (by show (-2147483648 : Int) ≤ y; omega) (by show y ≤ (2147483647 : Int); omega)
  rw [← e, Int.tdiv_eq_ediv_of_nonneg h0]
theorem dp_I_mod {x y : Int} (h0 : 0 ≤ x) (h1 : x < 2147483648) (h2 : 0 < y) (h3 : y < 2147483648) : dp_I x % dp_I y = dp_I (x % y) := by
  have e : dp_I (x.tmod y) = dp_I x % dp_I y := Int32.ofInt_tmod (by show (-2147483648 : Int) ≤ x; omega) (by show x ≤ (2147483647 : Int); omega) (by show (-2147483648 : Int) ≤ y; omega) (by show y ≤ (2147483647 : Int); omega)
  rw [← e, Int.tmod_eq_emod_of_nonneg h0]
/-! memory: a region put in place of another, a slot put -/
def dR (M : dp_M) (r : Nat) (V : dp_V) : dp_M := fun r' => if r' = r then V else M r'
def u1 (f : Nat → Int) (k : Nat) (x : Int) : Nat → Int := fun k' => if k' = k then x else f k'
def u2 (V : dp_V) (c k : Nat) (x : Int) : dp_V := fun c' => if c' = c then u1 (V c) k x else V c'
theorem dR_same (M : dp_M) (r : Nat) (V : dp_V) : dR M r V r = V := by simp [dR]
theorem dR_ne {M : dp_M} {r r' : Nat} {V : dp_V} (h : r' ≠ r) : dR M r V r' = M r' := by simp [dR, h]
theorem dR_dR (M : dp_M) (r : Nat) (V V' : dp_V) : dR (dR M r V) r V' = dR M r V' := by
  funext r'
  by_cases h : r' = r <;> simp [dR, h]
theorem dR_self (M : dp_M) (r : Nat) : dR M r (M r) = M := by
  funext r'
  by_cases h : r' = r <;> simp [dR, h]
theorem u1_same (f : Nat → Int) (k : Nat) (x : Int) : u1 f k x k = x := by simp [u1]
theorem u1_ne {f : Nat → Int} {k k' : Nat} {x : Int} (h : k' ≠ k) : u1 f k x k' = f k' := by simp [u1, h]
theorem u2_same (V : dp_V) (c k : Nat) (x : Int) : u2 V c k x c = u1 (V c) k x := by simp [u2]
theorem u2_ne {V : dp_V} {c c' k : Nat} {x : Int} (h : c' ≠ c) : u2 V c k x c' = V c' := by simp [u2, h]
/-- a state of the class: its region, and that of its ways -/
def dS (M : dp_M) (r : Nat) (V Y : dp_V) : dp_M := dR (dR M r V) (r + 20) Y
/-- the reference: its numbers, and what else it holds -/
def dN (M : dp_M) (V X : dp_V) : dp_M := dR (dR M 9 V) 8 X
theorem dS_V (M : dp_M) (r : Nat) (V Y : dp_V) : dS M r V Y r = V := by simp [dS, dR]
theorem dS_Y (M : dp_M) (r : Nat) (V Y : dp_V) : dS M r V Y (r + 20) = Y := by simp [dS, dR]
theorem dS_ne {M : dp_M} {r r' : Nat} {V Y : dp_V} (h : r' ≠ r) (h2 : r' ≠ r + 20) : dS M r V Y r' = M r' := by simp [dS, dR, h, h2]
theorem dS_self (M : dp_M) (r : Nat) : dS M r (M r) (M (r + 20)) = M := by
  funext r'
  unfold dS dR
  split
  · next h => rw [h]
  · split
    · next h => rw [h]
    · rfl
theorem dS_dS (M : dp_M) (r : Nat) (V Y V' Y' : dp_V) : dS (dS M r V Y) r V' Y' = dS M r V' Y' := by
  funext r'
  unfold dS dR
  repeat' split
  all_goals rfl
theorem dN_V (M : dp_M) (V X : dp_V) : dN M V X 9 = V := by simp [dN, dR]
theorem dN_X (M : dp_M) (V X : dp_V) : dN M V X 8 = X := by simp [dN, dR]
theorem dN_ne {M : dp_M} {r' : Nat} {V X : dp_V} (h : r' ≠ 9) (h2 : r' ≠ 8) : dN M V X r' = M r' := by simp [dN, dR, h, h2]
theorem dN_self (M : dp_M) : dN M (M 9) (M 8) = M := by
  funext r'
  unfold dN dR
  split
  · next h => rw [h]
  · split
    · next h => rw [h]
    · rfl
theorem dN_dN (M : dp_M) (V X V' X' : dp_V) : dN (dN M V X) V' X' = dN M V' X' := by
  funext r'
  unfold dN dR
  repeat' split
  all_goals rfl
/-! contents -/
def dp_f7 (f : Nat → Int) : List Value := [.int (dp_I (f 0)), .int (dp_I (f 1)), .int (dp_I (f 2)), .int (dp_I (f 3)), .int (dp_I (f 4)), .int (dp_I (f 5)), .int (dp_I (f 6))]
def dp_f14 (f : Nat → Int) : List Value := [.int (dp_I (f 0)), .int (dp_I (f 1)), .int (dp_I (f 2)), .int (dp_I (f 3)), .int (dp_I (f 4)), .int (dp_I (f 5)), .int (dp_I (f 6)), .int (dp_I (f 7)), .int (dp_I (f 8)), .int (dp_I (f 9)), .int (dp_I (f 10)), .int (dp_I (f 11)), .int (dp_I (f 12)), .int (dp_I (f 13))]
def axL (c : Nat) : Int := if c = 3 then -27000 else 500
def axH (c : Nat) : Int := if c = 3 then 27000 else 9000
def axS (c : Nat) : Int := if c = 3 then 0 else 9000
def dp_fA (c : Nat) (f : Nat → Int) : List Value := .int (dp_I (axL c)) :: .int (dp_I (axH c)) :: .int (dp_I (axS c)) :: dp_f7 f
def dp_fS (E : dp_E) (r : Nat) (f : Nat → Int) : List Value := [.int (dp_I (f 0)), .int (dp_I (f 1)), .int (dp_I (f 2)), .ref (eAd E r 1), .ref (eAd E r 2), .ref (eAd E r 3), .ref (eAd E r 4), .ref (eAd E r 5), .ref (eAd E r 16), .ref (eAd E r 17), .ref (eAd E r 18)]
def dp_fH (E : dp_E) (f : Nat → Int) : List Value := [.ref (eAd E 7 2), .int (dp_I (f 0))]
def dp_fX (E : dp_E) (f : Nat → Int) : List Value := [.ref (eAd E 7 4), .int (dp_I (f 0)), .ref (eAd E 7 5), .int (dp_I (f 1)), .int (dp_I (f 2)), .int (dp_I (f 3))]
def dp_fD (E : dp_E) : List Value := [.ref (eAd E 0 0), .ref (eAd E 1 0), .ref (eAd E 7 1), .ref (eAd E 7 3)]
/-- the law's row g of 55 numbers, the legs f last, and its row q of 56, out of a region -/
def dp_ce (i : Nat) : Nat := if i < 4 then 1 else if i < 8 then 0 else if i < 15 then 3 else if i < 22 then 4 else 2
def dp_sl (i : Nat) : Nat := if i < 4 then i else if i < 8 then i - 4 else if i < 15 then i - 8 else if i < 22 then i - 15 else i - 22
def gF (V : dp_V) (f : Nat → Int) (i : Nat) : Int := if i < 53 then V (dp_ce i) (dp_sl i) else f (i - 53)
def qF (V : dp_V) (i : Nat) : Int := V (i / 14 + 6) (i % 14)
theorem dp_ce5 (i : Nat) : dp_ce i < 5 := by
  unfold dp_ce
  repeat' split
  all_goals omega
theorem dp_cs_inj {i j : Nat} (hi : i < 53) (hj : j < 53) (h : dp_ce i = dp_ce j) (h2 : dp_sl i = dp_sl j) : i = j := by
  unfold dp_ce at h
  unfold dp_sl at h2
  repeat' split at h
  all_goals (simp only [*, if_true, if_false, ↓reduceIte] at h2; omega)
def dp_ints (k : ClassId) (n : Nat) (f : Nat → Int) : va_E := .inl (k, n, .inl (fun i => dp_I (f i)))
def dp_refs (k : ClassId) (n : Nat) (f : Nat → Nat) : va_E := .inl (k, n, .inr (.inr (.inr (.inr (fun i => some (f i))))))
def dp_xS (E : dp_E) (V Y : dp_V) (r : Nat) (c : Nat) : va_E := match c with
  | 0 => .inr (2, dp_fS E r (V 0))
  | 1 => dp_ints (eI E) 4 (V 1)
  | 2 => dp_ints (eI E) 31 (V 2)
  | 3 => .inr (0, dp_fA 3 (V 3))
  | 4 => .inr (0, dp_fA 4 (V 4))
  | 5 => dp_refs (eT E) 10 (fun t => eAd E r (t + 6))
  | t + 6 => if t < 10 then .inr (3, dp_f14 (V (t + 6))) else .inr (5, dp_f7 (Y (t + 6)))
def dp_xC (E : dp_E) (M : dp_M) (c : Nat) : va_E := match c with
  | 0 => .inr (6, dp_fD E)
  | 1 => .inr (1, dp_fH E (M 7 1))
  | 2 => dp_refs (eS E) 5 (fun i => eAd E (M 7 2 i).toNat 0)
  | 3 => .inr (4, dp_fX E (M 7 3))
  | 4 => dp_ints (eC E) 100 (M 7 4)
  | _ => dp_ints (eI E) 6 (M 7 5)
def dp_xM (E : dp_E) (M : dp_M) (c : Nat) : va_E := match c with
  | 0 => dp_ints (eI E) 55 (gF (M 9) (M 8 0))
  | 1 => dp_ints (eI E) 56 (qF (M 9))
  | _ => dp_ints (eI E) 4 (M 8 2)
def dp_x (E : dp_E) (M : dp_M) (r c : Nat) : va_E := if r < 7 then dp_xS E (M r) (M (r + 20)) r c else if r = 7 then dp_xC E M c else dp_xM E M c
def dp_pb : List (Nat × Nat) := (List.range 7).flatMap (fun r => (List.range 19).map (fun c => (r, c))) ++ ((List.range 6).map (fun c => (7, c)) ++ (List.range 2).map (fun c => (8, c)))
def dp_pn : List (Nat × Nat) := (List.range 7).flatMap (fun r => (List.range 19).map (fun c => (r, c))) ++ ((List.range 6).map (fun c => (7, c)) ++ (List.range 3).map (fun c => (8, c)))
def dp_ps (E : dp_E) : List (Nat × Nat) := if eAd E 9 0 = 0 then dp_pb else dp_pn
theorem dp_memk {r c k : Nat} : (r, c) ∈ (List.range 7).flatMap (fun r => (List.range 19).map (fun c => (r, c))) ++ ((List.range 6).map (fun c => (7, c)) ++ (List.range k).map (fun c => (8, c))) ↔ (r < 7 ∧ c < 19) ∨ (r = 7 ∧ c < 6) ∨ (r = 8 ∧ c < k) := by
  simp only [List.mem_append, List.mem_flatMap, List.mem_map, List.mem_range, Prod.mk.injEq]
  constructor
  · rintro (⟨a, ha, b, hb, rfl, rfl⟩ | ⟨b, hb, rfl, rfl⟩ | ⟨b, hb, rfl, rfl⟩)
    · exact Or.inl ⟨ha, hb⟩
    · exact Or.inr (Or.inl ⟨rfl, hb⟩)
    · exact Or.inr (Or.inr ⟨rfl, hb⟩)
  · rintro (⟨h1, h2⟩ | ⟨rfl, h2⟩ | ⟨rfl, h2⟩)
    · exact Or.inl ⟨r, h1, c, h2, rfl, rfl⟩
    · exact Or.inr (Or.inl ⟨c, h2, rfl, rfl⟩)
    · exact Or.inr (Or.inr ⟨c, h2, rfl, rfl⟩)
theorem dp_mem {E : dp_E} {r c : Nat} : (r, c) ∈ dp_ps E ↔ (r < 7 ∧ c < 19) ∨ (r = 7 ∧ c < 6) ∨ (r = 8 ∧ c < 3 ∧ (c = 2 → ¬ eAd E 9 0 = 0)) := by
  unfold dp_ps
  split
  · next h =>
    refine dp_memk.trans ⟨fun q => ?_, fun q => ?_⟩
    · rcases q with q | q | q
      · exact Or.inl q
      · exact Or.inr (Or.inl q)
      · exact Or.inr (Or.inr ⟨q.1, by omega, fun z => by omega⟩)
    · rcases q with q | q | q
      · exact Or.inl q
      · exact Or.inr (Or.inl q)
      · refine Or.inr (Or.inr ⟨q.1, ?_⟩)
        rcases (by omega : c < 2 ∨ c = 2) with z | z
        · exact z
        · exact absurd h (q.2.2 z)
  · next h =>
    refine dp_memk.trans ⟨fun q => ?_, fun q => ?_⟩
    · rcases q with q | q | q
      · exact Or.inl q
      · exact Or.inr (Or.inl q)
      · exact Or.inr (Or.inr ⟨q.1, q.2, fun _ => h⟩)
    · rcases q with q | q | q
      · exact Or.inl q
      · exact Or.inr (Or.inl q)
      · exact Or.inr (Or.inr ⟨q.1, q.2.1⟩)
theorem dp_nodup {E : dp_E} : (dp_ps E).Nodup := by
  unfold dp_ps
  split
  · decide +kernel
  · decide +kernel
theorem dp_mS {E : dp_E} {r c : Nat} (h : r < 7) (hc : c < 19) : (r, c) ∈ dp_ps E := dp_mem.mpr (Or.inl ⟨h, hc⟩)
theorem dp_mC {E : dp_E} {c : Nat} (hc : c < 6) : (7, c) ∈ dp_ps E := dp_mem.mpr (Or.inr (Or.inl ⟨rfl, hc⟩))
theorem dp_mM {E : dp_E} {c : Nat} (hc : c < 2) : (8, c) ∈ dp_ps E := dp_mem.mpr (Or.inr (Or.inr ⟨rfl, by omega, fun z => by omega⟩))
theorem dp_m2 {E : dp_E} (h : ¬ eAd E 9 0 = 0) : (8, 2) ∈ dp_ps E := dp_mem.mpr (Or.inr (Or.inr ⟨rfl, by omega, fun _ => h⟩))
def dp_W (E : dp_E) (M : dp_M) (H : Heap) : Prop := ∀ r c, (r, c) ∈ dp_ps E → va_at E.1 vwCl (eAd E r c, dp_x E M r c) H
def dp_ws (E : dp_E) (M : dp_M) : va_W := (dp_ps E).map (fun q => (eAd E q.1 q.2, dp_x E M q.1 q.2))
def dp_A (E : dp_E) : Nat → Prop := fun q => ∃ r c, (r, c) ∈ dp_ps E ∧ q = eAd E r c
def dp_OK (E : dp_E) : Prop := ∀ r c r' c', (r, c) ∈ dp_ps E → (r', c') ∈ dp_ps E → eAd E r c = eAd E r' c' → r = r' ∧ c = c'
theorem dp_ws_at {E : dp_E} {M : dp_M} {k r c : Nat} (h : (dp_ps E)[k]? = some (r, c)) : (dp_ws E M)[k]? = some (eAd E r c, dp_x E M r c) := by
  rw [dp_ws, List.getElem?_map, h]
  rfl
theorem dp_ws_of {E : dp_E} {M : dp_M} {k : Nat} {q : Nat × va_E} (h : (dp_ws E M)[k]? = some q) : ∃ r c, (dp_ps E)[k]? = some (r, c) ∧ q = (eAd E r c, dp_x E M r c) := by
  rw [dp_ws, List.getElem?_map] at h
  cases hk : (dp_ps E)[k]? with
  | none => rw [hk] at h; cases h
  | some rc =>
    rw [hk] at h
    cases h
    exact ⟨rc.1, rc.2, rfl, rfl⟩
theorem dp_W.P {E : dp_E} {M : dp_M} {H : Heap} (h : dp_W E M H) : va_P E.1 vwCl (dp_ws E M) H := by
  intro k q hq
  obtain ⟨r, c, h1, rfl⟩ := dp_ws_of hq
  exact h r c (List.mem_of_getElem? h1)
theorem dp_D {E : dp_E} {M : dp_M} {A : Nat → Prop} (hok : dp_OK E) (hA : ∀ q, dp_A E q → A q) : va_D A (dp_ws E M) := by
  refine ⟨fun i j p q hi hj he => ?_, fun k q hk => ?_⟩
  · obtain ⟨r, c, h1, rfl⟩ := dp_ws_of hi
    obtain ⟨r', c', h2, rfl⟩ := dp_ws_of hj
    obtain ⟨rfl, rfl⟩ := hok r c r' c' (List.mem_of_getElem? h1) (List.mem_of_getElem? h2) he
    exact (List.getElem?_inj (List.getElem?_eq_some_iff.mp h1).1 dp_nodup).mp (h1.trans h2.symm)
  · obtain ⟨r, c, h1, rfl⟩ := dp_ws_of hk
    exact hA _ ⟨r, c, List.mem_of_getElem? h1, rfl⟩
theorem dp_W.of_set {E : dp_E} {M M' : dp_M} {H : Heap} {r c q0 : Nat} {x : va_E} (hq : (dp_ps E)[q0]? = some (r, c)) (hP : va_P E.1 vwCl ((dp_ws E M).set q0 (eAd E r c, x)) H) (hx : dp_x E M' r c = x) (hf : ∀ r' c', (r', c') ∈ dp_ps E → (r', c') ≠ (r, c) → dp_x E M' r' c' = dp_x E M r' c') : dp_W E M' H := by
  intro r' c' hm
  have hl : q0 < (dp_ws E M).length := (List.getElem?_eq_some_iff.mp (dp_ws_at (E := E) (M := M) hq)).1
  by_cases he : (r', c') = (r, c)
  · cases he
    rw [hx]
    exact hP q0 _ (List.getElem?_set_self hl)
  · obtain ⟨q1, h1⟩ := List.getElem?_of_mem hm
    rw [hf r' c' hm he]
    refine hP q1 _ ?_
    rw [List.getElem?_set_ne (fun e => he (by rw [e, h1] at hq; exact Option.some.inj hq))]
    exact dp_ws_at h1
/-- the same cells: another memory of which the cells hold the same -/
theorem dp_W.eqv {E : dp_E} {M M' : dp_M} {H : Heap} (h : dp_W E M H) (he : ∀ r c, (r, c) ∈ dp_ps E → dp_x E M r c = dp_x E M' r c ∨ ∀ H : Heap, va_at E.1 vwCl (eAd E r c, dp_x E M r c) H → va_at E.1 vwCl (eAd E r c, dp_x E M' r c) H) : dp_W E M' H := by
  intro r c hm
  rcases he r c hm with q | q
  · rw [← q]; exact h r c hm
  · exact q H (h r c hm)
theorem dp_arr {k : ClassId} {n : Nat} {f g : Nat → Value} (h : ∀ i, i < n → f i = g i) : arrV k n f = arrV k n g := by
  unfold arrV
  have e : (fun j : Fin n => f j.val) = fun j : Fin n => g j.val := funext fun j => h j.1 j.2
  rw [e]
theorem dp_at_ints {D : va_G} {cl : List vw_C} {a : Nat} {k : ClassId} {n : Nat} {f g : Nat → Int} {H : Heap} (hfg : ∀ i, i < n → f i = g i) (h : va_at D cl (a, dp_ints k n f) H) : va_at D cl (a, dp_ints k n g) H := by
  have e : vp_cell k (n, .inl (fun i => dp_I (f i))) = vp_cell k (n, .inl (fun i => dp_I (g i))) := by
    rw [vp_cell_i, vp_cell_i]
    exact dp_arr (fun i hi => by rw [hfg i hi])
  exact h.trans (congrArg some e)
theorem dp_x_S {E : dp_E} {M : dp_M} {r c : Nat} (h : r < 7) : dp_x E M r c = dp_xS E (M r) (M (r + 20)) r c := if_pos h
theorem dp_x_C {E : dp_E} {M : dp_M} {c : Nat} : dp_x E M 7 c = dp_xC E M c := rfl
theorem dp_x_M {E : dp_E} {M : dp_M} {c : Nat} : dp_x E M 8 c = dp_xM E M c := rfl
