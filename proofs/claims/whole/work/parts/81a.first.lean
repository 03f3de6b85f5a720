/-! THE FIRST MEMORY: where the cells lie, what they hold -/
def bsR (r : Nat) : Nat := if r = 0 then 1 else if r = 1 then 20 else 41 + 19 * (r - 2)
def ofC (c : Nat) : Nat := if c < 6 then c else if c < 16 then c + 3 else c - 10
def adr (Z : Nat) : Nat → Nat → Nat := fun r c => if r = 7 then (if c = 0 then Z else if c = 1 then Z + 39 else if c = 2 then Z + 40 else if c = 3 then Z + 136 else if c = 4 then Z + 137 else Z + 138) else if r = 8 then Z + 139 + c else Z + (bsR r + ofC c)
theorem ofC_lt {c : Nat} (h : c < 19) : ofC c < 19 := by
  unfold ofC
  repeat' split
  all_goals omega
theorem ofC_inj {c c' : Nat} (h : c < 19) (h' : c' < 19) (e : ofC c = ofC c') : c = c' := by
  unfold ofC at e
  repeat' split at e
  all_goals omega
theorem adr_S {Z r c : Nat} (h : r < 7) : adr Z r c = Z + (bsR r + ofC c) := by
  unfold adr
  rw [if_neg (by omega), if_neg (by omega)]
theorem bsR_e {r : Nat} (h : r < 7) : (r = 0 ∧ bsR r = 1) ∨ (r = 1 ∧ bsR r = 20) ∨ (2 ≤ r ∧ bsR r = 41 + 19 * (r - 2)) := by
  unfold bsR
  repeat' split
  all_goals omega
theorem adr_7 {Z c : Nat} (h : c < 6) : (c = 0 ∧ adr Z 7 c = Z) ∨ (c = 1 ∧ adr Z 7 c = Z + 39) ∨ (c = 2 ∧ adr Z 7 c = Z + 40) ∨ (c = 3 ∧ adr Z 7 c = Z + 136) ∨ (c = 4 ∧ adr Z 7 c = Z + 137) ∨ (c = 5 ∧ adr Z 7 c = Z + 138) := by
  rcases (by omega : c = 0 ∨ c = 1 ∨ c = 2 ∨ c = 3 ∨ c = 4 ∨ c = 5) with rfl | rfl | rfl | rfl | rfl | rfl
  · exact Or.inl ⟨rfl, rfl⟩
  · exact Or.inr (Or.inl ⟨rfl, rfl⟩)
  · exact Or.inr (Or.inr (Or.inl ⟨rfl, rfl⟩))
  · exact Or.inr (Or.inr (Or.inr (Or.inl ⟨rfl, rfl⟩)))
  · exact Or.inr (Or.inr (Or.inr (Or.inr (Or.inl ⟨rfl, rfl⟩))))
  · exact Or.inr (Or.inr (Or.inr (Or.inr (Or.inr ⟨rfl, rfl⟩))))
theorem adr_8 {Z c : Nat} : adr Z 8 c = Z + 139 + c := rfl
theorem adr_inj {Z r c r' c' : Nat} (h : (r, c) ∈ dp_ps) (h' : (r', c') ∈ dp_ps) (e : adr Z r c = adr Z r' c') : r = r' ∧ c = c' := by
  rcases dp_mem.mp h with ⟨a, b⟩ | ⟨rfl, b⟩ | ⟨rfl, b⟩
  · have o := ofC_lt b
    have q := bsR_e a
    rw [adr_S a] at e
    rcases dp_mem.mp h' with ⟨a', b'⟩ | ⟨rfl, b'⟩ | ⟨rfl, b'⟩
    · have o' := ofC_lt b'
      have q' := bsR_e a'
      rw [adr_S a'] at e
      have er : r = r' := by omega
      subst er
      exact ⟨rfl, ofC_inj b b' (by omega)⟩
    · have q' := adr_7 (Z := Z) b'
      omega
    · rw [adr_8] at e
      omega
  · have q := adr_7 (Z := Z) b
    rcases dp_mem.mp h' with ⟨a', b'⟩ | ⟨rfl, b'⟩ | ⟨rfl, b'⟩
    · have o' := ofC_lt b'
      have q' := bsR_e a'
      rw [adr_S a'] at e
      omega
    · have q' := adr_7 (Z := Z) b'
      exact ⟨rfl, by omega⟩
    · rw [adr_8] at e
      omega
  · rw [adr_8] at e
    rcases dp_mem.mp h' with ⟨a', b'⟩ | ⟨rfl, b'⟩ | ⟨rfl, b'⟩
    · have o' := ofC_lt b'
      have q' := bsR_e a'
      rw [adr_S a'] at e
      omega
    · have q' := adr_7 (Z := Z) b'
      omega
    · rw [adr_8] at e
      exact ⟨rfl, by omega⟩
theorem adr_ge {Z r c : Nat} : Z ≤ adr Z r c := by
  unfold adr
  repeat' split
  all_goals omega
def V0 : dp_V := fun c k => if c = 1 then (if k = 0 then 100 else if k = 1 then 18000 else if k = 2 then 30 else if k = 3 then 60 else 0) else if c = 3 then (if k = 0 then 40 else if k = 2 then 600 else 0) else if c = 4 then (if k = 0 then 20 else if k = 2 then 300 else if k = 3 then 9000 else 0) else if 6 ≤ c then (if k = 6 then 4 else 0) else 0
def W0 : dp_V := fun c k => if 6 ≤ c then 0 else V0 c k
def X0 : dp_V := fun c i => if c = 2 then (i : Int) + 2 else 0
def Y0 : dp_V := fun _ _ => 0
def M0 : dp_M := fun r => if r < 7 then V0 else if r = 7 then X0 else if r = 9 then W0 else Y0
theorem V0_T {t k : Nat} : V0 (t + 6) k = if k = 6 then 4 else 0 := by
  unfold V0
  rw [if_neg (by omega), if_neg (by omega), if_neg (by omega), if_pos (by omega)]
theorem V0_iv : ivC V0 := by
  refine ivC_mk ?_ (fun t _ => ⟨Or.inl V0_T, Or.inl V0_T⟩)
  refine ⟨by decide, by decide, fun d _ => ?_, ?_, ?_⟩
  · have e : V0 2 d = 0 := rfl
    omega
  · unfold ivA; decide
  · unfold ivA; decide
theorem M0_iM : iM M0 := by
  have e0 : ∀ r, r < 7 → M0 r = V0 := fun r h => if_pos h
  refine ⟨fun r hr => by rw [e0 r hr]; exact V0_iv, ⟨by decide, by decide, fun i hi => ?_⟩, fun i j _ _ h => ?_, ⟨⟨by decide, by decide, fun i _ => ?_⟩, fun i _ => ?_, ⟨by decide, by decide, fun i _ => ?_⟩, rfl, fun i hi => ?_⟩, rfl, ⟨0, ⟨⟨rfl, rfl, rfl⟩, ⟨rfl, rfl, rfl, rfl⟩, rfl, ⟨by omega, fun t q => by omega, fun t _ _ => (by show V0 (t + 6) 6 = 4; rw [V0_T]; rfl)⟩, fun t q => by omega⟩, fun t u _ _ q => ?_, fun t _ q => ?_⟩, fun i hi => ?_⟩
  · have e : M0 7 2 i = (i : Int) + 2 := rfl
    omega
  · have e : ∀ i, M0 7 2 i = (i : Int) + 2 := fun _ => rfl
    rw [e, e] at h
    omega
  · have e : M0 7 4 i = 0 := rfl
    omega
  · have e : M0 7 5 i = 0 := rfl
    omega
  · have e : mT (M0 8) 4 i = 0 := rfl
    omega
  · have e : M0 7 3 0 = 0 := rfl
    omega
  · have e : V0 (t + 6) 6 = 4 := V0_T
    have q2 : V0 (t + 6) 6 = 1 := q
    omega
  · have e : V0 (t + 6) 6 = 4 := V0_T
    have q2 : V0 (t + 6) 6 = 1 := q
    omega
  · have e : M0 7 1 0 = 0 := rfl
    omega
theorem dp_at_refs {D : va_G} {cl : List vw_C} {a : Nat} {k : ClassId} {n : Nat} {f : Nat → Option Nat} {g : Nat → Nat} {H : Heap} (hfg : ∀ i, i < n → f i = some (g i)) (h : va_at D cl (a, .inl (k, n, .inr (.inr (.inr (.inr f))))) H) : va_at D cl (a, dp_refs k n g) H := by
  have e : vp_cell k (n, .inr (.inr (.inr (.inr f)))) = vp_cell k (n, .inr (.inr (.inr (.inr (fun i => some (g i)))))) := by
    rw [vp_cell_q, vp_cell_q]
    exact dp_arr (fun i hi => by rw [hfg i hi])
  exact h.trans (congrArg some e)
theorem stX_cell {E : dp_E} {H : Heap} {r b c : Nat} (hc : c < 19) (hb : ∀ c, c < 19 → eAd E r c = b + ofC c) (h : va_at E.1 vwCl (b + ofC c, stX E 10 b (ofC c)) H) : va_at E.1 vwCl (eAd E r c, dp_xS E V0 Y0 r c) H := by
  rw [hb c hc]
  rcases (by omega : c = 0 ∨ c = 1 ∨ c = 2 ∨ c = 5 ∨ c = 3 ∨ c = 4 ∨ c = 6 ∨ c = 7 ∨ c = 8 ∨ c = 9 ∨ c = 10 ∨ c = 11 ∨ c = 12 ∨ c = 13 ∨ c = 14 ∨ c = 15 ∨ c = 16 ∨ c = 17 ∨ c = 18) with rfl | rfl | rfl | rfl | rfl | rfl | rfl | rfl | rfl | rfl | rfl | rfl | rfl | rfl | rfl | rfl | rfl | rfl | rfl
  · have e : dp_xS E V0 Y0 r 0 = stX E 10 b (ofC 0) := by
      show (.inr (2, dp_fS E r (V0 0)) : va_E) = _
      unfold dp_fS
      rw [hb 1 (by decide), hb 2 (by decide), hb 3 (by decide), hb 4 (by decide), hb 5 (by decide), hb 16 (by decide), hb 17 (by decide), hb 18 (by decide)]
      rfl
    rw [e]
    exact h
  · refine dp_at_ints (f := u1 (u1 (u1 (u1 (fun _ => 0) 0 100) 1 18000) 2 30) 3 60) (fun i hi => ?_) h
    rcases (by omega : i = 0 ∨ i = 1 ∨ i = 2 ∨ i = 3) with rfl | rfl | rfl | rfl <;> rfl
  · exact dp_at_ints (f := fun _ => 0) (fun i hi => rfl) h
  · refine dp_at_refs (f := fun j => if j < 10 then some (b + 9 + j) else none) (fun i hi => ?_) h
    rw [if_pos hi, hb _ (by omega)]
    unfold ofC
    rw [if_neg (by omega), if_pos (by omega)]
    congr 1
    omega
  all_goals exact h
theorem dpC_S {E : dp_E} {Z r c : Nat} (hr : r < 7) (hc : c < 19) : dpC E Z (bsR r + ofC c) = stX E 10 (Z + bsR r) (ofC c) := by
  have o := ofC_lt hc
  unfold dpC
  rcases bsR_e hr with ⟨rfl, q⟩ | ⟨rfl, q⟩ | ⟨h2, q⟩
  · rw [q, if_neg (by omega), if_pos (by omega), show 1 + ofC c - 1 = ofC c by omega]
  · rw [q, if_neg (by omega), if_neg (by omega), if_pos (by omega), show 20 + ofC c - 20 = ofC c by omega]
  · rw [q, if_neg (by omega), if_neg (by omega), if_neg (by omega), if_pos (by omega)]
    unfold hiX
    rw [if_neg (by omega), if_neg (by omega), show 41 + 19 * (r - 2) + ofC c - 39 - 2 = 19 * (r - 2) + ofC c by omega, show (19 * (r - 2) + ofC c) / 19 = r - 2 by omega, show (19 * (r - 2) + ofC c) % 19 = ofC c by omega, show Z + 39 + 2 + 19 * (r - 2) = Z + (41 + 19 * (r - 2)) by omega]
/-- the cells as they are made hold the first memory -/
theorem first_W {D : va_G} {I C T S : ClassId} {z : Nat × Nat × Nat × Nat} {Z : Nat} {w : nw_V} {H : Heap} (hd : ∀ j, j < 139 → w (Z + j) = some (dpC (D, adr Z, (I, C, T, S), z) Z j)) (hm : ∀ j, j < 6 → w (Z + 139 + j) = some (moC (D, adr Z, (I, C, T, S), z) (Z + 139) j)) (hW : nw_W (D, adr Z, (I, C, T, S), z) w H) : dp_W (D, adr Z, (I, C, T, S), z) M0 H := by
  intro r c hp
  rcases dp_mem.mp hp with ⟨a, b⟩ | ⟨rfl, b⟩ | ⟨rfl, b⟩
  · rw [dp_x_S a, show M0 r = V0 from if_pos a, show M0 (r + 20) = Y0 by unfold M0; rw [if_neg (by omega), if_neg (by omega), if_neg (by omega)]]
    refine stX_cell (b := Z + bsR r) b (fun c hc => ?_) ?_
    · show adr Z r c = _
      rw [adr_S a]
      omega
    · have o := ofC_lt b
      have q := bsR_e a
      have h := hW _ _ (hd (bsR r + ofC c) (by omega))
      rw [dpC_S a b, show Z + (bsR r + ofC c) = Z + bsR r + ofC c by omega] at h
      exact h
  · rw [dp_x_C]
    rcases (by omega : c = 0 ∨ c = 1 ∨ c = 2 ∨ c = 3 ∨ c = 4 ∨ c = 5) with rfl | rfl | rfl | rfl | rfl | rfl
    · exact hW _ _ (hd 0 (by decide))
    · exact hW _ _ (hd 39 (by decide))
    · refine dp_at_refs (f := fun j => if j < 5 then some (Z + 39 + 2 + 19 * j) else none) (fun i hi => ?_) (hW _ _ (hd 40 (by decide)))
      rw [if_pos hi]
      congr 1
      have e : (M0 7 2 i).toNat = i + 2 := by
        have e2 : M0 7 2 i = (i : Int) + 2 := rfl
        omega
      rw [e]
      show _ = adr Z (i + 2) 0
      rw [adr_S (by omega)]
      unfold bsR ofC
      rw [if_neg (by omega), if_neg (by omega), if_pos (by omega)]
      omega
    · exact hW _ _ (hd 136 (by decide))
    · exact dp_at_ints (f := fun _ => 0) (fun i hi => rfl) (hW _ _ (hd 137 (by decide)))
    · exact dp_at_ints (f := fun _ => 0) (fun i hi => rfl) (hW _ _ (hd 138 (by decide)))
  · rw [dp_x_M]
    rcases (by omega : c = 0 ∨ c = 1 ∨ c = 2 ∨ c = 3 ∨ c = 4 ∨ c = 5) with rfl | rfl | rfl | rfl | rfl | rfl
    · exact hW _ _ (hm 0 (by decide))
    · refine dp_at_ints (f := u1 (u1 (u1 (u1 (u1 (u1 (u1 (u1 (u1 (fun _ => 0) 0 100) 1 18000) 2 30) 3 60) 39 40) 41 600) 46 20) 48 300) 49 9000) (fun i hi => ?_) (hW _ _ (hm 1 (by decide)))
      have e : ∀ i, i < 193 → u1 (u1 (u1 (u1 (u1 (u1 (u1 (u1 (u1 (fun _ => 0) 0 100) 1 18000) 2 30) 3 60) 39 40) 41 600) 46 20) 48 300) 49 9000 i = dp_fl W0 i := by decide +kernel
      exact e i hi
    · refine dp_at_ints (f := fun _ => 0) (fun i hi => ?_) (hW _ _ (hm 2 (by decide)))
      have e : M0 (40 + i / 193) = Y0 := by unfold M0; rw [if_neg (by omega), if_neg (by omega), if_neg (by omega)]
      rw [e]
      rfl
    · exact dp_at_ints (f := fun _ => 0) (fun i hi => rfl) (hW _ _ (hm 3 (by decide)))
    · exact dp_at_ints (f := fun _ => 0) (fun i hi => rfl) (hW _ _ (hm 4 (by decide)))
    · exact dp_at_ints (f := fun _ => 0) (fun i hi => rfl) (hW _ _ (hm 5 (by decide)))
