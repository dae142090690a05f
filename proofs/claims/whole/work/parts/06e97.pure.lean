def okR (k : Nat) : Nat → List (Option Nat) → Bool
  | _, [] => true
  | j, none :: l => okR k (j + 1) l
  | j, some q :: l => decide (lkP q132 k j = some q) && okR k (j + 1) l
def okL : Nat → List (List (Option Nat)) → Bool
  | _, [] => true
  | k, r :: l => okR k 0 r && okL (k + 1) l
set_option maxRecDepth 16384 in
theorem okR_s {k : Nat} : ∀ (l : List (Option Nat)) (j0 : Nat), okR k j0 l = true → ∀ (j q : Nat), l.getD j none = some q → lkP q132 k (j0 + j) = some q
  | [], _, _, j, q, e => by
    have e' : (none : Option Nat) = some q := by rw [← e, List.getD_eq_getElem?_getD, List.getElem?_nil]; rfl
    exact absurd e' (by simp)
  | none :: l, j0, h, 0, q, e => absurd (show (none : Option Nat) = some q from e) (by simp)
  | some a :: l, j0, h, 0, q, e => by
    have e' : some a = some q := e
    have h' : (decide (lkP q132 k j0 = some a) && okR k (j0 + 1) l) = true := h
    rw [Bool.and_eq_true] at h'
    rw [← e']
    exact of_decide_eq_true h'.1
  | none :: l, j0, h, j + 1, q, e => by
    have r := okR_s l (j0 + 1) h j q e
    rw [show j0 + (j + 1) = j0 + 1 + j by omega]; exact r
  | some a :: l, j0, h, j + 1, q, e => by
    have h' : (decide (lkP q132 k j0 = some a) && okR k (j0 + 1) l) = true := h
    rw [Bool.and_eq_true] at h'
    have r := okR_s l (j0 + 1) h'.2 j q e
    rw [show j0 + (j + 1) = j0 + 1 + j by omega]; exact r
set_option maxRecDepth 16384 in
theorem okL_s : ∀ (l : List (List (Option Nat))) (k0 : Nat), okL k0 l = true → ∀ (k j q : Nat), (l.getD k []).getD j none = some q → lkP q132 (k0 + k) j = some q
  | [], _, _, k, j, q, e => by
    have e' : (none : Option Nat) = some q := by rw [← e, List.getD_eq_getElem?_getD, List.getD_eq_getElem?_getD, List.getElem?_nil]; rfl
    exact absurd e' (by simp)
  | r :: l, k0, h, 0, j, q, e => by
    have h' : (okR k0 0 r && okL (k0 + 1) l) = true := h
    rw [Bool.and_eq_true] at h'
    have z := okR_s r 0 h'.1 j q e
    rw [Nat.zero_add] at z
    exact z
  | r :: l, k0, h, k + 1, j, q, e => by
    have h' : (okR k0 0 r && okL (k0 + 1) l) = true := h
    rw [Bool.and_eq_true] at h'
    have z := okL_s l (k0 + 1) h'.2 k j q e
    rw [show k0 + (k + 1) = k0 + 1 + k by omega]; exact z
set_option maxRecDepth 16384 in
theorem okL_all : okL 0 lyP = true := by decide +kernel
set_option maxRecDepth 16384 in
theorem q_03 : lkP q132 0 3 = some 42 := by decide +kernel
set_option maxRecDepth 16384 in
theorem q_22 : lkP q132 2 2 = some 3 := by decide +kernel
set_option maxRecDepth 16384 in
theorem q_124 : lkP q132 124 3 = none := by decide +kernel
set_option maxRecDepth 16384 in
theorem sl_134 : sl 134 ≤ 20000 := by decide +kernel
set_option maxRecDepth 16384 in
theorem w_41 {i : Nat} (hi : i < 11) : lkL w11 41 i = nL (Wn i) := by
  have c : i = 0 ∨ i = 1 ∨ i = 2 ∨ i = 3 ∨ i = 4 ∨ i = 5 ∨ i = 6 ∨ i = 7 ∨ i = 8 ∨ i = 9 ∨ i = 10 := by omega
  rcases c with rfl | rfl | rfl | rfl | rfl | rfl | rfl | rfl | rfl | rfl | rfl <;> rfl
set_option maxRecDepth 16384 in
theorem Ly_hS (L : Nat) (xs : Nat → Int32) : Ly (hS L xs) := by
  refine ⟨Nat.le_refl _, fun k hk => ?_, fun k j q e => ?_⟩
  · show (if k < 134 then lyS.getD k (0, 0) else (0, 0)) = _
    rw [if_pos hk]
  · have z := okL_s lyP 0 okL_all k j q e
    rw [Nat.zero_add] at z
    exact z
set_option maxRecDepth 16384 in
theorem zS (L : Nat) (xs : Nat → Int32) {a b : Nat} (n : ¬ (a = 124 ∧ b = 2)) : hI (hS L xs) a b = 0 := by
  unfold hS
  rw [hI_wI, if_neg n]
  rfl
set_option maxRecDepth 16384 in
theorem S_inv (L : Nat) (xs : Nat → Int32) : Inv (L, xs) 0 (hS L xs) := by
  have Z : ∀ a b, ¬ (a = 124 ∧ b = 2) → hI (hS L xs) a b = 0 := fun a b q => zS L xs q
  have z2 : hI (hS L xs) 124 2 = -1 := by unfold hS; rw [hI_wI, if_pos ⟨rfl, rfl⟩]
  refine ⟨42, P0, fun _ => 0, 0, 0, fun _ _ => 0, 0, fun _ _ => 0, 0, ⟨Ly_hS L xs, Nat.le_refl _, sl_134, rfl, fun i hi => w_41 hi⟩, ⟨Or.inr rfl, q_03, q_22, WF_0, CT_0 (Z _ _ (by omega)) (Z _ _ (by omega)) (Z _ _ (by omega)) (Z _ _ (by omega)) (Z _ _ (by omega)) (Z _ _ (by omega)) (Z _ _ (by omega)) (Z _ _ (by omega)) (Z _ _ (by omega)) (Z _ _ (by omega)) (fun i hi => Z _ _ (by omega)), ⟨Z _ _ (by omega), Z _ _ (by omega), Z _ _ (by omega), Z _ _ (by omega), Z _ _ (by omega), fun t ht => Z _ _ (by omega)⟩, ⟨Nat.zero_le _, fun _ _ => Nat.zero_le _, by decide, fun _ _ _ => rfl, fun t ht => absurd ht (Nat.not_lt_zero _)⟩, fun i hi => Z _ _ (by omega)⟩, ⟨⟨Z _ _ (by omega), by decide, Z _ _ (by omega), by decide, fun i hi => absurd hi (Nat.not_lt_zero _)⟩, ⟨Z _ _ (by omega), by decide, fun i hi => absurd hi (Nat.not_lt_zero _)⟩, ⟨Z _ _ (by omega), fun i hi => absurd hi (Nat.not_lt_zero _)⟩, ⟨Z _ _ (by omega), fun i hi => absurd hi (Nat.not_lt_zero _)⟩, fun i hi => absurd hi (Nat.not_lt_zero _), fun i hi => absurd hi (Nat.not_lt_zero _)⟩, Or.inl ⟨q_124, Z _ _ (by omega), rfl, rfl, rfl, rfl⟩, ⟨?_, ?_, ?_⟩, ⟨Z _ _ (by omega), Z _ _ (by omega), by decide, fun i hi => absurd hi (Nat.not_lt_zero _)⟩⟩
  · rw [Z 124 1 (by omega), Z 0 8 (by omega)]
  · rw [z2, Z 0 8 (by omega)]; rfl
  · rw [Z 2 4 (by omega), Z 124 12 (by omega)]
