theorem w_int {n : Nat} (h : n < 2147483648) : (nI n).toInt = n := by
  unfold nI; exact Int32.toInt_ofNat_of_lt h
theorem w_cl {n : Nat} (h : n < 2147483648) : (nI n).toNatClampNeg = n := by
  unfold Int32.toNatClampNeg; rw [w_int h]; rfl
theorem w_s (a : Nat) : nI a + 1 = nI (a + 1) := (Int32.ofNat_add a 1).symm
theorem w_le {a b : Nat} (ha : a < 2147483648) (hb : b < 2147483648) : nI a ≤ nI b ↔ a ≤ b := by
  rw [Int32.le_iff_toInt_le, w_int ha, w_int hb]; omega
theorem w_lt {a b : Nat} (ha : a < 2147483648) (hb : b < 2147483648) : nI a < nI b ↔ a < b := by
  rw [Int32.lt_iff_toInt_lt, w_int ha, w_int hb]; omega
theorem w_eq {a b : Nat} (ha : a < 2147483648) (hb : b < 2147483648) : nI a = nI b ↔ a = b := by
  constructor
  · intro e
    have := congrArg Int32.toInt e
    rw [w_int ha, w_int hb] at this; omega
  · intro e; rw [e]
theorem w_neg {a : Nat} (ha : a < 2147483648) : (nI a < 0) = False := by
  rw [Int32.lt_iff_toInt_lt, w_int ha]; simp
theorem w_nn {a : Nat} (ha : a < 2147483648) : ¬ nI a < 0 := by rw [w_neg ha]; exact id
theorem w_ex {x : Int32} (h : 0 ≤ x) : ∃ n, n < 2147483648 ∧ x = nI n := by
  have h0 : 0 ≤ x.toInt := by simpa using Int32.le_iff_toInt_le.mp h
  have h1 : x.toInt < 2147483648 := by have := Int32.toInt_lt x; omega
  refine ⟨x.toInt.toNat, by omega, ?_⟩
  apply Int32.toInt.inj
  rw [w_int (by omega)]; omega
theorem hI_wI (h : A_H) (k j : Nat) (v : Int32) (a b : Nat) : hI (wI h k j v) a b = if a = k ∧ b = j then v else hI h a b := rfl
theorem hI_wL (h : A_H) (k j : Nat) (v : Int64) : hI (wL h k j v) = hI h := rfl
theorem hI_wP (h : A_H) (k j : Nat) (v : Option Nat) : hI (wP h k j v) = hI h := rfl
theorem hL_wL (h : A_H) (k j : Nat) (v : Int64) (a b : Nat) : hL (wL h k j v) a b = if a = k ∧ b = j then v else hL h a b := rfl
theorem hL_wI (h : A_H) (k j : Nat) (v : Int32) : hL (wI h k j v) = hL h := rfl
theorem hL_wP (h : A_H) (k j : Nat) (v : Option Nat) : hL (wP h k j v) = hL h := rfl
theorem hP_wP (h : A_H) (k j : Nat) (v : Option Nat) (a b : Nat) : hP (wP h k j v) a b = if a = k ∧ b = j then v else hP h a b := rfl
theorem hP_wI (h : A_H) (k j : Nat) (v : Int32) : hP (wI h k j v) = hP h := rfl
theorem hP_wL (h : A_H) (k j : Nat) (v : Int64) : hP (wL h k j v) = hP h := rfl
theorem isO_wI (h : A_H) (k j : Nat) (v : Int32) : isO (wI h k j v) = isO h := rfl
theorem isO_wL (h : A_H) (k j : Nat) (v : Int64) : isO (wL h k j v) = isO h := rfl
theorem isO_wP (h : A_H) (k j : Nat) (v : Option Nat) : isO (wP h k j v) = isO h := rfl
theorem isA_wI (h : A_H) (k j : Nat) (v : Int32) : isA (wI h k j v) = isA h := rfl
theorem isA_wL (h : A_H) (k j : Nat) (v : Int64) : isA (wL h k j v) = isA h := rfl
theorem isA_wP (h : A_H) (k j : Nat) (v : Option Nat) : isA (wP h k j v) = isA h := rfl
theorem hn_wI (h : A_H) (k j : Nat) (v : Int32) : hn (wI h k j v) = hn h := rfl
theorem hn_wL (h : A_H) (k j : Nat) (v : Int64) : hn (wL h k j v) = hn h := rfl
theorem hn_wP (h : A_H) (k j : Nat) (v : Option Nat) : hn (wP h k j v) = hn h := rfl
theorem hs_wI (h : A_H) (k j : Nat) (v : Int32) : hs (wI h k j v) = hs h := rfl
theorem hs_wL (h : A_H) (k j : Nat) (v : Int64) : hs (wL h k j v) = hs h := rfl
theorem hs_wP (h : A_H) (k j : Nat) (v : Option Nat) : hs (wP h k j v) = hs h := rfl
theorem hsh_wI (h : A_H) (k j : Nat) (v : Int32) : hsh (wI h k j v) = hsh h := rfl
theorem hsh_wL (h : A_H) (k j : Nat) (v : Int64) : hsh (wL h k j v) = hsh h := rfl
theorem hsh_wP (h : A_H) (k j : Nat) (v : Option Nat) : hsh (wP h k j v) = hsh h := rfl
theorem hX_wI (h : A_H) (k j : Nat) (v : Int32) : hX (wI h k j v) = hX h := rfl
theorem hX_wL (h : A_H) (k j : Nat) (v : Int64) : hX (wL h k j v) = hX h := rfl
theorem hX_wP (h : A_H) (k j : Nat) (v : Option Nat) : hX (wP h k j v) = hX h := rfl
theorem bk_v (m m' : Nat) (as : List Value) (h0 : A_H) (e : Option (Nat × Nat)) (i : Nat) (ls : A_V) (st : List Value) (v : Value) (h : A_H) : a_back R m (m', as, h0, true, e, i, ls, st) (some (some (some v), h)) = R m i ls (v :: st) h := rfl
theorem bk_u (m m' : Nat) (as : List Value) (h0 : A_H) (e : Option (Nat × Nat)) (i : Nat) (ls : A_V) (st : List Value) (h : A_H) : a_back R m (m', as, h0, false, e, i, ls, st) (some (some none, h)) = R m i ls st h := rfl
theorem bk_x (m m' : Nat) (as : List Value) (h0 : A_H) (b : Bool) (j v i : Nat) (ls : A_V) (st : List Value) (h : A_H) : a_back R m (m', as, h0, b, some (j, v), i, ls, st) (some (none, h)) = R m j (a_rm ls v) [] h := rfl
theorem gd_some {α : Type} (a b : α) : (some a).getD b = a := rfl
theorem is_some {α : Type} (a : α) : (some a).isSome = true := rfl
theorem dT {p : Prop} [Decidable p] (h : p) : decide p = true := decide_eq_true h
theorem dF {p : Prop} [Decidable p] (h : ¬ p) : decide p = false := decide_eq_false h
theorem isO_of {h : A_H} {k ci N : Nat} (a : k < hn h) (b : hsh h k = (ci, N)) : isO h k ci = true := by
  unfold isO; rw [b, dT a, dT rfl]; rfl
theorem isA_of {h : A_H} {k tg N i : Nat} (a : k < hn h) (b : hsh h k = (100 + tg, N)) (c : i < N) (d : N ≤ 2000) : isA h k tg (nI i) = true := by
  unfold isA; rw [b, dT a, dT rfl, dF (w_nn (by omega)), w_cl (by omega), dT c]; rfl
def itr {α : Type} (f : Nat → α → α) : Nat → α → α
  | 0, a => a
  | n + 1, a => f n (itr f n a)
theorem itr_loop {α β : Type} (X : Nat → α → β) (f : Nat → α → α) (n : Nat) (hs : ∀ k a, k < n → X k a = X (k + 1) (f k a)) (a : α) : X 0 a = X n (itr f n a) := by
  have key : ∀ k, k ≤ n → X 0 a = X k (itr f k a) := by
    intro k
    induction k with
    | zero => intro _; rfl
    | succ k ih => intro hk; rw [ih (by omega), hs k _ (by omega)]; rfl
  exact key n (Nat.le_refl n)
theorem itr_loopI {α β : Type} (I : Nat → α → Prop) (X : Nat → α → β) (f : Nat → α → α) (n : Nat) (hs : ∀ k a, k < n → I k a → X k a = X (k + 1) (f k a)) (hi : ∀ k a, k < n → I k a → I (k + 1) (f k a)) (a : α) (h0 : I 0 a) : X 0 a = X n (itr f n a) ∧ I n (itr f n a) := by
  have key : ∀ k, k ≤ n → X 0 a = X k (itr f k a) ∧ I k (itr f k a) := by
    intro k
    induction k with
    | zero => intro _; exact ⟨rfl, h0⟩
    | succ k ih =>
      intro hk
      obtain ⟨e, i⟩ := ih (by omega)
      exact ⟨e.trans (hs k _ (by omega) i), hi k _ (by omega) i⟩
  exact key n (Nat.le_refl n)
theorem itr_congr {α : Type} {f g : Nat → α → α} {n : Nat} (h : ∀ k a, k < n → f k a = g k a) (a : α) : itr f n a = itr g n a := by
  have key : ∀ k, k ≤ n → itr f k a = itr g k a := by
    intro k
    induction k with
    | zero => intro _; rfl
    | succ k ih => intro hk; show f k (itr f k a) = g k (itr g k a); rw [ih (by omega), h k _ (by omega)]
  exact key n (Nat.le_refl n)
theorem itr_inv {α : Type} {f : Nat → α → α} {n : Nat} {a : α} (I : Nat → α → Prop) (h0 : I 0 a) (hi : ∀ k a, k < n → I k a → I (k + 1) (f k a)) : I n (itr f n a) := by
  have key : ∀ k, k ≤ n → I k (itr f k a) := by
    intro k
    induction k with
    | zero => intro _; exact h0
    | succ k ih => intro hk; exact hi k _ (by omega) (ih (by omega))
  exact key n (Nat.le_refl n)
def bI (b : Bool) : Int32 := bif b then 1 else 0
def bt (x : Int32) (g : Nat) : Bool := x.toBitVec.getLsbD g
theorem bI_T : bI true = 1 := rfl
theorem bI_F : bI false = 0 := rfl
theorem bt_one (j : Nat) : (1#32).getLsbD j = decide (j = 0) := by
  cases j with
  | zero => rfl
  | succ j =>
    cases h : (1#32).getLsbD (j + 1) with
    | false => rfl
    | true =>
      exfalso
      have hj : j + 1 < 32 := BitVec.lt_of_getLsbD h
      have : ∀ j : Fin 31, (1#32).getLsbD (j.val + 1) = false := by decide
      rw [this ⟨j, by omega⟩] at h; cases h
theorem bt_bI (b : Bool) (j : Nat) : (bI b).toBitVec.getLsbD j = (b && decide (j = 0)) := by
  cases b with
  | true => rw [Bool.true_and]; exact bt_one j
  | false => rw [Bool.false_and]; exact BitVec.getLsbD_zero
theorem w_31 {g : Nat} (hg : g < 32) : (nI g &&& 31) = nI g := by
  have : ∀ g : Fin 32, (nI g.val &&& 31) = nI g.val := by decide
  exact this ⟨g, hg⟩
theorem w_smod {g : Nat} (hg : g < 32) : (nI g).toBitVec.smod 32 = BitVec.ofNat 32 g := by
  have : ∀ g : Fin 32, (nI g.val).toBitVec.smod 32 = BitVec.ofNat 32 g.val := by decide
  exact this ⟨g, hg⟩
theorem i_ext {x y : Int32} (h : ∀ j, j < 32 → bt x j = bt y j) : x = y := Int32.toBitVec.inj (BitVec.eq_of_getLsbD_eq (fun j hj => h j hj))
theorem bt_and (x y : Int32) (j : Nat) : bt (x &&& y) j = (bt x j && bt y j) := BitVec.getLsbD_and
theorem bt_or (x y : Int32) (j : Nat) : bt (x ||| y) j = (bt x j || bt y j) := BitVec.getLsbD_or
theorem bt_xor (x y : Int32) (j : Nat) : bt (x ^^^ y) j = (bt x j ^^ bt y j) := BitVec.getLsbD_xor
theorem bt_not (x : Int32) {j : Nat} (hj : j < 32) : bt (~~~x) j = !bt x j := by
  show (~~~x.toBitVec).getLsbD j = _
  rw [BitVec.getLsbD_not, dT hj]; rfl
theorem bt_shr (x : Int32) {g j : Nat} (hg : g < 32) (hj : j + g < 32) : bt (x >>> nI g) j = bt x (g + j) := by
  show (x.toBitVec.sshiftRight' ((nI g).toBitVec.smod 32)).getLsbD j = _
  rw [w_smod hg]
  show (x.toBitVec.sshiftRight (BitVec.ofNat 32 g).toNat).getLsbD j = _
  rw [BitVec.toNat_ofNat, Nat.mod_eq_of_lt (by omega), BitVec.getLsbD_sshiftRight, dF (by omega), if_pos (by omega)]
  rfl
theorem bt_sh (x : Int32) {g : Nat} (hg : g < 32) : ((x >>> (nI g &&& 31)) &&& 1) = bI (bt x g) := by
  rw [w_31 hg]
  apply i_ext
  intro j hj
  rw [bt_and]
  show (_ && (1#32).getLsbD j) = (bI _).toBitVec.getLsbD j
  rw [bt_one, bt_bI]
  by_cases e : j = 0
  · subst e; rw [bt_shr x hg (by omega)]; rfl
  · rw [dF e, Bool.and_false, Bool.and_false]
theorem bt_1 {g : Nat} (hg : g < 32) (j : Nat) : bt ((1 : Int32) <<< (nI g &&& 31)) j = decide (j = g) := by
  rw [w_31 hg]
  show ((1#32).shiftLeft ((nI g).toBitVec.smod 32).toNat).getLsbD j = _
  rw [w_smod hg, BitVec.toNat_ofNat, Nat.mod_eq_of_lt (by omega)]
  show ((1#32) <<< g).getLsbD j = _
  rw [BitVec.getLsbD_shiftLeft, bt_one]
  by_cases e : j = g
  · subst e; rw [dT hg, dT rfl, dF (by omega), Nat.sub_self]; rfl
  · rw [dF e]
    by_cases e2 : j < g
    · rw [dT e2]; simp
    · rw [dF e2, dF (by omega : ¬ j - g = 0)]; simp
def lyS : List (Nat × Nat) := [(11, 9), (101, 1100), (7, 15), (9, 15), (103, 4), (104, 4), (105, 3), (106, 8), (107, 6), (1, 4), (100, 5), (100, 5), (100, 5), (5, 6), (5, 6), (5, 6), (5, 6), (10, 3), (10, 3), (10, 3), (10, 3), (2, 3), (2, 3), (2, 3), (3, 7), (3, 7), (3, 7), (3, 7), (3, 7), (3, 7), (3, 7), (3, 7), (0, 4), (0, 4), (0, 4), (0, 4), (0, 4), (0, 4), (102, 19), (100, 19), (100, 19), (102, 11), (9, 15), (103, 4), (104, 4), (105, 3), (106, 8), (107, 6), (1, 4), (100, 5), (100, 5), (100, 5), (5, 6), (5, 6), (5, 6), (5, 6), (10, 3), (10, 3), (10, 3), (10, 3), (2, 3), (2, 3), (2, 3), (3, 7), (3, 7), (3, 7), (3, 7), (3, 7), (3, 7), (3, 7), (3, 7), (0, 4), (0, 4), (0, 4), (0, 4), (0, 4), (0, 4), (8, 6), (100, 4), (4, 5), (108, 16), (108, 3), (8, 6), (100, 4), (8, 6), (100, 4), (8, 6), (100, 4), (8, 6), (100, 4), (8, 6), (100, 4), (8, 6), (100, 4), (8, 6), (100, 4), (8, 6), (100, 4), (8, 6), (100, 4), (8, 6), (100, 4), (8, 6), (100, 4), (8, 6), (100, 4), (8, 6), (100, 4), (8, 6), (100, 4), (8, 6), (100, 4), (8, 6), (100, 4), (8, 6), (100, 4), (8, 6), (100, 4), (8, 6), (100, 4), (6, 3), (8, 6), (100, 4), (100, 6), (13, 31), (101, 1100), (100, 18), (100, 18), (100, 288), (100, 54), (100, 6), (100, 5), (100, 5), (102, 1)]
def lyP : List (List (Option Nat)) := [[some 1, none, some 2, none, none, some 77, some 79, some 120], [], [some 1, none, none, none, none, none, none, none, none, none, some 41, none, some 38, some 39, some 40], [none, none, none, none, none, none, none, none, none, some 4, some 5, some 6, some 7, some 8, some 9], [some 13, some 14, some 15, some 16], [some 17, some 18, some 19, some 20], [some 21, some 22, some 23], [some 24, some 25, some 26, some 27, some 28, some 29, some 30, some 31], [some 32, some 33, some 34, some 35, some 36, some 37], [none, some 10, some 11, some 12], [], [], [], [], [], [], [], [], [], [], [], [], [], [], [], [], [], [], [], [], [], [], [], [], [], [], [], [], [], [], [], [], [none, none, none, none, none, none, none, none, none, some 43, some 44, some 45, some 46, some 47, some 48], [some 52, some 53, some 54, some 55], [some 56, some 57, some 58, some 59], [some 60, some 61, some 62], [some 63, some 64, some 65, some 66, some 67, some 68, some 69, some 70], [some 71, some 72, some 73, some 74, some 75, some 76], [none, some 49, some 50, some 51], [], [], [], [], [], [], [], [], [], [], [], [], [], [], [], [], [], [], [], [], [], [], [], [], [], [], [], [], [none, none, none, none, none, some 78], [], [some 80, none, none, some 81], [some 82, some 84, some 86, some 88, some 90, some 92, some 94, some 96, some 98, some 100, some 102, some 104, some 106, some 108, some 110, some 112], [some 114, some 116, some 118], [none, none, none, none, none, some 83], [], [none, none, none, none, none, some 85], [], [none, none, none, none, none, some 87], [], [none, none, none, none, none, some 89], [], [none, none, none, none, none, some 91], [], [none, none, none, none, none, some 93], [], [none, none, none, none, none, some 95], [], [none, none, none, none, none, some 97], [], [none, none, none, none, none, some 99], [], [none, none, none, none, none, some 101], [], [none, none, none, none, none, some 103], [], [none, none, none, none, none, some 105], [], [none, none, none, none, none, some 107], [], [none, none, none, none, none, some 109], [], [none, none, none, none, none, some 111], [], [none, none, none, none, none, some 113], [], [none, none, none, none, none, some 115], [], [none, none, none, none, none, some 117], [], [none, none, none, none, none, some 119], [], [some 121, some 123], [none, none, none, none, none, some 122], [], [], [none, none, none, none, none, some 125, none, none, none, none, none, none, none, none, none, some 126, some 127, some 128, some 129, none, none, none, none, none, none, none, some 130, none, some 131, some 132], [], [], [], [], [], [], [], [], []]
def Ly (h : A_H) : Prop := 134 ≤ hn h ∧ (∀ k, k < 134 → hsh h k = lyS.getD k (0, 0)) ∧ (∀ k j q, (lyP.getD k []).getD j none = some q → hP h k j = some q)
theorem Ly_wI {h : A_H} (L : Ly h) (k j : Nat) (v : Int32) : Ly (wI h k j v) := L
theorem Ly_wL {h : A_H} (L : Ly h) (k j : Nat) (v : Int64) : Ly (wL h k j v) := L
theorem ly_O {h : A_H} (L : Ly h) {k ci N : Nat} (hk : k < 134) (e : lyS.getD k (0, 0) = (ci, N)) : isO h k ci = true := isO_of (Nat.lt_of_lt_of_le hk L.1) ((L.2.1 k hk).trans e)
theorem ly_A {h : A_H} (L : Ly h) {k tg N i : Nat} (hk : k < 134) (e : lyS.getD k (0, 0) = (100 + tg, N)) (hi : i < N) (hN : N ≤ 2000) : isA h k tg (nI i) = true := isA_of (Nat.lt_of_lt_of_le hk L.1) ((L.2.1 k hk).trans e) hi hN
theorem ly_P {h : A_H} (L : Ly h) {k j q : Nat} (e : (lyP.getD k []).getD j none = some q) : hP h k j = some q := L.2.2 k j q e
def isT (T : Nat) : Prop := T = 3 ∨ T = 42
theorem t_O {h : A_H} {T : Nat} (L : Ly h) (hT : isT T) : isO h T 9 = true := by rcases hT with rfl | rfl <;> exact ly_O L (by decide) rfl
theorem t_P9 {h : A_H} {T : Nat} (L : Ly h) (hT : isT T) : hP h T 9 = some (T + 1) := by rcases hT with rfl | rfl <;> exact ly_P L rfl
theorem t_P10 {h : A_H} {T : Nat} (L : Ly h) (hT : isT T) : hP h T 10 = some (T + 2) := by rcases hT with rfl | rfl <;> exact ly_P L rfl
theorem t_P11 {h : A_H} {T : Nat} (L : Ly h) (hT : isT T) : hP h T 11 = some (T + 3) := by rcases hT with rfl | rfl <;> exact ly_P L rfl
theorem t_P12 {h : A_H} {T : Nat} (L : Ly h) (hT : isT T) : hP h T 12 = some (T + 4) := by rcases hT with rfl | rfl <;> exact ly_P L rfl
theorem t_P13 {h : A_H} {T : Nat} (L : Ly h) (hT : isT T) : hP h T 13 = some (T + 5) := by rcases hT with rfl | rfl <;> exact ly_P L rfl
theorem t_P14 {h : A_H} {T : Nat} (L : Ly h) (hT : isT T) : hP h T 14 = some (T + 6) := by rcases hT with rfl | rfl <;> exact ly_P L rfl
theorem t_OC {h : A_H} {T : Nat} (L : Ly h) (hT : isT T) : isO h (T + 6) 1 = true := by rcases hT with rfl | rfl <;> exact ly_O L (by decide) rfl
theorem t_C1 {h : A_H} {T : Nat} (L : Ly h) (hT : isT T) : hP h (T + 6) 1 = some (T + 7) := by rcases hT with rfl | rfl <;> exact ly_P L rfl
theorem t_C2 {h : A_H} {T : Nat} (L : Ly h) (hT : isT T) : hP h (T + 6) 2 = some (T + 8) := by rcases hT with rfl | rfl <;> exact ly_P L rfl
theorem t_C3 {h : A_H} {T : Nat} (L : Ly h) (hT : isT T) : hP h (T + 6) 3 = some (T + 9) := by rcases hT with rfl | rfl <;> exact ly_P L rfl
theorem t_AC {h : A_H} {T i c : Nat} (L : Ly h) (hT : isT T) (hi : i < 3) (hc : c < 5) : isA h (T + 7 + i) 0 (nI c) = true := by
  have e : ∀ i : Fin 3, lyS.getD (3 + 7 + i.val) (0, 0) = (100 + 0, 5) ∧ lyS.getD (42 + 7 + i.val) (0, 0) = (100 + 0, 5) := by decide
  rcases hT with rfl | rfl
  · exact ly_A L (by omega) (e ⟨i, hi⟩).1 hc (by decide)
  · exact ly_A L (by omega) (e ⟨i, hi⟩).2 hc (by decide)
theorem t_A {h : A_H} {T a tg N i : Nat} (L : Ly h) (hT : isT T) (e : lyS.getD (3 + a) (0, 0) = (100 + tg, N) ∧ lyS.getD (42 + a) (0, 0) = (100 + tg, N)) (ha : a < 40) (hi : i < N) (hN : N ≤ 2000) : isA h (T + a) tg (nI i) = true := by
  rcases hT with rfl | rfl
  · exact ly_A L (by omega) e.1 hi hN
  · exact ly_A L (by omega) e.2 hi hN
theorem t_Am {h : A_H} {T i : Nat} (L : Ly h) (hT : isT T) (hi : i < 4) : isA h (T + 1) 3 (nI i) = true := t_A L hT (by decide) (by decide) hi (by decide)
theorem t_At {h : A_H} {T i : Nat} (L : Ly h) (hT : isT T) (hi : i < 4) : isA h (T + 2) 4 (nI i) = true := t_A L hT (by decide) (by decide) hi (by decide)
theorem t_Ag {h : A_H} {T i : Nat} (L : Ly h) (hT : isT T) (hi : i < 3) : isA h (T + 3) 5 (nI i) = true := t_A L hT (by decide) (by decide) hi (by decide)
theorem t_AG {h : A_H} {T i : Nat} (L : Ly h) (hT : isT T) (hi : i < 8) : isA h (T + 4) 6 (nI i) = true := t_A L hT (by decide) (by decide) hi (by decide)
theorem t_Ax {h : A_H} {T i : Nat} (L : Ly h) (hT : isT T) (hi : i < 6) : isA h (T + 5) 7 (nI i) = true := t_A L hT (by decide) (by decide) hi (by decide)
theorem t_E {h : A_H} {T a b n : Nat} (L : Ly h) (hT : isT T) (e : ∀ i : Fin n, (lyP.getD (3 + a) []).getD i.val none = some (3 + b + i.val) ∧ (lyP.getD (42 + a) []).getD i.val none = some (42 + b + i.val)) {i : Nat} (hi : i < n) : hP h (T + a) i = some (T + b + i) := by
  rcases hT with rfl | rfl
  · exact ly_P L (e ⟨i, hi⟩).1
  · exact ly_P L (e ⟨i, hi⟩).2
theorem t_Em {h : A_H} {T i : Nat} (L : Ly h) (hT : isT T) (hi : i < 4) : hP h (T + 1) i = some (T + 10 + i) := t_E L hT (n := 4) (by decide) hi
theorem t_Et {h : A_H} {T i : Nat} (L : Ly h) (hT : isT T) (hi : i < 4) : hP h (T + 2) i = some (T + 14 + i) := t_E L hT (n := 4) (by decide) hi
theorem t_Eg {h : A_H} {T i : Nat} (L : Ly h) (hT : isT T) (hi : i < 3) : hP h (T + 3) i = some (T + 18 + i) := t_E L hT (n := 3) (by decide) hi
theorem t_EG {h : A_H} {T i : Nat} (L : Ly h) (hT : isT T) (hi : i < 8) : hP h (T + 4) i = some (T + 21 + i) := t_E L hT (n := 8) (by decide) hi
theorem t_Ex {h : A_H} {T i : Nat} (L : Ly h) (hT : isT T) (hi : i < 6) : hP h (T + 5) i = some (T + 29 + i) := t_E L hT (n := 6) (by decide) hi
theorem t_Q {h : A_H} {T b ci N n : Nat} (L : Ly h) (hT : isT T) (e : ∀ i : Fin n, lyS.getD (3 + b + i.val) (0, 0) = (ci, N) ∧ lyS.getD (42 + b + i.val) (0, 0) = (ci, N)) (hb : b + n ≤ 35) {i : Nat} (hi : i < n) : isO h (T + b + i) ci = true := by
  rcases hT with rfl | rfl
  · exact ly_O L (by omega) (e ⟨i, hi⟩).1
  · exact ly_O L (by omega) (e ⟨i, hi⟩).2
theorem t_Om {h : A_H} {T i : Nat} (L : Ly h) (hT : isT T) (hi : i < 4) : isO h (T + 10 + i) 5 = true := t_Q L hT (n := 4) (N := 6) (by decide) (by decide) hi
theorem t_Ot {h : A_H} {T i : Nat} (L : Ly h) (hT : isT T) (hi : i < 4) : isO h (T + 14 + i) 10 = true := t_Q L hT (n := 4) (N := 3) (by decide) (by decide) hi
theorem t_Og {h : A_H} {T i : Nat} (L : Ly h) (hT : isT T) (hi : i < 3) : isO h (T + 18 + i) 2 = true := t_Q L hT (n := 3) (N := 3) (by decide) (by decide) hi
theorem t_OG {h : A_H} {T i : Nat} (L : Ly h) (hT : isT T) (hi : i < 8) : isO h (T + 21 + i) 3 = true := t_Q L hT (n := 8) (N := 7) (by decide) (by decide) hi
theorem t_Ox {h : A_H} {T i : Nat} (L : Ly h) (hT : isT T) (hi : i < 6) : isO h (T + 29 + i) 0 = true := t_Q L hT (n := 6) (N := 4) (by decide) (by decide) hi
def msk (n : Nat) (p : Nat → Bool) : Nat := itr (fun k a => a + bif p k then 2 ^ k else 0) n 0
def cnt (n : Nat) (p : Nat → Bool) : Nat := itr (fun k a => a + bif p k then 1 else 0) n 0
def sm (n : Nat) (f : Nat → Nat) : Nat := itr (fun k a => a + f k) n 0
theorem msk_lt (n : Nat) (p : Nat → Bool) : msk n p < 2 ^ n := by
  induction n with
  | zero => exact Nat.one_pos
  | succ n ih =>
    show msk n p + (bif p n then 2 ^ n else 0) < _
    rw [Nat.pow_succ]
    cases p n <;> simp <;> omega
theorem msk_bit (n : Nat) (p : Nat → Bool) (j : Nat) : (msk n p).testBit j = (decide (j < n) && p j) := by
  induction n with
  | zero => show Nat.testBit 0 j = _; simp
  | succ n ih =>
    show (msk n p + (bif p n then 2 ^ n else 0)).testBit j = _
    cases hp : p n with
    | false =>
      rw [cond_false, Nat.add_zero, ih]
      by_cases e : j = n
      · subst e; simp [hp]
      · have : (j < n) ↔ (j < n + 1) := by omega
        simp [this]
    | true =>
      rw [cond_true, Nat.add_comm]
      have hl := msk_lt n p
      rcases Nat.lt_trichotomy j n with e | e | e
      · rw [Nat.testBit_two_pow_add_gt e, ih, dT e, dT (by omega : j < n + 1)]
      · subst e; rw [Nat.testBit_two_pow_add_eq, ih, dF (by omega : ¬ j < j), dT (by omega : j < j + 1), hp]; rfl
      · have h1 : 2 ^ n + msk n p < 2 ^ j := by
          have : 2 ^ (n + 1) ≤ 2 ^ j := Nat.pow_le_pow_right (by decide) e
          rw [Nat.pow_succ] at this; omega
        rw [Nat.testBit_lt_two_pow h1, dF (by omega : ¬ j < n + 1)]; rfl
theorem bt_nI (m : Nat) {j : Nat} (hj : j < 32) : bt (nI m) j = m.testBit j := by
  show (BitVec.ofNat 32 m).getLsbD j = _
  rw [BitVec.getLsbD_ofNat, dT hj]; rfl
theorem bt_msk {n : Nat} (p : Nat → Bool) {j : Nat} (hj : j < 32) : bt (nI (msk n p)) j = (decide (j < n) && p j) := by
  rw [bt_nI _ hj, msk_bit]
theorem w_mul (a b : Nat) : nI a * nI b = nI (a * b) := (Int32.ofNat_mul a b).symm
theorem w_sub {a b : Nat} (h : b ≤ a) : nI a - nI b = nI (a - b) := by
  have := nI_add (a - b) b
  rw [Nat.sub_add_cancel h] at this
  rw [← this, Int32.add_sub_cancel]
theorem w_div {a b : Nat} (ha : a < 2147483648) (hb : b < 2147483648) : nI a / nI b = nI (a / b) := by
  apply Int32.toInt.inj
  have hd : a / b ≤ a := Nat.div_le_self a b
  rw [w_int (by omega : a / b < 2147483648)]
  by_cases h0 : b = 0
  · subst h0; rw [Nat.div_zero]; show (nI a / 0).toInt = 0; simp
  · rw [Int32.toInt_div, w_int ha, w_int hb, Int.tdiv_eq_ediv_of_nonneg (by omega)]
    have hz := Int.ediv_nonneg (a := (a : Int)) (b := (b : Int)) (by omega) (by omega)
    rw [Int.bmod_eq_of_le] <;> omega
theorem w_max {a b : Nat} (ha : a < 1073741824) (hb : b < 1073741824) : (if (0 : Int32) ≤ nI a - nI b then nI a - nI b else 0) = nI (a - b) := by
  by_cases h : b ≤ a
  · rw [w_sub h, if_pos]
    exact (w_le (a := 0) (by decide) (by omega)).mpr (Nat.zero_le _)
  · have e : a - b = 0 := by omega
    rw [e, if_neg]
    · rfl
    · intro c
      have hs : (nI a - nI b).toInt = (a : Int) - b := by
        rw [Int32.toInt_sub, w_int (by omega), w_int (by omega), Int.bmod_eq_of_le] <;> omega
      rw [Int32.le_iff_toInt_le, hs] at c
      have : (0 : Int32).toInt = 0 := rfl
      omega
abbrev Gh : Type := Nat → Nat → Nat
def WF (D : Gh) : Prop := (D 0 0 ≤ 9) ∧ (D 0 1 ≤ 50) ∧ (D 0 2 ≤ 4) ∧ (D 0 3 ≤ 4) ∧ (D 0 4 ≤ 3) ∧ (D 0 5 ≤ 8) ∧ (D 0 6 ≤ 6) ∧ (D 0 7 ≤ 4) ∧ (D 0 8 < 2 ^ D 0 5) ∧ (D 0 9 ≤ 5) ∧ (∀ {i : Nat}, i < D 0 2 → D 1 i ≤ 9) ∧ (∀ {i : Nat}, i < D 0 2 → D 2 i ≤ 9) ∧ (∀ {i : Nat}, i < D 0 2 → 1 ≤ D 3 i ∧ D 3 i ≤ 300) ∧ (∀ {i : Nat}, i < D 0 2 → D 4 i ≤ 1) ∧ (∀ {i : Nat}, i < D 0 2 → D 5 i ≤ 99) ∧ (∀ {i : Nat}, i < D 0 2 → D 6 i ≤ 99) ∧ (∀ {i : Nat}, i < D 0 3 → D 7 i ≤ 99) ∧ (∀ {i : Nat}, i < D 0 3 → D 8 i ≤ 3) ∧ (∀ {i : Nat}, i < D 0 4 → 1 ≤ D 9 i ∧ D 9 i ≤ 99) ∧ (∀ {i : Nat}, i < D 0 4 → D 10 i ≤ 23) ∧ (∀ {i : Nat}, i < D 0 4 → D 11 i ≤ 23) ∧ (∀ {i : Nat}, i < D 0 5 → D 12 i ≤ 4) ∧ (∀ {i : Nat}, i < D 0 5 → D 12 i ≠ 0 → D 13 i < D 0 2) ∧ (∀ {i : Nat}, i < D 0 5 → D 14 i < D 0 3) ∧ (∀ {i : Nat}, i < D 0 5 → D 15 i ≤ 300) ∧ (∀ {i : Nat}, i < D 0 5 → 1 ≤ D 16 i ∧ D 16 i ≤ 9) ∧ (∀ {i : Nat}, i < D 0 5 → D 17 i ≤ 99) ∧ (∀ {i : Nat}, i < D 0 6 → D 18 i < D 0 3) ∧ (∀ {i : Nat}, i < D 0 6 → D 19 i < D 0 4) ∧ (∀ {i : Nat}, i < D 0 6 → D 20 i ≤ 60) ∧ (∀ {i : Nat}, i < D 0 6 → D 21 i ≤ 23) ∧ (∀ {i : Nat}, i < D 0 9 → D 22 i < D 0 2) ∧ (∀ {i : Nat}, i < D 0 9 → D 23 i ≤ 60)
theorem f_fee {D : Gh} (w : WF D) : D 0 0 ≤ 9 := w.1
theorem f_int {D : Gh} (w : WF D) : D 0 1 ≤ 50 := w.2.1
theorem f_nm {D : Gh} (w : WF D) : D 0 2 ≤ 4 := w.2.2.1
theorem f_nt {D : Gh} (w : WF D) : D 0 3 ≤ 4 := w.2.2.2.1
theorem f_ng {D : Gh} (w : WF D) : D 0 4 ≤ 3 := w.2.2.2.2.1
theorem f_nG {D : Gh} (w : WF D) : D 0 5 ≤ 8 := w.2.2.2.2.2.1
theorem f_nx {D : Gh} (w : WF D) : D 0 6 ≤ 6 := w.2.2.2.2.2.2.1
theorem f_np {D : Gh} (w : WF D) : D 0 7 ≤ 4 := w.2.2.2.2.2.2.2.1
theorem f_hid {D : Gh} (w : WF D) : D 0 8 < 2 ^ D 0 5 := w.2.2.2.2.2.2.2.2.1
theorem f_nc {D : Gh} (w : WF D) : D 0 9 ≤ 5 := w.2.2.2.2.2.2.2.2.2.1
theorem f_rate {D : Gh} (w : WF D) : ∀ {i : Nat}, i < D 0 2 → D 1 i ≤ 9 := w.2.2.2.2.2.2.2.2.2.2.1
theorem f_oth {D : Gh} (w : WF D) : ∀ {i : Nat}, i < D 0 2 → D 2 i ≤ 9 := w.2.2.2.2.2.2.2.2.2.2.2.1
theorem f_keeps {D : Gh} (w : WF D) : ∀ {i : Nat}, i < D 0 2 → 1 ≤ D 3 i ∧ D 3 i ≤ 300 := w.2.2.2.2.2.2.2.2.2.2.2.2.1
theorem f_pri {D : Gh} (w : WF D) : ∀ {i : Nat}, i < D 0 2 → D 4 i ≤ 1 := w.2.2.2.2.2.2.2.2.2.2.2.2.2.1
theorem f_here {D : Gh} (w : WF D) : ∀ {i : Nat}, i < D 0 2 → D 5 i ≤ 99 := w.2.2.2.2.2.2.2.2.2.2.2.2.2.2.1
theorem f_there {D : Gh} (w : WF D) : ∀ {i : Nat}, i < D 0 2 → D 6 i ≤ 99 := w.2.2.2.2.2.2.2.2.2.2.2.2.2.2.2.1
theorem f_all {D : Gh} (w : WF D) : ∀ {i : Nat}, i < D 0 3 → D 7 i ≤ 99 := w.2.2.2.2.2.2.2.2.2.2.2.2.2.2.2.2.1
theorem f_hun {D : Gh} (w : WF D) : ∀ {i : Nat}, i < D 0 3 → D 8 i ≤ 3 := w.2.2.2.2.2.2.2.2.2.2.2.2.2.2.2.2.2.1
theorem f_nose {D : Gh} (w : WF D) : ∀ {i : Nat}, i < D 0 4 → 1 ≤ D 9 i ∧ D 9 i ≤ 99 := w.2.2.2.2.2.2.2.2.2.2.2.2.2.2.2.2.2.2.1
theorem f_op {D : Gh} (w : WF D) : ∀ {i : Nat}, i < D 0 4 → D 10 i ≤ 23 := w.2.2.2.2.2.2.2.2.2.2.2.2.2.2.2.2.2.2.2.1
theorem f_sh {D : Gh} (w : WF D) : ∀ {i : Nat}, i < D 0 4 → D 11 i ≤ 23 := w.2.2.2.2.2.2.2.2.2.2.2.2.2.2.2.2.2.2.2.2.1
theorem f_kind {D : Gh} (w : WF D) : ∀ {i : Nat}, i < D 0 5 → D 12 i ≤ 4 := w.2.2.2.2.2.2.2.2.2.2.2.2.2.2.2.2.2.2.2.2.2.1
theorem f_by {D : Gh} (w : WF D) : ∀ {i : Nat}, i < D 0 5 → D 12 i ≠ 0 → D 13 i < D 0 2 := w.2.2.2.2.2.2.2.2.2.2.2.2.2.2.2.2.2.2.2.2.2.2.1
theorem f_own {D : Gh} (w : WF D) : ∀ {i : Nat}, i < D 0 5 → D 14 i < D 0 3 := w.2.2.2.2.2.2.2.2.2.2.2.2.2.2.2.2.2.2.2.2.2.2.2.1
theorem f_age {D : Gh} (w : WF D) : ∀ {i : Nat}, i < D 0 5 → D 15 i ≤ 300 := w.2.2.2.2.2.2.2.2.2.2.2.2.2.2.2.2.2.2.2.2.2.2.2.2.1
theorem f_wei {D : Gh} (w : WF D) : ∀ {i : Nat}, i < D 0 5 → 1 ≤ D 16 i ∧ D 16 i ≤ 9 := w.2.2.2.2.2.2.2.2.2.2.2.2.2.2.2.2.2.2.2.2.2.2.2.2.2.1
theorem f_wor {D : Gh} (w : WF D) : ∀ {i : Nat}, i < D 0 5 → D 17 i ≤ 99 := w.2.2.2.2.2.2.2.2.2.2.2.2.2.2.2.2.2.2.2.2.2.2.2.2.2.2.1
theorem f_cro {D : Gh} (w : WF D) : ∀ {i : Nat}, i < D 0 6 → D 18 i < D 0 3 := w.2.2.2.2.2.2.2.2.2.2.2.2.2.2.2.2.2.2.2.2.2.2.2.2.2.2.2.1
theorem f_gat {D : Gh} (w : WF D) : ∀ {i : Nat}, i < D 0 6 → D 19 i < D 0 4 := w.2.2.2.2.2.2.2.2.2.2.2.2.2.2.2.2.2.2.2.2.2.2.2.2.2.2.2.2.1
theorem f_day {D : Gh} (w : WF D) : ∀ {i : Nat}, i < D 0 6 → D 20 i ≤ 60 := w.2.2.2.2.2.2.2.2.2.2.2.2.2.2.2.2.2.2.2.2.2.2.2.2.2.2.2.2.2.1
theorem f_hour {D : Gh} (w : WF D) : ∀ {i : Nat}, i < D 0 6 → D 21 i ≤ 23 := w.2.2.2.2.2.2.2.2.2.2.2.2.2.2.2.2.2.2.2.2.2.2.2.2.2.2.2.2.2.2.1
theorem f_cm {D : Gh} (w : WF D) : ∀ {i : Nat}, i < D 0 9 → D 22 i < D 0 2 := w.2.2.2.2.2.2.2.2.2.2.2.2.2.2.2.2.2.2.2.2.2.2.2.2.2.2.2.2.2.2.2.1
theorem f_cd {D : Gh} (w : WF D) : ∀ {i : Nat}, i < D 0 9 → D 23 i ≤ 60 := w.2.2.2.2.2.2.2.2.2.2.2.2.2.2.2.2.2.2.2.2.2.2.2.2.2.2.2.2.2.2.2.2
def tks (D : Gh) (g : Nat) : Nat := bif decide (D 12 g = 0) then 3 else D 3 (D 13 g)
def tur (D : Gh) (g a : Nat) : Bool := !decide (D 12 g = 4) && decide (tks D g < a)
def kpI (D : Gh) (g : Nat) : Int32 := bif decide (D 12 g = 4) then -2 else nI (tks D g)
def byI (D : Gh) (g : Nat) : Int32 := bif decide (D 12 g = 0) then -2 else nI (D 13 g)
def own (D : Gh) (t : Nat) : Nat := msk (D 0 5) (fun g => decide (D 14 g = t))
def CT (h : A_H) (T : Nat) (D : Gh) : Prop := (hI h T 0 = nI (D 0 0)) ∧ (hI h T 1 = nI (D 0 1)) ∧ (hI h T 2 = nI (D 0 2)) ∧ (hI h T 3 = nI (D 0 3)) ∧ (hI h T 4 = nI (D 0 4)) ∧ (hI h T 5 = nI (D 0 5)) ∧ (hI h T 6 = nI (D 0 6)) ∧ (hI h T 7 = nI (D 0 7)) ∧ (hI h T 8 = nI (D 0 8)) ∧ (hI h (T + 6) 0 = nI (D 0 9)) ∧ (∀ {i : Nat}, i < D 0 2 → hI h (T + 10 + i) 0 = nI (D 1 i)) ∧ (∀ {i : Nat}, i < D 0 2 → hI h (T + 10 + i) 1 = nI (D 2 i)) ∧ (∀ {i : Nat}, i < D 0 2 → hI h (T + 10 + i) 2 = nI (D 3 i)) ∧ (∀ {i : Nat}, i < D 0 2 → hI h (T + 10 + i) 3 = nI (D 4 i)) ∧ (∀ {i : Nat}, i < D 0 2 → D 4 i = 1 → hI h (T + 10 + i) 4 = nI (D 5 i)) ∧ (∀ {i : Nat}, i < D 0 2 → D 4 i = 1 → hI h (T + 10 + i) 5 = nI (D 6 i)) ∧ (∀ {i : Nat}, i < D 0 3 → hI h (T + 14 + i) 0 = nI (D 7 i)) ∧ (∀ {i : Nat}, i < D 0 3 → hI h (T + 14 + i) 1 = nI (D 8 i)) ∧ (∀ {i : Nat}, i < 4 → hI h (T + 14 + i) 2 = nI (own D i)) ∧ (∀ {i : Nat}, i < D 0 4 → hI h (T + 18 + i) 0 = nI (D 9 i)) ∧ (∀ {i : Nat}, i < D 0 4 → hI h (T + 18 + i) 1 = nI (D 10 i)) ∧ (∀ {i : Nat}, i < D 0 4 → hI h (T + 18 + i) 2 = nI (D 11 i)) ∧ (∀ {i : Nat}, i < D 0 5 → hI h (T + 21 + i) 0 = nI (D 12 i)) ∧ (∀ {i : Nat}, i < D 0 5 → hI h (T + 21 + i) 1 = byI D i) ∧ (∀ {i : Nat}, i < D 0 5 → hI h (T + 21 + i) 2 = nI (D 14 i)) ∧ (∀ {i : Nat}, i < D 0 5 → hI h (T + 21 + i) 3 = nI (D 15 i)) ∧ (∀ {i : Nat}, i < D 0 5 → hI h (T + 21 + i) 4 = kpI D i) ∧ (∀ {i : Nat}, i < D 0 5 → hI h (T + 21 + i) 5 = nI (D 16 i)) ∧ (∀ {i : Nat}, i < D 0 5 → hI h (T + 21 + i) 6 = nI (D 17 i)) ∧ (∀ {i : Nat}, i < D 0 6 → hI h (T + 29 + i) 0 = nI (D 18 i)) ∧ (∀ {i : Nat}, i < D 0 6 → hI h (T + 29 + i) 1 = nI (D 19 i)) ∧ (∀ {i : Nat}, i < D 0 6 → hI h (T + 29 + i) 2 = nI (D 20 i)) ∧ (∀ {i : Nat}, i < D 0 6 → hI h (T + 29 + i) 3 = nI (D 21 i)) ∧ (∀ {i : Nat}, i < D 0 9 → hI h (T + 7) i = nI (D 22 i)) ∧ (∀ {i : Nat}, i < D 0 9 → hI h (T + 8) i = nI (D 23 i))
theorem c_s0 {h : A_H} {T : Nat} {D : Gh} (w : CT h T D) : hI h T 0 = nI (D 0 0) := w.1
theorem c_s1 {h : A_H} {T : Nat} {D : Gh} (w : CT h T D) : hI h T 1 = nI (D 0 1) := w.2.1
theorem c_s2 {h : A_H} {T : Nat} {D : Gh} (w : CT h T D) : hI h T 2 = nI (D 0 2) := w.2.2.1
theorem c_s3 {h : A_H} {T : Nat} {D : Gh} (w : CT h T D) : hI h T 3 = nI (D 0 3) := w.2.2.2.1
theorem c_s4 {h : A_H} {T : Nat} {D : Gh} (w : CT h T D) : hI h T 4 = nI (D 0 4) := w.2.2.2.2.1
theorem c_s5 {h : A_H} {T : Nat} {D : Gh} (w : CT h T D) : hI h T 5 = nI (D 0 5) := w.2.2.2.2.2.1
theorem c_s6 {h : A_H} {T : Nat} {D : Gh} (w : CT h T D) : hI h T 6 = nI (D 0 6) := w.2.2.2.2.2.2.1
theorem c_s7 {h : A_H} {T : Nat} {D : Gh} (w : CT h T D) : hI h T 7 = nI (D 0 7) := w.2.2.2.2.2.2.2.1
theorem c_s8 {h : A_H} {T : Nat} {D : Gh} (w : CT h T D) : hI h T 8 = nI (D 0 8) := w.2.2.2.2.2.2.2.2.1
theorem c_nc {h : A_H} {T : Nat} {D : Gh} (w : CT h T D) : hI h (T + 6) 0 = nI (D 0 9) := w.2.2.2.2.2.2.2.2.2.1
theorem c_rate {h : A_H} {T : Nat} {D : Gh} (w : CT h T D) : ∀ {i : Nat}, i < D 0 2 → hI h (T + 10 + i) 0 = nI (D 1 i) := w.2.2.2.2.2.2.2.2.2.2.1
theorem c_oth {h : A_H} {T : Nat} {D : Gh} (w : CT h T D) : ∀ {i : Nat}, i < D 0 2 → hI h (T + 10 + i) 1 = nI (D 2 i) := w.2.2.2.2.2.2.2.2.2.2.2.1
theorem c_keeps {h : A_H} {T : Nat} {D : Gh} (w : CT h T D) : ∀ {i : Nat}, i < D 0 2 → hI h (T + 10 + i) 2 = nI (D 3 i) := w.2.2.2.2.2.2.2.2.2.2.2.2.1
theorem c_pri {h : A_H} {T : Nat} {D : Gh} (w : CT h T D) : ∀ {i : Nat}, i < D 0 2 → hI h (T + 10 + i) 3 = nI (D 4 i) := w.2.2.2.2.2.2.2.2.2.2.2.2.2.1
theorem c_here {h : A_H} {T : Nat} {D : Gh} (w : CT h T D) : ∀ {i : Nat}, i < D 0 2 → D 4 i = 1 → hI h (T + 10 + i) 4 = nI (D 5 i) := w.2.2.2.2.2.2.2.2.2.2.2.2.2.2.1
theorem c_there {h : A_H} {T : Nat} {D : Gh} (w : CT h T D) : ∀ {i : Nat}, i < D 0 2 → D 4 i = 1 → hI h (T + 10 + i) 5 = nI (D 6 i) := w.2.2.2.2.2.2.2.2.2.2.2.2.2.2.2.1
theorem c_all {h : A_H} {T : Nat} {D : Gh} (w : CT h T D) : ∀ {i : Nat}, i < D 0 3 → hI h (T + 14 + i) 0 = nI (D 7 i) := w.2.2.2.2.2.2.2.2.2.2.2.2.2.2.2.2.1
theorem c_hun {h : A_H} {T : Nat} {D : Gh} (w : CT h T D) : ∀ {i : Nat}, i < D 0 3 → hI h (T + 14 + i) 1 = nI (D 8 i) := w.2.2.2.2.2.2.2.2.2.2.2.2.2.2.2.2.2.1
theorem c_own {h : A_H} {T : Nat} {D : Gh} (w : CT h T D) : ∀ {i : Nat}, i < 4 → hI h (T + 14 + i) 2 = nI (own D i) := w.2.2.2.2.2.2.2.2.2.2.2.2.2.2.2.2.2.2.1
theorem c_nose {h : A_H} {T : Nat} {D : Gh} (w : CT h T D) : ∀ {i : Nat}, i < D 0 4 → hI h (T + 18 + i) 0 = nI (D 9 i) := w.2.2.2.2.2.2.2.2.2.2.2.2.2.2.2.2.2.2.2.1
theorem c_op {h : A_H} {T : Nat} {D : Gh} (w : CT h T D) : ∀ {i : Nat}, i < D 0 4 → hI h (T + 18 + i) 1 = nI (D 10 i) := w.2.2.2.2.2.2.2.2.2.2.2.2.2.2.2.2.2.2.2.2.1
theorem c_sh {h : A_H} {T : Nat} {D : Gh} (w : CT h T D) : ∀ {i : Nat}, i < D 0 4 → hI h (T + 18 + i) 2 = nI (D 11 i) := w.2.2.2.2.2.2.2.2.2.2.2.2.2.2.2.2.2.2.2.2.2.1
theorem c_kind {h : A_H} {T : Nat} {D : Gh} (w : CT h T D) : ∀ {i : Nat}, i < D 0 5 → hI h (T + 21 + i) 0 = nI (D 12 i) := w.2.2.2.2.2.2.2.2.2.2.2.2.2.2.2.2.2.2.2.2.2.2.1
theorem c_by {h : A_H} {T : Nat} {D : Gh} (w : CT h T D) : ∀ {i : Nat}, i < D 0 5 → hI h (T + 21 + i) 1 = byI D i := w.2.2.2.2.2.2.2.2.2.2.2.2.2.2.2.2.2.2.2.2.2.2.2.1
theorem c_owner {h : A_H} {T : Nat} {D : Gh} (w : CT h T D) : ∀ {i : Nat}, i < D 0 5 → hI h (T + 21 + i) 2 = nI (D 14 i) := w.2.2.2.2.2.2.2.2.2.2.2.2.2.2.2.2.2.2.2.2.2.2.2.2.1
theorem c_age {h : A_H} {T : Nat} {D : Gh} (w : CT h T D) : ∀ {i : Nat}, i < D 0 5 → hI h (T + 21 + i) 3 = nI (D 15 i) := w.2.2.2.2.2.2.2.2.2.2.2.2.2.2.2.2.2.2.2.2.2.2.2.2.2.1
theorem c_kp {h : A_H} {T : Nat} {D : Gh} (w : CT h T D) : ∀ {i : Nat}, i < D 0 5 → hI h (T + 21 + i) 4 = kpI D i := w.2.2.2.2.2.2.2.2.2.2.2.2.2.2.2.2.2.2.2.2.2.2.2.2.2.2.1
theorem c_wei {h : A_H} {T : Nat} {D : Gh} (w : CT h T D) : ∀ {i : Nat}, i < D 0 5 → hI h (T + 21 + i) 5 = nI (D 16 i) := w.2.2.2.2.2.2.2.2.2.2.2.2.2.2.2.2.2.2.2.2.2.2.2.2.2.2.2.1
theorem c_wor {h : A_H} {T : Nat} {D : Gh} (w : CT h T D) : ∀ {i : Nat}, i < D 0 5 → hI h (T + 21 + i) 6 = nI (D 17 i) := w.2.2.2.2.2.2.2.2.2.2.2.2.2.2.2.2.2.2.2.2.2.2.2.2.2.2.2.2.1
theorem c_cro {h : A_H} {T : Nat} {D : Gh} (w : CT h T D) : ∀ {i : Nat}, i < D 0 6 → hI h (T + 29 + i) 0 = nI (D 18 i) := w.2.2.2.2.2.2.2.2.2.2.2.2.2.2.2.2.2.2.2.2.2.2.2.2.2.2.2.2.2.1
theorem c_gat {h : A_H} {T : Nat} {D : Gh} (w : CT h T D) : ∀ {i : Nat}, i < D 0 6 → hI h (T + 29 + i) 1 = nI (D 19 i) := w.2.2.2.2.2.2.2.2.2.2.2.2.2.2.2.2.2.2.2.2.2.2.2.2.2.2.2.2.2.2.1
theorem c_day {h : A_H} {T : Nat} {D : Gh} (w : CT h T D) : ∀ {i : Nat}, i < D 0 6 → hI h (T + 29 + i) 2 = nI (D 20 i) := w.2.2.2.2.2.2.2.2.2.2.2.2.2.2.2.2.2.2.2.2.2.2.2.2.2.2.2.2.2.2.2.1
theorem c_hour {h : A_H} {T : Nat} {D : Gh} (w : CT h T D) : ∀ {i : Nat}, i < D 0 6 → hI h (T + 29 + i) 3 = nI (D 21 i) := w.2.2.2.2.2.2.2.2.2.2.2.2.2.2.2.2.2.2.2.2.2.2.2.2.2.2.2.2.2.2.2.2.1
theorem c_cm {h : A_H} {T : Nat} {D : Gh} (w : CT h T D) : ∀ {i : Nat}, i < D 0 9 → hI h (T + 7) i = nI (D 22 i) := w.2.2.2.2.2.2.2.2.2.2.2.2.2.2.2.2.2.2.2.2.2.2.2.2.2.2.2.2.2.2.2.2.2.1
theorem c_cd {h : A_H} {T : Nat} {D : Gh} (w : CT h T D) : ∀ {i : Nat}, i < D 0 9 → hI h (T + 8) i = nI (D 23 i) := w.2.2.2.2.2.2.2.2.2.2.2.2.2.2.2.2.2.2.2.2.2.2.2.2.2.2.2.2.2.2.2.2.2.2
def ML (h : A_H) (B : Nat) : Prop := (B + 25 ≤ hn h) ∧ (hsh h B = (12, 35)) ∧ (hsh h (B + 1) = (100, 8)) ∧ (hsh h (B + 2) = (100, 4)) ∧ (hsh h (B + 3) = (100, 4)) ∧ (hsh h (B + 4) = (100, 4)) ∧ (hsh h (B + 5) = (100, 4)) ∧ (hsh h (B + 6) = (100, 4)) ∧ (hsh h (B + 7) = (100, 3)) ∧ (hsh h (B + 8) = (100, 3)) ∧ (hsh h (B + 9) = (100, 3)) ∧ (hsh h (B + 10) = (100, 8)) ∧ (hsh h (B + 11) = (100, 8)) ∧ (hsh h (B + 12) = (100, 8)) ∧ (hsh h (B + 13) = (100, 8)) ∧ (hsh h (B + 14) = (100, 8)) ∧ (hsh h (B + 15) = (100, 8)) ∧ (hsh h (B + 16) = (100, 6)) ∧ (hsh h (B + 17) = (100, 6)) ∧ (hsh h (B + 18) = (100, 6)) ∧ (hsh h (B + 19) = (100, 6)) ∧ (hsh h (B + 20) = (100, 5)) ∧ (hsh h (B + 21) = (100, 5)) ∧ (hsh h (B + 22) = (102, 19)) ∧ (hsh h (B + 23) = (100, 19)) ∧ (hsh h (B + 24) = (100, 19)) ∧ (hP h B 11 = some (B + 1)) ∧ (hP h B 12 = some (B + 2)) ∧ (hP h B 13 = some (B + 3)) ∧ (hP h B 14 = some (B + 4)) ∧ (hP h B 15 = some (B + 5)) ∧ (hP h B 16 = some (B + 6)) ∧ (hP h B 17 = some (B + 7)) ∧ (hP h B 18 = some (B + 8)) ∧ (hP h B 19 = some (B + 9)) ∧ (hP h B 20 = some (B + 10)) ∧ (hP h B 21 = some (B + 11)) ∧ (hP h B 22 = some (B + 12)) ∧ (hP h B 23 = some (B + 13)) ∧ (hP h B 24 = some (B + 14)) ∧ (hP h B 25 = some (B + 15)) ∧ (hP h B 26 = some (B + 16)) ∧ (hP h B 27 = some (B + 17)) ∧ (hP h B 28 = some (B + 18)) ∧ (hP h B 29 = some (B + 19)) ∧ (hP h B 30 = some (B + 20)) ∧ (hP h B 31 = some (B + 21)) ∧ (hP h B 32 = some (B + 22)) ∧ (hP h B 33 = some (B + 23)) ∧ (hP h B 34 = some (B + 24)) ∧ (134 ≤ B)
theorem m_B {h : A_H} {B : Nat} (w : ML h B) : B + 25 ≤ hn h := w.1
theorem m_sB {h : A_H} {B : Nat} (w : ML h B) : hsh h B = (12, 35) := w.2.1
theorem m_s11 {h : A_H} {B : Nat} (w : ML h B) : hsh h (B + 1) = (100, 8) := w.2.2.1
theorem m_s12 {h : A_H} {B : Nat} (w : ML h B) : hsh h (B + 2) = (100, 4) := w.2.2.2.1
theorem m_s13 {h : A_H} {B : Nat} (w : ML h B) : hsh h (B + 3) = (100, 4) := w.2.2.2.2.1
theorem m_s14 {h : A_H} {B : Nat} (w : ML h B) : hsh h (B + 4) = (100, 4) := w.2.2.2.2.2.1
theorem m_s15 {h : A_H} {B : Nat} (w : ML h B) : hsh h (B + 5) = (100, 4) := w.2.2.2.2.2.2.1
theorem m_s16 {h : A_H} {B : Nat} (w : ML h B) : hsh h (B + 6) = (100, 4) := w.2.2.2.2.2.2.2.1
theorem m_s17 {h : A_H} {B : Nat} (w : ML h B) : hsh h (B + 7) = (100, 3) := w.2.2.2.2.2.2.2.2.1
theorem m_s18 {h : A_H} {B : Nat} (w : ML h B) : hsh h (B + 8) = (100, 3) := w.2.2.2.2.2.2.2.2.2.1
theorem m_s19 {h : A_H} {B : Nat} (w : ML h B) : hsh h (B + 9) = (100, 3) := w.2.2.2.2.2.2.2.2.2.2.1
theorem m_s20 {h : A_H} {B : Nat} (w : ML h B) : hsh h (B + 10) = (100, 8) := w.2.2.2.2.2.2.2.2.2.2.2.1
theorem m_s21 {h : A_H} {B : Nat} (w : ML h B) : hsh h (B + 11) = (100, 8) := w.2.2.2.2.2.2.2.2.2.2.2.2.1
theorem m_s22 {h : A_H} {B : Nat} (w : ML h B) : hsh h (B + 12) = (100, 8) := w.2.2.2.2.2.2.2.2.2.2.2.2.2.1
theorem m_s23 {h : A_H} {B : Nat} (w : ML h B) : hsh h (B + 13) = (100, 8) := w.2.2.2.2.2.2.2.2.2.2.2.2.2.2.1
theorem m_s24 {h : A_H} {B : Nat} (w : ML h B) : hsh h (B + 14) = (100, 8) := w.2.2.2.2.2.2.2.2.2.2.2.2.2.2.2.1
theorem m_s25 {h : A_H} {B : Nat} (w : ML h B) : hsh h (B + 15) = (100, 8) := w.2.2.2.2.2.2.2.2.2.2.2.2.2.2.2.2.1
theorem m_s26 {h : A_H} {B : Nat} (w : ML h B) : hsh h (B + 16) = (100, 6) := w.2.2.2.2.2.2.2.2.2.2.2.2.2.2.2.2.2.1
theorem m_s27 {h : A_H} {B : Nat} (w : ML h B) : hsh h (B + 17) = (100, 6) := w.2.2.2.2.2.2.2.2.2.2.2.2.2.2.2.2.2.2.1
theorem m_s28 {h : A_H} {B : Nat} (w : ML h B) : hsh h (B + 18) = (100, 6) := w.2.2.2.2.2.2.2.2.2.2.2.2.2.2.2.2.2.2.2.1
theorem m_s29 {h : A_H} {B : Nat} (w : ML h B) : hsh h (B + 19) = (100, 6) := w.2.2.2.2.2.2.2.2.2.2.2.2.2.2.2.2.2.2.2.2.1
theorem m_s30 {h : A_H} {B : Nat} (w : ML h B) : hsh h (B + 20) = (100, 5) := w.2.2.2.2.2.2.2.2.2.2.2.2.2.2.2.2.2.2.2.2.2.1
theorem m_s31 {h : A_H} {B : Nat} (w : ML h B) : hsh h (B + 21) = (100, 5) := w.2.2.2.2.2.2.2.2.2.2.2.2.2.2.2.2.2.2.2.2.2.2.1
theorem m_s32 {h : A_H} {B : Nat} (w : ML h B) : hsh h (B + 22) = (102, 19) := w.2.2.2.2.2.2.2.2.2.2.2.2.2.2.2.2.2.2.2.2.2.2.2.1
theorem m_s33 {h : A_H} {B : Nat} (w : ML h B) : hsh h (B + 23) = (100, 19) := w.2.2.2.2.2.2.2.2.2.2.2.2.2.2.2.2.2.2.2.2.2.2.2.2.1
theorem m_s34 {h : A_H} {B : Nat} (w : ML h B) : hsh h (B + 24) = (100, 19) := w.2.2.2.2.2.2.2.2.2.2.2.2.2.2.2.2.2.2.2.2.2.2.2.2.2.1
theorem m_p11 {h : A_H} {B : Nat} (w : ML h B) : hP h B 11 = some (B + 1) := w.2.2.2.2.2.2.2.2.2.2.2.2.2.2.2.2.2.2.2.2.2.2.2.2.2.2.1
theorem m_p12 {h : A_H} {B : Nat} (w : ML h B) : hP h B 12 = some (B + 2) := w.2.2.2.2.2.2.2.2.2.2.2.2.2.2.2.2.2.2.2.2.2.2.2.2.2.2.2.1
theorem m_p13 {h : A_H} {B : Nat} (w : ML h B) : hP h B 13 = some (B + 3) := w.2.2.2.2.2.2.2.2.2.2.2.2.2.2.2.2.2.2.2.2.2.2.2.2.2.2.2.2.1
theorem m_p14 {h : A_H} {B : Nat} (w : ML h B) : hP h B 14 = some (B + 4) := w.2.2.2.2.2.2.2.2.2.2.2.2.2.2.2.2.2.2.2.2.2.2.2.2.2.2.2.2.2.1
theorem m_p15 {h : A_H} {B : Nat} (w : ML h B) : hP h B 15 = some (B + 5) := w.2.2.2.2.2.2.2.2.2.2.2.2.2.2.2.2.2.2.2.2.2.2.2.2.2.2.2.2.2.2.1
theorem m_p16 {h : A_H} {B : Nat} (w : ML h B) : hP h B 16 = some (B + 6) := w.2.2.2.2.2.2.2.2.2.2.2.2.2.2.2.2.2.2.2.2.2.2.2.2.2.2.2.2.2.2.2.1
theorem m_p17 {h : A_H} {B : Nat} (w : ML h B) : hP h B 17 = some (B + 7) := w.2.2.2.2.2.2.2.2.2.2.2.2.2.2.2.2.2.2.2.2.2.2.2.2.2.2.2.2.2.2.2.2.1
theorem m_p18 {h : A_H} {B : Nat} (w : ML h B) : hP h B 18 = some (B + 8) := w.2.2.2.2.2.2.2.2.2.2.2.2.2.2.2.2.2.2.2.2.2.2.2.2.2.2.2.2.2.2.2.2.2.1
theorem m_p19 {h : A_H} {B : Nat} (w : ML h B) : hP h B 19 = some (B + 9) := w.2.2.2.2.2.2.2.2.2.2.2.2.2.2.2.2.2.2.2.2.2.2.2.2.2.2.2.2.2.2.2.2.2.2.1
theorem m_p20 {h : A_H} {B : Nat} (w : ML h B) : hP h B 20 = some (B + 10) := w.2.2.2.2.2.2.2.2.2.2.2.2.2.2.2.2.2.2.2.2.2.2.2.2.2.2.2.2.2.2.2.2.2.2.2.1
theorem m_p21 {h : A_H} {B : Nat} (w : ML h B) : hP h B 21 = some (B + 11) := w.2.2.2.2.2.2.2.2.2.2.2.2.2.2.2.2.2.2.2.2.2.2.2.2.2.2.2.2.2.2.2.2.2.2.2.2.1
theorem m_p22 {h : A_H} {B : Nat} (w : ML h B) : hP h B 22 = some (B + 12) := w.2.2.2.2.2.2.2.2.2.2.2.2.2.2.2.2.2.2.2.2.2.2.2.2.2.2.2.2.2.2.2.2.2.2.2.2.2.1
theorem m_p23 {h : A_H} {B : Nat} (w : ML h B) : hP h B 23 = some (B + 13) := w.2.2.2.2.2.2.2.2.2.2.2.2.2.2.2.2.2.2.2.2.2.2.2.2.2.2.2.2.2.2.2.2.2.2.2.2.2.2.1
theorem m_p24 {h : A_H} {B : Nat} (w : ML h B) : hP h B 24 = some (B + 14) := w.2.2.2.2.2.2.2.2.2.2.2.2.2.2.2.2.2.2.2.2.2.2.2.2.2.2.2.2.2.2.2.2.2.2.2.2.2.2.2.1
theorem m_p25 {h : A_H} {B : Nat} (w : ML h B) : hP h B 25 = some (B + 15) := w.2.2.2.2.2.2.2.2.2.2.2.2.2.2.2.2.2.2.2.2.2.2.2.2.2.2.2.2.2.2.2.2.2.2.2.2.2.2.2.2.1
theorem m_p26 {h : A_H} {B : Nat} (w : ML h B) : hP h B 26 = some (B + 16) := w.2.2.2.2.2.2.2.2.2.2.2.2.2.2.2.2.2.2.2.2.2.2.2.2.2.2.2.2.2.2.2.2.2.2.2.2.2.2.2.2.2.1
theorem m_p27 {h : A_H} {B : Nat} (w : ML h B) : hP h B 27 = some (B + 17) := w.2.2.2.2.2.2.2.2.2.2.2.2.2.2.2.2.2.2.2.2.2.2.2.2.2.2.2.2.2.2.2.2.2.2.2.2.2.2.2.2.2.2.1
theorem m_p28 {h : A_H} {B : Nat} (w : ML h B) : hP h B 28 = some (B + 18) := w.2.2.2.2.2.2.2.2.2.2.2.2.2.2.2.2.2.2.2.2.2.2.2.2.2.2.2.2.2.2.2.2.2.2.2.2.2.2.2.2.2.2.2.1
theorem m_p29 {h : A_H} {B : Nat} (w : ML h B) : hP h B 29 = some (B + 19) := w.2.2.2.2.2.2.2.2.2.2.2.2.2.2.2.2.2.2.2.2.2.2.2.2.2.2.2.2.2.2.2.2.2.2.2.2.2.2.2.2.2.2.2.2.1
theorem m_p30 {h : A_H} {B : Nat} (w : ML h B) : hP h B 30 = some (B + 20) := w.2.2.2.2.2.2.2.2.2.2.2.2.2.2.2.2.2.2.2.2.2.2.2.2.2.2.2.2.2.2.2.2.2.2.2.2.2.2.2.2.2.2.2.2.2.1
theorem m_p31 {h : A_H} {B : Nat} (w : ML h B) : hP h B 31 = some (B + 21) := w.2.2.2.2.2.2.2.2.2.2.2.2.2.2.2.2.2.2.2.2.2.2.2.2.2.2.2.2.2.2.2.2.2.2.2.2.2.2.2.2.2.2.2.2.2.2.1
theorem m_p32 {h : A_H} {B : Nat} (w : ML h B) : hP h B 32 = some (B + 22) := w.2.2.2.2.2.2.2.2.2.2.2.2.2.2.2.2.2.2.2.2.2.2.2.2.2.2.2.2.2.2.2.2.2.2.2.2.2.2.2.2.2.2.2.2.2.2.2.1
theorem m_p33 {h : A_H} {B : Nat} (w : ML h B) : hP h B 33 = some (B + 23) := w.2.2.2.2.2.2.2.2.2.2.2.2.2.2.2.2.2.2.2.2.2.2.2.2.2.2.2.2.2.2.2.2.2.2.2.2.2.2.2.2.2.2.2.2.2.2.2.2.1
theorem m_p34 {h : A_H} {B : Nat} (w : ML h B) : hP h B 34 = some (B + 24) := w.2.2.2.2.2.2.2.2.2.2.2.2.2.2.2.2.2.2.2.2.2.2.2.2.2.2.2.2.2.2.2.2.2.2.2.2.2.2.2.2.2.2.2.2.2.2.2.2.2.1
theorem m_134 {h : A_H} {B : Nat} (w : ML h B) : 134 ≤ B := w.2.2.2.2.2.2.2.2.2.2.2.2.2.2.2.2.2.2.2.2.2.2.2.2.2.2.2.2.2.2.2.2.2.2.2.2.2.2.2.2.2.2.2.2.2.2.2.2.2.2
def MB (h : A_H) (B : Nat) (D : Gh) : Prop := (hI h B 0 = nI (D 0 0)) ∧ (hI h B 1 = nI (D 0 1)) ∧ (hI h B 2 = nI (D 0 2)) ∧ (hI h B 3 = nI (D 0 3)) ∧ (hI h B 4 = nI (D 0 4)) ∧ (hI h B 5 = nI (D 0 5)) ∧ (hI h B 6 = nI (D 0 6)) ∧ (hI h B 7 = nI (D 0 7)) ∧ (hI h B 8 = nI (D 0 9)) ∧ (hI h B 9 = nI (D 0 8)) ∧ (∀ {i : Nat}, i < D 0 2 → hI h (B + 1) i = nI (D 1 i)) ∧ (∀ {i : Nat}, i < D 0 2 → hI h (B + 1) (4 + i) = nI (D 2 i)) ∧ (∀ {i : Nat}, i < D 0 2 → hI h (B + 2) i = nI (D 3 i)) ∧ (∀ {i : Nat}, i < D 0 2 → hI h (B + 3) i = bif decide (D 4 i = 1) then nI (D 5 i) else -1) ∧ (∀ {i : Nat}, i < D 0 2 → D 4 i = 1 → hI h (B + 4) i = nI (D 6 i)) ∧ (∀ {i : Nat}, i < D 0 3 → hI h (B + 5) i = nI (D 7 i)) ∧ (∀ {i : Nat}, i < D 0 3 → hI h (B + 6) i = nI (D 8 i)) ∧ (∀ {i : Nat}, i < D 0 4 → hI h (B + 7) i = nI (D 9 i)) ∧ (∀ {i : Nat}, i < D 0 4 → hI h (B + 8) i = nI (D 10 i)) ∧ (∀ {i : Nat}, i < D 0 4 → hI h (B + 9) i = nI (D 11 i)) ∧ (∀ {i : Nat}, i < D 0 5 → hI h (B + 10) i = nI (D 12 i)) ∧ (∀ {i : Nat}, i < D 0 5 → hI h (B + 11) i = byI D i) ∧ (∀ {i : Nat}, i < D 0 5 → hI h (B + 12) i = nI (D 14 i)) ∧ (∀ {i : Nat}, i < D 0 5 → hI h (B + 13) i = nI (D 15 i)) ∧ (∀ {i : Nat}, i < D 0 5 → hI h (B + 14) i = nI (D 16 i)) ∧ (∀ {i : Nat}, i < D 0 5 → hI h (B + 15) i = nI (D 17 i)) ∧ (∀ {i : Nat}, i < D 0 6 → hI h (B + 16) i = nI (D 18 i)) ∧ (∀ {i : Nat}, i < D 0 6 → hI h (B + 17) i = nI (D 19 i)) ∧ (∀ {i : Nat}, i < D 0 6 → hI h (B + 18) i = nI (D 20 i)) ∧ (∀ {i : Nat}, i < D 0 6 → hI h (B + 19) i = nI (D 21 i)) ∧ (∀ {i : Nat}, i < D 0 9 → hI h (B + 20) i = nI (D 22 i)) ∧ (∀ {i : Nat}, i < D 0 9 → hI h (B + 21) i = nI (D 23 i))
theorem b_s0 {h : A_H} {B : Nat} {D : Gh} (w : MB h B D) : hI h B 0 = nI (D 0 0) := w.1
theorem b_s1 {h : A_H} {B : Nat} {D : Gh} (w : MB h B D) : hI h B 1 = nI (D 0 1) := w.2.1
theorem b_s2 {h : A_H} {B : Nat} {D : Gh} (w : MB h B D) : hI h B 2 = nI (D 0 2) := w.2.2.1
theorem b_s3 {h : A_H} {B : Nat} {D : Gh} (w : MB h B D) : hI h B 3 = nI (D 0 3) := w.2.2.2.1
theorem b_s4 {h : A_H} {B : Nat} {D : Gh} (w : MB h B D) : hI h B 4 = nI (D 0 4) := w.2.2.2.2.1
theorem b_s5 {h : A_H} {B : Nat} {D : Gh} (w : MB h B D) : hI h B 5 = nI (D 0 5) := w.2.2.2.2.2.1
theorem b_s6 {h : A_H} {B : Nat} {D : Gh} (w : MB h B D) : hI h B 6 = nI (D 0 6) := w.2.2.2.2.2.2.1
theorem b_s7 {h : A_H} {B : Nat} {D : Gh} (w : MB h B D) : hI h B 7 = nI (D 0 7) := w.2.2.2.2.2.2.2.1
theorem b_nc {h : A_H} {B : Nat} {D : Gh} (w : MB h B D) : hI h B 8 = nI (D 0 9) := w.2.2.2.2.2.2.2.2.1
theorem b_hid {h : A_H} {B : Nat} {D : Gh} (w : MB h B D) : hI h B 9 = nI (D 0 8) := w.2.2.2.2.2.2.2.2.2.1
theorem b_rate {h : A_H} {B : Nat} {D : Gh} (w : MB h B D) : ∀ {i : Nat}, i < D 0 2 → hI h (B + 1) i = nI (D 1 i) := w.2.2.2.2.2.2.2.2.2.2.1
theorem b_oth {h : A_H} {B : Nat} {D : Gh} (w : MB h B D) : ∀ {i : Nat}, i < D 0 2 → hI h (B + 1) (4 + i) = nI (D 2 i) := w.2.2.2.2.2.2.2.2.2.2.2.1
theorem b_keeps {h : A_H} {B : Nat} {D : Gh} (w : MB h B D) : ∀ {i : Nat}, i < D 0 2 → hI h (B + 2) i = nI (D 3 i) := w.2.2.2.2.2.2.2.2.2.2.2.2.1
theorem b_here {h : A_H} {B : Nat} {D : Gh} (w : MB h B D) : ∀ {i : Nat}, i < D 0 2 → hI h (B + 3) i = bif decide (D 4 i = 1) then nI (D 5 i) else -1 := w.2.2.2.2.2.2.2.2.2.2.2.2.2.1
theorem b_there {h : A_H} {B : Nat} {D : Gh} (w : MB h B D) : ∀ {i : Nat}, i < D 0 2 → D 4 i = 1 → hI h (B + 4) i = nI (D 6 i) := w.2.2.2.2.2.2.2.2.2.2.2.2.2.2.1
theorem b_all {h : A_H} {B : Nat} {D : Gh} (w : MB h B D) : ∀ {i : Nat}, i < D 0 3 → hI h (B + 5) i = nI (D 7 i) := w.2.2.2.2.2.2.2.2.2.2.2.2.2.2.2.1
theorem b_hun {h : A_H} {B : Nat} {D : Gh} (w : MB h B D) : ∀ {i : Nat}, i < D 0 3 → hI h (B + 6) i = nI (D 8 i) := w.2.2.2.2.2.2.2.2.2.2.2.2.2.2.2.2.1
theorem b_nose {h : A_H} {B : Nat} {D : Gh} (w : MB h B D) : ∀ {i : Nat}, i < D 0 4 → hI h (B + 7) i = nI (D 9 i) := w.2.2.2.2.2.2.2.2.2.2.2.2.2.2.2.2.2.1
theorem b_op {h : A_H} {B : Nat} {D : Gh} (w : MB h B D) : ∀ {i : Nat}, i < D 0 4 → hI h (B + 8) i = nI (D 10 i) := w.2.2.2.2.2.2.2.2.2.2.2.2.2.2.2.2.2.2.1
theorem b_sh {h : A_H} {B : Nat} {D : Gh} (w : MB h B D) : ∀ {i : Nat}, i < D 0 4 → hI h (B + 9) i = nI (D 11 i) := w.2.2.2.2.2.2.2.2.2.2.2.2.2.2.2.2.2.2.2.1
theorem b_kind {h : A_H} {B : Nat} {D : Gh} (w : MB h B D) : ∀ {i : Nat}, i < D 0 5 → hI h (B + 10) i = nI (D 12 i) := w.2.2.2.2.2.2.2.2.2.2.2.2.2.2.2.2.2.2.2.2.1
theorem b_by {h : A_H} {B : Nat} {D : Gh} (w : MB h B D) : ∀ {i : Nat}, i < D 0 5 → hI h (B + 11) i = byI D i := w.2.2.2.2.2.2.2.2.2.2.2.2.2.2.2.2.2.2.2.2.2.1
theorem b_owner {h : A_H} {B : Nat} {D : Gh} (w : MB h B D) : ∀ {i : Nat}, i < D 0 5 → hI h (B + 12) i = nI (D 14 i) := w.2.2.2.2.2.2.2.2.2.2.2.2.2.2.2.2.2.2.2.2.2.2.1
theorem b_age {h : A_H} {B : Nat} {D : Gh} (w : MB h B D) : ∀ {i : Nat}, i < D 0 5 → hI h (B + 13) i = nI (D 15 i) := w.2.2.2.2.2.2.2.2.2.2.2.2.2.2.2.2.2.2.2.2.2.2.2.1
theorem b_wei {h : A_H} {B : Nat} {D : Gh} (w : MB h B D) : ∀ {i : Nat}, i < D 0 5 → hI h (B + 14) i = nI (D 16 i) := w.2.2.2.2.2.2.2.2.2.2.2.2.2.2.2.2.2.2.2.2.2.2.2.2.1
theorem b_wor {h : A_H} {B : Nat} {D : Gh} (w : MB h B D) : ∀ {i : Nat}, i < D 0 5 → hI h (B + 15) i = nI (D 17 i) := w.2.2.2.2.2.2.2.2.2.2.2.2.2.2.2.2.2.2.2.2.2.2.2.2.2.1
theorem b_cro {h : A_H} {B : Nat} {D : Gh} (w : MB h B D) : ∀ {i : Nat}, i < D 0 6 → hI h (B + 16) i = nI (D 18 i) := w.2.2.2.2.2.2.2.2.2.2.2.2.2.2.2.2.2.2.2.2.2.2.2.2.2.2.1
theorem b_gat {h : A_H} {B : Nat} {D : Gh} (w : MB h B D) : ∀ {i : Nat}, i < D 0 6 → hI h (B + 17) i = nI (D 19 i) := w.2.2.2.2.2.2.2.2.2.2.2.2.2.2.2.2.2.2.2.2.2.2.2.2.2.2.2.1
theorem b_day {h : A_H} {B : Nat} {D : Gh} (w : MB h B D) : ∀ {i : Nat}, i < D 0 6 → hI h (B + 18) i = nI (D 20 i) := w.2.2.2.2.2.2.2.2.2.2.2.2.2.2.2.2.2.2.2.2.2.2.2.2.2.2.2.2.1
theorem b_hour {h : A_H} {B : Nat} {D : Gh} (w : MB h B D) : ∀ {i : Nat}, i < D 0 6 → hI h (B + 19) i = nI (D 21 i) := w.2.2.2.2.2.2.2.2.2.2.2.2.2.2.2.2.2.2.2.2.2.2.2.2.2.2.2.2.2.1
theorem b_cm {h : A_H} {B : Nat} {D : Gh} (w : MB h B D) : ∀ {i : Nat}, i < D 0 9 → hI h (B + 20) i = nI (D 22 i) := w.2.2.2.2.2.2.2.2.2.2.2.2.2.2.2.2.2.2.2.2.2.2.2.2.2.2.2.2.2.2.1
theorem b_cd {h : A_H} {B : Nat} {D : Gh} (w : MB h B D) : ∀ {i : Nat}, i < D 0 9 → hI h (B + 21) i = nI (D 23 i) := w.2.2.2.2.2.2.2.2.2.2.2.2.2.2.2.2.2.2.2.2.2.2.2.2.2.2.2.2.2.2.2
