theorem z_00 : (decide ((0 : Int32) = 0) || decide ((0 : Int32) = 1)) = true := rfl
theorem z_11 : (decide ((1 : Int32) = 0) || decide ((1 : Int32) = 1)) = true := rfl
theorem z_b (b : Bool) : (decide (bI b = 0) || decide (bI b = 1)) = true := by cases b <;> rfl
theorem z_0 (b : Bool) : decide (bI b = 0) = !b := by cases b <;> rfl
theorem z_1 (b : Bool) : decide (bI b = 1) = b := by cases b <;> rfl
theorem c57 {h : A_H} {T : Nat} {D : Gh} (L : Ly h) (hT : isT T) (w : WF D) (c : CT h T D) {g : Nat} (hg : g < D 0 5) (d : Nat) : C 57 [.ref T, .int (nI g), .int (nI d)] h = some (some (some (.int (nI (D 15 g + d)))), h) := by
  have h8 : g < 8 := Nat.lt_of_lt_of_le hg (f_nG w)
  rw [e57, b57_0]
  simp only [cond_true, decide_true, cond_false, Bool.and_true, Bool.true_and, Bool.and_self, Bool.and_false, Bool.false_and, Bool.not_true, Bool.not_false, Bool.or_true, Bool.true_or, Bool.or_false, Bool.false_or, is_some, gd_some, bk_v, bk_u, t_O L hT, t_P9 L hT, t_P10 L hT, t_P11 L hT, t_P12 L hT, t_P13 L hT, t_P14 L hT, t_OC L hT, t_C1 L hT, t_C2 L hT, t_C3 L hT, t_AG L hT h8, w_cl (show g < 2147483648 by omega), t_EG L hT h8, t_OG L hT h8, c_age c hg, nI_add]
theorem c58 {h : A_H} {T : Nat} {D : Gh} (L : Ly h) (hT : isT T) (w : WF D) (c : CT h T D) {g : Nat} (hg : g < D 0 5) {d : Nat} (hd : d ≤ 1000) : C 58 [.ref T, .int (nI g), .int (nI d)] h = some (some (some (.int (nI ((D 15 g + d) / 10)))), h) := by
  have ha := f_age w hg
  rw [e58, b58_0]
  simp only [cond_true, decide_true, cond_false, Bool.and_true, Bool.true_and, Bool.and_self, Bool.and_false, Bool.false_and, Bool.not_true, Bool.not_false, Bool.or_true, Bool.true_or, Bool.or_false, Bool.false_or, is_some, gd_some, bk_v, bk_u, t_O L hT, t_P9 L hT, t_P10 L hT, t_P11 L hT, t_P12 L hT, t_P13 L hT, t_P14 L hT, t_OC L hT, t_C1 L hT, t_C2 L hT, t_C3 L hT, c57 L hT w c hg, b58_4]
  rw [show (10 : Int32) = nI 10 from rfl, w_div (by omega) (by decide)]
theorem kp_ne {D : Gh} (w : WF D) {g : Nat} (hg : g < D 0 5) : decide (kpI D g = -2) = decide (D 12 g = 4) := by
  unfold kpI tks
  by_cases e : D 12 g = 4
  · rw [dT e]; rfl
  · rw [dF e, cond_false]
    apply dF
    intro h2
    have hb : (bif decide (D 12 g = 0) then 3 else D 3 (D 13 g)) ≤ 300 := by
      by_cases e0 : D 12 g = 0
      · rw [dT e0, cond_true]; omega
      · rw [dF e0]; exact (f_keeps w (f_by w hg e0)).2
    have := congrArg Int32.toInt h2
    rw [w_int (by omega)] at this
    have e2 : (-2 : Int32).toInt = -2 := rfl
    omega
theorem tks_le {D : Gh} (w : WF D) {g : Nat} (hg : g < D 0 5) : tks D g ≤ 300 := by
  unfold tks
  by_cases e0 : D 12 g = 0
  · rw [dT e0, cond_true]; omega
  · rw [dF e0]; exact (f_keeps w (f_by w hg e0)).2
theorem c59 {h : A_H} {T : Nat} {D : Gh} (L : Ly h) (hT : isT T) (w : WF D) (c : CT h T D) {g : Nat} (hg : g < D 0 5) {d : Nat} (hd : d ≤ 1000) : C 59 [.ref T, .int (nI g), .int (nI d)] h = some (some (some (.int (bI (tur D g (D 15 g + d))))), h) := by
  have h8 : g < 8 := Nat.lt_of_lt_of_le hg (f_nG w)
  have ha := f_age w hg
  have hk := tks_le w hg
  rw [e59, b59_0]
  simp only [cond_true, decide_true, cond_false, Bool.and_true, Bool.true_and, Bool.and_self, Bool.and_false, Bool.false_and, Bool.not_true, Bool.not_false, Bool.or_true, Bool.true_or, Bool.or_false, Bool.false_or, is_some, gd_some, bk_v, bk_u, t_O L hT, t_P9 L hT, t_P10 L hT, t_P11 L hT, t_P12 L hT, t_P13 L hT, t_P14 L hT, t_OC L hT, t_C1 L hT, t_C2 L hT, t_C3 L hT, t_AG L hT h8, w_cl (show g < 2147483648 by omega), t_EG L hT h8, t_OG L hT h8, c_age c hg, c_kp c hg, nI_add, kp_ne w hg, z_00, z_11]
  unfold tur kpI
  by_cases e : D 12 g = 4
  · simp only [dT e, cond_true, cond_false, Bool.not_true, Bool.false_and, bI, decide_true, Bool.true_or]
  · simp only [dF e, cond_true, cond_false, Bool.not_false, Bool.true_and]
    by_cases e2 : tks D g < D 15 g + d
    · rw [dT e2, dF (by rw [w_le (by omega) (by omega)]; omega)]; rfl
    · rw [dF e2, dT (by rw [w_le (by omega) (by omega)]; omega)]; rfl
def wor (D : Gh) (g d : Nat) : Nat := bif tur D g (D 15 g + d) then 0 else (bif decide (D 12 g = 2) then D 17 g + (D 15 g + d) / 10 else D 17 g)
theorem nI_c {D : Gh} (w : WF D) {g k : Nat} (hg : g < D 0 5) (hk : k < 100) : decide (nI (D 12 g) = nI k) = decide (D 12 g = k) := by
  have := f_kind w hg
  simp only [w_eq (show D 12 g < 2147483648 by omega) (show k < 2147483648 by omega)]
theorem c60 {h : A_H} {T : Nat} {D : Gh} (L : Ly h) (hT : isT T) (w : WF D) (c : CT h T D) {g : Nat} (hg : g < D 0 5) {d : Nat} (hd : d ≤ 1000) : C 60 [.ref T, .int (nI g), .int (nI d)] h = some (some (some (.int (nI (wor D g d)))), h) := by
  have h8 : g < 8 := Nat.lt_of_lt_of_le hg (f_nG w)
  rw [e60, b60_0]
  simp only [cond_true, decide_true, cond_false, Bool.and_true, Bool.true_and, Bool.and_self, Bool.and_false, Bool.false_and, Bool.not_true, Bool.not_false, Bool.or_true, Bool.true_or, Bool.or_false, Bool.false_or, is_some, gd_some, bk_v, bk_u, t_O L hT, t_P9 L hT, t_P10 L hT, t_P11 L hT, t_P12 L hT, t_P13 L hT, t_P14 L hT, t_OC L hT, t_C1 L hT, t_C2 L hT, t_C3 L hT, c59 L hT w c hg hd, b60_4, z_0]
  unfold wor
  cases tur D g (D 15 g + d) with
  | true => rfl
  | false =>
    simp only [cond_true, decide_true, cond_false, Bool.and_true, Bool.true_and, Bool.and_self, Bool.and_false, Bool.false_and, Bool.not_true, Bool.not_false, Bool.or_true, Bool.true_or, Bool.or_false, Bool.false_or, is_some, gd_some, bk_v, bk_u, t_O L hT, t_P9 L hT, t_P10 L hT, t_P11 L hT, t_P12 L hT, t_P13 L hT, t_P14 L hT, t_OC L hT, t_C1 L hT, t_C2 L hT, t_C3 L hT, t_AG L hT h8, w_cl (show g < 2147483648 by omega), t_EG L hT h8, t_OG L hT h8, c_kind c hg, c58 L hT w c hg hd, c_wor c hg, b60_22, nI_add]
    rw [show (2 : Int32) = nI 2 from rfl, nI_c w hg (by decide)]
    cases decide (D 12 g = 2) <;> rfl
def dut (D : Gh) (l g d : Nat) : Nat := bif decide (D 12 g = 0) || tur D g (D 15 g + d) then 0 else D 16 g * D (1 + l) (D 13 g) * ((D 15 g + d) / 10)
theorem c61 {h : A_H} {T : Nat} {D : Gh} (L : Ly h) (hT : isT T) (w : WF D) (c : CT h T D) {g : Nat} (hg : g < D 0 5) {d : Nat} (hd : d ≤ 1000) (l : Bool) : C 61 [.ref T, .int (nI g), .int (nI d), .int (bI l)] h = some (some (some (.int (nI (dut D (bif l then 1 else 0) g d)))), h) := by
  have h8 : g < 8 := Nat.lt_of_lt_of_le hg (f_nG w)
  rw [e61, b61_0]
  unfold dut
  have hk := nI_c w hg (show 0 < 100 by decide)
  rw [show nI 0 = 0 from rfl] at hk
  simp only [cond_true, decide_true, cond_false, Bool.and_true, Bool.true_and, Bool.and_self, Bool.and_false, Bool.false_and, Bool.not_true, Bool.not_false, Bool.or_true, Bool.true_or, Bool.or_false, Bool.false_or, is_some, gd_some, bk_v, bk_u, t_O L hT, t_P9 L hT, t_P10 L hT, t_P11 L hT, t_P12 L hT, t_P13 L hT, t_P14 L hT, t_OC L hT, t_C1 L hT, t_C2 L hT, t_C3 L hT, t_AG L hT h8, w_cl (show g < 2147483648 by omega), t_EG L hT h8, t_OG L hT h8, c_kind c hg, hk, c59 L hT w c hg hd]
  by_cases e0 : D 12 g = 0
  · simp only [dT e0, cond_true, Bool.true_or]; rfl
  · simp only [dF e0, cond_false, Bool.false_or, b61_12, z_0]
    cases tur D g (D 15 g + d) with
    | true => rfl
    | false =>
      have hm := f_by w hg e0
      have hm4 : D 13 g < 4 := Nat.lt_of_lt_of_le hm (f_nm w)
      simp only [cond_true, decide_true, cond_false, Bool.and_true, Bool.true_and, Bool.and_self, Bool.and_false, Bool.false_and, Bool.not_true, Bool.not_false, Bool.or_true, Bool.true_or, Bool.or_false, Bool.false_or, is_some, gd_some, bk_v, bk_u, t_O L hT, t_P9 L hT, t_P10 L hT, t_P11 L hT, t_P12 L hT, t_P13 L hT, t_P14 L hT, t_OC L hT, t_C1 L hT, t_C2 L hT, t_C3 L hT, t_AG L hT h8, w_cl (show g < 2147483648 by omega), t_EG L hT h8, t_OG L hT h8, c_by c hg, byI, dF e0, t_Am L hT hm4, w_cl (show D 13 g < 2147483648 by omega), t_Em L hT hm4, t_Om L hT hm4, c_wei c hg, c_rate c hm, c_oth c hm, c58 L hT w c hg hd, b61_35, z_0, w_mul]
      cases l <;> rfl
theorem loop_ix {β : Type} (X : Nat → β) (n : Nat) (hs : ∀ k, k < n → X k = X (k + 1)) : X 0 = X n := by
  have key : ∀ k, k ≤ n → X 0 = X k := by
    intro k
    induction k with
    | zero => intro _; rfl
    | succ k ih => intro hk; rw [ih (by omega), hs k (by omega)]
  exact key n (Nat.le_refl n)
theorem cnt_s (n : Nat) (p : Nat → Bool) : cnt (n + 1) p = cnt n p + bif p n then 1 else 0 := rfl
theorem sm_s (n : Nat) (f : Nat → Nat) : sm (n + 1) f = sm n f + f n := rfl
theorem msk_s (n : Nat) (p : Nat → Bool) : msk (n + 1) p = msk n p + bif p n then 2 ^ n else 0 := rfl
theorem cnt_le (n : Nat) (p : Nat → Bool) : cnt n p ≤ n := by
  induction n with
  | zero => exact Nat.le_refl _
  | succ n ih => rw [cnt_s]; cases p n <;> simp <;> omega
theorem sm_le {n b : Nat} {f : Nat → Nat} (h : ∀ k, k < n → f k ≤ b) : sm n f ≤ n * b := by
  have key : ∀ k, k ≤ n → sm k f ≤ k * b := by
    intro k
    induction k with
    | zero => intro _; exact Nat.zero_le _
    | succ k ih =>
      intro hk
      rw [sm_s, Nat.succ_mul]
      have := h k (by omega)
      have := ih (by omega)
      omega
  exact key n (Nat.le_refl n)
theorem or_msk {n : Nat} (hn : n < 32) {p : Nat → Bool} (hp : p n = true) : nI (msk n p) ||| ((1 : Int32) <<< (nI n &&& 31)) = nI (msk (n + 1) p) := by
  apply i_ext
  intro j hj
  rw [bt_or, bt_msk _ hj, bt_msk _ hj, bt_1 hn]
  by_cases e : j = n
  · subst e; rw [dT rfl, hp, dT (by omega : j < j + 1), Bool.or_true]; rfl
  · rw [dF e, Bool.or_false]
    by_cases e2 : j < n
    · rw [dT e2, dT (by omega : j < n + 1)]
    · rw [dF e2, dF (by omega : ¬ j < n + 1)]
theorem no_msk {n : Nat} {p : Nat → Bool} (hp : p n = false) : msk (n + 1) p = msk n p := by rw [msk_s, hp]; rfl
theorem g_end {D : Gh} (w : WF D) {k : Nat} (hk : k ≤ 8) : decide (nI (D 0 5) ≤ nI k) = decide (D 0 5 ≤ k) := by
  have := f_nG w
  simp only [w_le (show D 0 5 < 2147483648 by omega) (show k < 2147483648 by omega)]
theorem g_go {D : Gh} (w : WF D) {k : Nat} (hk : k < D 0 5) : decide (nI (D 0 5) ≤ nI k) = false := by
  have := f_nG w
  rw [g_end w (by omega), dF (by omega)]
theorem g_stop {D : Gh} (w : WF D) : decide (nI (D 0 5) ≤ nI (D 0 5)) = true := by
  rw [g_end w (f_nG w), dT (Nat.le_refl _)]
theorem btz (x : Int32) {g : Nat} (hg : g < 32) : decide ((x >>> (nI g &&& 31)) &&& 1 = 0) = !bt x g := by rw [bt_sh x hg, z_0]
theorem bt_m1 {j : Nat} (hj : j < 32) : bt (-1 : Int32) j = true := by
  have : ∀ j : Fin 32, bt (-1 : Int32) j.val = true := by decide
  exact this ⟨j, hj⟩
theorem bt_xm (x : Int32) {j : Nat} (hj : j < 32) : bt (x ^^^ (-1 : Int32)) j = !bt x j := by rw [bt_xor, bt_m1 hj, Bool.xor_true]
theorem bit_0 (x : Int32) {g : Nat} (hg : g < 32) : decide (x &&& ((1 : Int32) <<< (nI g &&& 31)) = 0) = !bt x g := by
  cases hb : bt x g with
  | true =>
    apply dF
    intro e
    have := congrArg (fun y => bt y g) e
    rw [bt_and, hb, bt_1 hg, dT rfl] at this
    have h0 : bt (0 : Int32) g = false := BitVec.getLsbD_zero
    rw [h0] at this; cases this
  | false =>
    apply dT
    apply i_ext
    intro j hj
    rw [bt_and, bt_1 hg]
    have h0 : bt (0 : Int32) j = false := BitVec.getLsbD_zero
    rw [h0]
    by_cases e : j = g
    · rw [e, hb]; rfl
    · rw [dF e, Bool.and_false]
def fre (D : Gh) (d : Nat) (p : Nat → Bool) : Nat := cnt (D 0 5) (fun k => p k && decide (D 12 k = 0) && !tur D k (D 15 k + d))
theorem c63 {h : A_H} {T : Nat} {D : Gh} (L : Ly h) (hT : isT T) (w : WF D) (c : CT h T D) {d : Nat} (hd : d ≤ 1000) (x : Int32) : C 63 [.ref T, .int (nI d), .int x] h = some (some (some (.int (nI (fre D d (bt x))))), h) := by
  rw [e63, b63_0]
  refine (loop_ix (fun k => R 63 4 [some (.ref T), some (.int (nI d)), some (.int x), some (.int (nI (cnt k (fun k => bt x k && decide (D 12 k = 0) && !tur D k (D 15 k + d))))), some (.int (nI k))] [] h) (D 0 5) ?_).trans ?_
  · intro g hg
    have h8 : g < 8 := Nat.lt_of_lt_of_le hg (f_nG w)
    have hk := nI_c w hg (show 0 < 100 by decide)
    rw [show nI 0 = 0 from rfl] at hk
    rw [b63_4]
    simp only [cond_true, decide_true, cond_false, Bool.and_true, Bool.true_and, Bool.and_self, Bool.and_false, Bool.false_and, Bool.not_true, Bool.not_false, Bool.or_true, Bool.true_or, Bool.or_false, Bool.false_or, is_some, gd_some, bk_v, bk_u, t_O L hT, t_P9 L hT, t_P10 L hT, t_P11 L hT, t_P12 L hT, t_P13 L hT, t_P14 L hT, t_OC L hT, t_C1 L hT, t_C2 L hT, t_C3 L hT, c_s5 c, g_go w hg, btz x (show g < 32 by omega), t_AG L hT h8, w_cl (show g < 2147483648 by omega), t_EG L hT h8, t_OG L hT h8, c_kind c hg, hk, c59 L hT w c hg hd, b63_24, z_0, w_s, cnt_s]
    cases bt x g <;> cases decide (D 12 g = 0) <;> cases tur D g (D 15 g + d) <;> rfl
  · rw [b63_4]
    simp only [cond_true, decide_true, cond_false, Bool.and_true, Bool.true_and, Bool.and_self, Bool.and_false, Bool.false_and, Bool.not_true, Bool.not_false, Bool.or_true, Bool.true_or, Bool.or_false, Bool.false_or, is_some, gd_some, bk_v, bk_u, t_O L hT, t_P9 L hT, t_P10 L hT, t_P11 L hT, t_P12 L hT, t_P13 L hT, t_P14 L hT, t_OC L hT, t_C1 L hT, t_C2 L hT, t_C3 L hT, c_s5 c, g_stop w]
    rfl
def smr (D : Gh) (d g : Nat) : Nat := bif decide (D 12 g = 3) then (D 16 g + (D 15 g + d) / 10) * 2 else D 16 g + (D 15 g + d) / 10
def sme (D : Gh) (d g : Nat) (p : Nat → Bool) (more : Nat) : Nat := smr D d g - 2 * (fre D d (fun k => p k && decide (D 14 k = D 14 g) && !decide (k = g)) + more)
theorem smr_le {D : Gh} (w : WF D) {g d : Nat} (hg : g < D 0 5) (hd : d ≤ 1000) : smr D d g ≤ 300 := by
  have := f_age w hg
  have := f_wei w hg
  unfold smr
  cases decide (D 12 g = 3)
  · rw [cond_false]; omega
  · rw [cond_true]; omega
theorem fre_le {D : Gh} (w : WF D) (d : Nat) (p : Nat → Bool) : fre D d p ≤ 8 := Nat.le_trans (cnt_le _ _) (f_nG w)
theorem cnt_congr {n : Nat} {p q : Nat → Bool} (h : ∀ k, k < n → p k = q k) : cnt n p = cnt n q := itr_congr (fun k a hk => by rw [h k hk]) 0
theorem msk_congr {n : Nat} {p q : Nat → Bool} (h : ∀ k, k < n → p k = q k) : msk n p = msk n q := itr_congr (fun k a hk => by rw [h k hk]) 0
theorem sm_congr {n : Nat} {f g : Nat → Nat} (h : ∀ k, k < n → f k = g k) : sm n f = sm n g := itr_congr (fun k a hk => by rw [h k hk]) 0
theorem fre_congr {D : Gh} {d : Nat} {p q : Nat → Bool} (h : ∀ k, k < D 0 5 → p k = q k) : fre D d p = fre D d q := cnt_congr (fun k hk => by rw [h k hk])
theorem sme_congr {D : Gh} {d g m : Nat} {p q : Nat → Bool} (h : ∀ k, k < D 0 5 → p k = q k) : sme D d g p m = sme D d g q m := by
  unfold sme; rw [fre_congr (fun k hk => by rw [h k hk])]
theorem w_mx {a b : Nat} (ha : a < 1073741824) (hb : b < 1073741824) : (if (0 : Int32) < nI a - nI b then nI a - nI b else 0) = nI (a - b) := by
  by_cases h : b < a
  · rw [w_sub (by omega), if_pos]
    exact (w_lt (a := 0) (by decide) (by omega)).mpr (by omega)
  · have e : a - b = 0 := by omega
    rw [e, if_neg]
    · rfl
    · intro c
      have hs : (nI a - nI b).toInt = (a : Int) - b := by
        rw [Int32.toInt_sub, w_int (by omega), w_int (by omega), Int.bmod_eq_of_le] <;> omega
      rw [Int32.lt_iff_toInt_lt, hs] at c
      have : (0 : Int32).toInt = 0 := rfl
      omega
theorem c62 {h : A_H} {T : Nat} {D : Gh} (L : Ly h) (hT : isT T) (w : WF D) (c : CT h T D) {g : Nat} (hg : g < D 0 5) {d : Nat} (hd : d ≤ 1000) (x : Int32) : C 62 [.ref T, .int (nI g), .int (nI d), .int x] h = some (some (some (.int (nI (sme D d g (bt x) 0)))), h) := by
  have h8 : g < 8 := Nat.lt_of_lt_of_le hg (f_nG w)
  have ho := f_own w hg
  have ho4 : D 14 g < 4 := Nat.lt_of_lt_of_le ho (f_nt w)
  have hs := smr_le w hg hd
  rw [e62, b62_0]
  simp only [cond_true, decide_true, cond_false, Bool.and_true, Bool.true_and, Bool.and_self, Bool.and_false, Bool.false_and, Bool.not_true, Bool.not_false, Bool.or_true, Bool.true_or, Bool.or_false, Bool.false_or, is_some, gd_some, bk_v, bk_u, t_O L hT, t_P9 L hT, t_P10 L hT, t_P11 L hT, t_P12 L hT, t_P13 L hT, t_P14 L hT, t_OC L hT, t_C1 L hT, t_C2 L hT, t_C3 L hT, t_AG L hT h8, w_cl (show g < 2147483648 by omega), t_EG L hT h8, t_OG L hT h8, c58 L hT w c hg hd, b62_11, c_kind c hg, c_wei c hg, c_owner c hg, t_At L hT ho4, w_cl (show D 14 g < 2147483648 by omega), t_Et L hT ho4, t_Ot L hT ho4, c_own c ho4, c63 L hT w c hd, b62_38]
  rw [show (3 : Int32) = nI 3 from rfl, nI_c w hg (by decide), show (2 : Int32) = nI 2 from rfl]
  have hf : fre D d (bt ((x &&& nI (own D (D 14 g))) &&& (((1 : Int32) <<< (nI g &&& 31)) ^^^ (-1 : Int32)))) = fre D d (fun k => bt x k && decide (D 14 k = D 14 g) && !decide (k = g)) := by
    apply fre_congr
    intro k hk
    have hk8 := Nat.lt_of_lt_of_le hk (f_nG w)
    rw [bt_and, bt_and, own, bt_msk _ (by omega), dT hk, Bool.true_and, bt_xm _ (by omega), bt_1 (by omega)]
  rw [hf]
  have hb := fre_le w d (fun k => bt x k && decide (D 14 k = D 14 g) && !decide (k = g))
  unfold sme
  unfold smr at hs ⊢
  rw [Nat.add_zero]
  simp only [nI_add, w_mul]
  revert hs
  cases decide (D 12 g = 3) <;> intro hs
  · rw [cond_false] at hs
    simp only [Bool.not_false, cond_true, cond_false]
    rw [w_mx (by omega) (by omega)]
  · rw [cond_true] at hs
    simp only [Bool.not_true, cond_true, cond_false]
    rw [w_mx (by omega) (by omega)]
theorem loop_dn {α β : Type} (X : Nat → α → β) (n : Nat) (r : β) (hs : ∀ k a, k < n → ∃ a', X k a = X (k + 1) a') (he : ∀ a, X n a = r) (a : α) : X 0 a = r := by
  have key : ∀ k, k ≤ n → ∃ a', X 0 a = X k a' := by
    intro k
    induction k with
    | zero => intro _; exact ⟨a, rfl⟩
    | succ k ih =>
      intro hk
      obtain ⟨a', e⟩ := ih (by omega)
      obtain ⟨a2, e2⟩ := hs k a' (by omega)
      exact ⟨a2, e.trans e2⟩
  obtain ⟨a', e⟩ := key n (Nat.le_refl n)
  exact e.trans (he a')
theorem c65 {h : A_H} {T : Nat} {D : Gh} (L : Ly h) (hT : isT T) (w : WF D) (c : CT h T D) (x : Int32) : C 65 [.ref T, .int x] h = some (some (some (.int (nI (msk (D 0 5) (fun g => decide (byI D g = x)))))), h) := by
  rw [e65, b65_0]
  refine (loop_ix (fun k => R 65 4 [some (.ref T), some (.int x), some (.int (nI (msk k (fun g => decide (byI D g = x))))), some (.int (nI k))] [] h) (D 0 5) ?_).trans ?_
  · intro g hg
    have h8 : g < 8 := Nat.lt_of_lt_of_le hg (f_nG w)
    rw [b65_4]
    simp only [cond_true, decide_true, cond_false, Bool.and_true, Bool.true_and, Bool.and_self, Bool.and_false, Bool.false_and, Bool.not_true, Bool.not_false, Bool.or_true, Bool.true_or, Bool.or_false, Bool.false_or, is_some, gd_some, bk_v, bk_u, t_O L hT, t_P9 L hT, t_P10 L hT, t_P11 L hT, t_P12 L hT, t_P13 L hT, t_P14 L hT, t_OC L hT, t_C1 L hT, t_C2 L hT, t_C3 L hT, c_s5 c, g_go w hg, t_AG L hT h8, w_cl (show g < 2147483648 by omega), t_EG L hT h8, t_OG L hT h8, c_by c hg, w_s]
    by_cases e : byI D g = x
    · rw [dT e, or_msk (by omega) (dT e)]; rfl
    · rw [dF e, no_msk (dF e)]; rfl
  · rw [b65_4]
    simp only [cond_true, decide_true, cond_false, Bool.and_true, Bool.true_and, Bool.and_self, Bool.and_false, Bool.false_and, Bool.not_true, Bool.not_false, Bool.or_true, Bool.true_or, Bool.or_false, Bool.false_or, is_some, gd_some, bk_v, bk_u, t_O L hT, t_P9 L hT, t_P10 L hT, t_P11 L hT, t_P12 L hT, t_P13 L hT, t_P14 L hT, t_OC L hT, t_C1 L hT, t_C2 L hT, t_C3 L hT, c_s5 c, g_stop w]
def ex (n : Nat) (p : Nat → Bool) : Bool := itr (fun k a => a || p k) n false
theorem ex_s (n : Nat) (p : Nat → Bool) : ex (n + 1) p = (ex n p || p n) := rfl
theorem ex_congr {n : Nat} {p q : Nat → Bool} (h : ∀ k, k < n → p k = q k) : ex n p = ex n q := itr_congr (fun k a hk => by rw [h k hk]) false
def ows (D : Gh) (x : Int32) (d t : Nat) (g : Nat) : Bool := decide (byI D g = x) && !tur D g (D 15 g + d) && decide (D 14 g = t)
theorem c66 {h : A_H} {T : Nat} {D : Gh} (L : Ly h) (hT : isT T) (w : WF D) (c : CT h T D) (x : Int32) {d : Nat} (hd : d ≤ 1000) : C 66 [.ref T, .int x, .int (nI d)] h = some (some (some (.int (nI (msk 4 (fun t => ex (D 0 5) (ows D x d t)))))), h) := by
  rw [e66, b66_0]
  refine (loop_ix (fun k => R 66 4 [some (.ref T), some (.int x), some (.int (nI d)), some (.int (nI (msk 4 (fun t => ex k (ows D x d t))))), some (.int (nI k))] [] h) (D 0 5) ?_).trans ?_
  · intro g hg
    have h8 : g < 8 := Nat.lt_of_lt_of_le hg (f_nG w)
    have ho := f_own w hg
    have ho4 : D 14 g < 4 := Nat.lt_of_lt_of_le ho (f_nt w)
    rw [b66_4]
    simp only [cond_true, decide_true, cond_false, Bool.and_true, Bool.true_and, Bool.and_self, Bool.and_false, Bool.false_and, Bool.not_true, Bool.not_false, Bool.or_true, Bool.true_or, Bool.or_false, Bool.false_or, is_some, gd_some, bk_v, bk_u, t_O L hT, t_P9 L hT, t_P10 L hT, t_P11 L hT, t_P12 L hT, t_P13 L hT, t_P14 L hT, t_OC L hT, t_C1 L hT, t_C2 L hT, t_C3 L hT, c_s5 c, g_go w hg, t_AG L hT h8, w_cl (show g < 2147483648 by omega), t_EG L hT h8, t_OG L hT h8, c_by c hg, w_s, c59 L hT w c hg hd, b66_19, c_owner c hg, z_0, Bool.not_not]
    have hno : (decide (byI D g = x) && !tur D g (D 15 g + d)) = false → msk 4 (fun t => ex (g + 1) (ows D x d t)) = msk 4 (fun t => ex g (ows D x d t)) := by
      intro e
      apply msk_congr
      intro t _
      rw [ex_s, ows, e, Bool.false_and, Bool.or_false]
    by_cases e : byI D g = x
    · cases et : tur D g (D 15 g + d) with
      | true => rw [hno (by rw [et, Bool.not_true, Bool.and_false]), dT e]; rfl
      | false =>
        have hor : nI (msk 4 (fun t => ex g (ows D x d t))) ||| ((1 : Int32) <<< (nI (D 14 g) &&& 31)) = nI (msk 4 (fun t => ex (g + 1) (ows D x d t))) := by
          apply i_ext
          intro j hj
          rw [bt_or, bt_msk _ hj, bt_msk _ hj, bt_1 (by omega), ex_s]
          rw [show ows D x d j g = decide (D 14 g = j) by rw [ows, dT e, et]; rfl]
          by_cases e4 : j < 4
          · rw [dT e4]
            simp only [Bool.true_and]
            rw [show decide (j = D 14 g) = decide (D 14 g = j) from decide_eq_decide.mpr eq_comm]
          · rw [dF e4, dF (by omega : ¬ j = D 14 g)]; rfl
        rw [hor, dT e]; rfl
    · rw [hno (by rw [dF e]; rfl), dF e]; rfl
  · rw [b66_4]
    simp only [cond_true, decide_true, cond_false, Bool.and_true, Bool.true_and, Bool.and_self, Bool.and_false, Bool.false_and, Bool.not_true, Bool.not_false, Bool.or_true, Bool.true_or, Bool.or_false, Bool.false_or, is_some, gd_some, bk_v, bk_u, t_O L hT, t_P9 L hT, t_P10 L hT, t_P11 L hT, t_P12 L hT, t_P13 L hT, t_P14 L hT, t_OC L hT, t_C1 L hT, t_C2 L hT, t_C3 L hT, c_s5 c, g_stop w]
theorem c67 {h : A_H} {T : Nat} {D : Gh} (L : Ly h) (hT : isT T) (w : WF D) (c : CT h T D) (x : Int32) {d : Nat} (hd : d ≤ 1000) : C 67 [.ref T, .int x, .int (nI d)] h = some (some (some (.int (nI (sm (D 0 5) (fun g => bif bt x g then wor D g d else 0))))), h) := by
  rw [e67, b67_0]
  refine (loop_ix (fun k => R 67 4 [some (.ref T), some (.int x), some (.int (nI d)), some (.int (nI (sm k (fun g => bif bt x g then wor D g d else 0)))), some (.int (nI k))] [] h) (D 0 5) ?_).trans ?_
  · intro g hg
    have h8 : g < 8 := Nat.lt_of_lt_of_le hg (f_nG w)
    rw [b67_4]
    simp only [cond_true, decide_true, cond_false, Bool.and_true, Bool.true_and, Bool.and_self, Bool.and_false, Bool.false_and, Bool.not_true, Bool.not_false, Bool.or_true, Bool.true_or, Bool.or_false, Bool.false_or, is_some, gd_some, bk_v, bk_u, t_O L hT, t_P9 L hT, t_P10 L hT, t_P11 L hT, t_P12 L hT, t_P13 L hT, t_P14 L hT, t_OC L hT, t_C1 L hT, t_C2 L hT, t_C3 L hT, c_s5 c, g_go w hg, btz x (show g < 32 by omega), c60 L hT w c hg hd, b67_19, w_s, sm_s, nI_add]
    cases bt x g <;> rfl
  · rw [b67_4]
    simp only [cond_true, decide_true, cond_false, Bool.and_true, Bool.true_and, Bool.and_self, Bool.and_false, Bool.false_and, Bool.not_true, Bool.not_false, Bool.or_true, Bool.true_or, Bool.or_false, Bool.false_or, is_some, gd_some, bk_v, bk_u, t_O L hT, t_P9 L hT, t_P10 L hT, t_P11 L hT, t_P12 L hT, t_P13 L hT, t_P14 L hT, t_OC L hT, t_C1 L hT, t_C2 L hT, t_C3 L hT, c_s5 c, g_stop w]
def dus (D : Gh) (l d : Nat) (p : Nat → Bool) : Nat := sm (D 0 5) (fun g => bif p g then dut D l g d else 0)
theorem c68 {h : A_H} {T : Nat} {D : Gh} (L : Ly h) (hT : isT T) (w : WF D) (c : CT h T D) (x : Int32) {d : Nat} (hd : d ≤ 1000) (l : Bool) : C 68 [.ref T, .int x, .int (nI d), .int (bI l)] h = some (some (some (.int (nI (dus D (bif l then 1 else 0) d (bt x))))), h) := by
  rw [e68, b68_0]
  refine (loop_ix (fun k => R 68 4 [some (.ref T), some (.int x), some (.int (nI d)), some (.int (bI l)), some (.int (nI (sm k (fun g => bif bt x g then dut D (bif l then 1 else 0) g d else 0)))), some (.int (nI k))] [] h) (D 0 5) ?_).trans ?_
  · intro g hg
    have h8 : g < 8 := Nat.lt_of_lt_of_le hg (f_nG w)
    rw [b68_4]
    simp only [cond_true, decide_true, cond_false, Bool.and_true, Bool.true_and, Bool.and_self, Bool.and_false, Bool.false_and, Bool.not_true, Bool.not_false, Bool.or_true, Bool.true_or, Bool.or_false, Bool.false_or, is_some, gd_some, bk_v, bk_u, t_O L hT, t_P9 L hT, t_P10 L hT, t_P11 L hT, t_P12 L hT, t_P13 L hT, t_P14 L hT, t_OC L hT, t_C1 L hT, t_C2 L hT, t_C3 L hT, c_s5 c, g_go w hg, btz x (show g < 32 by omega), c61 L hT w c hg hd, b68_20, w_s, sm_s, nI_add]
    cases bt x g <;> rfl
  · rw [b68_4]
    simp only [cond_true, decide_true, cond_false, Bool.and_true, Bool.true_and, Bool.and_self, Bool.and_false, Bool.false_and, Bool.not_true, Bool.not_false, Bool.or_true, Bool.true_or, Bool.or_false, Bool.false_or, is_some, gd_some, bk_v, bk_u, t_O L hT, t_P9 L hT, t_P10 L hT, t_P11 L hT, t_P12 L hT, t_P13 L hT, t_P14 L hT, t_OC L hT, t_C1 L hT, t_C2 L hT, t_C3 L hT, c_s5 c, g_stop w]
    rfl
def fnd (D : Gh) (d n : Nat) (p q : Nat → Bool) (m : Nat) (g : Nat) : Bool := p g && q g && decide (n ≤ sme D d g p m)
theorem sme_le {D : Gh} (w : WF D) {g d : Nat} (hg : g < D 0 5) (hd : d ≤ 1000) (p : Nat → Bool) (m : Nat) : sme D d g p m ≤ 300 := Nat.le_trans (Nat.sub_le _ _) (smr_le w hg hd)
theorem c69 {h : A_H} {T : Nat} {D : Gh} (L : Ly h) (hT : isT T) (w : WF D) (c : CT h T D) {k : Nat} (hk : k < D 0 4) {d : Nat} (hd : d ≤ 1000) (x y : Int32) : C 69 [.ref T, .int (nI k), .int (nI d), .int x, .int y] h = some (some (some (.int (nI (msk (D 0 5) (fnd D d (D 9 k) (bt x) (bt y) 0))))), h) := by
  have hk3 : k < 3 := Nat.lt_of_lt_of_le hk (f_ng w)
  have hnose := f_nose w hk
  rw [e69, b69_0]
  refine loop_dn (fun g l => R 69 4 [some (.ref T), some (.int (nI k)), some (.int (nI d)), some (.int x), some (.int y), some (.int (nI (msk g (fnd D d (D 9 k) (bt x) (bt y) 0)))), some (.int (nI g)), l] [] h) (D 0 5) _ ?_ ?_ _
  · intro g l hg
    have h8 : g < 8 := Nat.lt_of_lt_of_le hg (f_nG w)
    have hs := sme_le w hg hd (bt x) 0
    rw [b69_4]
    simp only [cond_true, decide_true, cond_false, Bool.and_true, Bool.true_and, Bool.and_self, Bool.and_false, Bool.false_and, Bool.not_true, Bool.not_false, Bool.or_true, Bool.true_or, Bool.or_false, Bool.false_or, is_some, gd_some, bk_v, bk_u, t_O L hT, t_P9 L hT, t_P10 L hT, t_P11 L hT, t_P12 L hT, t_P13 L hT, t_P14 L hT, t_OC L hT, t_C1 L hT, t_C2 L hT, t_C3 L hT, c_s5 c, g_go w hg, bit_0 (x &&& y) (show g < 32 by omega), c62 L hT w c hg hd, b69_27, t_Ag L hT hk3, w_cl (show k < 2147483648 by omega), t_Eg L hT hk3, t_Og L hT hk3, c_nose c hk, w_s, bt_and]
    cases e : (bt x g && bt y g) with
    | false => exact ⟨_, by rw [no_msk (by rw [fnd, e]; rfl)]; rfl⟩
    | true =>
      by_cases e2 : D 9 k ≤ sme D d g (bt x) 0
      · exact ⟨_, by rw [dF (by rw [w_lt (by omega) (by omega)]; omega), or_msk (by omega) (by rw [fnd, e, dT e2]; rfl)]; rfl⟩
      · exact ⟨_, by rw [dT (by rw [w_lt (by omega) (by omega)]; omega), no_msk (by rw [fnd, dF e2, Bool.and_false])]; rfl⟩
  · intro l
    rw [b69_4]
    simp only [cond_true, decide_true, cond_false, Bool.and_true, Bool.true_and, Bool.and_self, Bool.and_false, Bool.false_and, Bool.not_true, Bool.not_false, Bool.or_true, Bool.true_or, Bool.or_false, Bool.false_or, is_some, gd_some, bk_v, bk_u, t_O L hT, t_P9 L hT, t_P10 L hT, t_P11 L hT, t_P12 L hT, t_P13 L hT, t_P14 L hT, t_OC L hT, t_C1 L hT, t_C2 L hT, t_C3 L hT, c_s5 c, g_stop w]
theorem dut_le {D : Gh} (w : WF D) {g d : Nat} (hg : g < D 0 5) (hd : d ≤ 1000) (l : Bool) : dut D (bif l then 1 else 0) g d ≤ 10530 := by
  unfold dut
  by_cases e0 : D 12 g = 0
  · rw [dT e0]; exact Nat.zero_le _
  · have hm := f_by w hg e0
    have h1 := f_rate w hm
    have h2 := f_oth w hm
    have h3 := (f_wei w hg).2
    have h4 := f_age w hg
    cases (decide (D 12 g = 0) || tur D g (D 15 g + d))
    · rw [cond_false]
      have hr : D (1 + bif l then 1 else 0) (D 13 g) ≤ 9 := by cases l; exact h1; exact h2
      have ht : (D 15 g + d) / 10 ≤ 130 := by omega
      exact Nat.le_trans (Nat.mul_le_mul (Nat.mul_le_mul h3 hr) ht) (by decide)
    · exact Nat.zero_le _
theorem dus_le {D : Gh} (w : WF D) {d : Nat} (hd : d ≤ 1000) (l : Bool) (p : Nat → Bool) : dus D (bif l then 1 else 0) d p ≤ 84240 := by
  have h8 := f_nG w
  refine Nat.le_trans (sm_le (b := 10530) ?_) (Nat.le_trans (Nat.mul_le_mul_right _ h8) (by decide))
  intro g hg
  cases p g
  · exact Nat.zero_le _
  · exact dut_le w hg hd l
def ask (D : Gh) (l d t : Nat) (z y : Nat → Bool) : Nat := 3 * dus D l d z + (dus D l d y - D 7 t)
theorem c70 {h : A_H} {T : Nat} {D : Gh} (L : Ly h) (hT : isT T) (w : WF D) (c : CT h T D) {t : Nat} (ht : t < D 0 3) (z y : Int32) {d : Nat} (hd : d ≤ 1000) (l : Bool) : C 70 [.ref T, .int (nI t), .int z, .int y, .int (nI d), .int (bI l)] h = some (some (some (.int (nI (ask D (bif l then 1 else 0) d t (bt z) (bt y))))), h) := by
  have ht4 : t < 4 := Nat.lt_of_lt_of_le ht (f_nt w)
  have h1 := dus_le w hd l (bt y)
  have h2 := f_all w ht
  rw [e70, b70_0]
  simp only [cond_true, decide_true, cond_false, Bool.and_true, Bool.true_and, Bool.and_self, Bool.and_false, Bool.false_and, Bool.not_true, Bool.not_false, Bool.or_true, Bool.true_or, Bool.or_false, Bool.false_or, is_some, gd_some, bk_v, bk_u, t_O L hT, t_P9 L hT, t_P10 L hT, t_P11 L hT, t_P12 L hT, t_P13 L hT, t_P14 L hT, t_OC L hT, t_C1 L hT, t_C2 L hT, t_C3 L hT, c68 L hT w c _ hd l, b70_5, t_At L hT ht4, w_cl (show t < 2147483648 by omega), t_Et L hT ht4, t_Ot L hT ht4, c_all c ht, b70_18]
  rw [w_mx (by omega) (by omega), show (3 : Int32) = nI 3 from rfl, w_mul, nI_add]
  rfl
theorem dus_congr {D : Gh} {l d : Nat} {p q : Nat → Bool} (h : ∀ k, k < D 0 5 → p k = q k) : dus D l d p = dus D l d q := sm_congr (fun k hk => by rw [h k hk])
theorem ask_congr {D : Gh} {l d t : Nat} {p q p' q' : Nat → Bool} (h : ∀ k, k < D 0 5 → p k = p' k) (h' : ∀ k, k < D 0 5 → q k = q' k) : ask D l d t p q = ask D l d t p' q' := by
  unfold ask; rw [dus_congr h, dus_congr h']
theorem fnd_congr {D : Gh} {d n m : Nat} {p q p' q' : Nat → Bool} (h : ∀ k, k < D 0 5 → p k = p' k) (h' : ∀ k, k < D 0 5 → q k = q' k) (g : Nat) (hg : g < D 0 5) : fnd D d n p q m g = fnd D d n p' q' m g := by
  unfold fnd; rw [h g hg, h' g hg, sme_congr h]
theorem c71 {h : A_H} {T : Nat} {D : Gh} (L : Ly h) (hT : isT T) (w : WF D) (c : CT h T D) {t k : Nat} (ht : t < D 0 3) (hk : k < D 0 4) {d : Nat} (hd : d ≤ 1000) (x y : Int32) (l : Bool) : C 71 [.ref T, .int (nI t), .int (nI k), .int (nI d), .int x, .int y, .int (bI l)] h = some (some (some (.int (nI (ask D (bif l then 1 else 0) d t (fnd D d (D 9 k) (bt x) (bt y) 0) (fun g => bt x g && !bt y g))))), h) := by
  rw [e71, b71_0]
  simp only [cond_true, decide_true, cond_false, Bool.and_true, Bool.true_and, Bool.and_self, Bool.and_false, Bool.false_and, Bool.not_true, Bool.not_false, Bool.or_true, Bool.true_or, Bool.or_false, Bool.false_or, is_some, gd_some, bk_v, bk_u, t_O L hT, t_P9 L hT, t_P10 L hT, t_P11 L hT, t_P12 L hT, t_P13 L hT, t_P14 L hT, t_OC L hT, t_C1 L hT, t_C2 L hT, t_C3 L hT, c69 L hT w c hk hd, b71_6, c70 L hT w c ht _ _ hd l, b71_18]
  rw [ask_congr (p' := fnd D d (D 9 k) (bt x) (bt y) 0) (q' := fun g => bt x g && !bt y g)]
  · intro g hg
    have h8 := Nat.lt_of_lt_of_le hg (f_nG w)
    rw [bt_msk _ (by omega), dT hg, Bool.true_and]
  · intro g hg
    have h8 := Nat.lt_of_lt_of_le hg (f_nG w)
    rw [bt_and, bt_xm _ (by omega)]
def opn (D : Gh) (i : Nat) : Bool := decide (D 10 (D 19 i) ≤ D 21 i) && decide (D 21 i ≤ D 11 (D 19 i))
theorem c72 {h : A_H} {T : Nat} {D : Gh} (L : Ly h) (hT : isT T) (w : WF D) (c : CT h T D) {i : Nat} (hi : i < D 0 6) : C 72 [.ref T, .ref (T + 29 + i)] h = some (some (some (.int (bI (opn D i)))), h) := by
  have h6 : i < 6 := Nat.lt_of_lt_of_le hi (f_nx w)
  have hg := f_gat w hi
  have hg3 : D 19 i < 3 := Nat.lt_of_lt_of_le hg (f_ng w)
  have h1 := f_op w hg
  have h2 := f_sh w hg
  have h3 := f_hour w hi
  rw [e72, b72_0]
  simp only [cond_true, decide_true, cond_false, Bool.and_true, Bool.true_and, Bool.and_self, Bool.and_false, Bool.false_and, Bool.not_true, Bool.not_false, Bool.or_true, Bool.true_or, Bool.or_false, Bool.false_or, is_some, gd_some, bk_v, bk_u, t_O L hT, t_P9 L hT, t_P10 L hT, t_P11 L hT, t_P12 L hT, t_P13 L hT, t_P14 L hT, t_OC L hT, t_C1 L hT, t_C2 L hT, t_C3 L hT, t_Ox L hT h6, c_gat c hi, t_Ag L hT hg3, w_cl (show D 19 i < 2147483648 by omega), t_Eg L hT hg3, t_Og L hT hg3, c_hour c hi, c_op c hg, c_sh c hg]
  unfold opn
  by_cases a : D 10 (D 19 i) ≤ D 21 i
  · rw [dF (by rw [w_lt (by omega) (by omega)]; omega), dT a, Bool.true_and]
    by_cases b : D 21 i ≤ D 11 (D 19 i)
    · rw [dF (by rw [w_lt (by omega) (by omega)]; omega), dT b]; rfl
    · rw [dT (by rw [w_lt (by omega) (by omega)]; omega), dF b]; rfl
  · rw [dT (by rw [w_lt (by omega) (by omega)]; omega), dF a]; rfl
def gai (D : Gh) (g d : Nat) : Int32 := bif decide (D 12 g = 0) then 0 else bif tur D g (D 15 g + d) then -(nI (D 16 g)) * (bif decide (D 4 (D 13 g) = 0) then 0 else nI (D 5 (D 13 g))) else nI (D 16 g) * ((bif decide (D 4 (D 13 g) = 0) then 0 else nI (D 6 (D 13 g))) - (bif decide (D 4 (D 13 g) = 0) then 0 else nI (D 5 (D 13 g)))) - nI (dut D 0 g d)
theorem c64 {h : A_H} {T : Nat} {D : Gh} (L : Ly h) (hT : isT T) (w : WF D) (c : CT h T D) {g : Nat} (hg : g < D 0 5) {d : Nat} (hd : d ≤ 1000) : C 64 [.ref T, .int (nI g), .int (nI d)] h = some (some (some (.int (gai D g d))), h) := by
  have h8 : g < 8 := Nat.lt_of_lt_of_le hg (f_nG w)
  rw [e64, b64_0]
  unfold gai
  have hk := nI_c w hg (show 0 < 100 by decide)
  rw [show nI 0 = 0 from rfl] at hk
  simp only [cond_true, decide_true, cond_false, Bool.and_true, Bool.true_and, Bool.and_self, Bool.and_false, Bool.false_and, Bool.not_true, Bool.not_false, Bool.or_true, Bool.true_or, Bool.or_false, Bool.false_or, is_some, gd_some, bk_v, bk_u, t_O L hT, t_P9 L hT, t_P10 L hT, t_P11 L hT, t_P12 L hT, t_P13 L hT, t_P14 L hT, t_OC L hT, t_C1 L hT, t_C2 L hT, t_C3 L hT, t_AG L hT h8, w_cl (show g < 2147483648 by omega), t_EG L hT h8, t_OG L hT h8, c_kind c hg, hk]
  by_cases e0 : D 12 g = 0
  · rw [dT e0]; rfl
  · have hm := f_by w hg e0
    have hm4 : D 13 g < 4 := Nat.lt_of_lt_of_le hm (f_nm w)
    have hp := f_pri w hm
    have h61 := c61 L hT w c hg hd false
    rw [bI_F, cond_false] at h61
    have hz : decide (nI (D 4 (D 13 g)) = 0) = decide (D 4 (D 13 g) = 0) := by
      rw [show (0 : Int32) = nI 0 from rfl]; simp only [w_eq (show D 4 (D 13 g) < 2147483648 by omega) (show 0 < 2147483648 by decide)]
    simp only [cond_true, decide_true, cond_false, Bool.and_true, Bool.true_and, Bool.and_self, Bool.and_false, Bool.false_and, Bool.not_true, Bool.not_false, Bool.or_true, Bool.true_or, Bool.or_false, Bool.false_or, is_some, gd_some, bk_v, bk_u, t_O L hT, t_P9 L hT, t_P10 L hT, t_P11 L hT, t_P12 L hT, t_P13 L hT, t_P14 L hT, t_OC L hT, t_C1 L hT, t_C2 L hT, t_C3 L hT, t_AG L hT h8, w_cl (show g < 2147483648 by omega), t_EG L hT h8, t_OG L hT h8, dF e0, c_by c hg, byI, t_Am L hT hm4, w_cl (show D 13 g < 2147483648 by omega), t_Em L hT hm4, t_Om L hT hm4, c_pri c hm, hz, c59 L hT w c hg hd, b64_36, z_0, c_wei c hg, h61, b64_54]
    by_cases e4 : D 4 (D 13 g) = 0
    · simp only [dT e4, cond_true]
      cases tur D g (D 15 g + d) <;> rfl
    · have e1 : D 4 (D 13 g) = 1 := by omega
      simp only [dF e4, cond_false, c_here c hm e1, c_there c hm e1]
      cases tur D g (D 15 g + d) <;> rfl
theorem y_124 {h : A_H} (L : Ly h) : isO h 124 13 = true := ly_O L (by decide) rfl
theorem mB_O {h : A_H} {B : Nat} (l : ML h B) : isO h B 12 = true := isO_of (by have := m_B l; omega) (m_sB l)
theorem mA_o {h : A_H} {B a N i : Nat} (l : ML h B) (ha : a < 25) (e : hsh h (B + a) = (100, N)) (hi : i < N) (hN : N ≤ 2000) : isA h (B + a) 0 (nI i) = true := isA_of (tg := 0) (by have := m_B l; omega) e hi hN
theorem mA_1 {h : A_H} {B i : Nat} (l : ML h B) (hi : i < 8) : isA h (B + 1) 0 (nI i) = true := mA_o l (by decide) (m_s11 l) hi (by decide)
theorem mA_2 {h : A_H} {B i : Nat} (l : ML h B) (hi : i < 4) : isA h (B + 2) 0 (nI i) = true := mA_o l (by decide) (m_s12 l) hi (by decide)
theorem mA_3 {h : A_H} {B i : Nat} (l : ML h B) (hi : i < 4) : isA h (B + 3) 0 (nI i) = true := mA_o l (by decide) (m_s13 l) hi (by decide)
theorem mA_4 {h : A_H} {B i : Nat} (l : ML h B) (hi : i < 4) : isA h (B + 4) 0 (nI i) = true := mA_o l (by decide) (m_s14 l) hi (by decide)
theorem mA_5 {h : A_H} {B i : Nat} (l : ML h B) (hi : i < 4) : isA h (B + 5) 0 (nI i) = true := mA_o l (by decide) (m_s15 l) hi (by decide)
theorem mA_6 {h : A_H} {B i : Nat} (l : ML h B) (hi : i < 4) : isA h (B + 6) 0 (nI i) = true := mA_o l (by decide) (m_s16 l) hi (by decide)
theorem mA_7 {h : A_H} {B i : Nat} (l : ML h B) (hi : i < 3) : isA h (B + 7) 0 (nI i) = true := mA_o l (by decide) (m_s17 l) hi (by decide)
theorem mA_8 {h : A_H} {B i : Nat} (l : ML h B) (hi : i < 3) : isA h (B + 8) 0 (nI i) = true := mA_o l (by decide) (m_s18 l) hi (by decide)
theorem mA_9 {h : A_H} {B i : Nat} (l : ML h B) (hi : i < 3) : isA h (B + 9) 0 (nI i) = true := mA_o l (by decide) (m_s19 l) hi (by decide)
theorem mA_10 {h : A_H} {B i : Nat} (l : ML h B) (hi : i < 8) : isA h (B + 10) 0 (nI i) = true := mA_o l (by decide) (m_s20 l) hi (by decide)
theorem mA_11 {h : A_H} {B i : Nat} (l : ML h B) (hi : i < 8) : isA h (B + 11) 0 (nI i) = true := mA_o l (by decide) (m_s21 l) hi (by decide)
theorem mA_12 {h : A_H} {B i : Nat} (l : ML h B) (hi : i < 8) : isA h (B + 12) 0 (nI i) = true := mA_o l (by decide) (m_s22 l) hi (by decide)
theorem mA_13 {h : A_H} {B i : Nat} (l : ML h B) (hi : i < 8) : isA h (B + 13) 0 (nI i) = true := mA_o l (by decide) (m_s23 l) hi (by decide)
theorem mA_14 {h : A_H} {B i : Nat} (l : ML h B) (hi : i < 8) : isA h (B + 14) 0 (nI i) = true := mA_o l (by decide) (m_s24 l) hi (by decide)
theorem mA_15 {h : A_H} {B i : Nat} (l : ML h B) (hi : i < 8) : isA h (B + 15) 0 (nI i) = true := mA_o l (by decide) (m_s25 l) hi (by decide)
theorem mA_16 {h : A_H} {B i : Nat} (l : ML h B) (hi : i < 6) : isA h (B + 16) 0 (nI i) = true := mA_o l (by decide) (m_s26 l) hi (by decide)
theorem mA_17 {h : A_H} {B i : Nat} (l : ML h B) (hi : i < 6) : isA h (B + 17) 0 (nI i) = true := mA_o l (by decide) (m_s27 l) hi (by decide)
theorem mA_18 {h : A_H} {B i : Nat} (l : ML h B) (hi : i < 6) : isA h (B + 18) 0 (nI i) = true := mA_o l (by decide) (m_s28 l) hi (by decide)
theorem mA_19 {h : A_H} {B i : Nat} (l : ML h B) (hi : i < 6) : isA h (B + 19) 0 (nI i) = true := mA_o l (by decide) (m_s29 l) hi (by decide)
theorem mA_20 {h : A_H} {B i : Nat} (l : ML h B) (hi : i < 5) : isA h (B + 20) 0 (nI i) = true := mA_o l (by decide) (m_s30 l) hi (by decide)
theorem mA_21 {h : A_H} {B i : Nat} (l : ML h B) (hi : i < 5) : isA h (B + 21) 0 (nI i) = true := mA_o l (by decide) (m_s31 l) hi (by decide)
def isV (V : Nat) : Prop := V = 126 ∨ V = 127
def WS (S : Nat → Nat) : Prop := S 17 ≤ 1000 ∧ (∀ g, g < 8 → S g ≤ 3) ∧ S 16 < 256
def RW (h : A_H) (V : Nat) (S : Nat → Nat) : Prop := ∀ j, j < 18 → hI h V j = nI (S j)
theorem v_A {h : A_H} {V j : Nat} (L : Ly h) (hV : isV V) (hj : j < 18) : isA h V 0 (nI j) = true := by
  rcases hV with rfl | rfl <;> exact ly_A L (by decide) rfl hj (by decide)
theorem v_17 {h : A_H} {V : Nat} (L : Ly h) (hV : isV V) : isA h V 0 (17 : Int32) = true := v_A L hV (j := 17) (by decide)
theorem v_16 {h : A_H} {V : Nat} (L : Ly h) (hV : isV V) : isA h V 0 (16 : Int32) = true := v_A L hV (j := 16) (by decide)
theorem i_17 : (17 : Int32).toNatClampNeg = 17 := by decide
theorem i_16 : (16 : Int32).toNatClampNeg = 16 := by decide
theorem rw_17 {h : A_H} {V : Nat} {S : Nat → Nat} (r : RW h V S) : hI h V 17 = nI (S 17) := r 17 (by decide)
theorem rw_16 {h : A_H} {V : Nat} {S : Nat → Nat} (r : RW h V S) : hI h V 16 = nI (S 16) := r 16 (by decide)
def has (D : Gh) (S : Nat → Nat) (t g : Nat) : Bool := decide (D 14 g = t) && decide (S g = 0)
theorem d161 (x : Int32) {g : Nat} (hg : g < 32) (h : A_H) : C 161 [.int x, .int (nI g)] h = some (some (some (.int (bI (bt x g)))), h) := by
  rw [e161, b161_0, bt_sh x hg, z_1]
  cases bt x g <;> rfl
theorem d203 {h : A_H} {B V : Nat} {D : Gh} {S : Nat → Nat} (L : Ly h) (hB : hP h 124 3 = some B) (l : ML h B) (hV : isV V) (w : WF D) (b : MB h B D) (ws : WS S) (r : RW h V S) {g : Nat} (hg : g < D 0 5) : C 203 [.ref 124, .ref V, .int (nI g)] h = some (some (some (.int (nI (D 15 g + S 17)))), h) := by
  have h8 : g < 8 := Nat.lt_of_lt_of_le hg (f_nG w)
  rw [e203, b203_0]
  simp only [cond_true, cond_false, decide_true, Bool.and_true, Bool.true_and, Bool.and_self, Bool.and_false, Bool.false_and, Bool.not_true, Bool.not_false, Bool.or_true, Bool.true_or, Bool.or_false, Bool.false_or, is_some, gd_some, bk_v, bk_u, hB, y_124 L, mB_O l, m_p11 l, m_p12 l, m_p13 l, m_p14 l, m_p15 l, m_p16 l, m_p17 l, m_p18 l, m_p19 l, m_p20 l, m_p21 l, m_p22 l, m_p23 l, m_p24 l, m_p25 l, m_p26 l, m_p27 l, m_p28 l, m_p29 l, m_p30 l, m_p31 l, m_p32 l, m_p33 l, m_p34 l, v_17 L hV, v_16 L hV, i_17, i_16, rw_17 r, rw_16 r, mA_10 l h8, mA_11 l h8, mA_12 l h8, mA_13 l h8, mA_14 l h8, mA_15 l h8, w_cl (show g < 2147483648 by omega), b_age b hg, nI_add]
theorem d152 {h : A_H} {B V : Nat} {D : Gh} {S : Nat → Nat} (L : Ly h) (hB : hP h 124 3 = some B) (l : ML h B) (hV : isV V) (w : WF D) (b : MB h B D) (ws : WS S) (r : RW h V S) {g : Nat} (hg : g < D 0 5) {a : Nat} (ha : a ≤ 2000) : C 152 [.ref B, .int (nI g), .int (nI a)] h = some (some (some (.int (bI (tur D g a)))), h) := by
  have h8 : g < 8 := Nat.lt_of_lt_of_le hg (f_nG w)
  rw [e152, b152_0]
  have hk := nI_c w hg (show 0 < 100 by decide)
  have hk4 := nI_c w hg (show 4 < 100 by decide)
  rw [show nI 0 = 0 from rfl] at hk
  rw [show nI 4 = 4 from rfl] at hk4
  unfold tur tks
  simp only [cond_true, cond_false, decide_true, Bool.and_true, Bool.true_and, Bool.and_self, Bool.and_false, Bool.false_and, Bool.not_true, Bool.not_false, Bool.or_true, Bool.true_or, Bool.or_false, Bool.false_or, is_some, gd_some, bk_v, bk_u, hB, y_124 L, mB_O l, m_p11 l, m_p12 l, m_p13 l, m_p14 l, m_p15 l, m_p16 l, m_p17 l, m_p18 l, m_p19 l, m_p20 l, m_p21 l, m_p22 l, m_p23 l, m_p24 l, m_p25 l, m_p26 l, m_p27 l, m_p28 l, m_p29 l, m_p30 l, m_p31 l, m_p32 l, m_p33 l, m_p34 l, mA_10 l h8, mA_11 l h8, mA_12 l h8, mA_13 l h8, mA_14 l h8, mA_15 l h8, w_cl (show g < 2147483648 by omega), b_kind b hg, hk, hk4]
  by_cases e4 : D 12 g = 4
  · rw [dT e4]; rfl
  · by_cases e0 : D 12 g = 0
    · simp only [dF e4, dT e0, cond_true, cond_false, decide_true, Bool.and_true, Bool.true_and, Bool.and_self, Bool.and_false, Bool.false_and, Bool.not_true, Bool.not_false, Bool.or_true, Bool.true_or, Bool.or_false, Bool.false_or, is_some, gd_some, bk_v, bk_u]
      rw [show (3 : Int32) = nI 3 from rfl]
      by_cases e3 : 3 < a
      · rw [dT e3, dF (by rw [w_le (by omega) (by omega)]; omega)]; rfl
      · rw [dF e3, dT (by rw [w_le (by omega) (by omega)]; omega)]; rfl
    · have hm := f_by w hg e0
      have hm4 : D 13 g < 4 := Nat.lt_of_lt_of_le hm (f_nm w)
      have hk3 := f_keeps w hm
      simp only [dF e4, dF e0, cond_true, cond_false, decide_true, Bool.and_true, Bool.true_and, Bool.and_self, Bool.and_false, Bool.false_and, Bool.not_true, Bool.not_false, Bool.or_true, Bool.true_or, Bool.or_false, Bool.false_or, is_some, gd_some, bk_v, bk_u, b_by b hg, byI, mA_2 l hm4, w_cl (show D 13 g < 2147483648 by omega), b_keeps b hm]
      by_cases e3 : D 3 (D 13 g) < a
      · rw [dT e3, dF (by rw [w_le (by omega) (by omega)]; omega)]; rfl
      · rw [dF e3, dT (by rw [w_le (by omega) (by omega)]; omega)]; rfl
theorem d204 {h : A_H} {B V : Nat} {D : Gh} {S : Nat → Nat} (L : Ly h) (hB : hP h 124 3 = some B) (l : ML h B) (hV : isV V) (w : WF D) (b : MB h B D) (ws : WS S) (r : RW h V S) {g : Nat} (hg : g < D 0 5) : C 204 [.ref 124, .ref V, .int (nI g)] h = some (some (some (.int (bI (tur D g (D 15 g + S 17))))), h) := by
  have ha := f_age w hg
  have h17 := ws.1
  rw [e204, b204_0]
  simp only [cond_true, cond_false, decide_true, Bool.and_true, Bool.true_and, Bool.and_self, Bool.and_false, Bool.false_and, Bool.not_true, Bool.not_false, Bool.or_true, Bool.true_or, Bool.or_false, Bool.false_or, is_some, gd_some, bk_v, bk_u, hB, y_124 L, mB_O l, m_p11 l, m_p12 l, m_p13 l, m_p14 l, m_p15 l, m_p16 l, m_p17 l, m_p18 l, m_p19 l, m_p20 l, m_p21 l, m_p22 l, m_p23 l, m_p24 l, m_p25 l, m_p26 l, m_p27 l, m_p28 l, m_p29 l, m_p30 l, m_p31 l, m_p32 l, m_p33 l, m_p34 l, d203 L hB l hV w b ws r hg, b204_7, d152 L hB l hV w b ws r hg (show D 15 g + S 17 ≤ 2000 by omega), b204_8, z_b]
theorem s_ne {S : Nat → Nat} (ws : WS S) {g k : Nat} (h8 : g < 8) (hk : k < 100) : decide (nI (S g) = nI k) = decide (S g = k) := by
  have := ws.2.1 g h8
  simp only [w_eq (show S g < 2147483648 by omega) (show k < 2147483648 by omega)]
theorem d205 {h : A_H} {B V : Nat} {D : Gh} {S : Nat → Nat} (L : Ly h) (hB : hP h 124 3 = some B) (l : ML h B) (hV : isV V) (w : WF D) (b : MB h B D) (ws : WS S) (r : RW h V S) {g t : Nat} (hg : g < D 0 5) (ht : t < 100) : C 205 [.ref 124, .ref V, .int (nI t), .int (nI g)] h = some (some (some (.int (bI (has D S t g)))), h) := by
  have h8 : g < 8 := Nat.lt_of_lt_of_le hg (f_nG w)
  have ho := f_own w hg
  have h3 := f_nt w
  have hs := s_ne ws h8 (show 0 < 100 by decide)
  rw [show nI 0 = 0 from rfl] at hs
  have hot : decide (nI (D 14 g) = nI t) = decide (D 14 g = t) := by
    simp only [w_eq (show D 14 g < 2147483648 by omega) (show t < 2147483648 by omega)]
  rw [e205, b205_0]
  unfold has
  simp only [cond_true, cond_false, decide_true, Bool.and_true, Bool.true_and, Bool.and_self, Bool.and_false, Bool.false_and, Bool.not_true, Bool.not_false, Bool.or_true, Bool.true_or, Bool.or_false, Bool.false_or, is_some, gd_some, bk_v, bk_u, hB, y_124 L, mB_O l, m_p11 l, m_p12 l, m_p13 l, m_p14 l, m_p15 l, m_p16 l, m_p17 l, m_p18 l, m_p19 l, m_p20 l, m_p21 l, m_p22 l, m_p23 l, m_p24 l, m_p25 l, m_p26 l, m_p27 l, m_p28 l, m_p29 l, m_p30 l, m_p31 l, m_p32 l, m_p33 l, m_p34 l, mA_10 l h8, mA_11 l h8, mA_12 l h8, mA_13 l h8, mA_14 l h8, mA_15 l h8, w_cl (show g < 2147483648 by omega), b_owner b hg, Int32.zero_add, v_A L hV (show g < 18 by omega), r g (show g < 18 by omega), hs, hot]
  cases decide (D 14 g = t) <;> cases decide (S g = 0) <;> rfl
theorem d206 {h : A_H} {B V : Nat} {D : Gh} {S : Nat → Nat} (L : Ly h) (hB : hP h 124 3 = some B) (l : ML h B) (hV : isV V) (w : WF D) (b : MB h B D) (ws : WS S) (r : RW h V S) {g : Nat} (hg : g < D 0 5) : C 206 [.ref 124, .ref V, .int (nI g)] h = some (some (some (.int (nI (wor D g (S 17))))), h) := by
  have h8 : g < 8 := Nat.lt_of_lt_of_le hg (f_nG w)
  have ha := f_age w hg
  have h17 := ws.1
  have hk := nI_c w hg (show 2 < 100 by decide)
  rw [show nI 2 = 2 from rfl] at hk
  rw [e206, b206_0]
  simp only [cond_true, cond_false, decide_true, Bool.and_true, Bool.true_and, Bool.and_self, Bool.and_false, Bool.false_and, Bool.not_true, Bool.not_false, Bool.or_true, Bool.true_or, Bool.or_false, Bool.false_or, is_some, gd_some, bk_v, bk_u, hB, y_124 L, mB_O l, m_p11 l, m_p12 l, m_p13 l, m_p14 l, m_p15 l, m_p16 l, m_p17 l, m_p18 l, m_p19 l, m_p20 l, m_p21 l, m_p22 l, m_p23 l, m_p24 l, m_p25 l, m_p26 l, m_p27 l, m_p28 l, m_p29 l, m_p30 l, m_p31 l, m_p32 l, m_p33 l, m_p34 l, d204 L hB l hV w b ws r hg, b206_4, z_0]
  unfold wor
  cases tur D g (D 15 g + S 17) with
  | true => rfl
  | false =>
    simp only [cond_true, cond_false, decide_true, Bool.and_true, Bool.true_and, Bool.and_self, Bool.and_false, Bool.false_and, Bool.not_true, Bool.not_false, Bool.or_true, Bool.true_or, Bool.or_false, Bool.false_or, is_some, gd_some, bk_v, bk_u, hB, y_124 L, mB_O l, m_p11 l, m_p12 l, m_p13 l, m_p14 l, m_p15 l, m_p16 l, m_p17 l, m_p18 l, m_p19 l, m_p20 l, m_p21 l, m_p22 l, m_p23 l, m_p24 l, m_p25 l, m_p26 l, m_p27 l, m_p28 l, m_p29 l, m_p30 l, m_p31 l, m_p32 l, m_p33 l, m_p34 l, mA_10 l h8, mA_11 l h8, mA_12 l h8, mA_13 l h8, mA_14 l h8, mA_15 l h8, w_cl (show g < 2147483648 by omega), b_wor b hg, b_kind b hg, hk, d203 L hB l hV w b ws r hg, b206_23, Int32.add_zero]
    rw [show (10 : Int32) = nI 10 from rfl, w_div (by omega) (by decide), nI_add]
    cases decide (D 12 g = 2) <;> rfl
theorem d207 {h : A_H} {B V : Nat} {D : Gh} {S : Nat → Nat} (L : Ly h) (hB : hP h 124 3 = some B) (l : ML h B) (hV : isV V) (w : WF D) (b : MB h B D) (ws : WS S) (r : RW h V S) {g : Nat} (hg : g < D 0 5) (y : Bool) : C 207 [.ref 124, .ref V, .int (nI g), .int (bI y)] h = some (some (some (.int (nI (dut D (bif y then 1 else 0) g (S 17))))), h) := by
  have h8 : g < 8 := Nat.lt_of_lt_of_le hg (f_nG w)
  have ha := f_age w hg
  have h17 := ws.1
  have hk := nI_c w hg (show 0 < 100 by decide)
  rw [show nI 0 = 0 from rfl] at hk
  rw [e207, b207_0]
  unfold dut
  simp only [cond_true, cond_false, decide_true, Bool.and_true, Bool.true_and, Bool.and_self, Bool.and_false, Bool.false_and, Bool.not_true, Bool.not_false, Bool.or_true, Bool.true_or, Bool.or_false, Bool.false_or, is_some, gd_some, bk_v, bk_u, hB, y_124 L, mB_O l, m_p11 l, m_p12 l, m_p13 l, m_p14 l, m_p15 l, m_p16 l, m_p17 l, m_p18 l, m_p19 l, m_p20 l, m_p21 l, m_p22 l, m_p23 l, m_p24 l, m_p25 l, m_p26 l, m_p27 l, m_p28 l, m_p29 l, m_p30 l, m_p31 l, m_p32 l, m_p33 l, m_p34 l, mA_10 l h8, mA_11 l h8, mA_12 l h8, mA_13 l h8, mA_14 l h8, mA_15 l h8, w_cl (show g < 2147483648 by omega), b_kind b hg, hk, d204 L hB l hV w b ws r hg, b207_10]
  by_cases e0 : D 12 g = 0
  · rw [dT e0]; rfl
  · have hm := f_by w hg e0
    have hm4 : D 13 g < 4 := Nat.lt_of_lt_of_le hm (f_nm w)
    simp only [dF e0, cond_true, cond_false, decide_true, Bool.and_true, Bool.true_and, Bool.and_self, Bool.and_false, Bool.false_and, Bool.not_true, Bool.not_false, Bool.or_true, Bool.true_or, Bool.or_false, Bool.false_or, is_some, gd_some, bk_v, bk_u, z_0]
    cases tur D g (D 15 g + S 17) with
    | true => rfl
    | false =>
      simp only [cond_true, cond_false, decide_true, Bool.and_true, Bool.true_and, Bool.and_self, Bool.and_false, Bool.false_and, Bool.not_true, Bool.not_false, Bool.or_true, Bool.true_or, Bool.or_false, Bool.false_or, is_some, gd_some, bk_v, bk_u, hB, y_124 L, mB_O l, m_p11 l, m_p12 l, m_p13 l, m_p14 l, m_p15 l, m_p16 l, m_p17 l, m_p18 l, m_p19 l, m_p20 l, m_p21 l, m_p22 l, m_p23 l, m_p24 l, m_p25 l, m_p26 l, m_p27 l, m_p28 l, m_p29 l, m_p30 l, m_p31 l, m_p32 l, m_p33 l, m_p34 l, mA_10 l h8, mA_11 l h8, mA_12 l h8, mA_13 l h8, mA_14 l h8, mA_15 l h8, w_cl (show g < 2147483648 by omega), b_wei b hg, b_by b hg, byI, dF e0, d203 L hB l hV w b ws r hg, b207_36]
      cases y with
      | false =>
        simp only [bI_F, Int32.mul_zero, Int32.zero_add, mA_1 l (show D 13 g < 8 by omega), w_cl (show D 13 g < 2147483648 by omega), b_rate b hm, cond_true, cond_false, decide_true, Bool.and_true, Bool.true_and, Bool.and_self, Bool.and_false, Bool.false_and, Bool.not_true, Bool.not_false, Bool.or_true, Bool.true_or, Bool.or_false, Bool.false_or, is_some, gd_some, bk_v, bk_u, w_mul]
        rw [show (10 : Int32) = nI 10 from rfl, w_div (by omega) (by decide), w_mul]
      | true =>
        rw [show (4 : Int32) * bI true + nI (D 13 g) = nI (4 + D 13 g) from nI_add 4 _]
        simp only [mA_1 l (show 4 + D 13 g < 8 by omega), w_cl (show 4 + D 13 g < 2147483648 by omega), b_oth b hm, cond_true, cond_false, decide_true, Bool.and_true, Bool.true_and, Bool.and_self, Bool.and_false, Bool.false_and, Bool.not_true, Bool.not_false, Bool.or_true, Bool.true_or, Bool.or_false, Bool.false_or, is_some, gd_some, bk_v, bk_u, w_mul]
        rw [show (10 : Int32) = nI 10 from rfl, w_div (by omega) (by decide), w_mul]
theorem d210 {h : A_H} {B V : Nat} {D : Gh} {S : Nat → Nat} (L : Ly h) (hB : hP h 124 3 = some B) (l : ML h B) (hV : isV V) (w : WF D) (b : MB h B D) (ws : WS S) (r : RW h V S) {g : Nat} (hg : g < 32) : C 210 [.ref 124, .ref V, .int (nI g)] h = some (some (some (.int (bI ((S 16).testBit g)))), h) := by
  rw [e210, b210_0]
  simp only [cond_true, cond_false, decide_true, Bool.and_true, Bool.true_and, Bool.and_self, Bool.and_false, Bool.false_and, Bool.not_true, Bool.not_false, Bool.or_true, Bool.true_or, Bool.or_false, Bool.false_or, is_some, gd_some, bk_v, bk_u, v_17 L hV, v_16 L hV, i_17, i_16, rw_17 r, rw_16 r, d161 _ hg, b210_5, z_b, bt_nI _ hg]
theorem d208 {h : A_H} {B V : Nat} {D : Gh} {S : Nat → Nat} (L : Ly h) (hB : hP h 124 3 = some B) (l : ML h B) (hV : isV V) (w : WF D) (b : MB h B D) (ws : WS S) (r : RW h V S) {g : Nat} (hg : g < D 0 5) : C 208 [.ref 124, .ref V, .int (nI g)] h = some (some (some (.int (nI (fre D (S 17) (fun k => has D S (D 14 g) k && !decide (k = g)))))), h) := by
  have h8 : g < 8 := Nat.lt_of_lt_of_le hg (f_nG w)
  have ho := f_own w hg
  have h3 := f_nt w
  rw [e208, b208_0]
  refine (loop_ix (fun k => R 208 4 [some (.ref 124), some (.ref V), some (.int (nI g)), some (.int (nI (cnt k (fun k => (has D S (D 14 g) k && !decide (k = g)) && decide (D 12 k = 0) && !tur D k (D 15 k + S 17))))), some (.int (nI k))] [] h) (D 0 5) ?_).trans ?_
  · intro k hk
    have hk8 := Nat.lt_of_lt_of_le hk (f_nG w)
    have hz := nI_c w hk (show 0 < 100 by decide)
    rw [show nI 0 = 0 from rfl] at hz
    have he : decide (nI k = nI g) = decide (k = g) := by simp only [w_eq (show k < 2147483648 by omega) (show g < 2147483648 by omega)]
    rw [b208_4]
    simp only [cond_true, cond_false, decide_true, Bool.and_true, Bool.true_and, Bool.and_self, Bool.and_false, Bool.false_and, Bool.not_true, Bool.not_false, Bool.or_true, Bool.true_or, Bool.or_false, Bool.false_or, is_some, gd_some, bk_v, bk_u, hB, y_124 L, mB_O l, m_p11 l, m_p12 l, m_p13 l, m_p14 l, m_p15 l, m_p16 l, m_p17 l, m_p18 l, m_p19 l, m_p20 l, m_p21 l, m_p22 l, m_p23 l, m_p24 l, m_p25 l, m_p26 l, m_p27 l, m_p28 l, m_p29 l, m_p30 l, m_p31 l, m_p32 l, m_p33 l, m_p34 l, b_s5 b, g_go w hk, he, mA_10 l hk8, w_cl (show k < 2147483648 by omega), b_kind b hk, hz, mA_10 l h8, mA_11 l h8, mA_12 l h8, mA_13 l h8, mA_14 l h8, mA_15 l h8, w_cl (show g < 2147483648 by omega), b_owner b hg, d205 L hB l hV w b ws r hk (show D 14 g < 100 by omega), b208_28, z_0, d204 L hB l hV w b ws r hk, b208_33, w_s, cnt_s, Int32.add_zero, Bool.not_not]
    cases decide (k = g) <;> cases decide (D 12 k = 0) <;> cases has D S (D 14 g) k <;> cases tur D k (D 15 k + S 17) <;> rfl
  · rw [b208_4]
    simp only [cond_true, cond_false, decide_true, Bool.and_true, Bool.true_and, Bool.and_self, Bool.and_false, Bool.false_and, Bool.not_true, Bool.not_false, Bool.or_true, Bool.true_or, Bool.or_false, Bool.false_or, is_some, gd_some, bk_v, bk_u, hB, y_124 L, mB_O l, m_p11 l, m_p12 l, m_p13 l, m_p14 l, m_p15 l, m_p16 l, m_p17 l, m_p18 l, m_p19 l, m_p20 l, m_p21 l, m_p22 l, m_p23 l, m_p24 l, m_p25 l, m_p26 l, m_p27 l, m_p28 l, m_p29 l, m_p30 l, m_p31 l, m_p32 l, m_p33 l, m_p34 l, b_s5 b, g_stop w]
    rfl
theorem w_mc {β : Type} (f : Int32 → β) {a b : Nat} (ha : a < 1073741824) (hb : b < 1073741824) : cond (decide (nI a - nI b ≤ 0)) (f 0) (f (nI a - nI b)) = f (nI (a - b)) := by
  have hm := w_mx ha hb
  by_cases h : nI a - nI b ≤ 0
  · rw [dT h, cond_true, ← hm, if_neg (by rw [Int32.lt_iff_toInt_lt]; rw [Int32.le_iff_toInt_le] at h; omega)]
  · rw [dF h, cond_false, ← hm, if_pos (by rw [Int32.lt_iff_toInt_lt]; rw [Int32.le_iff_toInt_le] at h; omega)]
def has0 (S : Nat → Nat) (k : Nat) : Bool := decide (S k = 0)
def hid (S : Nat → Nat) (k : Nat) : Bool := (S 16).testBit k
theorem d209 {h : A_H} {B V : Nat} {D : Gh} {S : Nat → Nat} (L : Ly h) (hB : hP h 124 3 = some B) (l : ML h B) (hV : isV V) (w : WF D) (b : MB h B D) (ws : WS S) (r : RW h V S) {g : Nat} (hg : g < D 0 5) {m : Nat} (hm : m ≤ 100) : C 209 [.ref 124, .ref V, .int (nI g), .int (nI m)] h = some (some (some (.int (nI (sme D (S 17) g (has0 S) m)))), h) := by
  have h8 : g < 8 := Nat.lt_of_lt_of_le hg (f_nG w)
  have ha := f_age w hg
  have h17 := ws.1
  have hs := smr_le w hg h17
  have hk := nI_c w hg (show 3 < 100 by decide)
  have hf := fre_le w (S 17) (fun k => has0 S k && decide (D 14 k = D 14 g) && !decide (k = g))
  have hfe : fre D (S 17) (fun k => has D S (D 14 g) k && !decide (k = g)) = fre D (S 17) (fun k => has0 S k && decide (D 14 k = D 14 g) && !decide (k = g)) := by
    apply fre_congr
    intro k _
    unfold has has0
    rw [Bool.and_comm (decide (D 14 k = D 14 g))]
  rw [e209, b209_0]
  simp only [cond_true, cond_false, decide_true, Bool.and_true, Bool.true_and, Bool.and_self, Bool.and_false, Bool.false_and, Bool.not_true, Bool.not_false, Bool.or_true, Bool.true_or, Bool.or_false, Bool.false_or, is_some, gd_some, bk_v, bk_u, hB, y_124 L, mB_O l, m_p11 l, m_p12 l, m_p13 l, m_p14 l, m_p15 l, m_p16 l, m_p17 l, m_p18 l, m_p19 l, m_p20 l, m_p21 l, m_p22 l, m_p23 l, m_p24 l, m_p25 l, m_p26 l, m_p27 l, m_p28 l, m_p29 l, m_p30 l, m_p31 l, m_p32 l, m_p33 l, m_p34 l, mA_10 l h8, mA_11 l h8, mA_12 l h8, mA_13 l h8, mA_14 l h8, mA_15 l h8, w_cl (show g < 2147483648 by omega), b_wei b hg, d203 L hB l hV w b ws r hg, b209_9, b_kind b hg, d208 L hB l hV w b ws r hg, hfe, b209_30]
  rw [show (10 : Int32) = nI 10 from rfl, show (2 : Int32) = nI 2 from rfl, show (3 : Int32) = nI 3 from rfl, w_div (by omega) (by decide), hk]
  simp only [nI_add, w_mul]
  unfold sme
  unfold smr at hs ⊢
  revert hs
  cases decide (D 12 g = 3) <;> intro hs
  · rw [cond_false] at hs
    simp only [Bool.not_false, cond_true, cond_false]
    rw [w_mc (fun x => some (some (some (Value.int x)), h)) (by omega) (by omega)]
  · rw [cond_true] at hs
    simp only [Bool.not_true, cond_true, cond_false]
    rw [w_mc (fun x => some (some (some (Value.int x)), h)) (by omega) (by omega)]
theorem sme_has {D : Gh} {S : Nat → Nat} {d g m t : Nat} (e : D 14 g = t) : sme D d g (has D S t) m = sme D d g (has0 S) m := by
  unfold sme
  rw [fre_congr]
  intro k _
  unfold has has0
  rw [e]
  cases decide (D 14 k = t) <;> simp
theorem d211 {h : A_H} {B V : Nat} {D : Gh} {S : Nat → Nat} (L : Ly h) (hB : hP h 124 3 = some B) (l : ML h B) (hV : isV V) (w : WF D) (b : MB h B D) (ws : WS S) (r : RW h V S) {t k m : Nat} (ht : t < 100) (hk : k < D 0 4) (hm : m ≤ 100) : C 211 [.ref 124, .ref V, .int (nI t), .int (nI k), .int (nI m)] h = some (some (some (.int (nI (msk (D 0 5) (fnd D (S 17) (D 9 k) (has D S t) (hid S) m))))), h) := by
  have hk3 : k < 3 := Nat.lt_of_lt_of_le hk (f_ng w)
  have hnose := f_nose w hk
  rw [e211, b211_0]
  refine (loop_ix (fun g => R 211 4 [some (.ref 124), some (.ref V), some (.int (nI t)), some (.int (nI k)), some (.int (nI m)), some (.int (nI (msk g (fnd D (S 17) (D 9 k) (has D S t) (hid S) m)))), some (.int (nI g))] [] h) (D 0 5) ?_).trans ?_
  · intro g hg
    have h8 : g < 8 := Nat.lt_of_lt_of_le hg (f_nG w)
    have hs := sme_le w hg ws.1 (has0 S) m
    rw [b211_4]
    simp only [cond_true, cond_false, decide_true, Bool.and_true, Bool.true_and, Bool.and_self, Bool.and_false, Bool.false_and, Bool.not_true, Bool.not_false, Bool.or_true, Bool.true_or, Bool.or_false, Bool.false_or, is_some, gd_some, bk_v, bk_u, hB, y_124 L, mB_O l, m_p11 l, m_p12 l, m_p13 l, m_p14 l, m_p15 l, m_p16 l, m_p17 l, m_p18 l, m_p19 l, m_p20 l, m_p21 l, m_p22 l, m_p23 l, m_p24 l, m_p25 l, m_p26 l, m_p27 l, m_p28 l, m_p29 l, m_p30 l, m_p31 l, m_p32 l, m_p33 l, m_p34 l, b_s5 b, g_go w hg, d205 L hB l hV w b ws r hg ht, b211_15, z_0, d210 L hB l hV w b ws r (show g < 32 by omega), b211_20, d209 L hB l hV w b ws r hg hm, b211_26, mA_7 l hk3, w_cl (show k < 2147483648 by omega), b_nose b hk, w_s, Int32.or_zero]
    cases e : has D S t g with
    | false => rw [no_msk (by rw [fnd, e]; rfl)]; rfl
    | true =>
      have eo : D 14 g = t := by
        unfold has at e
        rw [Bool.and_eq_true] at e
        exact of_decide_eq_true e.1
      cases e1 : hid S g with
      | false =>
        rw [no_msk (by rw [fnd, e1, Bool.and_false]; rfl)]
        rw [show (S 16).testBit g = false from e1]; rfl
      | true =>
        rw [show (S 16).testBit g = true from e1]
        simp only [cond_true, cond_false, decide_true, Bool.and_true, Bool.true_and, Bool.and_self, Bool.and_false, Bool.false_and, Bool.not_true, Bool.not_false, Bool.or_true, Bool.true_or, Bool.or_false, Bool.false_or, is_some, gd_some, bk_v, bk_u]
        by_cases e2 : D 9 k ≤ sme D (S 17) g (has0 S) m
        · rw [dF (by rw [w_lt (by omega) (by omega)]; omega), or_msk (by omega) (by rw [fnd, e, e1, sme_has eo, dT e2]; rfl)]; rfl
        · rw [dT (by rw [w_lt (by omega) (by omega)]; omega), no_msk (by rw [fnd, sme_has eo, dF e2, Bool.and_false])]; rfl
  · rw [b211_4]
    simp only [cond_true, cond_false, decide_true, Bool.and_true, Bool.true_and, Bool.and_self, Bool.and_false, Bool.false_and, Bool.not_true, Bool.not_false, Bool.or_true, Bool.true_or, Bool.or_false, Bool.false_or, is_some, gd_some, bk_v, bk_u, hB, y_124 L, mB_O l, m_p11 l, m_p12 l, m_p13 l, m_p14 l, m_p15 l, m_p16 l, m_p17 l, m_p18 l, m_p19 l, m_p20 l, m_p21 l, m_p22 l, m_p23 l, m_p24 l, m_p25 l, m_p26 l, m_p27 l, m_p28 l, m_p29 l, m_p30 l, m_p31 l, m_p32 l, m_p33 l, m_p34 l, b_s5 b, g_stop w]
theorem d212 {h : A_H} {B V : Nat} {D : Gh} {S : Nat → Nat} (L : Ly h) (hB : hP h 124 3 = some B) (l : ML h B) (hV : isV V) (w : WF D) (b : MB h B D) (ws : WS S) (r : RW h V S) {t : Nat} (ht : t < D 0 3) (f : Int32) (y : Bool) : C 212 [.ref 124, .ref V, .int (nI t), .int f, .int (bI y)] h = some (some (some (.int (nI (ask D (bif y then 1 else 0) (S 17) t (fun g => has D S t g && bt f g) (fun g => has D S t g && !bt f g && !hid S g))))), h) := by
  have ht4 : t < 4 := Nat.lt_of_lt_of_le ht (f_nt w)
  have h1 := dus_le w ws.1 y (fun g => has D S t g && !bt f g && !hid S g)
  have h2 := f_all w ht
  rw [e212, b212_0]
  refine (loop_ix (fun g => R 212 6 [some (.ref 124), some (.ref V), some (.int (nI t)), some (.int f), some (.int (bI y)), some (.int (nI (sm g (fun g => bif has D S t g && !bt f g && !hid S g then dut D (bif y then 1 else 0) g (S 17) else 0)))), some (.int (nI (3 * sm g (fun g => bif has D S t g && bt f g then dut D (bif y then 1 else 0) g (S 17) else 0)))), some (.int (nI g))] [] h) (D 0 5) ?_).trans ?_
  · intro g hg
    have h8 : g < 8 := Nat.lt_of_lt_of_le hg (f_nG w)
    rw [b212_6]
    simp only [cond_true, cond_false, decide_true, Bool.and_true, Bool.true_and, Bool.and_self, Bool.and_false, Bool.false_and, Bool.not_true, Bool.not_false, Bool.or_true, Bool.true_or, Bool.or_false, Bool.false_or, is_some, gd_some, bk_v, bk_u, hB, y_124 L, mB_O l, m_p11 l, m_p12 l, m_p13 l, m_p14 l, m_p15 l, m_p16 l, m_p17 l, m_p18 l, m_p19 l, m_p20 l, m_p21 l, m_p22 l, m_p23 l, m_p24 l, m_p25 l, m_p26 l, m_p27 l, m_p28 l, m_p29 l, m_p30 l, m_p31 l, m_p32 l, m_p33 l, m_p34 l, b_s5 b, g_go w hg, d205 L hB l hV w b ws r hg (show t < 100 by omega), b212_16, z_0, d161 f (show g < 32 by omega), b212_21, d207 L hB l hV w b ws r hg y, b212_29, d210 L hB l hV w b ws r (show g < 32 by omega), b212_37, b212_44, w_s, sm_s, nI_add, show (3 : Int32) = nI 3 from rfl, w_mul, Nat.mul_add, Bool.not_not]
    rw [show (S 16).testBit g = hid S g from rfl]
    cases has D S t g <;> cases bt f g <;> cases hid S g <;> rfl
  · rw [b212_6]
    simp only [cond_true, cond_false, decide_true, Bool.and_true, Bool.true_and, Bool.and_self, Bool.and_false, Bool.false_and, Bool.not_true, Bool.not_false, Bool.or_true, Bool.true_or, Bool.or_false, Bool.false_or, is_some, gd_some, bk_v, bk_u, hB, y_124 L, mB_O l, m_p11 l, m_p12 l, m_p13 l, m_p14 l, m_p15 l, m_p16 l, m_p17 l, m_p18 l, m_p19 l, m_p20 l, m_p21 l, m_p22 l, m_p23 l, m_p24 l, m_p25 l, m_p26 l, m_p27 l, m_p28 l, m_p29 l, m_p30 l, m_p31 l, m_p32 l, m_p33 l, m_p34 l, b_s5 b, g_stop w, mA_5 l ht4, w_cl (show t < 2147483648 by omega), b_all b ht]
    unfold ask dus
    unfold dus at h1
    have h1 : sm (D 0 5) (fun g => bif has D S t g && !bt f g && !hid S g then dut D (bif y then 1 else 0) g (S 17) else 0) ≤ 84240 := h1
    rw [w_mc (fun x => some (some (some (Value.int (nI (3 * sm (D 0 5) (fun g => bif has D S t g && bt f g then dut D (bif y then 1 else 0) g (S 17) else 0)) + x))), h)) (by omega) (by omega)]
    rw [nI_add]
theorem d213 {h : A_H} {B V : Nat} {D : Gh} {S : Nat → Nat} (L : Ly h) (hB : hP h 124 3 = some B) (l : ML h B) (hV : isV V) (w : WF D) (b : MB h B D) (ws : WS S) (r : RW h V S) {t k : Nat} (ht : t < D 0 3) (hk : k < D 0 4) : C 213 [.ref 124, .ref V, .int (nI t), .int (nI k)] h = some (some (some (.int (nI (ask D 0 (S 17) t (fnd D (S 17) (D 9 k) (has D S t) (hid S) 0) (fun g => has D S t g && !hid S g))))), h) := by
  have ht4 : t < 4 := Nat.lt_of_lt_of_le ht (f_nt w)
  have h211 := d211 L hB l hV w b ws r (show t < 100 by omega) hk (m := 0) (by decide)
  have h212 := fun f => d212 L hB l hV w b ws r ht f false
  simp only [bI_F, cond_false] at h212
  rw [show nI 0 = 0 from rfl] at h211
  rw [e213, b213_0]
  simp only [cond_true, cond_false, decide_true, Bool.and_true, Bool.true_and, Bool.and_self, Bool.and_false, Bool.false_and, Bool.not_true, Bool.not_false, Bool.or_true, Bool.true_or, Bool.or_false, Bool.false_or, is_some, gd_some, bk_v, bk_u, hB, y_124 L, mB_O l, m_p11 l, m_p12 l, m_p13 l, m_p14 l, m_p15 l, m_p16 l, m_p17 l, m_p18 l, m_p19 l, m_p20 l, m_p21 l, m_p22 l, m_p23 l, m_p24 l, m_p25 l, m_p26 l, m_p27 l, m_p28 l, m_p29 l, m_p30 l, m_p31 l, m_p32 l, m_p33 l, m_p34 l, h211, b213_9, h212, b213_11]
  rw [ask_congr (p' := fnd D (S 17) (D 9 k) (has D S t) (hid S) 0) (q' := fun g => has D S t g && !hid S g)]
  · intro g hg
    have h8 := Nat.lt_of_lt_of_le hg (f_nG w)
    rw [bt_msk _ (by omega), dT hg, Bool.true_and, fnd]
    cases has D S t g <;> rfl
  · intro g hg
    have h8 := Nat.lt_of_lt_of_le hg (f_nG w)
    rw [bt_msk _ (by omega), dT hg, Bool.true_and, fnd]
    cases has D S t g <;> cases hid S g <;> simp
