def pc (m : Nat) : Nat := cnt 8 (fun j => m.testBit j)
theorem pc_le (m : Nat) : pc m ≤ 8 := cnt_le _ _
def btr (a m l b : Nat) : Bool := decide (a < l) || (decide (a = l) && decide (pc m < pc b))
theorem c101 (h : A_H) {a m l b : Nat} (ha : a < 2147483648) (hm : m < 256) (hl : l < 2147483648) (hb : b < 256) : C 101 [.int (nI a), .int (nI m), .int (nI l), .int (nI b)] h = some (some (some (.int (bI (btr a m l b)))), h) := by
  have p1 := pc_le m
  have p2 := pc_le b
  rw [e101]
  simp only [b101_0, b101_8, b101_10, bk_v, c278 h hm, c278 h hb]
  rw [show cnt 8 (fun j => m.testBit j) = pc m from rfl, show cnt 8 (fun j => b.testBit j) = pc b from rfl]
  unfold btr
  simp only [w_lt ha hl, w_eq ha hl, w_le (show pc b < 2147483648 by omega) (show pc m < 2147483648 by omega)]
  by_cases e1 : a < l
  · rw [dT e1]; rfl
  · by_cases e2 : a = l
    · by_cases e3 : pc m < pc b
      · rw [dF e1, dT e2, dT e3, dF (by omega : ¬ pc b ≤ pc m)]; rfl
      · rw [dF e1, dT e2, dF e3, dT (by omega : pc b ≤ pc m)]; rfl
    · rw [dF e1, dF e2]; rfl
def sbs (m H : Nat) : Bool := decide (nI m &&& (nI H ^^^ (-1 : Int32)) = 0)
def tks2 (a m : Nat) (q : Nat × Nat) : Nat × Nat := bif btr a m q.2 q.1 then (m, a) else q
def eaA (D : Gh) (S : Nat → Nat) (d t k m : Nat) : Nat := ask D 0 d t (fnd D d (D 9 k) (fun g => has D S t g && !m.testBit g) (hid S) 0) (fun g => (has D S t g && !m.testBit g) && !hid S g)
def eaS (D : Gh) (S : Nat → Nat) (d t k n : Nat) (q : Nat × Nat) : Nat × Nat := bif sbs (n + 1) (msk (D 0 5) (has D S t)) && decide (pc (n + 1) ≤ S (8 + t)) then tks2 (eaA D S d t k (n + 1)) (n + 1) q else q
def eaR (D : Gh) (S : Nat → Nat) (d t k : Nat) (n : Nat) : Nat × Nat := itr (eaS D S d t k) n (0, eaA D S d t k 0)
theorem eaR_s (D : Gh) (S : Nat → Nat) (d t k n : Nat) : eaR D S d t k (n + 1) = eaS D S d t k n (eaR D S d t k n) := rfl
theorem eaA_le {D : Gh} (w : WF D) {d : Nat} (hd : d ≤ 1000) (S : Nat → Nat) (t k m : Nat) : eaA D S d t k m ≤ 336960 := ask_le w hd false t _ _
theorem eaR_le {D : Gh} (w : WF D) {d : Nat} (hd : d ≤ 1000) (S : Nat → Nat) (t k n : Nat) : (eaR D S d t k n).1 ≤ n ∧ (eaR D S d t k n).2 ≤ 336960 := by
  induction n with
  | zero => exact ⟨Nat.le_refl _, eaA_le w hd S t k 0⟩
  | succ n ih =>
    rw [eaR_s]
    unfold eaS tks2
    cases (sbs (n + 1) (msk (D 0 5) (has D S t)) && decide (pc (n + 1) ≤ S (8 + t)))
    · exact ⟨Nat.le_succ_of_le ih.1, ih.2⟩
    · cases btr (eaA D S d t k (n + 1)) (n + 1) (eaR D S d t k n).2 (eaR D S d t k n).1
      · exact ⟨Nat.le_succ_of_le ih.1, ih.2⟩
      · exact ⟨Nat.le_refl _, eaA_le w hd S t k (n + 1)⟩
theorem hun_le {D : Gh} {S : Nat → Nat} (w : WF D) (u : WD D S) {t : Nat} (ht : t < D 0 3) : S (8 + t) ≤ 3 := by
  have := u.2.2.2.2 t ht
  have := f_hun w ht
  omega
theorem ea71 {h : A_H} {T : Nat} {D : Gh} {S : Nat → Nat} (L : Ly h) (hT : isT T) (w : WF D) (c : CT h T D) {t k : Nat} (ht : t < D 0 3) (hk : k < D 0 4) {d : Nat} (hd : d ≤ 1000) (m : Nat) : C 71 [.ref T, .int (nI t), .int (nI k), .int (nI d), .int (nI (msk (D 0 5) (has D S t)) &&& (nI m ^^^ (-1 : Int32))), .int (nI (S 16)), .int 0] h = some (some (some (.int (nI (eaA D S d t k m)))), h) := by
  have h71 := c71 L hT w c ht hk hd (nI (msk (D 0 5) (has D S t)) &&& (nI m ^^^ (-1 : Int32))) (nI (S 16)) false
  have hp : ∀ g, g < D 0 5 → bt (nI (msk (D 0 5) (has D S t)) &&& (nI m ^^^ (-1 : Int32))) g = (has D S t g && !m.testBit g) := by
    intro g hg
    have h8 := Nat.lt_of_lt_of_le hg (f_nG w)
    rw [bt_and, hb_ w t g hg, bt_xm _ (by omega), bt_nI _ (by omega)]
  rw [bI_F, cond_false, ask_congr (fun g hg => fnd_congr hp (hh_ w) g hg) (fun g hg => by rw [hp g hg, hh_ w g hg])] at h71
  exact h71
theorem eaA_0 {D : Gh} (S : Nat → Nat) (d t k : Nat) : eaA D S d t k 0 = ask D 0 d t (fnd D d (D 9 k) (has D S t) (hid S) 0) (fun g => has D S t g && !hid S g) := by
  unfold eaA
  rw [ask_congr (fun g hg => fnd_congr (q' := hid S) (p' := has D S t) (fun g _ => by rw [Nat.zero_testBit]; cases has D S t g <;> rfl) (fun g _ => rfl) g hg) (fun g _ => by rw [Nat.zero_testBit, Bool.not_false, Bool.and_true])]
theorem c100 {h : A_H} {T : Nat} {D : Gh} {S : Nat → Nat} (L : Ly h) (hT : isT T) (w : WF D) (c : CT h T D) (hQ : hP h 0 3 = some T) (s : CS h 77 D S) (u : WD D S) {t k d : Nat} (ht : t < D 0 3) (hk : k < D 0 4) (hd : d ≤ 60) : C 100 [.ref 0, .int (nI t), .int (nI k), .int (nI d)] h = some (some (some (.int (nI (eaR D S (S 17 + d) t k (msk (D 0 5) (has D S t))).1))), h) := by
  have h17 := u.1
  have hd' : S 17 + d ≤ 1000 := by omega
  have hH := msk_256 (f_nG w) (has D S t)
  have hh := hun_le w u ht
  have h71 := c71 L hT w c ht hk hd' (nI (msk (D 0 5) (has D S t))) (nI (S 16)) false
  rw [bI_F, cond_false, ask_congr (fun g hg => fnd_congr (hb_ w t) (hh_ w) g hg) (fun g hg => by rw [hb_ w t g hg, hh_ w g hg]), ← eaA_0] at h71
  rw [e100]
  simp only [b100_0, b100_9, b100_13, b100_27, b100_41, b100_59, b100_65, cond_true, decide_true, cond_false, Bool.and_true, Bool.true_and, Bool.and_self, Bool.and_false, Bool.false_and, Bool.not_true, Bool.not_false, Bool.or_true, Bool.true_or, Bool.or_false, Bool.false_or, is_some, gd_some, bk_v, bk_u, t_O L hT, t_P9 L hT, t_P10 L hT, t_P11 L hT, t_P12 L hT, t_P13 L hT, t_P14 L hT, t_OC L hT, t_C1 L hT, t_C2 L hT, t_C3 L hT, hQ, x_O L, x_P5 L, x_O77 L, s.1, s.2.1, s.2.2.1, s.2.2.2.1, s.2.2.2.2.1, nI_add, c146 L hT w c hQ s u ht, c147 L hT w c hQ s u ht, h71]
  refine loop_dn (fun n l => R 100 30 [some (.ref 0), some (.int (nI t)), some (.int (nI k)), some (.int (nI d)), some (.int (nI (S 17 + d))), some (.int (nI (msk (D 0 5) (has D S t)))), some (.int (nI (S (8 + t)))), some (.int (nI (eaR D S (S 17 + d) t k n).1)), some (.int (nI (eaR D S (S 17 + d) t k n).2)), some (.int (nI (n + 1))), l] [] h) (msk (D 0 5) (has D S t)) _ ?_ ?_ _
  · intro n l hn
    have hb := eaR_le w hd' S t k n
    have ha := eaA_le w hd' S t k (n + 1)
    have hpc := pc_le (n + 1)
    rw [b100_30]
    simp only [cond_true, decide_true, cond_false, Bool.and_true, Bool.true_and, Bool.and_self, Bool.and_false, Bool.false_and, Bool.not_true, Bool.not_false, Bool.or_true, Bool.true_or, Bool.or_false, Bool.false_or, is_some, gd_some, bk_v, bk_u, t_O L hT, t_P9 L hT, t_P10 L hT, t_P11 L hT, t_P12 L hT, t_P13 L hT, t_P14 L hT, t_OC L hT, t_C1 L hT, t_C2 L hT, t_C3 L hT, hQ, x_O L, x_P5 L, x_O77 L, s.1, s.2.1, s.2.2.1, s.2.2.2.1, s.2.2.2.2.1, dF (show ¬ nI (msk (D 0 5) (has D S t)) < nI (n + 1) by rw [w_lt (by omega) (by omega)]; omega), c278 h (show n + 1 < 256 by omega), b100_41, ea71 L hT w c ht hk hd', b100_59, c101 h (show eaA D S (S 17 + d) t k (n + 1) < 2147483648 by omega) (show n + 1 < 256 by omega) (show (eaR D S (S 17 + d) t k n).2 < 2147483648 by omega) (show (eaR D S (S 17 + d) t k n).1 < 256 by omega), b100_65, w_s, z_0]
    rw [show cnt 8 (fun j => (n + 1).testBit j) = pc (n + 1) from rfl, show decide (nI (n + 1) &&& (nI (msk (D 0 5) (has D S t)) ^^^ (-1 : Int32)) = 0) = sbs (n + 1) (msk (D 0 5) (has D S t)) from rfl]
    simp only [w_le (show pc (n + 1) < 2147483648 by omega) (show S (8 + t) < 2147483648 by omega)]
    rw [eaR_s]
    unfold eaS tks2
    cases sbs (n + 1) (msk (D 0 5) (has D S t))
    · exact ⟨_, rfl⟩
    · cases decide (pc (n + 1) ≤ S (8 + t))
      · exact ⟨_, rfl⟩
      · cases btr (eaA D S (S 17 + d) t k (n + 1)) (n + 1) (eaR D S (S 17 + d) t k n).2 (eaR D S (S 17 + d) t k n).1
        · exact ⟨_, rfl⟩
        · exact ⟨_, rfl⟩
  · intro l
    rw [b100_30]
    simp only [dT (show nI (msk (D 0 5) (has D S t)) < nI (msk (D 0 5) (has D S t) + 1) by rw [w_lt (by omega) (by omega)]; omega), cond_true]
theorem a98 {h : A_H} {T : Nat} {D : Gh} {S : Nat → Nat} (L : Ly h) (hT : isT T) (w : WF D) (c : CT h T D) (hQ : hP h 0 3 = some T) (s : CS h 77 D S) (u : WD D S) {t k d : Nat} (ht : t < D 0 3) (hk : k < D 0 4) (hd : d ≤ 60) : C 98 [.ref 0, .int (nI t), .int (nI k), .int (nI d)] h = some (some (some (.int (nI (eaR D S (S 17 + d) t k (msk (D 0 5) (has D S t))).1))), wI h 0 8 0) := by
  have L0 : Ly (wI h 0 8 0) := L; have c0 := CT_w0 hT w c 0; have s0 : CS (wI h 0 8 0) 77 D S := CS_w0 s 0; have Q0 : hP (wI h 0 8 0) 0 3 = some T := hQ
  rw [e98]
  simp only [b98_0, b98_6, b98_7, b98_15, hP_wI, isO_wI, isA_wI, cond_true, decide_true, cond_false, Bool.and_true, Bool.true_and, Bool.and_self, Bool.and_false, Bool.false_and, Bool.not_true, Bool.not_false, Bool.or_true, Bool.true_or, Bool.or_false, Bool.false_or, is_some, gd_some, bk_v, bk_u, t_O L hT, t_P9 L hT, t_P10 L hT, t_P11 L hT, t_P12 L hT, t_P13 L hT, t_P14 L hT, t_OC L hT, t_C1 L hT, t_C2 L hT, t_C3 L hT, hQ, x_O L, x_P5 L, x_O77 L, s.1, s.2.1, s.2.2.1, s.2.2.2.1, s.2.2.2.2.1, s0.1, s0.2.1, s0.2.2.1, s0.2.2.2.1, s0.2.2.2.2.1, bI_T, bI_F, i1_0, c144 L hT w c hQ s u, gTGD w ht hk hd, c134 L, c100 L0 hT w c0 Q0 s0 u ht hk hd]
theorem a98b {h : A_H} {T : Nat} {D : Gh} {S : Nat → Nat} (L : Ly h) (hT : isT T) (w : WF D) (c : CT h T D) (hQ : hP h 0 3 = some T) (s : CS h 77 D S) (u : WD D S) {x y z : Int32} (e : decide (eit (eit (gv (D 0 3) x) (gv (D 0 4) y)) (dv z) = 0) = false) : C 98 [.ref 0, .int x, .int y, .int z] h = some (some (some (.int (-1))), wI h 0 8 (eit (eit (gv (D 0 3) x) (gv (D 0 4) y)) (dv z))) := by
  rw [e98]
  simp only [b98_0, b98_6, b98_7, b98_15, cond_true, decide_true, cond_false, Bool.and_true, Bool.true_and, Bool.and_self, Bool.and_false, Bool.false_and, Bool.not_true, Bool.not_false, Bool.or_true, Bool.true_or, Bool.or_false, Bool.false_or, is_some, gd_some, bk_v, bk_u, t_O L hT, t_P9 L hT, t_P10 L hT, t_P11 L hT, t_P12 L hT, t_P13 L hT, t_P14 L hT, t_OC L hT, t_C1 L hT, t_C2 L hT, t_C3 L hT, hQ, x_O L, x_P5 L, x_O77 L, s.1, s.2.1, s.2.2.1, s.2.2.2.1, s.2.2.2.2.1, c144 L hT w c hQ s u, c134 L, e, bI_T, i1_0]
theorem eaR_2 {D : Gh} (S : Nat → Nat) (d t k n : Nat) : (eaR D S d t k n).2 = eaA D S d t k (eaR D S d t k n).1 := by
  induction n with
  | zero => rfl
  | succ n ih =>
    rw [eaR_s]
    unfold eaS tks2
    cases (sbs (n + 1) (msk (D 0 5) (has D S t)) && decide (pc (n + 1) ≤ S (8 + t)))
    · exact ih
    · cases btr (eaA D S d t k (n + 1)) (n + 1) (eaR D S d t k n).2 (eaR D S d t k n).1
      · exact ih
      · rfl
theorem a99 {h : A_H} {T : Nat} {D : Gh} {S : Nat → Nat} (L : Ly h) (hT : isT T) (w : WF D) (c : CT h T D) (hQ : hP h 0 3 = some T) (s : CS h 77 D S) (u : WD D S) {t k d : Nat} (ht : t < D 0 3) (hk : k < D 0 4) (hd : d ≤ 60) : C 99 [.ref 0, .int (nI t), .int (nI k), .int (nI d)] h = some (some (some (.int (nI (eaR D S (S 17 + d) t k (msk (D 0 5) (has D S t))).2))), wI h 0 8 0) := by
  have L0 : Ly (wI h 0 8 0) := L; have c0 := CT_w0 hT w c 0; have s0 : CS (wI h 0 8 0) 77 D S := CS_w0 s 0; have Q0 : hP (wI h 0 8 0) 0 3 = some T := hQ
  have h17 := u.1
  rw [e99]
  simp only [b99_0, b99_6, b99_7, b99_13, b99_18, b99_37, hP_wI, isO_wI, isA_wI, cond_true, decide_true, cond_false, Bool.and_true, Bool.true_and, Bool.and_self, Bool.and_false, Bool.false_and, Bool.not_true, Bool.not_false, Bool.or_true, Bool.true_or, Bool.or_false, Bool.false_or, is_some, gd_some, bk_v, bk_u, t_O L hT, t_P9 L hT, t_P10 L hT, t_P11 L hT, t_P12 L hT, t_P13 L hT, t_P14 L hT, t_OC L hT, t_C1 L hT, t_C2 L hT, t_C3 L hT, hQ, x_O L, x_P5 L, x_O77 L, s.1, s.2.1, s.2.2.1, s.2.2.2.1, s.2.2.2.2.1, s0.1, s0.2.1, s0.2.2.1, s0.2.2.2.1, s0.2.2.2.2.1, bI_T, bI_F, i1_0, c144 L hT w c hQ s u, gTGD w ht hk hd, c134 L, nI_add, c146 L0 hT w c0 Q0 s0 u ht, c100 L0 hT w c0 Q0 s0 u ht hk hd, ea71 L0 hT w c0 ht hk (show S 17 + d ≤ 1000 by omega), eaR_2]
theorem a99b {h : A_H} {T : Nat} {D : Gh} {S : Nat → Nat} (L : Ly h) (hT : isT T) (w : WF D) (c : CT h T D) (hQ : hP h 0 3 = some T) (s : CS h 77 D S) (u : WD D S) {x y z : Int32} (e : decide (eit (eit (gv (D 0 3) x) (gv (D 0 4) y)) (dv z) = 0) = false) : C 99 [.ref 0, .int x, .int y, .int z] h = some (some (some (.int (-1))), wI h 0 8 (eit (eit (gv (D 0 3) x) (gv (D 0 4) y)) (dv z))) := by
  rw [e99]
  simp only [b99_0, b99_6, b99_7, b99_13, b99_18, b99_37, cond_true, decide_true, cond_false, Bool.and_true, Bool.true_and, Bool.and_self, Bool.and_false, Bool.false_and, Bool.not_true, Bool.not_false, Bool.or_true, Bool.true_or, Bool.or_false, Bool.false_or, is_some, gd_some, bk_v, bk_u, t_O L hT, t_P9 L hT, t_P10 L hT, t_P11 L hT, t_P12 L hT, t_P13 L hT, t_P14 L hT, t_OC L hT, t_C1 L hT, t_C2 L hT, t_C3 L hT, hQ, x_O L, x_P5 L, x_O77 L, s.1, s.2.1, s.2.2.1, s.2.2.2.1, s.2.2.2.2.1, c144 L hT w c hQ s u, c134 L, e, bI_T, i1_0]
theorem sbs_T {m H : Nat} (e : sbs m H = true) {j : Nat} (hj : j < 32) (hm : m.testBit j = true) : H.testBit j = true := by
  unfold sbs at e
  have h := congrArg (fun x => bt x j) (of_decide_eq_true e)
  simp only [bt_and, bt_xm _ hj, bt_nI _ hj, hm, Bool.true_and] at h
  have h0 : bt (0 : Int32) j = false := BitVec.getLsbD_zero
  rw [h0] at h
  cases hh : H.testBit j with
  | true => rfl
  | false => rw [hh] at h; cases h
def saf (D : Gh) (S : Nat → Nat) (d t k g : Nat) : Bool := has D S t g && !fnd D d (D 9 k) (has D S t) (has D S t) 0 g
def hiA (D : Gh) (S : Nat → Nat) (d t m : Nat) : Nat := ask D 0 d t (fun _ => false) (fun g => has D S t g && !m.testBit g)
def hiS (D : Gh) (S : Nat → Nat) (d t k n : Nat) (q : Nat × Nat) : Nat × Nat := bif sbs (n + 1) (msk (D 0 5) (saf D S d t k)) then tks2 (hiA D S d t (n + 1)) (n + 1) q else q
def hiR (D : Gh) (S : Nat → Nat) (d t k n : Nat) : Nat × Nat := itr (hiS D S d t k) n (0, hiA D S d t 0)
theorem hiR_s (D : Gh) (S : Nat → Nat) (d t k n : Nat) : hiR D S d t k (n + 1) = hiS D S d t k n (hiR D S d t k n) := rfl
theorem hiA_le {D : Gh} (w : WF D) {d : Nat} (hd : d ≤ 1000) (S : Nat → Nat) (t m : Nat) : hiA D S d t m ≤ 336960 := ask_le w hd false t _ _
theorem sbs_0 (H : Nat) : sbs 0 H = true := by
  unfold sbs
  apply dT
  apply i_ext
  intro j hj
  rw [bt_and, bt_nI _ hj, Nat.zero_testBit, Bool.false_and]
  exact BitVec.getLsbD_zero.symm
theorem hiR_p {D : Gh} (w : WF D) {d : Nat} (hd : d ≤ 1000) (S : Nat → Nat) (t k n : Nat) : (hiR D S d t k n).1 ≤ n ∧ (hiR D S d t k n).2 ≤ 336960 ∧ (hiR D S d t k n).2 = hiA D S d t (hiR D S d t k n).1 ∧ sbs (hiR D S d t k n).1 (msk (D 0 5) (saf D S d t k)) = true := by
  induction n with
  | zero => exact ⟨Nat.le_refl _, hiA_le w hd S t 0, rfl, sbs_0 _⟩
  | succ n ih =>
    rw [hiR_s]
    unfold hiS tks2
    cases hs : sbs (n + 1) (msk (D 0 5) (saf D S d t k))
    · exact ⟨Nat.le_succ_of_le ih.1, ih.2⟩
    · cases btr (hiA D S d t (n + 1)) (n + 1) (hiR D S d t k n).2 (hiR D S d t k n).1
      · exact ⟨Nat.le_succ_of_le ih.1, ih.2⟩
      · exact ⟨Nat.le_refl _, hiA_le w hd S t (n + 1), rfl, hs⟩
theorem hi70 {h : A_H} {T : Nat} {D : Gh} {S : Nat → Nat} (L : Ly h) (hT : isT T) (w : WF D) (c : CT h T D) {t : Nat} (ht : t < D 0 3) {d : Nat} (hd : d ≤ 1000) (m : Nat) : C 70 [.ref T, .int (nI t), .int 0, .int (nI (msk (D 0 5) (has D S t)) &&& (nI m ^^^ (-1 : Int32))), .int (nI d), .int 0] h = some (some (some (.int (nI (hiA D S d t m)))), h) := by
  have h70 := c70 L hT w c ht 0 (nI (msk (D 0 5) (has D S t)) &&& (nI m ^^^ (-1 : Int32))) hd false
  have hp : ∀ g, g < D 0 5 → bt (nI (msk (D 0 5) (has D S t)) &&& (nI m ^^^ (-1 : Int32))) g = (has D S t g && !m.testBit g) := by
    intro g hg
    have h8 := Nat.lt_of_lt_of_le hg (f_nG w)
    rw [bt_and, hb_ w t g hg, bt_xm _ (by omega), bt_nI _ (by omega)]
  rw [bI_F, cond_false, ask_congr (p := bt 0) (p' := fun _ => false) (fun g _ => BitVec.getLsbD_zero) hp] at h70
  exact h70
theorem hi70' {h : A_H} {T : Nat} {D : Gh} {S : Nat → Nat} (L : Ly h) (hT : isT T) (w : WF D) (c : CT h T D) {t : Nat} (ht : t < D 0 3) {d : Nat} (hd : d ≤ 1000) : C 70 [.ref T, .int (nI t), .int 0, .int (nI (msk (D 0 5) (has D S t))), .int (nI d), .int 0] h = some (some (some (.int (nI (hiA D S d t 0)))), h) := by
  have h70 := c70 L hT w c ht 0 (nI (msk (D 0 5) (has D S t))) hd false
  have hp : ∀ g, g < D 0 5 → bt (nI (msk (D 0 5) (has D S t))) g = (has D S t g && !Nat.testBit 0 g) := by
    intro g hg
    rw [hb_ w t g hg, Nat.zero_testBit, Bool.not_false, Bool.and_true]
  rw [bI_F, cond_false, ask_congr (p := bt 0) (p' := fun _ => false) (fun g _ => BitVec.getLsbD_zero) hp] at h70
  exact h70
theorem saf_eq {D : Gh} {S : Nat → Nat} (w : WF D) (d t k : Nat) : nI (msk (D 0 5) (has D S t)) &&& (nI (msk (D 0 5) (fnd D d (D 9 k) (has D S t) (has D S t) 0)) ^^^ (-1 : Int32)) = nI (msk (D 0 5) (saf D S d t k)) := by
  apply i_ext
  intro j hj
  rw [bt_and, bt_xm _ hj, bt_msk _ hj, bt_msk _ hj, bt_msk _ hj]
  unfold saf
  cases decide (j < D 0 5) <;> simp
theorem c104 {h : A_H} {T : Nat} {D : Gh} {S : Nat → Nat} (L : Ly h) (hT : isT T) (w : WF D) (c : CT h T D) (hQ : hP h 0 3 = some T) (s : CS h 77 D S) (u : WD D S) {t k d : Nat} (ht : t < D 0 3) (hk : k < D 0 4) (hd : d ≤ 60) : C 104 [.ref 0, .int (nI t), .int (nI k), .int (nI d)] h = some (some (some (.int (nI (hiR D S (S 17 + d) t k (msk (D 0 5) (saf D S (S 17 + d) t k))).1))), h) := by
  have h17 := u.1
  have hd' : S 17 + d ≤ 1000 := by omega
  have hH := msk_256 (f_nG w) (saf D S (S 17 + d) t k)
  have h69 := c69 L hT w c hk hd' (nI (msk (D 0 5) (has D S t))) (nI (msk (D 0 5) (has D S t)))
  rw [msk_congr (fun g hg => fnd_congr (hb_ w t) (hb_ w t) g hg)] at h69
  rw [e104]
  simp only [b104_0, b104_9, b104_18, b104_32, b104_57, b104_63, cond_true, decide_true, cond_false, Bool.and_true, Bool.true_and, Bool.and_self, Bool.and_false, Bool.false_and, Bool.not_true, Bool.not_false, Bool.or_true, Bool.true_or, Bool.or_false, Bool.false_or, is_some, gd_some, bk_v, bk_u, t_O L hT, t_P9 L hT, t_P10 L hT, t_P11 L hT, t_P12 L hT, t_P13 L hT, t_P14 L hT, t_OC L hT, t_C1 L hT, t_C2 L hT, t_C3 L hT, hQ, x_O L, x_P5 L, x_O77 L, s.1, s.2.1, s.2.2.1, s.2.2.2.1, s.2.2.2.2.1, nI_add, c146 L hT w c hQ s u ht, h69, saf_eq w, hi70' L hT w c ht hd']
  refine loop_dn (fun n l => R 104 35 [some (.ref 0), some (.int (nI t)), some (.int (nI k)), some (.int (nI d)), some (.int (nI (S 17 + d))), some (.int (nI (msk (D 0 5) (has D S t)))), some (.int (nI (msk (D 0 5) (saf D S (S 17 + d) t k)))), some (.int (nI (hiR D S (S 17 + d) t k n).1)), some (.int (nI (hiR D S (S 17 + d) t k n).2)), some (.int (nI (n + 1))), l] [] h) (msk (D 0 5) (saf D S (S 17 + d) t k)) _ ?_ ?_ _
  · intro n l hn
    have hb := hiR_p w hd' S t k n
    have ha := hiA_le w hd' S t (n + 1)
    rw [b104_35]
    simp only [cond_true, decide_true, cond_false, Bool.and_true, Bool.true_and, Bool.and_self, Bool.and_false, Bool.false_and, Bool.not_true, Bool.not_false, Bool.or_true, Bool.true_or, Bool.or_false, Bool.false_or, is_some, gd_some, bk_v, bk_u, t_O L hT, t_P9 L hT, t_P10 L hT, t_P11 L hT, t_P12 L hT, t_P13 L hT, t_P14 L hT, t_OC L hT, t_C1 L hT, t_C2 L hT, t_C3 L hT, hQ, x_O L, x_P5 L, x_O77 L, s.1, s.2.1, s.2.2.1, s.2.2.2.1, s.2.2.2.2.1, dF (show ¬ nI (msk (D 0 5) (saf D S (S 17 + d) t k)) < nI (n + 1) by rw [w_lt (by omega) (by omega)]; omega), hi70 L hT w c ht hd', b104_57, c101 h (show hiA D S (S 17 + d) t (n + 1) < 2147483648 by omega) (show n + 1 < 256 by omega) (show (hiR D S (S 17 + d) t k n).2 < 2147483648 by omega) (show (hiR D S (S 17 + d) t k n).1 < 256 by omega), b104_63, w_s, z_0]
    rw [show decide (nI (n + 1) &&& (nI (msk (D 0 5) (saf D S (S 17 + d) t k)) ^^^ (-1 : Int32)) = 0) = sbs (n + 1) (msk (D 0 5) (saf D S (S 17 + d) t k)) from rfl]
    rw [hiR_s]
    unfold hiS tks2
    cases sbs (n + 1) (msk (D 0 5) (saf D S (S 17 + d) t k))
    · exact ⟨_, rfl⟩
    · cases btr (hiA D S (S 17 + d) t (n + 1)) (n + 1) (hiR D S (S 17 + d) t k n).2 (hiR D S (S 17 + d) t k n).1
      · exact ⟨_, rfl⟩
      · exact ⟨_, rfl⟩
  · intro l
    rw [b104_35]
    simp only [dT (show nI (msk (D 0 5) (saf D S (S 17 + d) t k)) < nI (msk (D 0 5) (saf D S (S 17 + d) t k) + 1) by rw [w_lt (by omega) (by omega)]; omega), cond_true]
theorem a102 {h : A_H} {T : Nat} {D : Gh} {S : Nat → Nat} (L : Ly h) (hT : isT T) (w : WF D) (c : CT h T D) (hQ : hP h 0 3 = some T) (s : CS h 77 D S) (u : WD D S) {t k d : Nat} (ht : t < D 0 3) (hk : k < D 0 4) (hd : d ≤ 60) : C 102 [.ref 0, .int (nI t), .int (nI k), .int (nI d)] h = some (some (some (.int (nI (hiR D S (S 17 + d) t k (msk (D 0 5) (saf D S (S 17 + d) t k))).1))), wI h 0 8 0) := by
  have L0 : Ly (wI h 0 8 0) := L; have c0 := CT_w0 hT w c 0; have s0 : CS (wI h 0 8 0) 77 D S := CS_w0 s 0; have Q0 : hP (wI h 0 8 0) 0 3 = some T := hQ
  rw [e102]
  simp only [b102_0, b102_6, b102_7, b102_15, hP_wI, isO_wI, isA_wI, cond_true, decide_true, cond_false, Bool.and_true, Bool.true_and, Bool.and_self, Bool.and_false, Bool.false_and, Bool.not_true, Bool.not_false, Bool.or_true, Bool.true_or, Bool.or_false, Bool.false_or, is_some, gd_some, bk_v, bk_u, t_O L hT, t_P9 L hT, t_P10 L hT, t_P11 L hT, t_P12 L hT, t_P13 L hT, t_P14 L hT, t_OC L hT, t_C1 L hT, t_C2 L hT, t_C3 L hT, hQ, x_O L, x_P5 L, x_O77 L, s.1, s.2.1, s.2.2.1, s.2.2.2.1, s.2.2.2.2.1, s0.1, s0.2.1, s0.2.2.1, s0.2.2.2.1, s0.2.2.2.2.1, bI_T, bI_F, i1_0, c144 L hT w c hQ s u, gTGD w ht hk hd, c134 L, c104 L0 hT w c0 Q0 s0 u ht hk hd]
theorem a102b {h : A_H} {T : Nat} {D : Gh} {S : Nat → Nat} (L : Ly h) (hT : isT T) (w : WF D) (c : CT h T D) (hQ : hP h 0 3 = some T) (s : CS h 77 D S) (u : WD D S) {x y z : Int32} (e : decide (eit (eit (gv (D 0 3) x) (gv (D 0 4) y)) (dv z) = 0) = false) : C 102 [.ref 0, .int x, .int y, .int z] h = some (some (some (.int (-1))), wI h 0 8 (eit (eit (gv (D 0 3) x) (gv (D 0 4) y)) (dv z))) := by
  rw [e102]
  simp only [b102_0, b102_6, b102_7, b102_15, cond_true, decide_true, cond_false, Bool.and_true, Bool.true_and, Bool.and_self, Bool.and_false, Bool.false_and, Bool.not_true, Bool.not_false, Bool.or_true, Bool.true_or, Bool.or_false, Bool.false_or, is_some, gd_some, bk_v, bk_u, t_O L hT, t_P9 L hT, t_P10 L hT, t_P11 L hT, t_P12 L hT, t_P13 L hT, t_P14 L hT, t_OC L hT, t_C1 L hT, t_C2 L hT, t_C3 L hT, hQ, x_O L, x_P5 L, x_O77 L, s.1, s.2.1, s.2.2.1, s.2.2.2.1, s.2.2.2.2.1, c144 L hT w c hQ s u, c134 L, e, bI_T, i1_0]
theorem saf_nf {D : Gh} {S : Nat → Nat} (w : WF D) {d t k m : Nat} (e : sbs m (msk (D 0 5) (saf D S d t k)) = true) {g : Nat} (hg : g < D 0 5) : fnd D d (D 9 k) (has D S t) (fun g => m.testBit g) 0 g = false := by
  have h8 := Nat.lt_of_lt_of_le hg (f_nG w)
  cases hm : m.testBit g with
  | false => unfold fnd; simp only [hm, Bool.and_false, Bool.false_and]
  | true =>
    have h1 := sbs_T e (show g < 32 by omega) hm
    rw [msk_bit, dT hg, Bool.true_and] at h1
    unfold saf at h1
    rw [Bool.and_eq_true, Bool.not_eq_true'] at h1
    obtain ⟨a, b⟩ := h1
    unfold fnd at b ⊢
    simp only [a, hm] at b ⊢
    exact b
theorem a103 {h : A_H} {T : Nat} {D : Gh} {S : Nat → Nat} (L : Ly h) (hT : isT T) (w : WF D) (c : CT h T D) (hQ : hP h 0 3 = some T) (s : CS h 77 D S) (u : WD D S) {t k d : Nat} (ht : t < D 0 3) (hk : k < D 0 4) (hd : d ≤ 60) : C 103 [.ref 0, .int (nI t), .int (nI k), .int (nI d)] h = some (some (some (.int (nI (hiR D S (S 17 + d) t k (msk (D 0 5) (saf D S (S 17 + d) t k))).2))), wI h 0 8 0) := by
  have L0 : Ly (wI h 0 8 0) := L; have c0 := CT_w0 hT w c 0; have s0 : CS (wI h 0 8 0) 77 D S := CS_w0 s 0; have Q0 : hP (wI h 0 8 0) 0 3 = some T := hQ
  have h17 := u.1
  have hd' : S 17 + d ≤ 1000 := by omega
  obtain ⟨p1, p2, p3, p4⟩ := hiR_p w hd' S t k (msk (D 0 5) (saf D S (S 17 + d) t k))
  have h71 := c71 L0 hT w c0 ht hk hd' (nI (msk (D 0 5) (has D S t))) (nI (hiR D S (S 17 + d) t k (msk (D 0 5) (saf D S (S 17 + d) t k))).1) false
  rw [bI_F, cond_false] at h71
  rw [e103]
  simp only [b103_0, b103_6, b103_7, b103_15, b103_28, b103_31, hP_wI, isO_wI, isA_wI, cond_true, decide_true, cond_false, Bool.and_true, Bool.true_and, Bool.and_self, Bool.and_false, Bool.false_and, Bool.not_true, Bool.not_false, Bool.or_true, Bool.true_or, Bool.or_false, Bool.false_or, is_some, gd_some, bk_v, bk_u, t_O L hT, t_P9 L hT, t_P10 L hT, t_P11 L hT, t_P12 L hT, t_P13 L hT, t_P14 L hT, t_OC L hT, t_C1 L hT, t_C2 L hT, t_C3 L hT, hQ, x_O L, x_P5 L, x_O77 L, s.1, s.2.1, s.2.2.1, s.2.2.2.1, s.2.2.2.2.1, s0.1, s0.2.1, s0.2.2.1, s0.2.2.2.1, s0.2.2.2.2.1, bI_T, bI_F, i1_0, c144 L hT w c hQ s u, gTGD w ht hk hd, c134 L, nI_add, c104 L0 hT w c0 Q0 s0 u ht hk hd, c146 L0 hT w c0 Q0 s0 u ht, h71]
  rw [p3]
  unfold hiA
  have hq : ∀ g, g < D 0 5 → bt (nI (hiR D S (S 17 + d) t k (msk (D 0 5) (saf D S (S 17 + d) t k))).1) g = Nat.testBit (hiR D S (S 17 + d) t k (msk (D 0 5) (saf D S (S 17 + d) t k))).1 g := by
    intro g hg
    have h8 := Nat.lt_of_lt_of_le hg (f_nG w)
    exact bt_nI _ (by omega)
  rw [ask_congr (p' := fun _ => false) (q' := fun g => has D S t g && !Nat.testBit (hiR D S (S 17 + d) t k (msk (D 0 5) (saf D S (S 17 + d) t k))).1 g)]
  · intro g hg
    exact (fnd_congr (hb_ w t) hq g hg).trans (saf_nf w p4 hg)
  · intro g hg
    rw [hb_ w t g hg, hq g hg]
theorem a103b {h : A_H} {T : Nat} {D : Gh} {S : Nat → Nat} (L : Ly h) (hT : isT T) (w : WF D) (c : CT h T D) (hQ : hP h 0 3 = some T) (s : CS h 77 D S) (u : WD D S) {x y z : Int32} (e : decide (eit (eit (gv (D 0 3) x) (gv (D 0 4) y)) (dv z) = 0) = false) : C 103 [.ref 0, .int x, .int y, .int z] h = some (some (some (.int (-1))), wI h 0 8 (eit (eit (gv (D 0 3) x) (gv (D 0 4) y)) (dv z))) := by
  rw [e103]
  simp only [b103_0, b103_6, b103_7, b103_15, b103_28, b103_31, cond_true, decide_true, cond_false, Bool.and_true, Bool.true_and, Bool.and_self, Bool.and_false, Bool.false_and, Bool.not_true, Bool.not_false, Bool.or_true, Bool.true_or, Bool.or_false, Bool.false_or, is_some, gd_some, bk_v, bk_u, t_O L hT, t_P9 L hT, t_P10 L hT, t_P11 L hT, t_P12 L hT, t_P13 L hT, t_P14 L hT, t_OC L hT, t_C1 L hT, t_C2 L hT, t_C3 L hT, hQ, x_O L, x_P5 L, x_O77 L, s.1, s.2.1, s.2.2.1, s.2.2.2.1, s.2.2.2.2.1, c144 L hT w c hQ s u, c134 L, e, bI_T, i1_0]
theorem w_m2 {a b : Nat} (ha : a < 2147483648) (hb : b < 2147483648) : (if nI a < nI b then nI b else nI a) = nI (max a b) := by
  by_cases e : a < b
  · rw [if_pos ((w_lt ha hb).mpr e), Nat.max_eq_right (by omega)]
  · rw [if_neg (by rw [w_lt ha hb]; exact e), Nat.max_eq_left (by omega)]
theorem w_ls {a q k : Nat} (ha : a < 100000) (hq : q < 100000) (hk : k < 100000) : decide (nI a ≤ nI q - nI k) = decide (a + k ≤ q) := by
  apply decide_eq_decide.mpr
  rw [Int32.le_iff_toInt_le, Int32.toInt_sub, w_int (by omega), w_int (by omega), w_int (by omega), Int.bmod_eq_of_le (by omega) (by omega)]
  omega
def smx (D : Gh) (S : Nat → Nat) (d t n : Nat) : Nat := itr (fun g a => bif has D S t g && hid S g then max a (sme D d g (has0 S) 0) else a) n 0
theorem smx_s (D : Gh) (S : Nat → Nat) (d t n : Nat) : smx D S d t (n + 1) = bif has D S t n && hid S n then max (smx D S d t n) (sme D d n (has0 S) 0) else smx D S d t n := rfl
theorem smx_le {D : Gh} (w : WF D) {d : Nat} (hd : d ≤ 1000) (S : Nat → Nat) (t : Nat) {n : Nat} (hn : n ≤ D 0 5) : smx D S d t n ≤ 300 := by
  induction n with
  | zero => exact Nat.zero_le _
  | succ n ih =>
    have h1 := ih (by omega)
    have h2 := sme_le w (show n < D 0 5 by omega) hd (has0 S) 0
    rw [smx_s]
    cases (has D S t n && hid S n)
    · exact h1
    · exact Nat.max_le.mpr ⟨h1, h2⟩
def fsm (p : Nat → Bool) : Nat → Nat → Option Nat
  | 0, _ => none
  | f + 1, k => bif p k then some k else fsm p f (k + 1)
theorem fsm_s (p : Nat → Bool) (f k : Nat) : fsm p (f + 1) k = bif p k then some k else fsm p f (k + 1) := rfl
def oI : Option Nat → Int32
  | some k => nI k
  | none => -2
theorem a105 {h : A_H} {T : Nat} {D : Gh} {S : Nat → Nat} (L : Ly h) (hT : isT T) (w : WF D) (c : CT h T D) (hQ : hP h 0 3 = some T) (s : CS h 77 D S) (u : WD D S) {t k d : Nat} (ht : t < D 0 3) (hk : k < D 0 4) (hd : d ≤ 60) : C 105 [.ref 0, .int (nI t), .int (nI k), .int (nI d)] h = some (some (some (.int (oI (fsm (fun m => decide (smx D S (S 17 + d) t (D 0 5) < D 9 k + 2 * m)) 31 0)))), wI h 0 8 0) := by
  have L0 : Ly (wI h 0 8 0) := L; have c0 := CT_w0 hT w c 0; have s0 : CS (wI h 0 8 0) 77 D S := CS_w0 s 0; have Q0 : hP (wI h 0 8 0) 0 3 = some T := hQ
  have h17 := u.1
  have hd' : S 17 + d ≤ 1000 := by omega
  have hk3 : k < 3 := Nat.lt_of_lt_of_le hk (f_ng w)
  have hn := f_nose w hk
  rw [e105]
  simp only [b105_0, b105_6, b105_7, b105_13, b105_46, hP_wI, isO_wI, isA_wI, cond_true, decide_true, cond_false, Bool.and_true, Bool.true_and, Bool.and_self, Bool.and_false, Bool.false_and, Bool.not_true, Bool.not_false, Bool.or_true, Bool.true_or, Bool.or_false, Bool.false_or, is_some, gd_some, bk_v, bk_u, t_O L hT, t_P9 L hT, t_P10 L hT, t_P11 L hT, t_P12 L hT, t_P13 L hT, t_P14 L hT, t_OC L hT, t_C1 L hT, t_C2 L hT, t_C3 L hT, hQ, x_O L, x_P5 L, x_O77 L, s.1, s.2.1, s.2.2.1, s.2.2.2.1, s.2.2.2.2.1, s0.1, s0.2.1, s0.2.2.1, s0.2.2.2.1, s0.2.2.2.2.1, bI_T, bI_F, i1_0, c144 L hT w c hQ s u, gTGD w ht hk hd, c134 L, nI_add, c146 L0 hT w c0 Q0 s0 u ht]
  refine (loop_ix (fun g => R 105 24 [some (.ref 0), some (.int (nI t)), some (.int (nI k)), some (.int (nI d)), some (.int (nI (msk (D 0 5) (has D S t)))), some (.int (nI (S 17 + d))), some (.int (nI (smx D S (S 17 + d) t g))), some (.int (nI g))] [] (wI h 0 8 0)) (D 0 5) ?_).trans ?_
  · intro g hg
    have h8 : g < 8 := Nat.lt_of_lt_of_le hg (f_nG w)
    have h1 := smx_le w hd' S t (show g ≤ D 0 5 by omega)
    have h2 := sme_le w hg hd' (has0 S) 0
    rw [b105_24]
    simp only [hP_wI, isO_wI, isA_wI, cond_true, decide_true, cond_false, Bool.and_true, Bool.true_and, Bool.and_self, Bool.and_false, Bool.false_and, Bool.not_true, Bool.not_false, Bool.or_true, Bool.true_or, Bool.or_false, Bool.false_or, is_some, gd_some, bk_v, bk_u, t_O L hT, t_P9 L hT, t_P10 L hT, t_P11 L hT, t_P12 L hT, t_P13 L hT, t_P14 L hT, t_OC L hT, t_C1 L hT, t_C2 L hT, t_C3 L hT, hQ, x_O L, x_P5 L, x_O77 L, s.1, s.2.1, s.2.2.1, s.2.2.2.1, s.2.2.2.2.1, s0.1, s0.2.1, s0.2.2.1, s0.2.2.2.1, s0.2.2.2.2.1, bI_T, bI_F, i1_0, c_s5 c0, g_go w hg, bit_0 _ (show g < 32 by omega), bt_and, hb_ w t g hg, hh_ w g hg, c62 L0 hT w c0 hg hd', b105_46, w_s]
    rw [smx_s]
    cases hc : (has D S t g && hid S g) with
    | false => rfl
    | true =>
      have eo : D 14 g = t := by
        rw [Bool.and_eq_true] at hc
        have := hc.1
        unfold has at this
        rw [Bool.and_eq_true] at this
        exact of_decide_eq_true this.1
      rw [sme_congr (hb_ w t), sme_has eo]
      simp only [cond_true, cond_false, decide_true, Bool.and_true, Bool.true_and, Bool.and_self, Bool.and_false, Bool.false_and, Bool.not_true, Bool.not_false, Bool.or_true, Bool.true_or, Bool.or_false, Bool.false_or, is_some, gd_some, bk_v, bk_u]
      rw [w_m2 (by omega) (by omega)]
  · have hq := smx_le w hd' S t (Nat.le_refl (D 0 5))
    rw [b105_24]
    simp only [hP_wI, isO_wI, isA_wI, cond_true, decide_true, cond_false, Bool.and_true, Bool.true_and, Bool.and_self, Bool.and_false, Bool.false_and, Bool.not_true, Bool.not_false, Bool.or_true, Bool.true_or, Bool.or_false, Bool.false_or, is_some, gd_some, bk_v, bk_u, t_O L hT, t_P9 L hT, t_P10 L hT, t_P11 L hT, t_P12 L hT, t_P13 L hT, t_P14 L hT, t_OC L hT, t_C1 L hT, t_C2 L hT, t_C3 L hT, hQ, x_O L, x_P5 L, x_O77 L, s.1, s.2.1, s.2.2.1, s.2.2.2.1, s.2.2.2.2.1, s0.1, s0.2.1, s0.2.2.1, s0.2.2.2.1, s0.2.2.2.2.1, bI_T, bI_F, i1_0, c_s5 c0, g_stop w]
    generalize smx D S (S 17 + d) t (D 0 5) = q at hq ⊢
    have key : ∀ f m, m + f = 31 → R 105 52 [some (.ref 0), some (.int (nI t)), some (.int (nI k)), some (.int (nI d)), some (.int (nI (msk (D 0 5) (has D S t)))), some (.int (nI (S 17 + d))), some (.int (nI q)), some (.int (nI m))] [] (wI h 0 8 0) = some (some (some (.int (oI (fsm (fun m => decide (q < D 9 k + 2 * m)) f m)))), wI h 0 8 0) := by
      intro f
      induction f with
      | zero =>
        intro m hm
        rw [b105_52, show (30 : Int32) = nI 30 from rfl, dT (by rw [w_lt (by omega) (by omega)]; omega)]
        rfl
      | succ f ih =>
        intro m hm
        rw [b105_52, show (30 : Int32) = nI 30 from rfl, dF (show ¬ nI 30 < nI m by rw [w_lt (by omega) (by omega)]; omega)]
        simp only [hP_wI, isO_wI, isA_wI, cond_true, decide_true, cond_false, Bool.and_true, Bool.true_and, Bool.and_self, Bool.and_false, Bool.false_and, Bool.not_true, Bool.not_false, Bool.or_true, Bool.true_or, Bool.or_false, Bool.false_or, is_some, gd_some, bk_v, bk_u, t_O L hT, t_P9 L hT, t_P10 L hT, t_P11 L hT, t_P12 L hT, t_P13 L hT, t_P14 L hT, t_OC L hT, t_C1 L hT, t_C2 L hT, t_C3 L hT, hQ, x_O L, x_P5 L, x_O77 L, s.1, s.2.1, s.2.2.1, s.2.2.2.1, s.2.2.2.2.1, s0.1, s0.2.1, s0.2.2.1, s0.2.2.2.1, s0.2.2.2.2.1, bI_T, bI_F, i1_0, t_Ag L hT hk3, w_cl (show k < 2147483648 by omega), t_Eg L hT hk3, t_Og L hT hk3, c_nose c0 hk, w_s]
        rw [show (2 : Int32) = nI 2 from rfl, w_mul, w_ls (by omega) (by omega) (by omega), ih (m + 1) (by omega)]
        rw [fsm_s]
        by_cases e : q < D 9 k + 2 * m
        · rw [dT e, dF (by omega : ¬ D 9 k + 2 * m ≤ q)]; rfl
        · rw [dF e, dT (by omega : D 9 k + 2 * m ≤ q)]; rfl
    exact key 31 0 rfl
theorem a105b {h : A_H} {T : Nat} {D : Gh} {S : Nat → Nat} (L : Ly h) (hT : isT T) (w : WF D) (c : CT h T D) (hQ : hP h 0 3 = some T) (s : CS h 77 D S) (u : WD D S) {x y z : Int32} (e : decide (eit (eit (gv (D 0 3) x) (gv (D 0 4) y)) (dv z) = 0) = false) : C 105 [.ref 0, .int x, .int y, .int z] h = some (some (some (.int (-1))), wI h 0 8 (eit (eit (gv (D 0 3) x) (gv (D 0 4) y)) (dv z))) := by
  rw [e105]
  simp only [b105_0, b105_6, b105_7, b105_13, b105_46, cond_true, decide_true, cond_false, Bool.and_true, Bool.true_and, Bool.and_self, Bool.and_false, Bool.false_and, Bool.not_true, Bool.not_false, Bool.or_true, Bool.true_or, Bool.or_false, Bool.false_or, is_some, gd_some, bk_v, bk_u, t_O L hT, t_P9 L hT, t_P10 L hT, t_P11 L hT, t_P12 L hT, t_P13 L hT, t_P14 L hT, t_OC L hT, t_C1 L hT, t_C2 L hT, t_C3 L hT, hQ, x_O L, x_P5 L, x_O77 L, s.1, s.2.1, s.2.2.1, s.2.2.2.1, s.2.2.2.2.1, c144 L hT w c hQ s u, c134 L, e, bI_T, i1_0]
def bgS (D : Gh) (S : Nat → Nat) (g n : Nat) (q : Int32 × Int32) : Int32 × Int32 := bif decide (gai D g (S 17 + n) ≤ q.2) then q else (nI (100 * g + n), gai D g (S 17 + n))
def bgO (D : Gh) (S : Nat → Nat) (g : Nat) (q : Int32 × Int32) : Int32 × Int32 := bif has0 S g then itr (bgS D S g) 61 q else q
theorem a111 {h : A_H} {T : Nat} {D : Gh} {S : Nat → Nat} (L : Ly h) (hT : isT T) (w : WF D) (c : CT h T D) (hQ : hP h 0 3 = some T) (s : CS h 77 D S) (u : WD D S) (hst : hI h 0 4 = 1) : C 111 [.ref 0] h = some (some (some (.int (itr (bgO D S) (D 0 5) (-2, -10000)).1)), wI h 0 8 0) := by
  have L0 : Ly (wI h 0 8 0) := L; have c0 := CT_w0 hT w c 0; have s0 : CS (wI h 0 8 0) 77 D S := CS_w0 s 0; have Q0 : hP (wI h 0 8 0) 0 3 = some T := hQ
  have h17 := u.1
  have e1 : decide ((1 : Int32) = 0) = false := rfl
  rw [e111]
  simp only [b111_0, b111_3, b111_4, b111_10, hP_wI, isO_wI, isA_wI, cond_true, decide_true, cond_false, Bool.and_true, Bool.true_and, Bool.and_self, Bool.and_false, Bool.false_and, Bool.not_true, Bool.not_false, Bool.or_true, Bool.true_or, Bool.or_false, Bool.false_or, is_some, gd_some, bk_v, bk_u, t_O L hT, t_P9 L hT, t_P10 L hT, t_P11 L hT, t_P12 L hT, t_P13 L hT, t_P14 L hT, t_OC L hT, t_C1 L hT, t_C2 L hT, t_C3 L hT, hQ, x_O L, x_P5 L, x_O77 L, s.1, s.2.1, s.2.2.1, s.2.2.2.1, s.2.2.2.2.1, s0.1, s0.2.1, s0.2.2.1, s0.2.2.2.1, s0.2.2.2.2.1, bI_T, bI_F, i1_0, c136 L, hst, c134 L, c51 L0 w_in s0]
  refine loop_dn (fun g (l : Option Value × Option Value) => R 111 17 [some (.ref 0), some (.int ((nI (msk (D 0 5) (is S 1)) ||| nI (msk (D 0 5) (is S 2))) ||| nI (msk (D 0 5) (is S 3)))), some (.int (itr (bgO D S) g (-2, -10000)).1), some (.int (itr (bgO D S) g (-2, -10000)).2), some (.int (nI g)), l.1, l.2] [] (wI h 0 8 0)) (D 0 5) _ ?_ ?_ (none, none)
  · intro g l hg
    have h8 : g < 8 := Nat.lt_of_lt_of_le hg (f_nG w)
    show ∃ a' : Option Value × Option Value, _ = R 111 17 [_, _, some (.int (bgO D S g (itr (bgO D S) g (-2, -10000))).1), some (.int (bgO D S g (itr (bgO D S) g (-2, -10000))).2), _, a'.1, a'.2] [] _
    generalize itr (bgO D S) g (-2, -10000) = q
    rw [b111_17]
    simp only [hP_wI, isO_wI, isA_wI, cond_true, decide_true, cond_false, Bool.and_true, Bool.true_and, Bool.and_self, Bool.and_false, Bool.false_and, Bool.not_true, Bool.not_false, Bool.or_true, Bool.true_or, Bool.or_false, Bool.false_or, is_some, gd_some, bk_v, bk_u, t_O L hT, t_P9 L hT, t_P10 L hT, t_P11 L hT, t_P12 L hT, t_P13 L hT, t_P14 L hT, t_OC L hT, t_C1 L hT, t_C2 L hT, t_C3 L hT, hQ, x_O L, x_P5 L, x_O77 L, s.1, s.2.1, s.2.2.1, s.2.2.2.1, s.2.2.2.2.1, s0.1, s0.2.1, s0.2.2.1, s0.2.2.2.1, s0.2.2.2.2.1, bI_T, bI_F, i1_0, c_s5 c0, g_go w hg]
    unfold bgO
    cases hz : has0 S g with
    | false =>
      rw [b111_24, show (60 : Int32) = nI 60 from rfl, show (0 : Int32) = nI 0 from rfl, dF (show ¬ nI 60 < nI 0 by rw [w_lt (by decide) (by decide)]; decide)]
      rw [show (nI 0 : Int32) = 0 from rfl]
      simp only [hP_wI, isO_wI, isA_wI, cond_true, decide_true, cond_false, Bool.and_true, Bool.true_and, Bool.and_self, Bool.and_false, Bool.false_and, Bool.not_true, Bool.not_false, Bool.or_true, Bool.true_or, Bool.or_false, Bool.false_or, is_some, gd_some, bk_v, bk_u, t_O L hT, t_P9 L hT, t_P10 L hT, t_P11 L hT, t_P12 L hT, t_P13 L hT, t_P14 L hT, t_OC L hT, t_C1 L hT, t_C2 L hT, t_C3 L hT, hQ, x_O L, x_P5 L, x_O77 L, s.1, s.2.1, s.2.2.1, s.2.2.2.1, s.2.2.2.2.1, s0.1, s0.2.1, s0.2.2.1, s0.2.2.2.1, s0.2.2.2.2.1, bI_T, bI_F, i1_0, btz _ (show g < 32 by omega), gone_bt w u hg, hz, w_s]
      exact ⟨(_, _), rfl⟩
    | true =>
      have key : ∀ n, n ≤ 61 → ∃ l', R 111 24 [some (.ref 0), some (.int ((nI (msk (D 0 5) (is S 1)) ||| nI (msk (D 0 5) (is S 2))) ||| nI (msk (D 0 5) (is S 3)))), some (.int q.1), some (.int q.2), some (.int (nI g)), some (.int (nI 0)), l.2] [] (wI h 0 8 0) = R 111 24 [some (.ref 0), some (.int ((nI (msk (D 0 5) (is S 1)) ||| nI (msk (D 0 5) (is S 2))) ||| nI (msk (D 0 5) (is S 3)))), some (.int (itr (bgS D S g) n q).1), some (.int (itr (bgS D S g) n q).2), some (.int (nI g)), some (.int (nI n)), l'] [] (wI h 0 8 0) := by
        intro n
        induction n with
        | zero => intro _; exact ⟨_, rfl⟩
        | succ n ih =>
          intro hn
          obtain ⟨l', e⟩ := ih (by omega)
          rw [e]
          show ∃ l'', _ = R 111 24 [_, _, some (.int (bgS D S g n (itr (bgS D S g) n q)).1), some (.int (bgS D S g n (itr (bgS D S g) n q)).2), _, _, l''] [] _
          generalize itr (bgS D S g) n q = q'
          rw [b111_24, show (60 : Int32) = nI 60 from rfl, dF (show ¬ nI 60 < nI n by rw [w_lt (by omega) (by omega)]; omega)]
          simp only [hP_wI, isO_wI, isA_wI, cond_true, decide_true, cond_false, Bool.and_true, Bool.true_and, Bool.and_self, Bool.and_false, Bool.false_and, Bool.not_true, Bool.not_false, Bool.or_true, Bool.true_or, Bool.or_false, Bool.false_or, is_some, gd_some, bk_v, bk_u, t_O L hT, t_P9 L hT, t_P10 L hT, t_P11 L hT, t_P12 L hT, t_P13 L hT, t_P14 L hT, t_OC L hT, t_C1 L hT, t_C2 L hT, t_C3 L hT, hQ, x_O L, x_P5 L, x_O77 L, s.1, s.2.1, s.2.2.1, s.2.2.2.1, s.2.2.2.2.1, s0.1, s0.2.1, s0.2.2.1, s0.2.2.2.1, s0.2.2.2.2.1, bI_T, bI_F, i1_0, btz _ (show g < 32 by omega), gone_bt w u hg, hz, w_s, nI_add, c64 L0 hT w c0 hg (show S 17 + n ≤ 1000 by omega), b111_42]
          rw [show (100 : Int32) = nI 100 from rfl, w_mul, nI_add]
          unfold bgS
          cases decide (gai D g (S 17 + n) ≤ q'.2)
          · exact ⟨_, rfl⟩
          · exact ⟨_, rfl⟩
      obtain ⟨l', e⟩ := key 61 (Nat.le_refl _)
      rw [show (nI 0 : Int32) = 0 from rfl] at e
      rw [e, b111_24, show (60 : Int32) = nI 60 from rfl, dT (show nI 60 < nI 61 by rw [w_lt (by decide) (by decide)]; decide)]
      simp only [cond_true, cond_false, decide_true, Bool.and_true, Bool.true_and, Bool.and_self, Bool.and_false, Bool.false_and, Bool.not_true, Bool.not_false, Bool.or_true, Bool.true_or, Bool.or_false, Bool.false_or, is_some, gd_some, bk_v, bk_u, w_s]
      exact ⟨(_, _), rfl⟩
  · intro l
    rw [b111_17]
    simp only [hP_wI, isO_wI, isA_wI, cond_true, decide_true, cond_false, Bool.and_true, Bool.true_and, Bool.and_self, Bool.and_false, Bool.false_and, Bool.not_true, Bool.not_false, Bool.or_true, Bool.true_or, Bool.or_false, Bool.false_or, is_some, gd_some, bk_v, bk_u, t_O L hT, t_P9 L hT, t_P10 L hT, t_P11 L hT, t_P12 L hT, t_P13 L hT, t_P14 L hT, t_OC L hT, t_C1 L hT, t_C2 L hT, t_C3 L hT, hQ, x_O L, x_P5 L, x_O77 L, s.1, s.2.1, s.2.2.1, s.2.2.2.1, s.2.2.2.2.1, s0.1, s0.2.1, s0.2.2.1, s0.2.2.2.1, s0.2.2.2.2.1, bI_T, bI_F, i1_0, c_s5 c0, g_stop w]
theorem a111b {h : A_H} {T : Nat} {D : Gh} {S : Nat → Nat} (L : Ly h) (hT : isT T) (w : WF D) (c : CT h T D) (hQ : hP h 0 3 = some T) (s : CS h 77 D S) (u : WD D S) (hst : hI h 0 4 = 0) : C 111 [.ref 0] h = some (some (some (.int (-1))), wI h 0 8 1) := by
  rw [e111]
  simp only [b111_0, b111_3, b111_4, cond_true, decide_true, cond_false, Bool.and_true, Bool.true_and, Bool.and_self, Bool.and_false, Bool.false_and, Bool.not_true, Bool.not_false, Bool.or_true, Bool.true_or, Bool.or_false, Bool.false_or, is_some, gd_some, bk_v, bk_u, t_O L hT, t_P9 L hT, t_P10 L hT, t_P11 L hT, t_P12 L hT, t_P13 L hT, t_P14 L hT, t_OC L hT, t_C1 L hT, t_C2 L hT, t_C3 L hT, hQ, x_O L, x_P5 L, x_O77 L, s.1, s.2.1, s.2.2.1, s.2.2.2.1, s.2.2.2.2.1, c136 L, hst, c134 L, bI_T, i1_0]
