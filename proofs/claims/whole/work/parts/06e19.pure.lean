theorem k_lt {k : Nat} (hk : k < 100000) (x : Int32) : decide (nI k < x) = decide (nI (k + 1) ≤ x) := by
  apply decide_eq_decide.mpr
  rw [Int32.le_iff_toInt_le, Int32.lt_iff_toInt_lt, w_int (by omega), w_int (by omega)]
  omega
theorem a88 {h : A_H} {T : Nat} {D : Gh} {S : Nat → Nat} (L : Ly h) (hT : isT T) (w : WF D) (c : CT h T D) (hQ : hP h 0 3 = some T) (s : CS h 77 D S) (u : WD D S) {t k d : Nat} (ht : t < D 0 3) (hk : k < D 0 4) (hd : d ≤ 60) : C 88 [.ref 0, .int (nI t), .int (nI k), .int (nI d)] h = some (some (some (.int (nI (ask D 0 (S 17 + d) t (fnd D (S 17 + d) (D 9 k) (has D S t) (hid S) 0) (fun g => has D S t g && !hid S g))))), wI h 0 8 0) := by
  have L0 : Ly (wI h 0 8 0) := L; have c0 := CT_w0 hT w c 0; have s0 : CS (wI h 0 8 0) 77 D S := CS_w0 s 0; have Q0 : hP (wI h 0 8 0) 0 3 = some T := hQ
  have h148 := c148 L0 hT w c0 Q0 s0 u ht hk hd false
  rw [bI_F, cond_false] at h148
  rw [e88]
  simp only [b88_0, b88_6, b88_7, b88_16, hP_wI, isO_wI, isA_wI, cond_true, decide_true, cond_false, Bool.and_true, Bool.true_and, Bool.and_self, Bool.and_false, Bool.false_and, Bool.not_true, Bool.not_false, Bool.or_true, Bool.true_or, Bool.or_false, Bool.false_or, is_some, gd_some, bk_v, bk_u, t_O L hT, t_P9 L hT, t_P10 L hT, t_P11 L hT, t_P12 L hT, t_P13 L hT, t_P14 L hT, t_OC L hT, t_C1 L hT, t_C2 L hT, t_C3 L hT, hQ, x_O L, x_P5 L, x_O77 L, s.1, s.2.1, s.2.2.1, s.2.2.2.1, s.2.2.2.2.1, s0.1, s0.2.1, s0.2.2.1, s0.2.2.2.1, s0.2.2.2.2.1, bI_T, bI_F, i1_0, c144 L hT w c hQ s u, gTGD w ht hk hd, c134 L, h148]
theorem a88b {h : A_H} {T : Nat} {D : Gh} {S : Nat → Nat} (L : Ly h) (hT : isT T) (w : WF D) (c : CT h T D) (hQ : hP h 0 3 = some T) (s : CS h 77 D S) (u : WD D S) {x y z : Int32} (e : decide (eit (eit (gv (D 0 3) x) (gv (D 0 4) y)) (dv z) = 0) = false) : C 88 [.ref 0, .int x, .int y, .int z] h = some (some (some (.int (-1))), wI h 0 8 (eit (eit (gv (D 0 3) x) (gv (D 0 4) y)) (dv z))) := by
  rw [e88]
  simp only [b88_0, b88_6, b88_7, b88_16, cond_true, decide_true, cond_false, Bool.and_true, Bool.true_and, Bool.and_self, Bool.and_false, Bool.false_and, Bool.not_true, Bool.not_false, Bool.or_true, Bool.true_or, Bool.or_false, Bool.false_or, is_some, gd_some, bk_v, bk_u, t_O L hT, t_P9 L hT, t_P10 L hT, t_P11 L hT, t_P12 L hT, t_P13 L hT, t_P14 L hT, t_OC L hT, t_C1 L hT, t_C2 L hT, t_C3 L hT, hQ, x_O L, x_P5 L, x_O77 L, s.1, s.2.1, s.2.2.1, s.2.2.2.1, s.2.2.2.2.1, c144 L hT w c hQ s u, c134 L, e, bI_T, i1_0]
theorem a90 {h : A_H} {T : Nat} {D : Gh} {S : Nat → Nat} (L : Ly h) (hT : isT T) (w : WF D) (c : CT h T D) (hQ : hP h 0 3 = some T) (s : CS h 77 D S) (u : WD D S) {t k d : Nat} (ht : t < D 0 3) (hk : k < D 0 4) (hd : d ≤ 60) : C 90 [.ref 0, .int (nI t), .int (nI k), .int (nI d)] h = some (some (some (.int (nI (ask D 1 (S 17 + d) t (fnd D (S 17 + d) (D 9 k) (has D S t) (hid S) 0) (fun g => has D S t g && !hid S g))))), wI h 0 8 0) := by
  have L0 : Ly (wI h 0 8 0) := L; have c0 := CT_w0 hT w c 0; have s0 : CS (wI h 0 8 0) 77 D S := CS_w0 s 0; have Q0 : hP (wI h 0 8 0) 0 3 = some T := hQ
  have h148 := c148 L0 hT w c0 Q0 s0 u ht hk hd true
  rw [bI_T, cond_true] at h148
  rw [e90]
  simp only [b90_0, b90_6, b90_7, b90_16, hP_wI, isO_wI, isA_wI, cond_true, decide_true, cond_false, Bool.and_true, Bool.true_and, Bool.and_self, Bool.and_false, Bool.false_and, Bool.not_true, Bool.not_false, Bool.or_true, Bool.true_or, Bool.or_false, Bool.false_or, is_some, gd_some, bk_v, bk_u, t_O L hT, t_P9 L hT, t_P10 L hT, t_P11 L hT, t_P12 L hT, t_P13 L hT, t_P14 L hT, t_OC L hT, t_C1 L hT, t_C2 L hT, t_C3 L hT, hQ, x_O L, x_P5 L, x_O77 L, s.1, s.2.1, s.2.2.1, s.2.2.2.1, s.2.2.2.2.1, s0.1, s0.2.1, s0.2.2.1, s0.2.2.2.1, s0.2.2.2.2.1, bI_T, bI_F, i1_0, c144 L hT w c hQ s u, gTGD w ht hk hd, c134 L, h148]
theorem a90b {h : A_H} {T : Nat} {D : Gh} {S : Nat → Nat} (L : Ly h) (hT : isT T) (w : WF D) (c : CT h T D) (hQ : hP h 0 3 = some T) (s : CS h 77 D S) (u : WD D S) {x y z : Int32} (e : decide (eit (eit (gv (D 0 3) x) (gv (D 0 4) y)) (dv z) = 0) = false) : C 90 [.ref 0, .int x, .int y, .int z] h = some (some (some (.int (-1))), wI h 0 8 (eit (eit (gv (D 0 3) x) (gv (D 0 4) y)) (dv z))) := by
  rw [e90]
  simp only [b90_0, b90_6, b90_7, b90_16, cond_true, decide_true, cond_false, Bool.and_true, Bool.true_and, Bool.and_self, Bool.and_false, Bool.false_and, Bool.not_true, Bool.not_false, Bool.or_true, Bool.true_or, Bool.or_false, Bool.false_or, is_some, gd_some, bk_v, bk_u, t_O L hT, t_P9 L hT, t_P10 L hT, t_P11 L hT, t_P12 L hT, t_P13 L hT, t_P14 L hT, t_OC L hT, t_C1 L hT, t_C2 L hT, t_C3 L hT, hQ, x_O L, x_P5 L, x_O77 L, s.1, s.2.1, s.2.2.1, s.2.2.2.1, s.2.2.2.2.1, c144 L hT w c hQ s u, c134 L, e, bI_T, i1_0]
theorem hb_ {D : Gh} {S : Nat → Nat} (w : WF D) (t : Nat) : ∀ g, g < D 0 5 → bt (nI (msk (D 0 5) (has D S t))) g = has D S t g := by
  intro g hg
  have h8 := Nat.lt_of_lt_of_le hg (f_nG w)
  rw [bt_msk _ (by omega), dT hg, Bool.true_and]
theorem hh_ {D : Gh} {S : Nat → Nat} (w : WF D) : ∀ g, g < D 0 5 → bt (nI (S 16)) g = hid S g := by
  intro g hg
  have h8 := Nat.lt_of_lt_of_le hg (f_nG w)
  exact bt_nI _ (by omega)
theorem a89 {h : A_H} {T : Nat} {D : Gh} {S : Nat → Nat} (L : Ly h) (hT : isT T) (w : WF D) (c : CT h T D) (hQ : hP h 0 3 = some T) (s : CS h 77 D S) (u : WD D S) {t k d : Nat} (ht : t < D 0 3) (hk : k < D 0 4) (hd : d ≤ 60) : C 89 [.ref 0, .int (nI t), .int (nI k), .int (nI d)] h = some (some (some (.int (nI (msk (D 0 5) (fnd D (S 17 + d) (D 9 k) (has D S t) (hid S) 0))))), wI h 0 8 0) := by
  have L0 : Ly (wI h 0 8 0) := L; have c0 := CT_w0 hT w c 0; have s0 : CS (wI h 0 8 0) 77 D S := CS_w0 s 0; have Q0 : hP (wI h 0 8 0) 0 3 = some T := hQ
  have h17 := u.1
  rw [e89]
  simp only [b89_0, b89_6, b89_7, b89_21, b89_25, hP_wI, isO_wI, isA_wI, cond_true, decide_true, cond_false, Bool.and_true, Bool.true_and, Bool.and_self, Bool.and_false, Bool.false_and, Bool.not_true, Bool.not_false, Bool.or_true, Bool.true_or, Bool.or_false, Bool.false_or, is_some, gd_some, bk_v, bk_u, t_O L hT, t_P9 L hT, t_P10 L hT, t_P11 L hT, t_P12 L hT, t_P13 L hT, t_P14 L hT, t_OC L hT, t_C1 L hT, t_C2 L hT, t_C3 L hT, hQ, x_O L, x_P5 L, x_O77 L, s.1, s.2.1, s.2.2.1, s.2.2.2.1, s.2.2.2.2.1, s0.1, s0.2.1, s0.2.2.1, s0.2.2.2.1, s0.2.2.2.2.1, bI_T, bI_F, i1_0, c144 L hT w c hQ s u, gTGD w ht hk hd, c134 L, nI_add, c146 L0 hT w c0 Q0 s0 u ht, c69 L0 hT w c0 hk (show S 17 + d ≤ 1000 by omega)]
  rw [msk_congr (fun g hg => fnd_congr (hb_ w t) (hh_ w) g hg)]
theorem a89b {h : A_H} {T : Nat} {D : Gh} {S : Nat → Nat} (L : Ly h) (hT : isT T) (w : WF D) (c : CT h T D) (hQ : hP h 0 3 = some T) (s : CS h 77 D S) (u : WD D S) {x y z : Int32} (e : decide (eit (eit (gv (D 0 3) x) (gv (D 0 4) y)) (dv z) = 0) = false) : C 89 [.ref 0, .int x, .int y, .int z] h = some (some (some (.int (-1))), wI h 0 8 (eit (eit (gv (D 0 3) x) (gv (D 0 4) y)) (dv z))) := by
  rw [e89]
  simp only [b89_0, b89_6, b89_7, b89_21, b89_25, cond_true, decide_true, cond_false, Bool.and_true, Bool.true_and, Bool.and_self, Bool.and_false, Bool.false_and, Bool.not_true, Bool.not_false, Bool.or_true, Bool.true_or, Bool.or_false, Bool.false_or, is_some, gd_some, bk_v, bk_u, t_O L hT, t_P9 L hT, t_P10 L hT, t_P11 L hT, t_P12 L hT, t_P13 L hT, t_P14 L hT, t_OC L hT, t_C1 L hT, t_C2 L hT, t_C3 L hT, hQ, x_O L, x_P5 L, x_O77 L, s.1, s.2.1, s.2.2.1, s.2.2.2.1, s.2.2.2.2.1, c144 L hT w c hQ s u, c134 L, e, bI_T, i1_0]
theorem gTD {D : Gh} (w : WF D) {t d : Nat} (ht : t < D 0 3) (hd : d ≤ 60) : eit (gv (D 0 3) (nI t)) (dv (nI d)) = 0 := by
  have := f_nt w
  rw [gv_0 (by omega) ht, dv_0 hd]; rfl
theorem eit_e (x y : Int32) : (bif decide (x = 0) then y else x) = eit x y := rfl
theorem a91 {h : A_H} {T : Nat} {D : Gh} {S : Nat → Nat} (L : Ly h) (hT : isT T) (w : WF D) (c : CT h T D) (hQ : hP h 0 3 = some T) (s : CS h 77 D S) (u : WD D S) {t d : Nat} (ht : t < D 0 3) (hd : d ≤ 60) : C 91 [.ref 0, .int (nI t), .int (nI d)] h = some (some (some (.int (nI (sm (D 0 5) (fun g => bif has D S t g then wor D g (S 17 + d) else 0))))), wI h 0 8 0) := by
  have L0 : Ly (wI h 0 8 0) := L; have c0 := CT_w0 hT w c 0; have s0 : CS (wI h 0 8 0) 77 D S := CS_w0 s 0; have Q0 : hP (wI h 0 8 0) 0 3 = some T := hQ
  have h17 := u.1
  rw [e91]
  simp only [b91_0, b91_4, b91_6, b91_7, b91_8, b91_16, b91_22, hP_wI, isO_wI, isA_wI, cond_true, decide_true, cond_false, Bool.and_true, Bool.true_and, Bool.and_self, Bool.and_false, Bool.false_and, Bool.not_true, Bool.not_false, Bool.or_true, Bool.true_or, Bool.or_false, Bool.false_or, is_some, gd_some, bk_v, bk_u, t_O L hT, t_P9 L hT, t_P10 L hT, t_P11 L hT, t_P12 L hT, t_P13 L hT, t_P14 L hT, t_OC L hT, t_C1 L hT, t_C2 L hT, t_C3 L hT, hQ, x_O L, x_P5 L, x_O77 L, s.1, s.2.1, s.2.2.1, s.2.2.2.1, s.2.2.2.2.1, s0.1, s0.2.1, s0.2.2.1, s0.2.2.2.1, s0.2.2.2.2.1, bI_T, bI_F, i1_0, c138 L hT w c hQ s u, c141, c135, eit_e, gTD w ht hd, c134 L, nI_add, c146 L0 hT w c0 Q0 s0 u ht, c67 L0 hT w c0 _ (show S 17 + d ≤ 1000 by omega)]
  rw [sm_congr (fun g hg => by rw [hb_ w t g hg])]
theorem a91b {h : A_H} {T : Nat} {D : Gh} {S : Nat → Nat} (L : Ly h) (hT : isT T) (w : WF D) (c : CT h T D) (hQ : hP h 0 3 = some T) (s : CS h 77 D S) (u : WD D S) {x y : Int32} (e : decide (eit (gv (D 0 3) x) (dv y) = 0) = false) : C 91 [.ref 0, .int x, .int y] h = some (some (some (.int (-1))), wI h 0 8 (eit (gv (D 0 3) x) (dv y))) := by
  rw [e91]
  simp only [b91_0, b91_4, b91_6, b91_7, b91_8, b91_16, b91_22, cond_true, decide_true, cond_false, Bool.and_true, Bool.true_and, Bool.and_self, Bool.and_false, Bool.false_and, Bool.not_true, Bool.not_false, Bool.or_true, Bool.true_or, Bool.or_false, Bool.false_or, is_some, gd_some, bk_v, bk_u, t_O L hT, t_P9 L hT, t_P10 L hT, t_P11 L hT, t_P12 L hT, t_P13 L hT, t_P14 L hT, t_OC L hT, t_C1 L hT, t_C2 L hT, t_C3 L hT, hQ, x_O L, x_P5 L, x_O77 L, s.1, s.2.1, s.2.2.1, s.2.2.2.1, s.2.2.2.2.1, c138 L hT w c hQ s u, c141, c135, eit_e, c134 L, e, bI_T, i1_0]
theorem a92 {h : A_H} {T : Nat} {D : Gh} {S : Nat → Nat} (L : Ly h) (hT : isT T) (w : WF D) (c : CT h T D) (hQ : hP h 0 3 = some T) (s : CS h 77 D S) (u : WD D S) {m d : Nat} (hm : m < D 0 2) (hd : d ≤ 60) : C 92 [.ref 0, .int (nI m), .int (nI d)] h = some (some (some (.int (nI (dus D 0 (S 17 + d) (fun g => decide (byI D g = nI m) && has0 S g))))), wI h 0 8 0) := by
  have L0 : Ly (wI h 0 8 0) := L; have c0 := CT_w0 hT w c 0; have s0 : CS (wI h 0 8 0) 77 D S := CS_w0 s 0; have Q0 : hP (wI h 0 8 0) 0 3 = some T := hQ
  have h17 := u.1
  have h4 := f_nm w
  have h68 := fun x => c68 L0 hT w c0 x (show S 17 + d ≤ 1000 by omega) false
  simp only [bI_F, cond_false] at h68
  rw [e92]
  simp only [b92_0, b92_19, b92_20, b92_21, b92_28, b92_31, b92_45, hP_wI, isO_wI, isA_wI, cond_true, decide_true, cond_false, Bool.and_true, Bool.true_and, Bool.and_self, Bool.and_false, Bool.false_and, Bool.not_true, Bool.not_false, Bool.or_true, Bool.true_or, Bool.or_false, Bool.false_or, is_some, gd_some, bk_v, bk_u, t_O L hT, t_P9 L hT, t_P10 L hT, t_P11 L hT, t_P12 L hT, t_P13 L hT, t_P14 L hT, t_OC L hT, t_C1 L hT, t_C2 L hT, t_C3 L hT, hQ, x_O L, x_P5 L, x_O77 L, s.1, s.2.1, s.2.2.1, s.2.2.2.1, s.2.2.2.2.1, s0.1, s0.2.1, s0.2.2.1, s0.2.2.2.1, s0.2.2.2.2.1, bI_T, bI_F, i1_0, c_s2 c, dF (w_nn (show m < 2147483648 by omega)), dF (show ¬ nI (D 0 2) ≤ nI m by rw [w_le (by omega) (by omega)]; omega), c141, dv_0 hd, c135, c134 L, nI_add, c65 L0 hT w c0, c51 L0 w_in s0, h68]
  rw [dus_congr (q := fun g => decide (byI D g = nI m) && has0 S g)]
  intro g hg
  have h8 : g < 8 := Nat.lt_of_lt_of_le hg (f_nG w)
  rw [bt_and, bt_xm _ (by omega), gone_bt w u hg, Bool.not_not, bt_msk _ (by omega), dT hg, Bool.true_and]
theorem a92b {h : A_H} {T : Nat} {D : Gh} {S : Nat → Nat} (L : Ly h) (hT : isT T) (w : WF D) (c : CT h T D) (hQ : hP h 0 3 = some T) (s : CS h 77 D S) (u : WD D S) {x y : Int32} (e : decide (eit (gv (D 0 2) x) (dv y) = 0) = false) : C 92 [.ref 0, .int x, .int y] h = some (some (some (.int (-1))), wI h 0 8 (eit (gv (D 0 2) x) (dv y))) := by
  have h4 := f_nm w
  rw [e92]
  cases h1 : decide (x < 0) with
  | true =>
    have hg : gv (D 0 2) x = 1 := by unfold gv vd; rw [h1]; rfl
    rw [hg] at e ⊢
    simp only [b92_0, b92_19, b92_20, b92_21, b92_28, b92_31, b92_45, cond_true, decide_true, cond_false, Bool.and_true, Bool.true_and, Bool.and_self, Bool.and_false, Bool.false_and, Bool.not_true, Bool.not_false, Bool.or_true, Bool.true_or, Bool.or_false, Bool.false_or, is_some, gd_some, bk_v, bk_u, t_O L hT, t_P9 L hT, t_P10 L hT, t_P11 L hT, t_P12 L hT, t_P13 L hT, t_P14 L hT, t_OC L hT, t_C1 L hT, t_C2 L hT, t_C3 L hT, hQ, x_O L, x_P5 L, x_O77 L, s.1, s.2.1, s.2.2.1, s.2.2.2.1, s.2.2.2.2.1, h1, c141, c135, eit_e, c134 L, e, bI_T, i1_0]; rfl
  | false =>
    cases h2 : decide (nI (D 0 2) ≤ x) with
    | true =>
      have hg : gv (D 0 2) x = 1 := by unfold gv vd; rw [h1, h2]; rfl
      rw [hg] at e ⊢
      simp only [b92_0, b92_19, b92_20, b92_21, b92_28, b92_31, b92_45, cond_true, decide_true, cond_false, Bool.and_true, Bool.true_and, Bool.and_self, Bool.and_false, Bool.false_and, Bool.not_true, Bool.not_false, Bool.or_true, Bool.true_or, Bool.or_false, Bool.false_or, is_some, gd_some, bk_v, bk_u, t_O L hT, t_P9 L hT, t_P10 L hT, t_P11 L hT, t_P12 L hT, t_P13 L hT, t_P14 L hT, t_OC L hT, t_C1 L hT, t_C2 L hT, t_C3 L hT, hQ, x_O L, x_P5 L, x_O77 L, s.1, s.2.1, s.2.2.1, s.2.2.2.1, s.2.2.2.2.1, c_s2 c, h1, h2, c141, c135, eit_e, c134 L, e, bI_T, i1_0]; rfl
    | false =>
      have hg : gv (D 0 2) x = 0 := by unfold gv vd; rw [h1, h2]; rfl
      rw [hg, eit_0] at e ⊢
      simp only [b92_0, b92_19, b92_20, b92_21, b92_28, b92_31, b92_45, cond_true, decide_true, cond_false, Bool.and_true, Bool.true_and, Bool.and_self, Bool.and_false, Bool.false_and, Bool.not_true, Bool.not_false, Bool.or_true, Bool.true_or, Bool.or_false, Bool.false_or, is_some, gd_some, bk_v, bk_u, t_O L hT, t_P9 L hT, t_P10 L hT, t_P11 L hT, t_P12 L hT, t_P13 L hT, t_P14 L hT, t_OC L hT, t_C1 L hT, t_C2 L hT, t_C3 L hT, hQ, x_O L, x_P5 L, x_O77 L, s.1, s.2.1, s.2.2.1, s.2.2.2.1, s.2.2.2.2.1, c_s2 c, h1, h2, c141, c135, eit_e, eit_0, c134 L, e, bI_T, i1_0]
theorem vd_6 {k : Nat} (hk : k < 1000) {y : Int32} (e : vd (k + 1) y = false) : (decide (y < 0) = true) ∨ (decide (y < 0) = false ∧ decide (nI k < y) = true) := by
  unfold vd at e
  rw [k_lt (by omega)]
  cases h1 : decide (y < 0) with
  | true => exact Or.inl rfl
  | false =>
    right
    rw [h1] at e
    cases h2 : decide (nI (k + 1) ≤ y) with
    | true => exact ⟨rfl, rfl⟩
    | false => rw [h2] at e; cases e
theorem vd_7 {k : Nat} (hk : k < 1000) {y : Int32} (e : vd (k + 1) y = true) : decide (y < 0) = false ∧ decide (nI k < y) = false := by
  unfold vd at e
  rw [k_lt (by omega)]
  cases h1 : decide (y < 0) with
  | true => rw [h1] at e; cases e
  | false =>
    rw [h1] at e
    cases h2 : decide (nI (k + 1) ≤ y) with
    | true => rw [h2] at e; cases e
    | false => exact ⟨rfl, rfl⟩
theorem gv_1 {n : Nat} {x : Int32} (e : vd n x = false) : gv n x = 1 := by unfold gv; rw [e]; rfl
theorem a80b {h : A_H} {T : Nat} {D : Gh} {S : Nat → Nat} (L : Ly h) (hT : isT T) (w : WF D) (c : CT h T D) (hQ : hP h 0 3 = some T) (s : CS h 77 D S) (u : WD D S) {x y : Int32} (e : (vd 6 y && vd (D 0 5) x) = false) : C 80 [.ref 0, .int x, .int y] h = some (some (some (.int (-1))), wI h 0 8 1) := by
  rw [e80]
  cases h6 : vd 6 y with
  | false =>
    rcases vd_6 (k := 5) (by decide) h6 with h1 | ⟨h1, h2⟩
    · simp only [b80_0, b80_9, b80_12, b80_39, cond_true, decide_true, cond_false, Bool.and_true, Bool.true_and, Bool.and_self, Bool.and_false, Bool.false_and, Bool.not_true, Bool.not_false, Bool.or_true, Bool.true_or, Bool.or_false, Bool.false_or, is_some, gd_some, bk_v, bk_u, t_O L hT, t_P9 L hT, t_P10 L hT, t_P11 L hT, t_P12 L hT, t_P13 L hT, t_P14 L hT, t_OC L hT, t_C1 L hT, t_C2 L hT, t_C3 L hT, hQ, x_O L, x_P5 L, x_O77 L, s.1, s.2.1, s.2.2.1, s.2.2.2.1, s.2.2.2.2.1, h1, c134 L, bI_T, i1_0]
    · rw [show nI 5 = 5 from rfl] at h2
      simp only [b80_0, b80_9, b80_12, b80_39, cond_true, decide_true, cond_false, Bool.and_true, Bool.true_and, Bool.and_self, Bool.and_false, Bool.false_and, Bool.not_true, Bool.not_false, Bool.or_true, Bool.true_or, Bool.or_false, Bool.false_or, is_some, gd_some, bk_v, bk_u, t_O L hT, t_P9 L hT, t_P10 L hT, t_P11 L hT, t_P12 L hT, t_P13 L hT, t_P14 L hT, t_OC L hT, t_C1 L hT, t_C2 L hT, t_C3 L hT, hQ, x_O L, x_P5 L, x_O77 L, s.1, s.2.1, s.2.2.1, s.2.2.2.1, s.2.2.2.2.1, h1, h2, c134 L, bI_T, i1_0]
  | true =>
    obtain ⟨h1, h2⟩ := vd_7 (k := 5) (by decide) h6
    rw [show nI 5 = 5 from rfl] at h2
    rw [h6, Bool.true_and] at e
    simp only [b80_0, b80_9, b80_12, b80_39, cond_true, decide_true, cond_false, Bool.and_true, Bool.true_and, Bool.and_self, Bool.and_false, Bool.false_and, Bool.not_true, Bool.not_false, Bool.or_true, Bool.true_or, Bool.or_false, Bool.false_or, is_some, gd_some, bk_v, bk_u, t_O L hT, t_P9 L hT, t_P10 L hT, t_P11 L hT, t_P12 L hT, t_P13 L hT, t_P14 L hT, t_OC L hT, t_C1 L hT, t_C2 L hT, t_C3 L hT, hQ, x_O L, x_P5 L, x_O77 L, s.1, s.2.1, s.2.2.1, s.2.2.2.1, s.2.2.2.2.1, h1, h2, c137 L hT w c hQ s u, gv_1 e, c134 L, bI_T, i1_0]
theorem a81b {h : A_H} {T : Nat} {D : Gh} {S : Nat → Nat} (L : Ly h) (hT : isT T) (w : WF D) (c : CT h T D) (hQ : hP h 0 3 = some T) (s : CS h 77 D S) (u : WD D S) {x y : Int32} (e : (vd 4 y && vd (D 0 3) x) = false) : C 81 [.ref 0, .int x, .int y] h = some (some (some (.int (-1))), wI h 0 8 1) := by
  rw [e81]
  cases h6 : vd 4 y with
  | false =>
    rcases vd_6 (k := 3) (by decide) h6 with h1 | ⟨h1, h2⟩
    · simp only [b81_0, b81_9, b81_12, b81_27, b81_37, cond_true, decide_true, cond_false, Bool.and_true, Bool.true_and, Bool.and_self, Bool.and_false, Bool.false_and, Bool.not_true, Bool.not_false, Bool.or_true, Bool.true_or, Bool.or_false, Bool.false_or, is_some, gd_some, bk_v, bk_u, t_O L hT, t_P9 L hT, t_P10 L hT, t_P11 L hT, t_P12 L hT, t_P13 L hT, t_P14 L hT, t_OC L hT, t_C1 L hT, t_C2 L hT, t_C3 L hT, hQ, x_O L, x_P5 L, x_O77 L, s.1, s.2.1, s.2.2.1, s.2.2.2.1, s.2.2.2.2.1, h1, c134 L, bI_T, i1_0]
    · rw [show nI 3 = 3 from rfl] at h2
      simp only [b81_0, b81_9, b81_12, b81_27, b81_37, cond_true, decide_true, cond_false, Bool.and_true, Bool.true_and, Bool.and_self, Bool.and_false, Bool.false_and, Bool.not_true, Bool.not_false, Bool.or_true, Bool.true_or, Bool.or_false, Bool.false_or, is_some, gd_some, bk_v, bk_u, t_O L hT, t_P9 L hT, t_P10 L hT, t_P11 L hT, t_P12 L hT, t_P13 L hT, t_P14 L hT, t_OC L hT, t_C1 L hT, t_C2 L hT, t_C3 L hT, hQ, x_O L, x_P5 L, x_O77 L, s.1, s.2.1, s.2.2.1, s.2.2.2.1, s.2.2.2.2.1, h1, h2, c134 L, bI_T, i1_0]
  | true =>
    obtain ⟨h1, h2⟩ := vd_7 (k := 3) (by decide) h6
    rw [show nI 3 = 3 from rfl] at h2
    rw [h6, Bool.true_and] at e
    simp only [b81_0, b81_9, b81_12, b81_27, b81_37, cond_true, decide_true, cond_false, Bool.and_true, Bool.true_and, Bool.and_self, Bool.and_false, Bool.false_and, Bool.not_true, Bool.not_false, Bool.or_true, Bool.true_or, Bool.or_false, Bool.false_or, is_some, gd_some, bk_v, bk_u, t_O L hT, t_P9 L hT, t_P10 L hT, t_P11 L hT, t_P12 L hT, t_P13 L hT, t_P14 L hT, t_OC L hT, t_C1 L hT, t_C2 L hT, t_C3 L hT, hQ, x_O L, x_P5 L, x_O77 L, s.1, s.2.1, s.2.2.1, s.2.2.2.1, s.2.2.2.2.1, h1, h2, c138 L hT w c hQ s u, gv_1 e, c134 L, bI_T, i1_0]
theorem a82b {h : A_H} {T : Nat} {D : Gh} {S : Nat → Nat} (L : Ly h) (hT : isT T) (w : WF D) (c : CT h T D) (hQ : hP h 0 3 = some T) (s : CS h 77 D S) (u : WD D S) {x y : Int32} (e : (vd 3 y && vd (D 0 4) x) = false) : C 82 [.ref 0, .int x, .int y] h = some (some (some (.int (-1))), wI h 0 8 1) := by
  rw [e82]
  cases h6 : vd 3 y with
  | false =>
    rcases vd_6 (k := 2) (by decide) h6 with h1 | ⟨h1, h2⟩
    · simp only [b82_0, b82_9, b82_12, cond_true, decide_true, cond_false, Bool.and_true, Bool.true_and, Bool.and_self, Bool.and_false, Bool.false_and, Bool.not_true, Bool.not_false, Bool.or_true, Bool.true_or, Bool.or_false, Bool.false_or, is_some, gd_some, bk_v, bk_u, t_O L hT, t_P9 L hT, t_P10 L hT, t_P11 L hT, t_P12 L hT, t_P13 L hT, t_P14 L hT, t_OC L hT, t_C1 L hT, t_C2 L hT, t_C3 L hT, hQ, x_O L, x_P5 L, x_O77 L, s.1, s.2.1, s.2.2.1, s.2.2.2.1, s.2.2.2.2.1, h1, c134 L, bI_T, i1_0]
    · rw [show nI 2 = 2 from rfl] at h2
      simp only [b82_0, b82_9, b82_12, cond_true, decide_true, cond_false, Bool.and_true, Bool.true_and, Bool.and_self, Bool.and_false, Bool.false_and, Bool.not_true, Bool.not_false, Bool.or_true, Bool.true_or, Bool.or_false, Bool.false_or, is_some, gd_some, bk_v, bk_u, t_O L hT, t_P9 L hT, t_P10 L hT, t_P11 L hT, t_P12 L hT, t_P13 L hT, t_P14 L hT, t_OC L hT, t_C1 L hT, t_C2 L hT, t_C3 L hT, hQ, x_O L, x_P5 L, x_O77 L, s.1, s.2.1, s.2.2.1, s.2.2.2.1, s.2.2.2.2.1, h1, h2, c134 L, bI_T, i1_0]
  | true =>
    obtain ⟨h1, h2⟩ := vd_7 (k := 2) (by decide) h6
    rw [show nI 2 = 2 from rfl] at h2
    rw [h6, Bool.true_and] at e
    simp only [b82_0, b82_9, b82_12, cond_true, decide_true, cond_false, Bool.and_true, Bool.true_and, Bool.and_self, Bool.and_false, Bool.false_and, Bool.not_true, Bool.not_false, Bool.or_true, Bool.true_or, Bool.or_false, Bool.false_or, is_some, gd_some, bk_v, bk_u, t_O L hT, t_P9 L hT, t_P10 L hT, t_P11 L hT, t_P12 L hT, t_P13 L hT, t_P14 L hT, t_OC L hT, t_C1 L hT, t_C2 L hT, t_C3 L hT, hQ, x_O L, x_P5 L, x_O77 L, s.1, s.2.1, s.2.2.1, s.2.2.2.1, s.2.2.2.2.1, h1, h2, c139 L hT w c hQ s u, gv_1 e, c134 L, bI_T, i1_0]
def gdV (D : Gh) (S : Nat → Nat) (g : Nat) : Nat → Int32
  | 0 => nI (D 12 g)
  | 1 => byI D g
  | 2 => nI (D 14 g)
  | 3 => nI (D 16 g)
  | 4 => nI (S g)
  | _ => bI (hid S g)
theorem a80 {h : A_H} {T : Nat} {D : Gh} {S : Nat → Nat} (L : Ly h) (hT : isT T) (w : WF D) (c : CT h T D) (hQ : hP h 0 3 = some T) (s : CS h 77 D S) (u : WD D S) {g j : Nat} (hg : g < D 0 5) (hj : j < 6) : C 80 [.ref 0, .int (nI g), .int (nI j)] h = some (some (some (.int (gdV D S g j))), wI h 0 8 0) := by
  have L0 : Ly (wI h 0 8 0) := L; have c0 := CT_w0 hT w c 0; have s0 : CS (wI h 0 8 0) 77 D S := CS_w0 s 0; have Q0 : hP (wI h 0 8 0) 0 3 = some T := hQ
  have h8 : g < 8 := Nat.lt_of_lt_of_le hg (f_nG w)
  have h6 : vd 6 (nI j) = true := vd_of (by decide) hj
  obtain ⟨h1, h2⟩ := vd_7 (k := 5) (by decide) h6
  rw [show nI 5 = 5 from rfl] at h2
  have hb := hh_ (S := S) w g hg
  rw [e80]
  simp only [b80_0, b80_9, b80_12, b80_39, hP_wI, isO_wI, isA_wI, cond_true, decide_true, cond_false, Bool.and_true, Bool.true_and, Bool.and_self, Bool.and_false, Bool.false_and, Bool.not_true, Bool.not_false, Bool.or_true, Bool.true_or, Bool.or_false, Bool.false_or, is_some, gd_some, bk_v, bk_u, t_O L hT, t_P9 L hT, t_P10 L hT, t_P11 L hT, t_P12 L hT, t_P13 L hT, t_P14 L hT, t_OC L hT, t_C1 L hT, t_C2 L hT, t_C3 L hT, hQ, x_O L, x_P5 L, x_O77 L, s.1, s.2.1, s.2.2.1, s.2.2.2.1, s.2.2.2.2.1, s0.1, s0.2.1, s0.2.2.1, s0.2.2.2.1, s0.2.2.2.2.1, bI_T, bI_F, i1_0, h1, h2, c137 L hT w c hQ s u, gv_0 (show D 0 5 < 1000 by have := f_nG w; omega) hg, c134 L, t_AG L hT h8, w_cl (show g < 2147483648 by omega), t_EG L hT h8, t_OG L hT h8, c_kind c0 hg, c_by c0 hg, c_owner c0 hg, c_wei c0 hg, c52 L0 w_in w u s0 hg, bt_sh _ (show g < 32 by omega), hb]
  have : j = 0 ∨ j = 1 ∨ j = 2 ∨ j = 3 ∨ j = 4 ∨ j = 5 := by omega
  rcases this with rfl | rfl | rfl | rfl | rfl | rfl <;> rfl
def trV (D : Gh) (S : Nat → Nat) (t : Nat) : Nat → Nat
  | 0 => D 7 t
  | 1 => S (8 + t)
  | 2 => S (12 + t)
  | _ => msk (D 0 5) (has D S t)
theorem a81 {h : A_H} {T : Nat} {D : Gh} {S : Nat → Nat} (L : Ly h) (hT : isT T) (w : WF D) (c : CT h T D) (hQ : hP h 0 3 = some T) (s : CS h 77 D S) (u : WD D S) {t j : Nat} (ht : t < D 0 3) (hj : j < 4) : C 81 [.ref 0, .int (nI t), .int (nI j)] h = some (some (some (.int (nI (trV D S t j)))), wI h 0 8 0) := by
  have L0 : Ly (wI h 0 8 0) := L; have c0 := CT_w0 hT w c 0; have s0 : CS (wI h 0 8 0) 77 D S := CS_w0 s 0; have Q0 : hP (wI h 0 8 0) 0 3 = some T := hQ
  have ht4 : t < 4 := Nat.lt_of_lt_of_le ht (f_nt w)
  have h6 : vd 4 (nI j) = true := vd_of (by decide) hj
  obtain ⟨h1, h2⟩ := vd_7 (k := 3) (by decide) h6
  rw [show nI 3 = 3 from rfl] at h2
  rw [e81]
  simp only [b81_0, b81_9, b81_12, b81_27, b81_37, hP_wI, isO_wI, isA_wI, cond_true, decide_true, cond_false, Bool.and_true, Bool.true_and, Bool.and_self, Bool.and_false, Bool.false_and, Bool.not_true, Bool.not_false, Bool.or_true, Bool.true_or, Bool.or_false, Bool.false_or, is_some, gd_some, bk_v, bk_u, t_O L hT, t_P9 L hT, t_P10 L hT, t_P11 L hT, t_P12 L hT, t_P13 L hT, t_P14 L hT, t_OC L hT, t_C1 L hT, t_C2 L hT, t_C3 L hT, hQ, x_O L, x_P5 L, x_O77 L, s.1, s.2.1, s.2.2.1, s.2.2.2.1, s.2.2.2.2.1, s0.1, s0.2.1, s0.2.2.1, s0.2.2.2.1, s0.2.2.2.2.1, bI_T, bI_F, i1_0, h1, h2, c138 L hT w c hQ s u, gv_0 (show D 0 3 < 1000 by have := f_nt w; omega) ht, c134 L, t_At L hT ht4, w_cl (show t < 2147483648 by omega), t_Et L hT ht4, t_Ot L hT ht4, c_all c0 ht, c147 L0 hT w c0 Q0 s0 u ht, c146 L0 hT w c0 Q0 s0 u ht, n_P L w_in, n_A L w_in ht4, s0.2.2.2.2.2 t ht4]
  have : j = 0 ∨ j = 1 ∨ j = 2 ∨ j = 3 := by omega
  rcases this with rfl | rfl | rfl | rfl <;> rfl
def gaV (D : Gh) (k : Nat) : Nat → Nat
  | 0 => D 9 k
  | 1 => D 10 k
  | _ => D 11 k
theorem a82 {h : A_H} {T : Nat} {D : Gh} {S : Nat → Nat} (L : Ly h) (hT : isT T) (w : WF D) (c : CT h T D) (hQ : hP h 0 3 = some T) (s : CS h 77 D S) (u : WD D S) {k j : Nat} (hk : k < D 0 4) (hj : j < 3) : C 82 [.ref 0, .int (nI k), .int (nI j)] h = some (some (some (.int (nI (gaV D k j)))), wI h 0 8 0) := by
  have L0 : Ly (wI h 0 8 0) := L; have c0 := CT_w0 hT w c 0; have s0 : CS (wI h 0 8 0) 77 D S := CS_w0 s 0; have Q0 : hP (wI h 0 8 0) 0 3 = some T := hQ
  have hk3 : k < 3 := Nat.lt_of_lt_of_le hk (f_ng w)
  have h6 : vd 3 (nI j) = true := vd_of (by decide) hj
  obtain ⟨h1, h2⟩ := vd_7 (k := 2) (by decide) h6
  rw [show nI 2 = 2 from rfl] at h2
  rw [e82]
  simp only [b82_0, b82_9, b82_12, hP_wI, isO_wI, isA_wI, cond_true, decide_true, cond_false, Bool.and_true, Bool.true_and, Bool.and_self, Bool.and_false, Bool.false_and, Bool.not_true, Bool.not_false, Bool.or_true, Bool.true_or, Bool.or_false, Bool.false_or, is_some, gd_some, bk_v, bk_u, t_O L hT, t_P9 L hT, t_P10 L hT, t_P11 L hT, t_P12 L hT, t_P13 L hT, t_P14 L hT, t_OC L hT, t_C1 L hT, t_C2 L hT, t_C3 L hT, hQ, x_O L, x_P5 L, x_O77 L, s.1, s.2.1, s.2.2.1, s.2.2.2.1, s.2.2.2.2.1, s0.1, s0.2.1, s0.2.2.1, s0.2.2.2.1, s0.2.2.2.2.1, bI_T, bI_F, i1_0, h1, h2, c139 L hT w c hQ s u, gv_0 (show D 0 4 < 1000 by have := f_ng w; omega) hk, c134 L, t_Ag L hT hk3, w_cl (show k < 2147483648 by omega), t_Eg L hT hk3, t_Og L hT hk3, c_nose c0 hk, c_op c0 hk, c_sh c0 hk]
  have : j = 0 ∨ j = 1 ∨ j = 2 := by omega
  rcases this with rfl | rfl | rfl <;> rfl
def tuV (D : Gh) (S : Nat → Nat) (g : Nat) : Int32 := bif decide (D 12 g = 4) then -2 else nI (tks D g + 1 - (D 15 g + S 17))
theorem a87 {h : A_H} {T : Nat} {D : Gh} {S : Nat → Nat} (L : Ly h) (hT : isT T) (w : WF D) (c : CT h T D) (hQ : hP h 0 3 = some T) (s : CS h 77 D S) (u : WD D S) {g : Nat} (hg : g < D 0 5) : C 87 [.ref 0, .int (nI g)] h = some (some (some (.int (tuV D S g))), wI h 0 8 0) := by
  have L0 : Ly (wI h 0 8 0) := L; have c0 := CT_w0 hT w c 0; have s0 : CS (wI h 0 8 0) 77 D S := CS_w0 s 0; have Q0 : hP (wI h 0 8 0) 0 3 = some T := hQ
  have h8 : g < 8 := Nat.lt_of_lt_of_le hg (f_nG w)
  have hk := tks_le w hg
  have ha := f_age w hg
  have h17 := u.1
  rw [e87]
  simp only [b87_0, b87_4, b87_5, b87_31, hP_wI, isO_wI, isA_wI, cond_true, decide_true, cond_false, Bool.and_true, Bool.true_and, Bool.and_self, Bool.and_false, Bool.false_and, Bool.not_true, Bool.not_false, Bool.or_true, Bool.true_or, Bool.or_false, Bool.false_or, is_some, gd_some, bk_v, bk_u, t_O L hT, t_P9 L hT, t_P10 L hT, t_P11 L hT, t_P12 L hT, t_P13 L hT, t_P14 L hT, t_OC L hT, t_C1 L hT, t_C2 L hT, t_C3 L hT, hQ, x_O L, x_P5 L, x_O77 L, s.1, s.2.1, s.2.2.1, s.2.2.2.1, s.2.2.2.2.1, s0.1, s0.2.1, s0.2.2.1, s0.2.2.2.1, s0.2.2.2.2.1, bI_T, bI_F, i1_0, c137 L hT w c hQ s u, gv_0 (show D 0 5 < 1000 by have := f_nG w; omega) hg, c134 L, t_AG L hT h8, w_cl (show g < 2147483648 by omega), t_EG L hT h8, t_OG L hT h8, c_kp c0 hg, kp_ne w hg, c57 L0 hT w c0 hg]
  unfold tuV kpI
  cases decide (D 12 g = 4) with
  | true => rfl
  | false =>
    simp only [cond_true, cond_false, decide_true, Bool.and_true, Bool.true_and, Bool.and_self, Bool.and_false, Bool.false_and, Bool.not_true, Bool.not_false, Bool.or_true, Bool.true_or, Bool.or_false, Bool.false_or, is_some, gd_some, bk_v, bk_u, w_s]
    rw [w_mx (by omega) (by omega)]
theorem a87b {h : A_H} {T : Nat} {D : Gh} {S : Nat → Nat} (L : Ly h) (hT : isT T) (w : WF D) (c : CT h T D) (hQ : hP h 0 3 = some T) (s : CS h 77 D S) (u : WD D S) {x : Int32} (e : vd (D 0 5) x = false) : C 87 [.ref 0, .int x] h = some (some (some (.int (-1))), wI h 0 8 1) := by
  rw [e87]
  simp only [b87_0, b87_4, b87_5, b87_31, cond_true, decide_true, cond_false, Bool.and_true, Bool.true_and, Bool.and_self, Bool.and_false, Bool.false_and, Bool.not_true, Bool.not_false, Bool.or_true, Bool.true_or, Bool.or_false, Bool.false_or, is_some, gd_some, bk_v, bk_u, t_O L hT, t_P9 L hT, t_P10 L hT, t_P11 L hT, t_P12 L hT, t_P13 L hT, t_P14 L hT, t_OC L hT, t_C1 L hT, t_C2 L hT, t_C3 L hT, hQ, x_O L, x_P5 L, x_O77 L, s.1, s.2.1, s.2.2.1, s.2.2.2.1, s.2.2.2.2.1, c137 L hT w c hQ s u, gv_1 e, c134 L, bI_T, i1_0]
def amin (f : Nat → Nat) (n : Nat) : Nat := itr (fun k b => bif decide (f (k + 1) < f b) then k + 1 else b) n 0
theorem amin_s (f : Nat → Nat) (n : Nat) : amin f (n + 1) = bif decide (f (n + 1) < f (amin f n)) then n + 1 else amin f n := rfl
theorem amin_le (f : Nat → Nat) (n : Nat) : amin f n ≤ n := by
  induction n with
  | zero => exact Nat.le_refl _
  | succ n ih =>
    rw [amin_s]
    cases decide (f (n + 1) < f (amin f n))
    · rw [cond_false]; omega
    · exact Nat.le_refl _
theorem ask_le {D : Gh} (w : WF D) {d : Nat} (hd : d ≤ 1000) (l : Bool) (t : Nat) (z y : Nat → Bool) : ask D (bif l then 1 else 0) d t z y ≤ 336960 := by
  unfold ask
  have h1 := dus_le w hd l z
  have h2 := dus_le w hd l y
  omega
def asS (D : Gh) (S : Nat → Nat) (d t k : Nat) : Nat := ask D 0 (S 17 + d) t (fnd D (S 17 + d) (D 9 k) (has D S t) (hid S) 0) (fun g => has D S t g && !hid S g)
theorem asS_le {D : Gh} {S : Nat → Nat} (w : WF D) (u : WD D S) {d : Nat} (hd : d ≤ 60) (t k : Nat) : asS D S d t k ≤ 336960 := by
  have h17 := u.1
  exact ask_le w (by omega) false t _ _
theorem c148' {h : A_H} {T : Nat} {D : Gh} {S : Nat → Nat} (L : Ly h) (hT : isT T) (w : WF D) (c : CT h T D) (hQ : hP h 0 3 = some T) (s : CS h 77 D S) (u : WD D S) {t k d : Nat} (ht : t < D 0 3) (hk : k < D 0 4) (hd : d ≤ 60) : C 148 [.ref 0, .int (nI t), .int (nI k), .int (nI d), .int 0] h = some (some (some (.int (nI (asS D S d t k)))), h) := c148 L hT w c hQ s u ht hk hd false
theorem a94 {h : A_H} {T : Nat} {D : Gh} {S : Nat → Nat} (L : Ly h) (hT : isT T) (w : WF D) (c : CT h T D) (hQ : hP h 0 3 = some T) (s : CS h 77 D S) (u : WD D S) {t d : Nat} (ht : t < D 0 3) (hd : d ≤ 60) (h0 : 0 < D 0 4) : C 94 [.ref 0, .int (nI t), .int (nI d)] h = some (some (some (.int (nI (amin (asS D S d t) (D 0 4 - 1))))), wI h 0 8 0) := by
  have L0 : Ly (wI h 0 8 0) := L; have c0 := CT_w0 hT w c 0; have s0 : CS (wI h 0 8 0) 77 D S := CS_w0 s 0; have Q0 : hP (wI h 0 8 0) 0 3 = some T := hQ
  have h3 := f_ng w
  have h148 := c148' L0 hT w c0 Q0 s0 u ht h0 hd
  rw [show nI 0 = 0 from rfl] at h148
  rw [e94]
  simp only [b94_0, b94_4, b94_6, b94_7, b94_8, b94_19, b94_33, hP_wI, isO_wI, isA_wI, cond_true, decide_true, cond_false, Bool.and_true, Bool.true_and, Bool.and_self, Bool.and_false, Bool.false_and, Bool.not_true, Bool.not_false, Bool.or_true, Bool.true_or, Bool.or_false, Bool.false_or, is_some, gd_some, bk_v, bk_u, t_O L hT, t_P9 L hT, t_P10 L hT, t_P11 L hT, t_P12 L hT, t_P13 L hT, t_P14 L hT, t_OC L hT, t_C1 L hT, t_C2 L hT, t_C3 L hT, hQ, x_O L, x_P5 L, x_O77 L, s.1, s.2.1, s.2.2.1, s.2.2.2.1, s.2.2.2.2.1, s0.1, s0.2.1, s0.2.2.1, s0.2.2.2.1, s0.2.2.2.2.1, bI_T, bI_F, i1_0, c138 L hT w c hQ s u, c141, c135, eit_e, gTD w ht hd, c134 L, h148]
  refine loop_dn (fun k l => R 94 22 [some (.ref 0), some (.int (nI t)), some (.int (nI d)), some (.int (nI (amin (asS D S d t) k))), some (.int (nI (asS D S d t (amin (asS D S d t) k)))), some (.int (nI (k + 1))), l] [] (wI h 0 8 0)) (D 0 4 - 1) _ ?_ ?_ _
  · intro k l hk
    have a1 := asS_le w u hd t (amin (asS D S d t) k)
    have a2 := asS_le w u hd t (k + 1)
    rw [b94_22]
    simp only [hP_wI, isO_wI, isA_wI, cond_true, decide_true, cond_false, Bool.and_true, Bool.true_and, Bool.and_self, Bool.and_false, Bool.false_and, Bool.not_true, Bool.not_false, Bool.or_true, Bool.true_or, Bool.or_false, Bool.false_or, is_some, gd_some, bk_v, bk_u, t_O L hT, t_P9 L hT, t_P10 L hT, t_P11 L hT, t_P12 L hT, t_P13 L hT, t_P14 L hT, t_OC L hT, t_C1 L hT, t_C2 L hT, t_C3 L hT, hQ, x_O L, x_P5 L, x_O77 L, s.1, s.2.1, s.2.2.1, s.2.2.2.1, s.2.2.2.2.1, s0.1, s0.2.1, s0.2.2.1, s0.2.2.2.1, s0.2.2.2.2.1, bI_T, bI_F, i1_0, c_s4 c0, dF (show ¬ nI (D 0 4) ≤ nI (k + 1) by rw [w_le (by omega) (by omega)]; omega), c148' L0 hT w c0 Q0 s0 u ht (show k + 1 < D 0 4 by omega) hd, b94_33, w_s]
    rw [amin_s]
    by_cases e : asS D S d t (k + 1) < asS D S d t (amin (asS D S d t) k)
    · exact ⟨_, by rw [dT e, dF (by rw [w_le (by omega) (by omega)]; omega)]; rfl⟩
    · exact ⟨_, by rw [dF e, dT (by rw [w_le (by omega) (by omega)]; omega)]; rfl⟩
  · intro l
    rw [b94_22]
    simp only [hP_wI, isO_wI, isA_wI, cond_true, decide_true, cond_false, Bool.and_true, Bool.true_and, Bool.and_self, Bool.and_false, Bool.false_and, Bool.not_true, Bool.not_false, Bool.or_true, Bool.true_or, Bool.or_false, Bool.false_or, is_some, gd_some, bk_v, bk_u, t_O L hT, t_P9 L hT, t_P10 L hT, t_P11 L hT, t_P12 L hT, t_P13 L hT, t_P14 L hT, t_OC L hT, t_C1 L hT, t_C2 L hT, t_C3 L hT, hQ, x_O L, x_P5 L, x_O77 L, s.1, s.2.1, s.2.2.1, s.2.2.2.1, s.2.2.2.2.1, s0.1, s0.2.1, s0.2.2.1, s0.2.2.2.1, s0.2.2.2.2.1, bI_T, bI_F, i1_0, c_s4 c0, dT (show nI (D 0 4) ≤ nI (D 0 4 - 1 + 1) by rw [w_le (by omega) (by omega)]; omega)]
theorem a94b {h : A_H} {T : Nat} {D : Gh} {S : Nat → Nat} (L : Ly h) (hT : isT T) (w : WF D) (c : CT h T D) (hQ : hP h 0 3 = some T) (s : CS h 77 D S) (u : WD D S) {x y : Int32} (e : decide (eit (gv (D 0 3) x) (dv y) = 0) = false) : C 94 [.ref 0, .int x, .int y] h = some (some (some (.int (-1))), wI h 0 8 (eit (gv (D 0 3) x) (dv y))) := by
  rw [e94]
  simp only [b94_0, b94_4, b94_6, b94_7, b94_8, b94_19, b94_33, cond_true, decide_true, cond_false, Bool.and_true, Bool.true_and, Bool.and_self, Bool.and_false, Bool.false_and, Bool.not_true, Bool.not_false, Bool.or_true, Bool.true_or, Bool.or_false, Bool.false_or, is_some, gd_some, bk_v, bk_u, t_O L hT, t_P9 L hT, t_P10 L hT, t_P11 L hT, t_P12 L hT, t_P13 L hT, t_P14 L hT, t_OC L hT, t_C1 L hT, t_C2 L hT, t_C3 L hT, hQ, x_O L, x_P5 L, x_O77 L, s.1, s.2.1, s.2.2.1, s.2.2.2.1, s.2.2.2.2.1, c138 L hT w c hQ s u, c141, c135, eit_e, c134 L, e, bI_T, i1_0]
def asD (D : Gh) (S : Nat → Nat) (t k d : Nat) : Nat := asS D S d t k
theorem c97 {h : A_H} {T : Nat} {D : Gh} {S : Nat → Nat} (L : Ly h) (hT : isT T) (w : WF D) (c : CT h T D) (hQ : hP h 0 3 = some T) (s : CS h 77 D S) (u : WD D S) {t k : Nat} (ht : t < D 0 3) (hk : k < D 0 4) : C 97 [.ref 0, .int (nI t), .int (nI k)] h = some (some (some (.int (nI (amin (asD D S t k) 60)))), h) := by
  have h17 := u.1
  have h71 : ∀ d, d ≤ 60 → C 71 [.ref T, .int (nI t), .int (nI k), .int (nI (S 17 + d)), .int (nI (msk (D 0 5) (has D S t))), .int (nI (S 16)), .int 0] h = some (some (some (.int (nI (asD D S t k d)))), h) := by
    intro d hd
    have := c71 L hT w c ht hk (show S 17 + d ≤ 1000 by omega) (nI (msk (D 0 5) (has D S t))) (nI (S 16)) false
    rw [bI_F, cond_false, ask_congr (fun g hg => fnd_congr (hb_ w t) (hh_ w) g hg) (fun g hg => by rw [hb_ w t g hg, hh_ w g hg])] at this
    exact this
  have h710 := h71 0 (by decide)
  rw [Nat.add_zero] at h710
  rw [e97]
  simp only [b97_0, b97_3, b97_19, b97_40, cond_true, decide_true, cond_false, Bool.and_true, Bool.true_and, Bool.and_self, Bool.and_false, Bool.false_and, Bool.not_true, Bool.not_false, Bool.or_true, Bool.true_or, Bool.or_false, Bool.false_or, is_some, gd_some, bk_v, bk_u, t_O L hT, t_P9 L hT, t_P10 L hT, t_P11 L hT, t_P12 L hT, t_P13 L hT, t_P14 L hT, t_OC L hT, t_C1 L hT, t_C2 L hT, t_C3 L hT, hQ, x_O L, x_P5 L, x_O77 L, s.1, s.2.1, s.2.2.1, s.2.2.2.1, s.2.2.2.2.1, c146 L hT w c hQ s u ht, h710]
  refine loop_dn (fun n l => R 97 22 [some (.ref 0), some (.int (nI t)), some (.int (nI k)), some (.int (nI (msk (D 0 5) (has D S t)))), some (.int (nI (amin (asD D S t k) n))), some (.int (nI (asD D S t k (amin (asD D S t k) n)))), some (.int (nI (n + 1))), l] [] h) 60 _ ?_ ?_ _
  · intro n l hn
    have ha := amin_le (asD D S t k) n
    have a1 : asD D S t k (amin (asD D S t k) n) ≤ 336960 := asS_le w u (show amin (asD D S t k) n ≤ 60 by omega) t k
    have a2 : asD D S t k (n + 1) ≤ 336960 := asS_le w u (show n + 1 ≤ 60 by omega) t k
    rw [b97_22, show (60 : Int32) = nI 60 from rfl]
    simp only [cond_true, decide_true, cond_false, Bool.and_true, Bool.true_and, Bool.and_self, Bool.and_false, Bool.false_and, Bool.not_true, Bool.not_false, Bool.or_true, Bool.true_or, Bool.or_false, Bool.false_or, is_some, gd_some, bk_v, bk_u, t_O L hT, t_P9 L hT, t_P10 L hT, t_P11 L hT, t_P12 L hT, t_P13 L hT, t_P14 L hT, t_OC L hT, t_C1 L hT, t_C2 L hT, t_C3 L hT, hQ, x_O L, x_P5 L, x_O77 L, s.1, s.2.1, s.2.2.1, s.2.2.2.1, s.2.2.2.2.1, dF (show ¬ nI 60 < nI (n + 1) by rw [w_lt (by omega) (by omega)]; omega), nI_add, h71 (n + 1) (by omega), b97_40, w_s]
    rw [amin_s]
    by_cases e : asD D S t k (n + 1) < asD D S t k (amin (asD D S t k) n)
    · exact ⟨_, by rw [dT e, dF (by rw [w_le (by omega) (by omega)]; omega)]; rfl⟩
    · exact ⟨_, by rw [dF e, dT (by rw [w_le (by omega) (by omega)]; omega)]; rfl⟩
  · intro l
    rw [b97_22, show (60 : Int32) = nI 60 from rfl]
    simp only [dT (show nI 60 < nI (60 + 1) by rw [w_lt (by decide) (by decide)]; decide), cond_true]
theorem gTG {D : Gh} (w : WF D) {t k : Nat} (ht : t < D 0 3) (hk : k < D 0 4) : eit (eit (gv (D 0 3) (nI t)) (gv (D 0 4) (nI k))) (dv 0) = 0 := gTGD w ht hk (d := 0) (by decide)
theorem a95 {h : A_H} {T : Nat} {D : Gh} {S : Nat → Nat} (L : Ly h) (hT : isT T) (w : WF D) (c : CT h T D) (hQ : hP h 0 3 = some T) (s : CS h 77 D S) (u : WD D S) {t k : Nat} (ht : t < D 0 3) (hk : k < D 0 4) : C 95 [.ref 0, .int (nI t), .int (nI k)] h = some (some (some (.int (nI (amin (asD D S t k) 60)))), wI h 0 8 0) := by
  have L0 : Ly (wI h 0 8 0) := L; have c0 := CT_w0 hT w c 0; have s0 : CS (wI h 0 8 0) 77 D S := CS_w0 s 0; have Q0 : hP (wI h 0 8 0) 0 3 = some T := hQ
  rw [e95]
  simp only [b95_0, b95_6, b95_7, b95_14, hP_wI, isO_wI, isA_wI, cond_true, decide_true, cond_false, Bool.and_true, Bool.true_and, Bool.and_self, Bool.and_false, Bool.false_and, Bool.not_true, Bool.not_false, Bool.or_true, Bool.true_or, Bool.or_false, Bool.false_or, is_some, gd_some, bk_v, bk_u, t_O L hT, t_P9 L hT, t_P10 L hT, t_P11 L hT, t_P12 L hT, t_P13 L hT, t_P14 L hT, t_OC L hT, t_C1 L hT, t_C2 L hT, t_C3 L hT, hQ, x_O L, x_P5 L, x_O77 L, s.1, s.2.1, s.2.2.1, s.2.2.2.1, s.2.2.2.2.1, s0.1, s0.2.1, s0.2.2.1, s0.2.2.2.1, s0.2.2.2.2.1, bI_T, bI_F, i1_0, c144 L hT w c hQ s u, gTG w ht hk, c134 L, c97 L0 hT w c0 Q0 s0 u ht hk]
theorem a95b {h : A_H} {T : Nat} {D : Gh} {S : Nat → Nat} (L : Ly h) (hT : isT T) (w : WF D) (c : CT h T D) (hQ : hP h 0 3 = some T) (s : CS h 77 D S) (u : WD D S) {x y : Int32} (e : decide (eit (eit (gv (D 0 3) x) (gv (D 0 4) y)) (dv 0) = 0) = false) : C 95 [.ref 0, .int x, .int y] h = some (some (some (.int (-1))), wI h 0 8 (eit (eit (gv (D 0 3) x) (gv (D 0 4) y)) (dv 0))) := by
  rw [e95]
  simp only [b95_0, b95_6, b95_7, b95_14, cond_true, decide_true, cond_false, Bool.and_true, Bool.true_and, Bool.and_self, Bool.and_false, Bool.false_and, Bool.not_true, Bool.not_false, Bool.or_true, Bool.true_or, Bool.or_false, Bool.false_or, is_some, gd_some, bk_v, bk_u, t_O L hT, t_P9 L hT, t_P10 L hT, t_P11 L hT, t_P12 L hT, t_P13 L hT, t_P14 L hT, t_OC L hT, t_C1 L hT, t_C2 L hT, t_C3 L hT, hQ, x_O L, x_P5 L, x_O77 L, s.1, s.2.1, s.2.2.1, s.2.2.2.1, s.2.2.2.2.1, c144 L hT w c hQ s u, c134 L, e, bI_T, i1_0]
theorem a96 {h : A_H} {T : Nat} {D : Gh} {S : Nat → Nat} (L : Ly h) (hT : isT T) (w : WF D) (c : CT h T D) (hQ : hP h 0 3 = some T) (s : CS h 77 D S) (u : WD D S) {t k : Nat} (ht : t < D 0 3) (hk : k < D 0 4) : C 96 [.ref 0, .int (nI t), .int (nI k)] h = some (some (some (.int (nI (asD D S t k (amin (asD D S t k) 60))))), wI h 0 8 0) := by
  have L0 : Ly (wI h 0 8 0) := L; have c0 := CT_w0 hT w c 0; have s0 : CS (wI h 0 8 0) 77 D S := CS_w0 s 0; have Q0 : hP (wI h 0 8 0) 0 3 = some T := hQ
  rw [e96]
  simp only [b96_0, b96_6, b96_7, b96_17, b96_19, hP_wI, isO_wI, isA_wI, cond_true, decide_true, cond_false, Bool.and_true, Bool.true_and, Bool.and_self, Bool.and_false, Bool.false_and, Bool.not_true, Bool.not_false, Bool.or_true, Bool.true_or, Bool.or_false, Bool.false_or, is_some, gd_some, bk_v, bk_u, t_O L hT, t_P9 L hT, t_P10 L hT, t_P11 L hT, t_P12 L hT, t_P13 L hT, t_P14 L hT, t_OC L hT, t_C1 L hT, t_C2 L hT, t_C3 L hT, hQ, x_O L, x_P5 L, x_O77 L, s.1, s.2.1, s.2.2.1, s.2.2.2.1, s.2.2.2.2.1, s0.1, s0.2.1, s0.2.2.1, s0.2.2.2.1, s0.2.2.2.2.1, bI_T, bI_F, i1_0, c144 L hT w c hQ s u, gTG w ht hk, c134 L, c97 L0 hT w c0 Q0 s0 u ht hk, c148' L0 hT w c0 Q0 s0 u ht hk (amin_le (asD D S t k) 60)]
  rfl
theorem a96b {h : A_H} {T : Nat} {D : Gh} {S : Nat → Nat} (L : Ly h) (hT : isT T) (w : WF D) (c : CT h T D) (hQ : hP h 0 3 = some T) (s : CS h 77 D S) (u : WD D S) {x y : Int32} (e : decide (eit (eit (gv (D 0 3) x) (gv (D 0 4) y)) (dv 0) = 0) = false) : C 96 [.ref 0, .int x, .int y] h = some (some (some (.int (-1))), wI h 0 8 (eit (eit (gv (D 0 3) x) (gv (D 0 4) y)) (dv 0))) := by
  rw [e96]
  simp only [b96_0, b96_6, b96_7, b96_17, b96_19, cond_true, decide_true, cond_false, Bool.and_true, Bool.true_and, Bool.and_self, Bool.and_false, Bool.false_and, Bool.not_true, Bool.not_false, Bool.or_true, Bool.true_or, Bool.or_false, Bool.false_or, is_some, gd_some, bk_v, bk_u, t_O L hT, t_P9 L hT, t_P10 L hT, t_P11 L hT, t_P12 L hT, t_P13 L hT, t_P14 L hT, t_OC L hT, t_C1 L hT, t_C2 L hT, t_C3 L hT, hQ, x_O L, x_P5 L, x_O77 L, s.1, s.2.1, s.2.2.1, s.2.2.2.1, s.2.2.2.2.1, c144 L hT w c hQ s u, c134 L, e, bI_T, i1_0]
def amx (f : Nat → Int32) (n : Nat) : Nat := itr (fun k b => bif decide (f (k + 1) ≤ f b) then b else k + 1) n 0
theorem amx_s (f : Nat → Int32) (n : Nat) : amx f (n + 1) = bif decide (f (n + 1) ≤ f (amx f n)) then amx f n else n + 1 := rfl
theorem amx_le (f : Nat → Int32) (n : Nat) : amx f n ≤ n := by
  induction n with
  | zero => exact Nat.le_refl _
  | succ n ih =>
    rw [amx_s]
    cases decide (f (n + 1) ≤ f (amx f n))
    · exact Nat.le_refl _
    · rw [cond_true]; omega
def hel (D : Gh) (S : Nat → Nat) (g n : Nat) : Int32 := nI (wor D g (S 17 + n)) - nI (dut D 0 g (S 17 + n)) - nI (D 0 0) * nI n
theorem c109 {h : A_H} {T : Nat} {D : Gh} {S : Nat → Nat} (L : Ly h) (hT : isT T) (w : WF D) (c : CT h T D) (hQ : hP h 0 3 = some T) (s : CS h 77 D S) (u : WD D S) {g n : Nat} (hg : g < D 0 5) (hn : n ≤ 60) : C 109 [.ref 0, .int (nI g), .int (nI n)] h = some (some (some (.int (hel D S g n))), h) := by
  have h17 := u.1
  have h61 := c61 L hT w c hg (show S 17 + n ≤ 1000 by omega) false
  rw [bI_F, cond_false] at h61
  rw [e109]
  simp only [b109_0, b109_11, b109_17, cond_true, decide_true, cond_false, Bool.and_true, Bool.true_and, Bool.and_self, Bool.and_false, Bool.false_and, Bool.not_true, Bool.not_false, Bool.or_true, Bool.true_or, Bool.or_false, Bool.false_or, is_some, gd_some, bk_v, bk_u, t_O L hT, t_P9 L hT, t_P10 L hT, t_P11 L hT, t_P12 L hT, t_P13 L hT, t_P14 L hT, t_OC L hT, t_C1 L hT, t_C2 L hT, t_C3 L hT, hQ, x_O L, x_P5 L, x_O77 L, s.1, s.2.1, s.2.2.1, s.2.2.2.1, s.2.2.2.2.1, nI_add, c60 L hT w c hg (show S 17 + n ≤ 1000 by omega), h61, c_s0 c]
  rfl
theorem c108 {h : A_H} {T : Nat} {D : Gh} {S : Nat → Nat} (L : Ly h) (hT : isT T) (w : WF D) (c : CT h T D) (hQ : hP h 0 3 = some T) (s : CS h 77 D S) (u : WD D S) {g : Nat} (hg : g < D 0 5) : C 108 [.ref 0, .int (nI g)] h = some (some (some (.int (nI (amx (hel D S g) 60)))), h) := by
  have h0 := c109 L hT w c hQ s u hg (n := 0) (by decide)
  rw [show nI 0 = 0 from rfl] at h0
  rw [e108]
  simp only [b108_0, b108_6, b108_16, cond_true, decide_true, cond_false, Bool.and_true, Bool.true_and, Bool.and_self, Bool.and_false, Bool.false_and, Bool.not_true, Bool.not_false, Bool.or_true, Bool.true_or, Bool.or_false, Bool.false_or, is_some, gd_some, bk_v, bk_u, t_O L hT, t_P9 L hT, t_P10 L hT, t_P11 L hT, t_P12 L hT, t_P13 L hT, t_P14 L hT, t_OC L hT, t_C1 L hT, t_C2 L hT, t_C3 L hT, hQ, x_O L, x_P5 L, x_O77 L, s.1, s.2.1, s.2.2.1, s.2.2.2.1, s.2.2.2.2.1, h0]
  refine loop_dn (fun n l => R 108 9 [some (.ref 0), some (.int (nI g)), some (.int (nI (amx (hel D S g) n))), some (.int (hel D S g (amx (hel D S g) n))), some (.int (nI (n + 1))), l] [] h) 60 _ ?_ ?_ _
  · intro n l hn
    rw [b108_9, show (60 : Int32) = nI 60 from rfl]
    simp only [cond_true, decide_true, cond_false, Bool.and_true, Bool.true_and, Bool.and_self, Bool.and_false, Bool.false_and, Bool.not_true, Bool.not_false, Bool.or_true, Bool.true_or, Bool.or_false, Bool.false_or, is_some, gd_some, bk_v, bk_u, t_O L hT, t_P9 L hT, t_P10 L hT, t_P11 L hT, t_P12 L hT, t_P13 L hT, t_P14 L hT, t_OC L hT, t_C1 L hT, t_C2 L hT, t_C3 L hT, hQ, x_O L, x_P5 L, x_O77 L, s.1, s.2.1, s.2.2.1, s.2.2.2.1, s.2.2.2.2.1, dF (show ¬ nI 60 < nI (n + 1) by rw [w_lt (by omega) (by omega)]; omega), c109 L hT w c hQ s u hg (show n + 1 ≤ 60 by omega), b108_16, w_s]
    rw [amx_s]
    cases decide (hel D S g (n + 1) ≤ hel D S g (amx (hel D S g) n))
    · exact ⟨_, rfl⟩
    · exact ⟨_, rfl⟩
  · intro l
    rw [b108_9, show (60 : Int32) = nI 60 from rfl]
    simp only [dT (show nI 60 < nI (60 + 1) by rw [w_lt (by decide) (by decide)]; decide), cond_true]
theorem a106 {h : A_H} {T : Nat} {D : Gh} {S : Nat → Nat} (L : Ly h) (hT : isT T) (w : WF D) (c : CT h T D) (hQ : hP h 0 3 = some T) (s : CS h 77 D S) (u : WD D S) {g : Nat} (hg : g < D 0 5) : C 106 [.ref 0, .int (nI g)] h = some (some (some (.int (nI (amx (hel D S g) 60)))), wI h 0 8 0) := by
  have L0 : Ly (wI h 0 8 0) := L; have c0 := CT_w0 hT w c 0; have s0 : CS (wI h 0 8 0) 77 D S := CS_w0 s 0; have Q0 : hP (wI h 0 8 0) 0 3 = some T := hQ
  rw [e106]
  simp only [b106_0, b106_4, b106_5, b106_11, hP_wI, isO_wI, isA_wI, cond_true, decide_true, cond_false, Bool.and_true, Bool.true_and, Bool.and_self, Bool.and_false, Bool.false_and, Bool.not_true, Bool.not_false, Bool.or_true, Bool.true_or, Bool.or_false, Bool.false_or, is_some, gd_some, bk_v, bk_u, t_O L hT, t_P9 L hT, t_P10 L hT, t_P11 L hT, t_P12 L hT, t_P13 L hT, t_P14 L hT, t_OC L hT, t_C1 L hT, t_C2 L hT, t_C3 L hT, hQ, x_O L, x_P5 L, x_O77 L, s.1, s.2.1, s.2.2.1, s.2.2.2.1, s.2.2.2.2.1, s0.1, s0.2.1, s0.2.2.1, s0.2.2.2.1, s0.2.2.2.2.1, bI_T, bI_F, i1_0, c137 L hT w c hQ s u, gv_0 (show D 0 5 < 1000 by have := f_nG w; omega) hg, c134 L, c108 L0 hT w c0 Q0 s0 u hg]
theorem a106b {h : A_H} {T : Nat} {D : Gh} {S : Nat → Nat} (L : Ly h) (hT : isT T) (w : WF D) (c : CT h T D) (hQ : hP h 0 3 = some T) (s : CS h 77 D S) (u : WD D S) {x : Int32} (e : vd (D 0 5) x = false) : C 106 [.ref 0, .int x] h = some (some (some (.int (-1))), wI h 0 8 1) := by
  rw [e106]
  simp only [b106_0, b106_4, b106_5, b106_11, cond_true, decide_true, cond_false, Bool.and_true, Bool.true_and, Bool.and_self, Bool.and_false, Bool.false_and, Bool.not_true, Bool.not_false, Bool.or_true, Bool.true_or, Bool.or_false, Bool.false_or, is_some, gd_some, bk_v, bk_u, t_O L hT, t_P9 L hT, t_P10 L hT, t_P11 L hT, t_P12 L hT, t_P13 L hT, t_P14 L hT, t_OC L hT, t_C1 L hT, t_C2 L hT, t_C3 L hT, hQ, x_O L, x_P5 L, x_O77 L, s.1, s.2.1, s.2.2.1, s.2.2.2.1, s.2.2.2.2.1, c137 L hT w c hQ s u, gv_1 e, c134 L, bI_T, i1_0]
theorem a107 {h : A_H} {T : Nat} {D : Gh} {S : Nat → Nat} (L : Ly h) (hT : isT T) (w : WF D) (c : CT h T D) (hQ : hP h 0 3 = some T) (s : CS h 77 D S) (u : WD D S) {g : Nat} (hg : g < D 0 5) : C 107 [.ref 0, .int (nI g)] h = some (some (some (.int (hel D S g (amx (hel D S g) 60)))), wI h 0 8 0) := by
  have L0 : Ly (wI h 0 8 0) := L; have c0 := CT_w0 hT w c 0; have s0 : CS (wI h 0 8 0) 77 D S := CS_w0 s 0; have Q0 : hP (wI h 0 8 0) 0 3 = some T := hQ
  rw [e107]
  simp only [b107_0, b107_4, b107_5, b107_13, b107_14, hP_wI, isO_wI, isA_wI, cond_true, decide_true, cond_false, Bool.and_true, Bool.true_and, Bool.and_self, Bool.and_false, Bool.false_and, Bool.not_true, Bool.not_false, Bool.or_true, Bool.true_or, Bool.or_false, Bool.false_or, is_some, gd_some, bk_v, bk_u, t_O L hT, t_P9 L hT, t_P10 L hT, t_P11 L hT, t_P12 L hT, t_P13 L hT, t_P14 L hT, t_OC L hT, t_C1 L hT, t_C2 L hT, t_C3 L hT, hQ, x_O L, x_P5 L, x_O77 L, s.1, s.2.1, s.2.2.1, s.2.2.2.1, s.2.2.2.2.1, s0.1, s0.2.1, s0.2.2.1, s0.2.2.2.1, s0.2.2.2.2.1, bI_T, bI_F, i1_0, c137 L hT w c hQ s u, gv_0 (show D 0 5 < 1000 by have := f_nG w; omega) hg, c134 L, c108 L0 hT w c0 Q0 s0 u hg, c109 L0 hT w c0 Q0 s0 u hg (amx_le (hel D S g) 60)]
theorem a107b {h : A_H} {T : Nat} {D : Gh} {S : Nat → Nat} (L : Ly h) (hT : isT T) (w : WF D) (c : CT h T D) (hQ : hP h 0 3 = some T) (s : CS h 77 D S) (u : WD D S) {x : Int32} (e : vd (D 0 5) x = false) : C 107 [.ref 0, .int x] h = some (some (some (.int (-10000))), wI h 0 8 1) := by
  rw [e107]
  simp only [b107_0, b107_4, b107_5, b107_13, b107_14, cond_true, decide_true, cond_false, Bool.and_true, Bool.true_and, Bool.and_self, Bool.and_false, Bool.false_and, Bool.not_true, Bool.not_false, Bool.or_true, Bool.true_or, Bool.or_false, Bool.false_or, is_some, gd_some, bk_v, bk_u, t_O L hT, t_P9 L hT, t_P10 L hT, t_P11 L hT, t_P12 L hT, t_P13 L hT, t_P14 L hT, t_OC L hT, t_C1 L hT, t_C2 L hT, t_C3 L hT, hQ, x_O L, x_P5 L, x_O77 L, s.1, s.2.1, s.2.2.1, s.2.2.2.1, s.2.2.2.2.1, c137 L hT w c hQ s u, gv_1 e, c134 L, bI_T, i1_0]
def neS (D : Gh) (S : Nat → Nat) (d t k g : Nat) (q : Int32 × Int32) : Int32 × Int32 :=
  bif has D S t g && hid S g && !fnd D d (D 9 k) (has D S t) (hid S) 0 g then (bif decide (nI (sme D d g (has0 S) 0) ≤ q.2) then q else (nI g, nI (sme D d g (has0 S) 0))) else (bif decide ((-1 : Int32) ≤ q.2) then q else (nI g, -1))
theorem a93 {h : A_H} {T : Nat} {D : Gh} {S : Nat → Nat} (L : Ly h) (hT : isT T) (w : WF D) (c : CT h T D) (hQ : hP h 0 3 = some T) (s : CS h 77 D S) (u : WD D S) {t k d : Nat} (ht : t < D 0 3) (hk : k < D 0 4) (hd : d ≤ 60) : C 93 [.ref 0, .int (nI t), .int (nI k), .int (nI d)] h = some (some (some (.int (itr (neS D S (S 17 + d) t k) (D 0 5) (-2, -1)).1)), wI h 0 8 0) := by
  have L0 : Ly (wI h 0 8 0) := L; have c0 := CT_w0 hT w c 0; have s0 : CS (wI h 0 8 0) 77 D S := CS_w0 s 0; have Q0 : hP (wI h 0 8 0) 0 3 = some T := hQ
  have h17 := u.1
  rw [e93]
  simp only [b93_0, b93_6, b93_7, b93_19, b93_34, b93_63, hP_wI, isO_wI, isA_wI, cond_true, decide_true, cond_false, Bool.and_true, Bool.true_and, Bool.and_self, Bool.and_false, Bool.false_and, Bool.not_true, Bool.not_false, Bool.or_true, Bool.true_or, Bool.or_false, Bool.false_or, is_some, gd_some, bk_v, bk_u, t_O L hT, t_P9 L hT, t_P10 L hT, t_P11 L hT, t_P12 L hT, t_P13 L hT, t_P14 L hT, t_OC L hT, t_C1 L hT, t_C2 L hT, t_C3 L hT, hQ, x_O L, x_P5 L, x_O77 L, s.1, s.2.1, s.2.2.1, s.2.2.2.1, s.2.2.2.2.1, s0.1, s0.2.1, s0.2.2.1, s0.2.2.2.1, s0.2.2.2.2.1, bI_T, bI_F, i1_0, c144 L hT w c hQ s u, gTGD w ht hk hd, c134 L, nI_add, c146 L0 hT w c0 Q0 s0 u ht, c69 L0 hT w c0 hk (show S 17 + d ≤ 1000 by omega)]
  rw [msk_congr (fun g hg => fnd_congr (hb_ w t) (hh_ w) g hg)]
  refine loop_dn (fun g l => R 93 44 [some (.ref 0), some (.int (nI t)), some (.int (nI k)), some (.int (nI d)), some (.int (nI (S 17 + d))), some (.int (nI (msk (D 0 5) (has D S t)))), some (.int ((nI (msk (D 0 5) (has D S t)) &&& nI (S 16)) &&& (nI (msk (D 0 5) (fnd D (S 17 + d) (D 9 k) (has D S t) (hid S) 0)) ^^^ (-1 : Int32)))), some (.int (itr (neS D S (S 17 + d) t k) g (-2, -1)).1), some (.int (itr (neS D S (S 17 + d) t k) g (-2, -1)).2), some (.int (nI g)), l] [] (wI h 0 8 0)) (D 0 5) _ ?_ ?_ _
  · intro g l hg
    have h8 : g < 8 := Nat.lt_of_lt_of_le hg (f_nG w)
    have hbt : bt ((nI (msk (D 0 5) (has D S t)) &&& nI (S 16)) &&& (nI (msk (D 0 5) (fnd D (S 17 + d) (D 9 k) (has D S t) (hid S) 0)) ^^^ (-1 : Int32))) g = (has D S t g && hid S g && !fnd D (S 17 + d) (D 9 k) (has D S t) (hid S) 0 g) := by
      rw [bt_and, bt_and, hb_ w t g hg, hh_ w g hg, bt_xm _ (by omega), bt_msk _ (by omega), dT hg, Bool.true_and]
    rw [b93_44]
    simp only [hP_wI, isO_wI, isA_wI, cond_true, decide_true, cond_false, Bool.and_true, Bool.true_and, Bool.and_self, Bool.and_false, Bool.false_and, Bool.not_true, Bool.not_false, Bool.or_true, Bool.true_or, Bool.or_false, Bool.false_or, is_some, gd_some, bk_v, bk_u, t_O L hT, t_P9 L hT, t_P10 L hT, t_P11 L hT, t_P12 L hT, t_P13 L hT, t_P14 L hT, t_OC L hT, t_C1 L hT, t_C2 L hT, t_C3 L hT, hQ, x_O L, x_P5 L, x_O77 L, s.1, s.2.1, s.2.2.1, s.2.2.2.1, s.2.2.2.2.1, s0.1, s0.2.1, s0.2.2.1, s0.2.2.2.1, s0.2.2.2.2.1, bI_T, bI_F, i1_0, c_s5 c0, g_go w hg, btz _ (show g < 32 by omega), hbt, Bool.not_not, c62 L0 hT w c0 hg (show S 17 + d ≤ 1000 by omega), b93_63, w_s]
    show ∃ a', _ = R 93 44 [_, _, _, _, _, _, _, some (.int (neS D S (S 17 + d) t k g (itr (neS D S (S 17 + d) t k) g (-2, -1))).1), some (.int (neS D S (S 17 + d) t k g (itr (neS D S (S 17 + d) t k) g (-2, -1))).2), _, a'] [] _
    generalize itr (neS D S (S 17 + d) t k) g (-2, -1) = q
    unfold neS
    cases hc : (has D S t g && hid S g && !fnd D (S 17 + d) (D 9 k) (has D S t) (hid S) 0 g) with
    | false =>
      simp only [cond_true, cond_false, decide_true, Bool.and_true, Bool.true_and, Bool.and_self, Bool.and_false, Bool.false_and, Bool.not_true, Bool.not_false, Bool.or_true, Bool.true_or, Bool.or_false, Bool.false_or, is_some, gd_some, bk_v, bk_u]
      cases decide ((-1 : Int32) ≤ q.2)
      · exact ⟨_, rfl⟩
      · exact ⟨_, rfl⟩
    | true =>
      have eo : D 14 g = t := by
        rw [Bool.and_eq_true, Bool.and_eq_true] at hc
        have := hc.1.1
        unfold has at this
        rw [Bool.and_eq_true] at this
        exact of_decide_eq_true this.1
      rw [sme_congr (hb_ w t), sme_has eo]
      simp only [cond_true, cond_false, decide_true, Bool.and_true, Bool.true_and, Bool.and_self, Bool.and_false, Bool.false_and, Bool.not_true, Bool.not_false, Bool.or_true, Bool.true_or, Bool.or_false, Bool.false_or, is_some, gd_some, bk_v, bk_u]
      cases decide (nI (sme D (S 17 + d) g (has0 S) 0) ≤ q.2)
      · exact ⟨_, rfl⟩
      · exact ⟨_, rfl⟩
  · intro l
    rw [b93_44]
    simp only [hP_wI, isO_wI, isA_wI, cond_true, decide_true, cond_false, Bool.and_true, Bool.true_and, Bool.and_self, Bool.and_false, Bool.false_and, Bool.not_true, Bool.not_false, Bool.or_true, Bool.true_or, Bool.or_false, Bool.false_or, is_some, gd_some, bk_v, bk_u, t_O L hT, t_P9 L hT, t_P10 L hT, t_P11 L hT, t_P12 L hT, t_P13 L hT, t_P14 L hT, t_OC L hT, t_C1 L hT, t_C2 L hT, t_C3 L hT, hQ, x_O L, x_P5 L, x_O77 L, s.1, s.2.1, s.2.2.1, s.2.2.2.1, s.2.2.2.2.1, s0.1, s0.2.1, s0.2.2.1, s0.2.2.2.1, s0.2.2.2.2.1, bI_T, bI_F, i1_0, c_s5 c0, g_stop w]
theorem a93b {h : A_H} {T : Nat} {D : Gh} {S : Nat → Nat} (L : Ly h) (hT : isT T) (w : WF D) (c : CT h T D) (hQ : hP h 0 3 = some T) (s : CS h 77 D S) (u : WD D S) {x y z : Int32} (e : decide (eit (eit (gv (D 0 3) x) (gv (D 0 4) y)) (dv z) = 0) = false) : C 93 [.ref 0, .int x, .int y, .int z] h = some (some (some (.int (-1))), wI h 0 8 (eit (eit (gv (D 0 3) x) (gv (D 0 4) y)) (dv z))) := by
  rw [e93]
  simp only [b93_0, b93_6, b93_7, b93_19, b93_34, b93_63, cond_true, decide_true, cond_false, Bool.and_true, Bool.true_and, Bool.and_self, Bool.and_false, Bool.false_and, Bool.not_true, Bool.not_false, Bool.or_true, Bool.true_or, Bool.or_false, Bool.false_or, is_some, gd_some, bk_v, bk_u, t_O L hT, t_P9 L hT, t_P10 L hT, t_P11 L hT, t_P12 L hT, t_P13 L hT, t_P14 L hT, t_OC L hT, t_C1 L hT, t_C2 L hT, t_C3 L hT, hQ, x_O L, x_P5 L, x_O77 L, s.1, s.2.1, s.2.2.1, s.2.2.2.1, s.2.2.2.2.1, c144 L hT w c hQ s u, c134 L, e, bI_T, i1_0]
