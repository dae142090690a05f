theorem CT_fr {h h' : A_H} {T : Nat} {D : Gh} (w : WF D) (c : CT h T D) (e : ∀ k b, T ≤ k → k < T + 35 → ¬ k = T + 9 → hI h' k b = hI h k b) : CT h' T D := by
  have k1 := f_nm w
  have k2 := f_nt w
  have k3 := f_ng w
  have k4 := f_nG w
  have k5 := f_nx w
  exact ⟨(e _ _ (by omega) (by omega) (by omega)).trans (c_s0 c), (e _ _ (by omega) (by omega) (by omega)).trans (c_s1 c), (e _ _ (by omega) (by omega) (by omega)).trans (c_s2 c), (e _ _ (by omega) (by omega) (by omega)).trans (c_s3 c), (e _ _ (by omega) (by omega) (by omega)).trans (c_s4 c), (e _ _ (by omega) (by omega) (by omega)).trans (c_s5 c), (e _ _ (by omega) (by omega) (by omega)).trans (c_s6 c), (e _ _ (by omega) (by omega) (by omega)).trans (c_s7 c), (e _ _ (by omega) (by omega) (by omega)).trans (c_s8 c), (e _ _ (by omega) (by omega) (by omega)).trans (c_nc c), fun {_} h0 => (e _ _ (by omega) (by omega) (by omega)).trans (c_rate c h0), fun {_} h0 => (e _ _ (by omega) (by omega) (by omega)).trans (c_oth c h0), fun {_} h0 => (e _ _ (by omega) (by omega) (by omega)).trans (c_keeps c h0), fun {_} h0 => (e _ _ (by omega) (by omega) (by omega)).trans (c_pri c h0), fun {_} h0 h1 => (e _ _ (by omega) (by omega) (by omega)).trans (c_here c h0 h1), fun {_} h0 h1 => (e _ _ (by omega) (by omega) (by omega)).trans (c_there c h0 h1), fun {_} h0 => (e _ _ (by omega) (by omega) (by omega)).trans (c_all c h0), fun {_} h0 => (e _ _ (by omega) (by omega) (by omega)).trans (c_hun c h0), fun {_} h0 => (e _ _ (by omega) (by omega) (by omega)).trans (c_own c h0), fun {_} h0 => (e _ _ (by omega) (by omega) (by omega)).trans (c_nose c h0), fun {_} h0 => (e _ _ (by omega) (by omega) (by omega)).trans (c_op c h0), fun {_} h0 => (e _ _ (by omega) (by omega) (by omega)).trans (c_sh c h0), fun {_} h0 => (e _ _ (by omega) (by omega) (by omega)).trans (c_kind c h0), fun {_} h0 => (e _ _ (by omega) (by omega) (by omega)).trans (c_by c h0), fun {_} h0 => (e _ _ (by omega) (by omega) (by omega)).trans (c_owner c h0), fun {_} h0 => (e _ _ (by omega) (by omega) (by omega)).trans (c_age c h0), fun {_} h0 => (e _ _ (by omega) (by omega) (by omega)).trans (c_kp c h0), fun {_} h0 => (e _ _ (by omega) (by omega) (by omega)).trans (c_wei c h0), fun {_} h0 => (e _ _ (by omega) (by omega) (by omega)).trans (c_wor c h0), fun {_} h0 => (e _ _ (by omega) (by omega) (by omega)).trans (c_cro c h0), fun {_} h0 => (e _ _ (by omega) (by omega) (by omega)).trans (c_gat c h0), fun {_} h0 => (e _ _ (by omega) (by omega) (by omega)).trans (c_day c h0), fun {_} h0 => (e _ _ (by omega) (by omega) (by omega)).trans (c_hour c h0), fun {_} h0 => (e _ _ (by omega) (by omega) (by omega)).trans (c_cm c h0), fun {_} h0 => (e _ _ (by omega) (by omega) (by omega)).trans (c_cd c h0)⟩
theorem MB_fr {h h' : A_H} {B : Nat} {D : Gh} (b : MB h B D) (e : ∀ k j, B ≤ k → hI h' k j = hI h k j) : MB h' B D := by
  exact ⟨(e _ _ (by omega)).trans (b_s0 b), (e _ _ (by omega)).trans (b_s1 b), (e _ _ (by omega)).trans (b_s2 b), (e _ _ (by omega)).trans (b_s3 b), (e _ _ (by omega)).trans (b_s4 b), (e _ _ (by omega)).trans (b_s5 b), (e _ _ (by omega)).trans (b_s6 b), (e _ _ (by omega)).trans (b_s7 b), (e _ _ (by omega)).trans (b_nc b), (e _ _ (by omega)).trans (b_hid b), fun {_} h0 => (e _ _ (by omega)).trans (b_rate b h0), fun {_} h0 => (e _ _ (by omega)).trans (b_oth b h0), fun {_} h0 => (e _ _ (by omega)).trans (b_keeps b h0), fun {_} h0 => (e _ _ (by omega)).trans (b_here b h0), fun {_} h0 h1 => (e _ _ (by omega)).trans (b_there b h0 h1), fun {_} h0 => (e _ _ (by omega)).trans (b_all b h0), fun {_} h0 => (e _ _ (by omega)).trans (b_hun b h0), fun {_} h0 => (e _ _ (by omega)).trans (b_nose b h0), fun {_} h0 => (e _ _ (by omega)).trans (b_op b h0), fun {_} h0 => (e _ _ (by omega)).trans (b_sh b h0), fun {_} h0 => (e _ _ (by omega)).trans (b_kind b h0), fun {_} h0 => (e _ _ (by omega)).trans (b_by b h0), fun {_} h0 => (e _ _ (by omega)).trans (b_owner b h0), fun {_} h0 => (e _ _ (by omega)).trans (b_age b h0), fun {_} h0 => (e _ _ (by omega)).trans (b_wei b h0), fun {_} h0 => (e _ _ (by omega)).trans (b_wor b h0), fun {_} h0 => (e _ _ (by omega)).trans (b_cro b h0), fun {_} h0 => (e _ _ (by omega)).trans (b_gat b h0), fun {_} h0 => (e _ _ (by omega)).trans (b_day b h0), fun {_} h0 => (e _ _ (by omega)).trans (b_hour b h0), fun {_} h0 => (e _ _ (by omega)).trans (b_cm b h0), fun {_} h0 => (e _ _ (by omega)).trans (b_cd b h0)⟩
def stN : List Nat := [77, 82, 84, 86, 88, 90, 92, 94, 96, 98, 100, 102, 104, 106, 108, 110, 112, 114, 116, 118, 121]
theorem stN_ok : ∀ N ∈ stN, lyS.getD N (0, 0) = (8, 6) ∧ (lyP.getD N []).getD 5 none = some (N + 1) ∧ lyS.getD (N + 1) (0, 0) = (100 + 0, 4) ∧ N + 1 < 134 := by decide
theorem n_O {h : A_H} {N : Nat} (L : Ly h) (hN : N ∈ stN) : isO h N 8 = true := ly_O L (by have := (stN_ok N hN).2.2.2; omega) (stN_ok N hN).1
theorem n_P {h : A_H} {N : Nat} (L : Ly h) (hN : N ∈ stN) : hP h N 5 = some (N + 1) := ly_P L (stN_ok N hN).2.1
theorem n_A {h : A_H} {N t : Nat} (L : Ly h) (hN : N ∈ stN) (ht : t < 4) : isA h (N + 1) 0 (nI t) = true := ly_A L (stN_ok N hN).2.2.2 (stN_ok N hN).2.2.1 ht (by decide)
def is (S : Nat → Nat) (x k : Nat) : Bool := decide (S k = x)
def CS (h : A_H) (N : Nat) (D : Gh) (S : Nat → Nat) : Prop := hI h N 0 = nI (S 17) ∧ hI h N 1 = nI (msk (D 0 5) (is S 1)) ∧ hI h N 2 = nI (msk (D 0 5) (is S 2)) ∧ hI h N 3 = nI (msk (D 0 5) (is S 3)) ∧ hI h N 4 = nI (S 16) ∧ ∀ t, t < 4 → hI h (N + 1) t = nI (S (12 + t))
def WD (D : Gh) (S : Nat → Nat) : Prop := S 17 ≤ 300 ∧ (∀ g, g < 8 → S g ≤ 3) ∧ S 16 < 2 ^ D 0 5 ∧ (∀ g, D 0 5 ≤ g → g < 8 → S g = 0) ∧ ∀ t, t < D 0 3 → S (8 + t) + cnt (D 0 5) (fun g => decide (D 14 g = t) && is S 1 g) = D 8 t
theorem c51 {h : A_H} {N : Nat} {D : Gh} {S : Nat → Nat} (L : Ly h) (hN : N ∈ stN) (s : CS h N D S) : C 51 [.ref N] h = some (some (some (.int ((nI (msk (D 0 5) (is S 1)) ||| nI (msk (D 0 5) (is S 2))) ||| nI (msk (D 0 5) (is S 3))))), h) := by
  rw [e51, b51_0]
  simp only [cond_true, cond_false, decide_true, Bool.and_true, Bool.true_and, Bool.and_self, Bool.and_false, Bool.false_and, Bool.not_true, Bool.not_false, Bool.or_true, Bool.true_or, Bool.or_false, Bool.false_or, is_some, gd_some, bk_v, bk_u, n_O L hN, n_P L hN, s.1, s.2.1, s.2.2.1, s.2.2.2.1]
theorem gone_bt {D : Gh} {S : Nat → Nat} (w : WF D) (u : WD D S) {g : Nat} (hg : g < D 0 5) : bt ((nI (msk (D 0 5) (is S 1)) ||| nI (msk (D 0 5) (is S 2))) ||| nI (msk (D 0 5) (is S 3))) g = !has0 S g := by
  have h8 := Nat.lt_of_lt_of_le hg (f_nG w)
  have hs := u.2.1 g h8
  rw [bt_or, bt_or, bt_msk _ (by omega), bt_msk _ (by omega), bt_msk _ (by omega), dT hg]
  unfold is has0
  have : S g = 0 ∨ S g = 1 ∨ S g = 2 ∨ S g = 3 := by omega
  rcases this with e | e | e | e <;> rw [e] <;> rfl
theorem c52 {h : A_H} {N : Nat} {D : Gh} {S : Nat → Nat} (L : Ly h) (hN : N ∈ stN) (w : WF D) (u : WD D S) (s : CS h N D S) {g : Nat} (hg : g < D 0 5) : C 52 [.ref N, .int (nI g)] h = some (some (some (.int (nI (S g)))), h) := by
  have h8 : g < 8 := Nat.lt_of_lt_of_le hg (f_nG w)
  have hs := u.2.1 g h8
  rw [e52, b52_0]
  simp only [cond_true, cond_false, decide_true, Bool.and_true, Bool.true_and, Bool.and_self, Bool.and_false, Bool.false_and, Bool.not_true, Bool.not_false, Bool.or_true, Bool.true_or, Bool.or_false, Bool.false_or, is_some, gd_some, bk_v, bk_u, n_O L hN, n_P L hN, s.2.1, s.2.2.1, s.2.2.2.1, bit_0 _ (show g < 32 by omega), bt_msk _ (show g < 32 by omega), dT hg]
  unfold is
  have : S g = 0 ∨ S g = 1 ∨ S g = 2 ∨ S g = 3 := by omega
  rcases this with e | e | e | e <;> rw [e] <;> rfl
theorem c54 {h : A_H} {N : Nat} {D : Gh} {S : Nat → Nat} (L : Ly h) (hN : N ∈ stN) (s : CS h N D S) : C 54 [.ref N] h = some (some (some (.int (nI (sm 4 (fun t => S (12 + t)))))), h) := by
  rw [e54, b54_0]
  refine (loop_ix (fun k => R 54 4 [some (.ref N), some (.int (nI (sm k (fun t => S (12 + t))))), some (.int (nI k))] [] h) 4 ?_).trans ?_
  · intro t ht
    rw [b54_4]
    rw [show (4 : Int32) = nI 4 from rfl, dF (by rw [w_le (by decide) (by omega)]; omega)]
    simp only [cond_true, cond_false, decide_true, Bool.and_true, Bool.true_and, Bool.and_self, Bool.and_false, Bool.false_and, Bool.not_true, Bool.not_false, Bool.or_true, Bool.true_or, Bool.or_false, Bool.false_or, is_some, gd_some, bk_v, bk_u, n_O L hN, n_P L hN, n_A L hN ht, w_cl (show t < 2147483648 by omega), s.2.2.2.2.2 t ht, nI_add, w_s, sm_s]
  · rw [b54_4, show (4 : Int32) = nI 4 from rfl, dT (by rw [w_le (by decide) (by decide)]; omega)]
    rfl
theorem x_O {h : A_H} (L : Ly h) : isO h 0 11 = true := ly_O L (by decide) rfl
theorem x_P5 {h : A_H} (L : Ly h) : hP h 0 5 = some 77 := ly_P L rfl
theorem x_O77 {h : A_H} (L : Ly h) : isO h 77 8 = true := ly_O L (by decide) rfl
def vd (n : Nat) (x : Int32) : Bool := !decide (x < 0) && !decide (nI n ≤ x)
theorem vd_T {n : Nat} (hn : n < 2147483648) {x : Int32} (h : vd n x = true) : ∃ g, g < n ∧ x = nI g := by
  unfold vd at h
  rw [Bool.and_eq_true, Bool.not_eq_true', Bool.not_eq_true'] at h
  have h1 := of_decide_eq_false h.1
  have h2 := of_decide_eq_false h.2
  have h0 : 0 ≤ x := by rw [Int32.le_iff_toInt_le]; rw [Int32.lt_iff_toInt_lt] at h1; omega
  obtain ⟨g, hg, e⟩ := w_ex h0
  refine ⟨g, ?_, e⟩
  rw [e, w_le (by omega) hg] at h2
  omega
theorem vd_of {n g : Nat} (hn : n < 2147483648) (hg : g < n) : vd n (nI g) = true := by
  unfold vd
  rw [dF (w_nn (by omega)), dF (by rw [w_le (by omega) (by omega)]; omega)]; rfl
def gv (n : Nat) (x : Int32) : Int32 := bif vd n x then 0 else 1
theorem c134 {h : A_H} (L : Ly h) (x : Int32) : C 134 [.ref 0, .int x] h = some (some (some (.int (bI (!decide (x = 0))))), wI h 0 8 x) := by
  rw [e134, b134_0, x_O L, cond_true, b134_3]
  by_cases e : x = 0
  · rw [dT e]; rfl
  · rw [dF e]; rfl
theorem c135 (x y : Int32) (h : A_H) : C 135 [.int x, .int y] h = some (some (some (.int (bif decide (x = 0) then y else x))), h) := by
  rw [e135, b135_0]
  cases decide (x = 0) <;> rfl
theorem c136 {h : A_H} (L : Ly h) : C 136 [.ref 0] h = some (some (some (.int (bif decide (hI h 0 4 = 0) then 1 else 0))), h) := by
  rw [e136, b136_0, x_O L, cond_true]
  cases decide (hI h 0 4 = 0) <;> rfl
theorem c137 {h : A_H} {T : Nat} {D : Gh} {S : Nat → Nat} (L : Ly h) (hT : isT T) (w : WF D) (c : CT h T D) (hQ : hP h 0 3 = some T) (s : CS h 77 D S) (u : WD D S) (x : Int32) : C 137 [.ref 0, .int x] h = some (some (some (.int (gv (D 0 5) x))), h) := by
  rw [e137, b137_0]
  simp only [cond_true, decide_true, cond_false, Bool.and_true, Bool.true_and, Bool.and_self, Bool.and_false, Bool.false_and, Bool.not_true, Bool.not_false, Bool.or_true, Bool.true_or, Bool.or_false, Bool.false_or, is_some, gd_some, bk_v, bk_u, t_O L hT, t_P9 L hT, t_P10 L hT, t_P11 L hT, t_P12 L hT, t_P13 L hT, t_P14 L hT, t_OC L hT, t_C1 L hT, t_C2 L hT, t_C3 L hT, hQ, x_O L, x_P5 L, x_O77 L, s.1, s.2.1, s.2.2.1, s.2.2.2.1, s.2.2.2.2.1, c_s5 c]
  unfold gv vd
  cases decide (x < 0) <;> cases decide (nI (D 0 5) ≤ x) <;> rfl
theorem c138 {h : A_H} {T : Nat} {D : Gh} {S : Nat → Nat} (L : Ly h) (hT : isT T) (w : WF D) (c : CT h T D) (hQ : hP h 0 3 = some T) (s : CS h 77 D S) (u : WD D S) (x : Int32) : C 138 [.ref 0, .int x] h = some (some (some (.int (gv (D 0 3) x))), h) := by
  rw [e138, b138_0]
  simp only [cond_true, decide_true, cond_false, Bool.and_true, Bool.true_and, Bool.and_self, Bool.and_false, Bool.false_and, Bool.not_true, Bool.not_false, Bool.or_true, Bool.true_or, Bool.or_false, Bool.false_or, is_some, gd_some, bk_v, bk_u, t_O L hT, t_P9 L hT, t_P10 L hT, t_P11 L hT, t_P12 L hT, t_P13 L hT, t_P14 L hT, t_OC L hT, t_C1 L hT, t_C2 L hT, t_C3 L hT, hQ, x_O L, x_P5 L, x_O77 L, s.1, s.2.1, s.2.2.1, s.2.2.2.1, s.2.2.2.2.1, c_s3 c]
  unfold gv vd
  cases decide (x < 0) <;> cases decide (nI (D 0 3) ≤ x) <;> rfl
theorem c139 {h : A_H} {T : Nat} {D : Gh} {S : Nat → Nat} (L : Ly h) (hT : isT T) (w : WF D) (c : CT h T D) (hQ : hP h 0 3 = some T) (s : CS h 77 D S) (u : WD D S) (x : Int32) : C 139 [.ref 0, .int x] h = some (some (some (.int (gv (D 0 4) x))), h) := by
  rw [e139, b139_0]
  simp only [cond_true, decide_true, cond_false, Bool.and_true, Bool.true_and, Bool.and_self, Bool.and_false, Bool.false_and, Bool.not_true, Bool.not_false, Bool.or_true, Bool.true_or, Bool.or_false, Bool.false_or, is_some, gd_some, bk_v, bk_u, t_O L hT, t_P9 L hT, t_P10 L hT, t_P11 L hT, t_P12 L hT, t_P13 L hT, t_P14 L hT, t_OC L hT, t_C1 L hT, t_C2 L hT, t_C3 L hT, hQ, x_O L, x_P5 L, x_O77 L, s.1, s.2.1, s.2.2.1, s.2.2.2.1, s.2.2.2.2.1, c_s4 c]
  unfold gv vd
  cases decide (x < 0) <;> cases decide (nI (D 0 4) ≤ x) <;> rfl
theorem c140 {h : A_H} {T : Nat} {D : Gh} {S : Nat → Nat} (L : Ly h) (hT : isT T) (w : WF D) (c : CT h T D) (hQ : hP h 0 3 = some T) (s : CS h 77 D S) (u : WD D S) (x : Int32) : C 140 [.ref 0, .int x] h = some (some (some (.int (gv (D 0 9) x))), h) := by
  rw [e140, b140_0]
  simp only [cond_true, decide_true, cond_false, Bool.and_true, Bool.true_and, Bool.and_self, Bool.and_false, Bool.false_and, Bool.not_true, Bool.not_false, Bool.or_true, Bool.true_or, Bool.or_false, Bool.false_or, is_some, gd_some, bk_v, bk_u, t_O L hT, t_P9 L hT, t_P10 L hT, t_P11 L hT, t_P12 L hT, t_P13 L hT, t_P14 L hT, t_OC L hT, t_C1 L hT, t_C2 L hT, t_C3 L hT, hQ, x_O L, x_P5 L, x_O77 L, s.1, s.2.1, s.2.2.1, s.2.2.2.1, s.2.2.2.2.1, c_nc c]
  unfold gv vd
  cases decide (x < 0) <;> cases decide (nI (D 0 9) ≤ x) <;> rfl
def dv (x : Int32) : Int32 := bif vd 61 x then 0 else 2
theorem c141 (x : Int32) (h : A_H) : C 141 [.int x] h = some (some (some (.int (dv x))), h) := by
  rw [e141, b141_0]
  unfold dv vd
  have e : decide (nI 61 ≤ x) = decide ((60 : Int32) < x) := by
    apply decide_eq_decide.mpr
    rw [Int32.le_iff_toInt_le, Int32.lt_iff_toInt_lt, w_int (by decide)]
    have : (60 : Int32).toInt = 60 := rfl
    omega
  rw [e]
  cases decide (x < 0) <;> cases decide ((60 : Int32) < x) <;> rfl
def sv (x : Int32) : Int32 := bif vd 65537 x then 0 else 2
theorem c142 (x : Int32) (h : A_H) : C 142 [.int x] h = some (some (some (.int (sv x))), h) := by
  rw [e142, b142_0, show (65537 : Int32) = nI 65537 from rfl]
  unfold sv vd
  cases decide (x < 0) <;> cases decide (nI 65537 ≤ x) <;> rfl
def eit (x y : Int32) : Int32 := bif decide (x = 0) then y else x
theorem c143 {h : A_H} {T : Nat} {D : Gh} {S : Nat → Nat} (L : Ly h) (hT : isT T) (w : WF D) (c : CT h T D) (hQ : hP h 0 3 = some T) (s : CS h 77 D S) (u : WD D S) (x y : Int32) : C 143 [.ref 0, .int x, .int y] h = some (some (some (.int (eit (gv (D 0 5) x) (dv y)))), h) := by
  rw [e143, b143_0]
  simp only [cond_true, decide_true, cond_false, Bool.and_true, Bool.true_and, Bool.and_self, Bool.and_false, Bool.false_and, Bool.not_true, Bool.not_false, Bool.or_true, Bool.true_or, Bool.or_false, Bool.false_or, is_some, gd_some, bk_v, bk_u, t_O L hT, t_P9 L hT, t_P10 L hT, t_P11 L hT, t_P12 L hT, t_P13 L hT, t_P14 L hT, t_OC L hT, t_C1 L hT, t_C2 L hT, t_C3 L hT, hQ, x_O L, x_P5 L, x_O77 L, s.1, s.2.1, s.2.2.1, s.2.2.2.1, s.2.2.2.2.1, c137 L hT w c hQ s u, b143_3, c141, b143_5, c135, b143_6]
  rfl
theorem c144 {h : A_H} {T : Nat} {D : Gh} {S : Nat → Nat} (L : Ly h) (hT : isT T) (w : WF D) (c : CT h T D) (hQ : hP h 0 3 = some T) (s : CS h 77 D S) (u : WD D S) (x y z : Int32) : C 144 [.ref 0, .int x, .int y, .int z] h = some (some (some (.int (eit (eit (gv (D 0 3) x) (gv (D 0 4) y)) (dv z)))), h) := by
  rw [e144, b144_0]
  simp only [cond_true, decide_true, cond_false, Bool.and_true, Bool.true_and, Bool.and_self, Bool.and_false, Bool.false_and, Bool.not_true, Bool.not_false, Bool.or_true, Bool.true_or, Bool.or_false, Bool.false_or, is_some, gd_some, bk_v, bk_u, t_O L hT, t_P9 L hT, t_P10 L hT, t_P11 L hT, t_P12 L hT, t_P13 L hT, t_P14 L hT, t_OC L hT, t_C1 L hT, t_C2 L hT, t_C3 L hT, hQ, x_O L, x_P5 L, x_O77 L, s.1, s.2.1, s.2.2.1, s.2.2.2.1, s.2.2.2.2.1, c138 L hT w c hQ s u, b144_3, c139 L hT w c hQ s u, b144_6, c135, b144_7, c141, b144_9, b144_10]
  rfl
theorem w_in : 77 ∈ stN := by decide
theorem c145 {h : A_H} {T : Nat} {D : Gh} {S : Nat → Nat} (L : Ly h) (hT : isT T) (w : WF D) (c : CT h T D) (hQ : hP h 0 3 = some T) (s : CS h 77 D S) (u : WD D S) {g : Nat} (hg : g < D 0 5) : C 145 [.ref 0, .int (nI g)] h = some (some (some (.int (bif has0 S g then 0 else 5))), h) := by
  have h8 : g < 8 := Nat.lt_of_lt_of_le hg (f_nG w)
  rw [e145, b145_0]
  simp only [cond_true, decide_true, cond_false, Bool.and_true, Bool.true_and, Bool.and_self, Bool.and_false, Bool.false_and, Bool.not_true, Bool.not_false, Bool.or_true, Bool.true_or, Bool.or_false, Bool.false_or, is_some, gd_some, bk_v, bk_u, t_O L hT, t_P9 L hT, t_P10 L hT, t_P11 L hT, t_P12 L hT, t_P13 L hT, t_P14 L hT, t_OC L hT, t_C1 L hT, t_C2 L hT, t_C3 L hT, hQ, x_O L, x_P5 L, x_O77 L, s.1, s.2.1, s.2.2.1, s.2.2.2.1, s.2.2.2.2.1, c51 L w_in s, b145_3]
  rw [show (31 : Int32) = (31 : Int32) from rfl, w_31 (show g < 32 by omega), btz _ (show g < 32 by omega), gone_bt w u hg]
  cases has0 S g <;> rfl
theorem had_eq {D : Gh} {S : Nat → Nat} (w : WF D) (u : WD D S) (t : Nat) : nI (own D t) &&& (((nI (msk (D 0 5) (is S 1)) ||| nI (msk (D 0 5) (is S 2))) ||| nI (msk (D 0 5) (is S 3))) ^^^ (-1 : Int32)) = nI (msk (D 0 5) (has D S t)) := by
  apply i_ext
  intro j hj
  rw [bt_and, bt_xm _ hj, own, bt_msk _ hj, bt_msk _ hj]
  by_cases e : j < D 0 5
  · rw [gone_bt w u e, dT e, Bool.not_not]; rfl
  · rw [dF e]; rfl
theorem c146 {h : A_H} {T : Nat} {D : Gh} {S : Nat → Nat} (L : Ly h) (hT : isT T) (w : WF D) (c : CT h T D) (hQ : hP h 0 3 = some T) (s : CS h 77 D S) (u : WD D S) {t : Nat} (ht : t < D 0 3) : C 146 [.ref 0, .int (nI t)] h = some (some (some (.int (nI (msk (D 0 5) (has D S t))))), h) := by
  have ht4 : t < 4 := Nat.lt_of_lt_of_le ht (f_nt w)
  rw [e146, b146_0]
  simp only [cond_true, decide_true, cond_false, Bool.and_true, Bool.true_and, Bool.and_self, Bool.and_false, Bool.false_and, Bool.not_true, Bool.not_false, Bool.or_true, Bool.true_or, Bool.or_false, Bool.false_or, is_some, gd_some, bk_v, bk_u, t_O L hT, t_P9 L hT, t_P10 L hT, t_P11 L hT, t_P12 L hT, t_P13 L hT, t_P14 L hT, t_OC L hT, t_C1 L hT, t_C2 L hT, t_C3 L hT, hQ, x_O L, x_P5 L, x_O77 L, s.1, s.2.1, s.2.2.1, s.2.2.2.1, s.2.2.2.2.1, t_At L hT ht4, w_cl (show t < 2147483648 by omega), t_Et L hT ht4, t_Ot L hT ht4, c_own c ht4, c51 L w_in s, b146_9, had_eq w u]
theorem c278 (h : A_H) {m : Nat} (hm : m < 256) : C 278 [.int (nI m)] h = some (some (some (.int (nI (cnt 8 (fun j => m.testBit j))))), h) := by
  rw [e278, b278_0]
  refine congrArg (fun x => some (some (some (Value.int x)), h)) ?_
  revert m
  decide +kernel
theorem cnt_cut {n N : Nat} (hn : n ≤ N) (p : Nat → Bool) : cnt N (fun j => decide (j < n) && p j) = cnt n p := by
  have key : ∀ k, n ≤ k → k ≤ N → cnt k (fun j => decide (j < n) && p j) = cnt n p := by
    intro k
    induction k with
    | zero => intro h1 _; rw [Nat.le_zero.mp h1]; rfl
    | succ k ih =>
      intro h1 h2
      by_cases e : n = k + 1
      · rw [← e]; exact cnt_congr (fun j hj => by rw [dT hj, Bool.true_and])
      · rw [cnt_s, ih (by omega) (by omega), dF (by omega : ¬ k < n)]; rfl
  exact key N hn (Nat.le_refl N)
theorem msk_256 {n : Nat} (hn : n ≤ 8) (p : Nat → Bool) : msk n p < 256 := Nat.lt_of_lt_of_le (msk_lt n p) (Nat.pow_le_pow_right (by decide) hn)
theorem cnt_msk {n : Nat} (hn : n ≤ 8) (p : Nat → Bool) : cnt 8 (fun j => (msk n p).testBit j) = cnt n p := by
  rw [← cnt_cut hn p]
  exact cnt_congr (fun j _ => msk_bit n p j)
theorem and_msk {n : Nat} (p q : Nat → Bool) : nI (msk n p) &&& nI (msk n q) = nI (msk n (fun k => p k && q k)) := by
  apply i_ext
  intro j hj
  rw [bt_and, bt_msk _ hj, bt_msk _ hj, bt_msk _ hj]
  cases decide (j < n) <;> cases p j <;> rfl
theorem c147 {h : A_H} {T : Nat} {D : Gh} {S : Nat → Nat} (L : Ly h) (hT : isT T) (w : WF D) (c : CT h T D) (hQ : hP h 0 3 = some T) (s : CS h 77 D S) (u : WD D S) {t : Nat} (ht : t < D 0 3) : C 147 [.ref 0, .int (nI t)] h = some (some (some (.int (nI (S (8 + t))))), h) := by
  have ht4 : t < 4 := Nat.lt_of_lt_of_le ht (f_nt w)
  have hh := u.2.2.2.2 t ht
  have h8 := f_nG w
  have hc := cnt_msk h8 (fun g => decide (D 14 g = t) && is S 1 g)
  rw [e147, b147_0]
  simp only [cond_true, decide_true, cond_false, Bool.and_true, Bool.true_and, Bool.and_self, Bool.and_false, Bool.false_and, Bool.not_true, Bool.not_false, Bool.or_true, Bool.true_or, Bool.or_false, Bool.false_or, is_some, gd_some, bk_v, bk_u, t_O L hT, t_P9 L hT, t_P10 L hT, t_P11 L hT, t_P12 L hT, t_P13 L hT, t_P14 L hT, t_OC L hT, t_C1 L hT, t_C2 L hT, t_C3 L hT, hQ, x_O L, x_P5 L, x_O77 L, s.1, s.2.1, s.2.2.1, s.2.2.2.1, s.2.2.2.2.1, t_At L hT ht4, w_cl (show t < 2147483648 by omega), t_Et L hT ht4, t_Ot L hT ht4, c_own c ht4, c_hun c ht, own, and_msk, c278 h (msk_256 h8 _), b147_15, hc]
  rw [w_sub (by omega)]
  rw [show D 8 t - cnt (D 0 5) (fun g => decide (D 14 g = t) && is S 1 g) = S (8 + t) by omega]
theorem c148 {h : A_H} {T : Nat} {D : Gh} {S : Nat → Nat} (L : Ly h) (hT : isT T) (w : WF D) (c : CT h T D) (hQ : hP h 0 3 = some T) (s : CS h 77 D S) (u : WD D S) {t k d : Nat} (ht : t < D 0 3) (hk : k < D 0 4) (hd : d ≤ 60) (l : Bool) : C 148 [.ref 0, .int (nI t), .int (nI k), .int (nI d), .int (bI l)] h = some (some (some (.int (nI (ask D (bif l then 1 else 0) (S 17 + d) t (fnd D (S 17 + d) (D 9 k) (has D S t) (hid S) 0) (fun g => has D S t g && !hid S g))))), h) := by
  have h17 := u.1
  rw [e148, b148_0]
  simp only [cond_true, decide_true, cond_false, Bool.and_true, Bool.true_and, Bool.and_self, Bool.and_false, Bool.false_and, Bool.not_true, Bool.not_false, Bool.or_true, Bool.true_or, Bool.or_false, Bool.false_or, is_some, gd_some, bk_v, bk_u, t_O L hT, t_P9 L hT, t_P10 L hT, t_P11 L hT, t_P12 L hT, t_P13 L hT, t_P14 L hT, t_OC L hT, t_C1 L hT, t_C2 L hT, t_C3 L hT, hQ, x_O L, x_P5 L, x_O77 L, s.1, s.2.1, s.2.2.1, s.2.2.2.1, s.2.2.2.2.1, c146 L hT w c hQ s u ht, b148_12, nI_add, c71 L hT w c ht hk (show S 17 + d ≤ 1000 by omega) _ _ l, b148_17]
  have hb : ∀ g, g < D 0 5 → bt (nI (msk (D 0 5) (has D S t))) g = has D S t g := by
    intro g hg
    have h8 := Nat.lt_of_lt_of_le hg (f_nG w)
    rw [bt_msk _ (by omega), dT hg, Bool.true_and]
  have hh : ∀ g, g < D 0 5 → bt (nI (S 16)) g = hid S g := by
    intro g hg
    have h8 := Nat.lt_of_lt_of_le hg (f_nG w)
    exact bt_nI _ (by omega)
  rw [ask_congr (fun g hg => fnd_congr hb hh g hg) (fun g hg => by rw [hb g hg, hh g hg])]
theorem CT_w0 {h : A_H} {T : Nat} {D : Gh} (hT : isT T) (w : WF D) (c : CT h T D) (x : Int32) : CT (wI h 0 8 x) T D := CT_fr w c (fun k b h1 _ _ => by rw [hI_wI, if_neg (by rcases hT with rfl | rfl <;> omega)])
theorem CS_w0 {h : A_H} {N : Nat} {D : Gh} {S : Nat → Nat} (s : CS h (N + 1) D S) (x : Int32) : CS (wI h 0 8 x) (N + 1) D S := ⟨by rw [hI_wI, if_neg (by omega)]; exact s.1, by rw [hI_wI, if_neg (by omega)]; exact s.2.1, by rw [hI_wI, if_neg (by omega)]; exact s.2.2.1, by rw [hI_wI, if_neg (by omega)]; exact s.2.2.2.1, by rw [hI_wI, if_neg (by omega)]; exact s.2.2.2.2.1, fun t ht => by rw [hI_wI, if_neg (by omega)]; exact s.2.2.2.2.2 t ht⟩
theorem i1_0 : decide ((1 : Int32) = 0) = false := by decide
theorem gv_0 {n g : Nat} (hn : n < 1000) (hg : g < n) : gv n (nI g) = 0 := by unfold gv; rw [vd_of (by omega) hg]; rfl
theorem dv_0 {d : Nat} (hd : d ≤ 60) : dv (nI d) = 0 := by unfold dv; rw [vd_of (by decide) (by omega)]; rfl
theorem eit_0 (y : Int32) : eit 0 y = y := rfl
theorem gGD {D : Gh} (w : WF D) {g d : Nat} (hg : g < D 0 5) (hd : d ≤ 60) : eit (gv (D 0 5) (nI g)) (dv (nI d)) = 0 := by
  have := f_nG w
  rw [gv_0 (by omega) hg, dv_0 hd]; rfl
theorem gTGD {D : Gh} (w : WF D) {t k d : Nat} (ht : t < D 0 3) (hk : k < D 0 4) (hd : d ≤ 60) : eit (eit (gv (D 0 3) (nI t)) (gv (D 0 4) (nI k))) (dv (nI d)) = 0 := by
  have := f_nt w
  have := f_ng w
  rw [gv_0 (by omega) ht, gv_0 (by omega) hk, dv_0 hd]; rfl
theorem a83 {h : A_H} {T : Nat} {D : Gh} {S : Nat → Nat} (L : Ly h) (hT : isT T) (w : WF D) (c : CT h T D) (hQ : hP h 0 3 = some T) (s : CS h 77 D S) (u : WD D S) {g d : Nat} (hg : g < D 0 5) (hd : d ≤ 60) : C 83 [.ref 0, .int (nI g), .int (nI d)] h = some (some (some (.int (nI (D 15 g + (S 17 + d))))), wI h 0 8 0) := by
  have L0 : Ly (wI h 0 8 0) := L; have c0 := CT_w0 hT w c 0; have s0 : CS (wI h 0 8 0) 77 D S := CS_w0 s 0; have Q0 : hP (wI h 0 8 0) 0 3 = some T := hQ
  rw [e83]
  simp only [b83_0, b83_5, b83_6, b83_18, hP_wI, isO_wI, isA_wI, cond_true, decide_true, cond_false, Bool.and_true, Bool.true_and, Bool.and_self, Bool.and_false, Bool.false_and, Bool.not_true, Bool.not_false, Bool.or_true, Bool.true_or, Bool.or_false, Bool.false_or, is_some, gd_some, bk_v, bk_u, t_O L hT, t_P9 L hT, t_P10 L hT, t_P11 L hT, t_P12 L hT, t_P13 L hT, t_P14 L hT, t_OC L hT, t_C1 L hT, t_C2 L hT, t_C3 L hT, hQ, x_O L, x_P5 L, x_O77 L, s.1, s.2.1, s.2.2.1, s.2.2.2.1, s.2.2.2.2.1, s0.1, s0.2.1, s0.2.2.1, s0.2.2.2.1, s0.2.2.2.2.1, bI_T, bI_F, i1_0, c143 L hT w c hQ s u, gGD w hg hd, c134 L, nI_add, c57 L0 hT w c0 hg]
theorem a83b {h : A_H} {T : Nat} {D : Gh} {S : Nat → Nat} (L : Ly h) (hT : isT T) (w : WF D) (c : CT h T D) (hQ : hP h 0 3 = some T) (s : CS h 77 D S) (u : WD D S) {x y : Int32} (e : decide (eit (gv (D 0 5) x) (dv y) = 0) = false) : C 83 [.ref 0, .int x, .int y] h = some (some (some (.int (-1))), wI h 0 8 (eit (gv (D 0 5) x) (dv y))) := by
  rw [e83]
  simp only [b83_0, b83_5, b83_6, b83_18, cond_true, decide_true, cond_false, Bool.and_true, Bool.true_and, Bool.and_self, Bool.and_false, Bool.false_and, Bool.not_true, Bool.not_false, Bool.or_true, Bool.true_or, Bool.or_false, Bool.false_or, is_some, gd_some, bk_v, bk_u, t_O L hT, t_P9 L hT, t_P10 L hT, t_P11 L hT, t_P12 L hT, t_P13 L hT, t_P14 L hT, t_OC L hT, t_C1 L hT, t_C2 L hT, t_C3 L hT, hQ, x_O L, x_P5 L, x_O77 L, s.1, s.2.1, s.2.2.1, s.2.2.2.1, s.2.2.2.2.1, c143 L hT w c hQ s u, c134 L, e, bI_T, i1_0]
theorem a84 {h : A_H} {T : Nat} {D : Gh} {S : Nat → Nat} (L : Ly h) (hT : isT T) (w : WF D) (c : CT h T D) (hQ : hP h 0 3 = some T) (s : CS h 77 D S) (u : WD D S) {g d : Nat} (hg : g < D 0 5) (hd : d ≤ 60) : C 84 [.ref 0, .int (nI g), .int (nI d)] h = some (some (some (.int (nI (wor D g (S 17 + d))))), wI h 0 8 0) := by
  have L0 : Ly (wI h 0 8 0) := L; have c0 := CT_w0 hT w c 0; have s0 : CS (wI h 0 8 0) 77 D S := CS_w0 s 0; have Q0 : hP (wI h 0 8 0) 0 3 = some T := hQ
  have h17 := u.1
  rw [e84]
  simp only [b84_0, b84_5, b84_6, b84_18, hP_wI, isO_wI, isA_wI, cond_true, decide_true, cond_false, Bool.and_true, Bool.true_and, Bool.and_self, Bool.and_false, Bool.false_and, Bool.not_true, Bool.not_false, Bool.or_true, Bool.true_or, Bool.or_false, Bool.false_or, is_some, gd_some, bk_v, bk_u, t_O L hT, t_P9 L hT, t_P10 L hT, t_P11 L hT, t_P12 L hT, t_P13 L hT, t_P14 L hT, t_OC L hT, t_C1 L hT, t_C2 L hT, t_C3 L hT, hQ, x_O L, x_P5 L, x_O77 L, s.1, s.2.1, s.2.2.1, s.2.2.2.1, s.2.2.2.2.1, s0.1, s0.2.1, s0.2.2.1, s0.2.2.2.1, s0.2.2.2.2.1, bI_T, bI_F, i1_0, c143 L hT w c hQ s u, gGD w hg hd, c134 L, nI_add, c60 L0 hT w c0 hg (show S 17 + d ≤ 1000 by omega)]
theorem a84b {h : A_H} {T : Nat} {D : Gh} {S : Nat → Nat} (L : Ly h) (hT : isT T) (w : WF D) (c : CT h T D) (hQ : hP h 0 3 = some T) (s : CS h 77 D S) (u : WD D S) {x y : Int32} (e : decide (eit (gv (D 0 5) x) (dv y) = 0) = false) : C 84 [.ref 0, .int x, .int y] h = some (some (some (.int (-1))), wI h 0 8 (eit (gv (D 0 5) x) (dv y))) := by
  rw [e84]
  simp only [b84_0, b84_5, b84_6, b84_18, cond_true, decide_true, cond_false, Bool.and_true, Bool.true_and, Bool.and_self, Bool.and_false, Bool.false_and, Bool.not_true, Bool.not_false, Bool.or_true, Bool.true_or, Bool.or_false, Bool.false_or, is_some, gd_some, bk_v, bk_u, t_O L hT, t_P9 L hT, t_P10 L hT, t_P11 L hT, t_P12 L hT, t_P13 L hT, t_P14 L hT, t_OC L hT, t_C1 L hT, t_C2 L hT, t_C3 L hT, hQ, x_O L, x_P5 L, x_O77 L, s.1, s.2.1, s.2.2.1, s.2.2.2.1, s.2.2.2.2.1, c143 L hT w c hQ s u, c134 L, e, bI_T, i1_0]
theorem a85 {h : A_H} {T : Nat} {D : Gh} {S : Nat → Nat} (L : Ly h) (hT : isT T) (w : WF D) (c : CT h T D) (hQ : hP h 0 3 = some T) (s : CS h 77 D S) (u : WD D S) {g d : Nat} (hg : g < D 0 5) (hd : d ≤ 60) : C 85 [.ref 0, .int (nI g), .int (nI d)] h = some (some (some (.int (nI (dut D 0 g (S 17 + d))))), wI h 0 8 0) := by
  have L0 : Ly (wI h 0 8 0) := L; have c0 := CT_w0 hT w c 0; have s0 : CS (wI h 0 8 0) 77 D S := CS_w0 s 0; have Q0 : hP (wI h 0 8 0) 0 3 = some T := hQ
  have h17 := u.1
  have h61 := c61 L0 hT w c0 hg (show S 17 + d ≤ 1000 by omega) false
  rw [bI_F, cond_false] at h61
  rw [e85]
  simp only [b85_0, b85_5, b85_6, b85_19, hP_wI, isO_wI, isA_wI, cond_true, decide_true, cond_false, Bool.and_true, Bool.true_and, Bool.and_self, Bool.and_false, Bool.false_and, Bool.not_true, Bool.not_false, Bool.or_true, Bool.true_or, Bool.or_false, Bool.false_or, is_some, gd_some, bk_v, bk_u, t_O L hT, t_P9 L hT, t_P10 L hT, t_P11 L hT, t_P12 L hT, t_P13 L hT, t_P14 L hT, t_OC L hT, t_C1 L hT, t_C2 L hT, t_C3 L hT, hQ, x_O L, x_P5 L, x_O77 L, s.1, s.2.1, s.2.2.1, s.2.2.2.1, s.2.2.2.2.1, s0.1, s0.2.1, s0.2.2.1, s0.2.2.2.1, s0.2.2.2.2.1, bI_T, bI_F, i1_0, c143 L hT w c hQ s u, gGD w hg hd, c134 L, nI_add, h61]
theorem a85b {h : A_H} {T : Nat} {D : Gh} {S : Nat → Nat} (L : Ly h) (hT : isT T) (w : WF D) (c : CT h T D) (hQ : hP h 0 3 = some T) (s : CS h 77 D S) (u : WD D S) {x y : Int32} (e : decide (eit (gv (D 0 5) x) (dv y) = 0) = false) : C 85 [.ref 0, .int x, .int y] h = some (some (some (.int (-1))), wI h 0 8 (eit (gv (D 0 5) x) (dv y))) := by
  rw [e85]
  simp only [b85_0, b85_5, b85_6, b85_19, cond_true, decide_true, cond_false, Bool.and_true, Bool.true_and, Bool.and_self, Bool.and_false, Bool.false_and, Bool.not_true, Bool.not_false, Bool.or_true, Bool.true_or, Bool.or_false, Bool.false_or, is_some, gd_some, bk_v, bk_u, t_O L hT, t_P9 L hT, t_P10 L hT, t_P11 L hT, t_P12 L hT, t_P13 L hT, t_P14 L hT, t_OC L hT, t_C1 L hT, t_C2 L hT, t_C3 L hT, hQ, x_O L, x_P5 L, x_O77 L, s.1, s.2.1, s.2.2.1, s.2.2.2.1, s.2.2.2.2.1, c143 L hT w c hQ s u, c134 L, e, bI_T, i1_0]
theorem a86 {h : A_H} {T : Nat} {D : Gh} {S : Nat → Nat} (L : Ly h) (hT : isT T) (w : WF D) (c : CT h T D) (hQ : hP h 0 3 = some T) (s : CS h 77 D S) (u : WD D S) {g d : Nat} (hg : g < D 0 5) (hd : d ≤ 60) : C 86 [.ref 0, .int (nI g), .int (nI d)] h = some (some (some (.int (nI (sme D (S 17 + d) g (has0 S) 0)))), wI h 0 8 0) := by
  have L0 : Ly (wI h 0 8 0) := L; have c0 := CT_w0 hT w c 0; have s0 : CS (wI h 0 8 0) 77 D S := CS_w0 s 0; have Q0 : hP (wI h 0 8 0) 0 3 = some T := hQ
  have h17 := u.1
  rw [e86]
  simp only [b86_0, b86_5, b86_6, b86_20, b86_23, hP_wI, isO_wI, isA_wI, cond_true, decide_true, cond_false, Bool.and_true, Bool.true_and, Bool.and_self, Bool.and_false, Bool.false_and, Bool.not_true, Bool.not_false, Bool.or_true, Bool.true_or, Bool.or_false, Bool.false_or, is_some, gd_some, bk_v, bk_u, t_O L hT, t_P9 L hT, t_P10 L hT, t_P11 L hT, t_P12 L hT, t_P13 L hT, t_P14 L hT, t_OC L hT, t_C1 L hT, t_C2 L hT, t_C3 L hT, hQ, x_O L, x_P5 L, x_O77 L, s.1, s.2.1, s.2.2.1, s.2.2.2.1, s.2.2.2.2.1, s0.1, s0.2.1, s0.2.2.1, s0.2.2.2.1, s0.2.2.2.2.1, bI_T, bI_F, i1_0, c143 L hT w c hQ s u, gGD w hg hd, c134 L, nI_add, c51 L0 w_in s0, c62 L0 hT w c0 hg (show S 17 + d ≤ 1000 by omega)]
  rw [sme_congr (q := has0 S)]
  intro k hk
  have hk8 := Nat.lt_of_lt_of_le hk (f_nG w)
  rw [bt_xm _ (by omega), gone_bt w u hk, Bool.not_not]
theorem a86b {h : A_H} {T : Nat} {D : Gh} {S : Nat → Nat} (L : Ly h) (hT : isT T) (w : WF D) (c : CT h T D) (hQ : hP h 0 3 = some T) (s : CS h 77 D S) (u : WD D S) {x y : Int32} (e : decide (eit (gv (D 0 5) x) (dv y) = 0) = false) : C 86 [.ref 0, .int x, .int y] h = some (some (some (.int (-1))), wI h 0 8 (eit (gv (D 0 5) x) (dv y))) := by
  rw [e86]
  simp only [b86_0, b86_5, b86_6, b86_20, b86_23, cond_true, decide_true, cond_false, Bool.and_true, Bool.true_and, Bool.and_self, Bool.and_false, Bool.false_and, Bool.not_true, Bool.not_false, Bool.or_true, Bool.true_or, Bool.or_false, Bool.false_or, is_some, gd_some, bk_v, bk_u, t_O L hT, t_P9 L hT, t_P10 L hT, t_P11 L hT, t_P12 L hT, t_P13 L hT, t_P14 L hT, t_OC L hT, t_C1 L hT, t_C2 L hT, t_C3 L hT, hQ, x_O L, x_P5 L, x_O77 L, s.1, s.2.1, s.2.2.1, s.2.2.2.1, s.2.2.2.2.1, c143 L hT w c hQ s u, c134 L, e, bI_T, i1_0]
theorem a110 {h : A_H} {T : Nat} {D : Gh} {S : Nat → Nat} (L : Ly h) (hT : isT T) (w : WF D) (c : CT h T D) (hQ : hP h 0 3 = some T) (s : CS h 77 D S) (u : WD D S) {g d : Nat} (hg : g < D 0 5) (hd : d ≤ 60) : C 110 [.ref 0, .int (nI g), .int (nI d)] h = some (some (some (.int (gai D g (S 17 + d)))), wI h 0 8 0) := by
  have L0 : Ly (wI h 0 8 0) := L; have c0 := CT_w0 hT w c 0; have s0 : CS (wI h 0 8 0) 77 D S := CS_w0 s 0; have Q0 : hP (wI h 0 8 0) 0 3 = some T := hQ
  have h17 := u.1
  rw [e110]
  simp only [b110_0, b110_5, b110_6, b110_18, hP_wI, isO_wI, isA_wI, cond_true, decide_true, cond_false, Bool.and_true, Bool.true_and, Bool.and_self, Bool.and_false, Bool.false_and, Bool.not_true, Bool.not_false, Bool.or_true, Bool.true_or, Bool.or_false, Bool.false_or, is_some, gd_some, bk_v, bk_u, t_O L hT, t_P9 L hT, t_P10 L hT, t_P11 L hT, t_P12 L hT, t_P13 L hT, t_P14 L hT, t_OC L hT, t_C1 L hT, t_C2 L hT, t_C3 L hT, hQ, x_O L, x_P5 L, x_O77 L, s.1, s.2.1, s.2.2.1, s.2.2.2.1, s.2.2.2.2.1, s0.1, s0.2.1, s0.2.2.1, s0.2.2.2.1, s0.2.2.2.2.1, bI_T, bI_F, i1_0, c143 L hT w c hQ s u, gGD w hg hd, c134 L, nI_add, c64 L0 hT w c0 hg (show S 17 + d ≤ 1000 by omega)]
theorem a110b {h : A_H} {T : Nat} {D : Gh} {S : Nat → Nat} (L : Ly h) (hT : isT T) (w : WF D) (c : CT h T D) (hQ : hP h 0 3 = some T) (s : CS h 77 D S) (u : WD D S) {x y : Int32} (e : decide (eit (gv (D 0 5) x) (dv y) = 0) = false) : C 110 [.ref 0, .int x, .int y] h = some (some (some (.int (-10000))), wI h 0 8 (eit (gv (D 0 5) x) (dv y))) := by
  rw [e110]
  simp only [b110_0, b110_5, b110_6, b110_18, cond_true, decide_true, cond_false, Bool.and_true, Bool.true_and, Bool.and_self, Bool.and_false, Bool.false_and, Bool.not_true, Bool.not_false, Bool.or_true, Bool.true_or, Bool.or_false, Bool.false_or, is_some, gd_some, bk_v, bk_u, t_O L hT, t_P9 L hT, t_P10 L hT, t_P11 L hT, t_P12 L hT, t_P13 L hT, t_P14 L hT, t_OC L hT, t_C1 L hT, t_C2 L hT, t_C3 L hT, hQ, x_O L, x_P5 L, x_O77 L, s.1, s.2.1, s.2.2.1, s.2.2.2.1, s.2.2.2.2.1, c143 L hT w c hQ s u, c134 L, e, bI_T, i1_0]
