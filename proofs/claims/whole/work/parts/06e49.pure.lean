def cq (a b : Nat) : Prop := (a = 0 ∧ b = 8) ∨ (120 ≤ a ∧ a ≤ 123) ∨ a = 12 ∨ a = 51
def Ce (m : Nat) (as : List Value) (h : A_H) (v x : Int32) : Prop := ∃ h', C m as h = some (some (some (.int v)), h') ∧ FR cq h h' ∧ hI h' 0 8 = x
theorem FR_0 (h : A_H) (x : Int32) : FR cq h (wI h 0 8 x) := FR_wI (FR_rfl _ h) _ (Or.inl ⟨rfl, rfl⟩)
theorem Ce_of {m : Nat} {as : List Value} {h : A_H} {v x : Int32} (e : C m as h = some (some (some (.int v)), wI h 0 8 x)) : Ce m as h v x := ⟨_, e, FR_0 h x, by rw [hI_wI, if_pos ⟨rfl, rfl⟩]⟩
theorem plP_cq {a b : Nat} (q : plP a b) : cq a b := by unfold plP sdP at q; unfold cq; omega
theorem pl_8 {h h' : A_H} (f : FR plP h h') : hI h' 0 8 = hI h 0 8 := FR_I f (by unfold plP sdP; omega)
theorem a114 {h : A_H} {T : Nat} {D : Gh} {S : Nat → Nat} (L : Ly h) (hT : isT T) (w : WF D) (c : CT h T D) (hQ : hP h 0 3 = some T) (s : CS h 77 D S) (u : WD D S) {k : Nat} (hk : k < D 0 6) : Ce 114 [.ref 0, .int (nI k)] h ((plR D false 0 (D 0 6)).2.2.2 k) 0 := by
  have L0 : Ly (wI h 0 8 0) := L; have c0 := CT_w0 hT w c 0; have s0 : CS (wI h 0 8 0) 77 D S := CS_w0 s 0; have Q0 : hP (wI h 0 8 0) 0 3 = some T := hQ
  have h6 := f_nx w
  obtain ⟨h', g1, f1, s1, -, a1⟩ := c18 L0 hT w c0 (sd := 0) (by decide) (dr := false) (fun c => by cases c)
  rw [bI_F] at g1
  have L1 := FR_Ly f1 L0
  refine ⟨h', ?_, FR_tr (FR_0 h 0) (FR_mo (fun a b q => plP_cq q) f1), (pl_8 f1).trans (by rw [hI_wI, if_pos ⟨rfl, rfl⟩])⟩
  rw [e114]
  simp only [b114_0, b114_12, b114_21, hP_wI, isO_wI, isA_wI, cond_true, decide_true, cond_false, Bool.and_true, Bool.true_and, Bool.and_self, Bool.and_false, Bool.false_and, Bool.not_true, Bool.not_false, Bool.or_true, Bool.true_or, Bool.or_false, Bool.false_or, is_some, gd_some, bk_v, bk_u, t_O L hT, t_P9 L hT, t_P10 L hT, t_P11 L hT, t_P12 L hT, t_P13 L hT, t_P14 L hT, t_OC L hT, t_C1 L hT, t_C2 L hT, t_C3 L hT, hQ, x_O L, x_P5 L, x_O77 L, s.1, s.2.1, s.2.2.1, s.2.2.2.1, s.2.2.2.2.1, s0.1, s0.2.1, s0.2.2.1, s0.2.2.2.1, s0.2.2.2.2.1, bI_T, bI_F, i1_0, c_s6 c, dF (w_nn (show k < 2147483648 by omega)), dF (show ¬ nI (D 0 6) ≤ nI k by rw [w_le (by omega) (by omega)]; omega), c134 L, x_P7 L, p_O L, g1, x_O L1, x_P7 L1, p_O L1, p_P1 L1, p_A L1 (show k < 6 by omega), w_cl (show k < 2147483648 by omega), a1 k hk]
theorem a114b {h : A_H} {T : Nat} {D : Gh} {S : Nat → Nat} (L : Ly h) (hT : isT T) (w : WF D) (c : CT h T D) (hQ : hP h 0 3 = some T) (s : CS h 77 D S) (u : WD D S) {x : Int32} (e : vd (D 0 6) x = false) : Ce 114 [.ref 0, .int x] h (-1) 1 := by
  apply Ce_of
  rw [e114]
  unfold vd at e
  cases h1 : decide (x < 0) with
  | true => simp only [b114_0, b114_12, cond_true, decide_true, cond_false, Bool.and_true, Bool.true_and, Bool.and_self, Bool.and_false, Bool.false_and, Bool.not_true, Bool.not_false, Bool.or_true, Bool.true_or, Bool.or_false, Bool.false_or, is_some, gd_some, bk_v, bk_u, t_O L hT, t_P9 L hT, t_P10 L hT, t_P11 L hT, t_P12 L hT, t_P13 L hT, t_P14 L hT, t_OC L hT, t_C1 L hT, t_C2 L hT, t_C3 L hT, hQ, x_O L, x_P5 L, x_O77 L, s.1, s.2.1, s.2.2.1, s.2.2.2.1, s.2.2.2.2.1, h1, c134 L, bI_T, i1_0]
  | false =>
    rw [h1] at e
    cases h2 : decide (nI (D 0 6) ≤ x) with
    | true => simp only [b114_0, b114_12, cond_true, decide_true, cond_false, Bool.and_true, Bool.true_and, Bool.and_self, Bool.and_false, Bool.false_and, Bool.not_true, Bool.not_false, Bool.or_true, Bool.true_or, Bool.or_false, Bool.false_or, is_some, gd_some, bk_v, bk_u, t_O L hT, t_P9 L hT, t_P10 L hT, t_P11 L hT, t_P12 L hT, t_P13 L hT, t_P14 L hT, t_OC L hT, t_C1 L hT, t_C2 L hT, t_C3 L hT, hQ, x_O L, x_P5 L, x_O77 L, s.1, s.2.1, s.2.2.1, s.2.2.2.1, s.2.2.2.2.1, h1, h2, c_s6 c, c134 L, bI_T, i1_0]
    | false => rw [h2] at e; cases e
theorem a115 {h : A_H} {T : Nat} {D : Gh} {S : Nat → Nat} (L : Ly h) (hT : isT T) (w : WF D) (c : CT h T D) (hQ : hP h 0 3 = some T) (s : CS h 77 D S) (u : WD D S) (hst : hI h 0 4 = 1) : Ce 115 [.ref 0] h (oI (fsm (fun k => !opn D k) (D 0 6) 0)) 0 := by
  have L0 : Ly (wI h 0 8 0) := L; have c0 := CT_w0 hT w c 0; have s0 : CS (wI h 0 8 0) 77 D S := CS_w0 s 0; have Q0 : hP (wI h 0 8 0) 0 3 = some T := hQ
  have h6 := f_nx w
  apply Ce_of
  have key : ∀ f k, k + f = D 0 6 → R 115 9 [some (.ref 0), some (.int (nI k))] [] (wI h 0 8 0) = some (some (some (.int (oI (fsm (fun k => !opn D k) f k)))), wI h 0 8 0) := by
    intro f
    induction f with
    | zero =>
      intro k hk
      have : k = D 0 6 := by omega
      subst this
      rw [b115_9]
      simp only [hP_wI, isO_wI, isA_wI, cond_true, decide_true, cond_false, Bool.and_true, Bool.true_and, Bool.and_self, Bool.and_false, Bool.false_and, Bool.not_true, Bool.not_false, Bool.or_true, Bool.true_or, Bool.or_false, Bool.false_or, is_some, gd_some, bk_v, bk_u, t_O L hT, t_P9 L hT, t_P10 L hT, t_P11 L hT, t_P12 L hT, t_P13 L hT, t_P14 L hT, t_OC L hT, t_C1 L hT, t_C2 L hT, t_C3 L hT, hQ, x_O L, x_P5 L, x_O77 L, s.1, s.2.1, s.2.2.1, s.2.2.2.1, s.2.2.2.2.1, s0.1, s0.2.1, s0.2.2.1, s0.2.2.2.1, s0.2.2.2.2.1, bI_T, bI_F, i1_0, c_s6 c0, x_stop]; rfl
    | succ f ih =>
      intro k hk
      have hk' : k < D 0 6 := by omega
      rw [b115_9]
      simp only [hP_wI, isO_wI, isA_wI, cond_true, decide_true, cond_false, Bool.and_true, Bool.true_and, Bool.and_self, Bool.and_false, Bool.false_and, Bool.not_true, Bool.not_false, Bool.or_true, Bool.true_or, Bool.or_false, Bool.false_or, is_some, gd_some, bk_v, bk_u, t_O L hT, t_P9 L hT, t_P10 L hT, t_P11 L hT, t_P12 L hT, t_P13 L hT, t_P14 L hT, t_OC L hT, t_C1 L hT, t_C2 L hT, t_C3 L hT, hQ, x_O L, x_P5 L, x_O77 L, s.1, s.2.1, s.2.2.1, s.2.2.2.1, s.2.2.2.2.1, s0.1, s0.2.1, s0.2.2.1, s0.2.2.2.1, s0.2.2.2.2.1, bI_T, bI_F, i1_0, c_s6 c0, x_end w hk', t_Ax L hT (show k < 6 by omega), w_cl (show k < 2147483648 by omega), t_Ex L hT (show k < 6 by omega), c72 L0 hT w c0 hk', b115_22, z_0, w_s]
      rw [ih (k + 1) (by omega), fsm_s]
      cases opn D k <;> rfl
  rw [e115]
  simp only [b115_0, b115_3, b115_4, hP_wI, isO_wI, isA_wI, cond_true, decide_true, cond_false, Bool.and_true, Bool.true_and, Bool.and_self, Bool.and_false, Bool.false_and, Bool.not_true, Bool.not_false, Bool.or_true, Bool.true_or, Bool.or_false, Bool.false_or, is_some, gd_some, bk_v, bk_u, t_O L hT, t_P9 L hT, t_P10 L hT, t_P11 L hT, t_P12 L hT, t_P13 L hT, t_P14 L hT, t_OC L hT, t_C1 L hT, t_C2 L hT, t_C3 L hT, hQ, x_O L, x_P5 L, x_O77 L, s.1, s.2.1, s.2.2.1, s.2.2.2.1, s.2.2.2.2.1, s0.1, s0.2.1, s0.2.2.1, s0.2.2.2.1, s0.2.2.2.2.1, bI_T, bI_F, i1_0, c136 L, hst, c134 L]
  exact key (D 0 6) 0 (Nat.zero_add _)
theorem a115b {h : A_H} {T : Nat} {D : Gh} {S : Nat → Nat} (L : Ly h) (hT : isT T) (w : WF D) (c : CT h T D) (hQ : hP h 0 3 = some T) (s : CS h 77 D S) (u : WD D S) (hst : hI h 0 4 = 0) : Ce 115 [.ref 0] h (-1) 1 := by
  apply Ce_of
  rw [e115]
  simp only [b115_0, b115_3, b115_4, cond_true, decide_true, cond_false, Bool.and_true, Bool.true_and, Bool.and_self, Bool.and_false, Bool.false_and, Bool.not_true, Bool.not_false, Bool.or_true, Bool.true_or, Bool.or_false, Bool.false_or, is_some, gd_some, bk_v, bk_u, t_O L hT, t_P9 L hT, t_P10 L hT, t_P11 L hT, t_P12 L hT, t_P13 L hT, t_P14 L hT, t_OC L hT, t_C1 L hT, t_C2 L hT, t_C3 L hT, hQ, x_O L, x_P5 L, x_O77 L, s.1, s.2.1, s.2.2.1, s.2.2.2.1, s.2.2.2.2.1, c136 L, hst, c134 L, bI_T, i1_0]
theorem a116 {h : A_H} {T : Nat} {D : Gh} {S : Nat → Nat} (L : Ly h) (hT : isT T) (w : WF D) (c : CT h T D) (hQ : hP h 0 3 = some T) (s : CS h 77 D S) (u : WD D S) (hst : hI h 0 4 = 1) (z : Bool) : Ce 116 [.ref 0, .int (bI z)] h (nI (msk (D 0 5) (is (plR D false 0 (D 0 6)).1 (bif z then 3 else 2)))) 0 := by
  have L0 : Ly (wI h 0 8 0) := L; have c0 := CT_w0 hT w c 0; have s0 : CS (wI h 0 8 0) 77 D S := CS_w0 s 0; have Q0 : hP (wI h 0 8 0) 0 3 = some T := hQ
  obtain ⟨h', g1, f1, s1, -, a1⟩ := c18 L0 hT w c0 (sd := 0) (by decide) (dr := false) (fun c => by cases c)
  rw [bI_F] at g1
  have L1 := FR_Ly f1 L0
  refine ⟨h', ?_, FR_tr (FR_0 h 0) (FR_mo (fun a b q => plP_cq q) f1), (pl_8 f1).trans (by rw [hI_wI, if_pos ⟨rfl, rfl⟩])⟩
  rw [e116]
  simp only [b116_0, b116_3, b116_4, b116_13, hP_wI, isO_wI, isA_wI, cond_true, decide_true, cond_false, Bool.and_true, Bool.true_and, Bool.and_self, Bool.and_false, Bool.false_and, Bool.not_true, Bool.not_false, Bool.or_true, Bool.true_or, Bool.or_false, Bool.false_or, is_some, gd_some, bk_v, bk_u, t_O L hT, t_P9 L hT, t_P10 L hT, t_P11 L hT, t_P12 L hT, t_P13 L hT, t_P14 L hT, t_OC L hT, t_C1 L hT, t_C2 L hT, t_C3 L hT, hQ, x_O L, x_P5 L, x_O77 L, s.1, s.2.1, s.2.2.1, s.2.2.2.1, s.2.2.2.2.1, s0.1, s0.2.1, s0.2.2.1, s0.2.2.2.1, s0.2.2.2.2.1, bI_T, bI_F, i1_0, c136 L, hst, c134 L, x_P7 L, p_O L, g1, x_O L1, x_P7 L1, p_O L1, p_P0 L1, p_O1 L1, z_0, s1.2.2.1, s1.2.2.2.1]
  cases z <;> rfl
theorem a116b {h : A_H} {T : Nat} {D : Gh} {S : Nat → Nat} (L : Ly h) (hT : isT T) (w : WF D) (c : CT h T D) (hQ : hP h 0 3 = some T) (s : CS h 77 D S) (u : WD D S) (hst : hI h 0 4 = 0) (z : Int32) : Ce 116 [.ref 0, .int z] h (-1) 1 := by
  apply Ce_of
  rw [e116]
  simp only [b116_0, b116_3, b116_4, cond_true, decide_true, cond_false, Bool.and_true, Bool.true_and, Bool.and_self, Bool.and_false, Bool.false_and, Bool.not_true, Bool.not_false, Bool.or_true, Bool.true_or, Bool.or_false, Bool.false_or, is_some, gd_some, bk_v, bk_u, t_O L hT, t_P9 L hT, t_P10 L hT, t_P11 L hT, t_P12 L hT, t_P13 L hT, t_P14 L hT, t_OC L hT, t_C1 L hT, t_C2 L hT, t_C3 L hT, hQ, x_O L, x_P5 L, x_O77 L, s.1, s.2.1, s.2.2.1, s.2.2.2.1, s.2.2.2.2.1, c136 L, hst, c134 L, bI_T, i1_0]
theorem sv_0 {s : Nat} (hs : s < 65537) : sv (nI s) = 0 := by unfold sv; rw [vd_of (by decide) hs]; rfl
theorem a122 {h : A_H} {T : Nat} {D : Gh} {S : Nat → Nat} (L : Ly h) (hT : isT T) (w : WF D) (c : CT h T D) (hQ : hP h 0 3 = some T) (s : CS h 77 D S) (u : WD D S) (hst : hI h 0 4 = 1) {sd : Nat} (hsd : sd < 65537) : Ce 122 [.ref 0, .int (nI sd)] h (nI (plR D true sd (D 0 6)).2.2.1) 0 := by
  have L0 : Ly (wI h 0 8 0) := L; have c0 := CT_w0 hT w c 0; have s0 : CS (wI h 0 8 0) 77 D S := CS_w0 s 0; have Q0 : hP (wI h 0 8 0) 0 3 = some T := hQ
  have L1 : Ly (wI (wI h 0 8 0) 120 2 (nI sd)) := L
  have c1 : CT (wI (wI h 0 8 0) 120 2 (nI sd)) T D := CT_fr w c0 (fun k b h1 h2 _ => by rw [hI_wI, if_neg (by rcases hT with rfl | rfl <;> omega)])
  obtain ⟨h', g1, f1, s1, -, -⟩ := c18 L1 hT w c1 hsd (dr := true) (fun _ => by rw [hI_wI, if_pos ⟨rfl, rfl⟩])
  rw [bI_T] at g1
  have L2 := FR_Ly f1 L1
  have h54 := c54 L2 p_in s1
  rw [(plR_I w (dr := true) hsd (Nat.le_refl (D 0 6))).2.2.2] at h54
  refine ⟨h', ?_, FR_tr (FR_wI (FR_0 h 0) _ (Or.inr (Or.inl (by omega)))) (FR_mo (fun a b q => plP_cq q) f1), (pl_8 f1).trans (by rw [hI_wI, if_neg (by omega), hI_wI, if_pos ⟨rfl, rfl⟩])⟩
  rw [e122]
  simp only [b122_0, b122_3, b122_5, b122_6, b122_7, b122_14, b122_20, b122_24, hP_wI, isO_wI, isA_wI, cond_true, decide_true, cond_false, Bool.and_true, Bool.true_and, Bool.and_self, Bool.and_false, Bool.false_and, Bool.not_true, Bool.not_false, Bool.or_true, Bool.true_or, Bool.or_false, Bool.false_or, is_some, gd_some, bk_v, bk_u, t_O L hT, t_P9 L hT, t_P10 L hT, t_P11 L hT, t_P12 L hT, t_P13 L hT, t_P14 L hT, t_OC L hT, t_C1 L hT, t_C2 L hT, t_C3 L hT, hQ, x_O L, x_P5 L, x_O77 L, s.1, s.2.1, s.2.2.1, s.2.2.2.1, s.2.2.2.2.1, s0.1, s0.2.1, s0.2.2.1, s0.2.2.2.1, s0.2.2.2.2.1, bI_T, bI_F, i1_0, c136 L, hst, c142, sv_0 hsd, c135, c134 L, x_P7 L, p_O L, g1, x_O L2, x_P7 L2, p_O L2, p_P0 L2, p_O1 L2, h54]
theorem a122b {h : A_H} {T : Nat} {D : Gh} {S : Nat → Nat} (L : Ly h) (hT : isT T) (w : WF D) (c : CT h T D) (hQ : hP h 0 3 = some T) (s : CS h 77 D S) (u : WD D S) {x : Int32} (e : decide (eit (bif decide (hI h 0 4 = 0) then 1 else 0) (sv x) = 0) = false) : Ce 122 [.ref 0, .int x] h (-1) (eit (bif decide (hI h 0 4 = 0) then 1 else 0) (sv x)) := by
  apply Ce_of
  rw [e122]
  simp only [b122_0, b122_3, b122_5, b122_6, b122_7, cond_true, decide_true, cond_false, Bool.and_true, Bool.true_and, Bool.and_self, Bool.and_false, Bool.false_and, Bool.not_true, Bool.not_false, Bool.or_true, Bool.true_or, Bool.or_false, Bool.false_or, is_some, gd_some, bk_v, bk_u, t_O L hT, t_P9 L hT, t_P10 L hT, t_P11 L hT, t_P12 L hT, t_P13 L hT, t_P14 L hT, t_OC L hT, t_C1 L hT, t_C2 L hT, t_C3 L hT, hQ, x_O L, x_P5 L, x_O77 L, s.1, s.2.1, s.2.2.1, s.2.2.2.1, s.2.2.2.2.1, c136 L, c142, c135, eit_e, c134 L, e, bI_T, i1_0]
def szS (D : Gh) (g : Nat) (_ : Nat) (q : Nat × Nat) : Nat × Nat := ((plR D true q.1 (D 0 6)).2.1, q.2 + bif is (plR D true q.1 (D 0 6)).1 3 g then 1 else 0)
def nv (x : Int32) : Int32 := bif decide (x < 1) then 2 else bif decide ((50 : Int32) < x) then 2 else 0
theorem nv_T {x : Int32} (e : decide (nv x = 0) = true) : ∃ n, x = nI n ∧ 1 ≤ n ∧ n ≤ 50 := by
  unfold nv at e
  cases h1 : decide (x < 1) with
  | true => rw [h1, cond_true] at e; exact absurd e (by decide)
  | false =>
    rw [h1] at e
    cases h2 : decide ((50 : Int32) < x) with
    | true => rw [h2] at e; exact absurd e (by decide)
    | false =>
      have h1 := of_decide_eq_false h1
      have h2 := of_decide_eq_false h2
      rw [Int32.lt_iff_toInt_lt] at h1 h2
      have e1 : (1 : Int32).toInt = 1 := rfl
      have e2 : (50 : Int32).toInt = 50 := rfl
      obtain ⟨n, hn, rfl⟩ := w_ex (x := x) (by rw [Int32.le_iff_toInt_le]; have : (0 : Int32).toInt = 0 := rfl; omega)
      rw [w_int hn] at h1 h2
      exact ⟨n, rfl, by omega, by omega⟩
theorem nv_of {n : Nat} (h1 : 1 ≤ n) (h2 : n ≤ 50) : decide (nI n < 1) = false ∧ decide ((50 : Int32) < nI n) = false := by
  rw [show (1 : Int32) = nI 1 from rfl, show (50 : Int32) = nI 50 from rfl]
  exact ⟨dF (by rw [w_lt (by omega) (by omega)]; omega), dF (by rw [w_lt (by omega) (by omega)]; omega)⟩
theorem szI {D : Gh} (w : WF D) {g sd n : Nat} (hsd : sd < 65537) : (itr (szS D g) n (sd, 0)).1 < 65537 := by
  apply itr_inv (fun _ (q : Nat × Nat) => q.1 < 65537) hsd
  intro k a _ i
  exact (plR_I w (dr := true) i (Nat.le_refl (D 0 6))).2.2.1
theorem a123 {h : A_H} {T : Nat} {D : Gh} {S : Nat → Nat} (L : Ly h) (hT : isT T) (w : WF D) (c : CT h T D) (hQ : hP h 0 3 = some T) (s : CS h 77 D S) (u : WD D S) {g sd n : Nat} (hg : g < D 0 5) (hsd : sd < 65537) (hn1 : 1 ≤ n) (hn2 : n ≤ 50) : Ce 123 [.ref 0, .int (nI g), .int (nI sd), .int (nI n)] h (nI (itr (szS D g) n (sd, 0)).2) 0 := by
  have L0 : Ly (wI h 0 8 0) := L; have c0 := CT_w0 hT w c 0; have s0 : CS (wI h 0 8 0) 77 D S := CS_w0 s 0; have Q0 : hP (wI h 0 8 0) 0 3 = some T := hQ
  have h8 := f_nG w
  have L1 : Ly (wI (wI h 0 8 0) 120 2 (nI sd)) := L
  obtain ⟨v1, v2⟩ := nv_of hn1 hn2
  obtain ⟨a', ⟨i1, i2, i3⟩, e⟩ := loop_inv (α := A_H) (fun i a => FR cq h a ∧ hI a 0 8 = 0 ∧ hI a 120 2 = nI (itr (szS D g) i (sd, 0)).1) (fun i a => R 123 31 [some (.ref 0), some (.int (nI g)), some (.int (nI sd)), some (.int (nI n)), some (.int 0), some (.int (nI (itr (szS D g) i (sd, 0)).2)), some (.int (nI i))] [] a) n (by
    intro i h1 hi iv
    obtain ⟨f1, z1, es1⟩ : FR cq h h1 ∧ hI h1 0 8 = 0 ∧ hI h1 120 2 = nI (itr (szS D g) i (sd, 0)).1 := iv
    have La := FR_Ly f1 L
    have ca : CT h1 T D := FR_CT f1 w c (fun k b h1 h2 h3 => by unfold cq; rcases hT with rfl | rfl <;> omega)
    have Qa : hP h1 0 3 = some T := by rw [FR_P f1]; exact hQ
    have hs := szI w (g := g) (n := i) hsd
    show ∃ a' : A_H, (FR cq h a' ∧ hI a' 0 8 = 0 ∧ hI a' 120 2 = nI (szS D g i (itr (szS D g) i (sd, 0))).1) ∧ _ = R 123 31 [_, _, _, _, _, some (.int (nI (szS D g i (itr (szS D g) i (sd, 0))).2)), _] [] a'
    generalize itr (szS D g) i (sd, 0) = Q at es1 hs ⊢
    obtain ⟨h2, g2, f2, s2, es2, -⟩ := c18 La hT w ca hs (dr := true) (fun _ => es1)
    rw [bI_T] at g2
    have L2 := FR_Ly f2 La
    refine ⟨h2, ⟨FR_tr f1 (FR_mo (fun a b q => plP_cq q) f2), (pl_8 f2).trans z1, es2 rfl⟩, ?_⟩
    rw [b123_31]
    simp only [dF (show ¬ nI n ≤ nI i by rw [w_le (by omega) (by omega)]; omega), cond_true, cond_false, decide_true, Bool.and_true, Bool.true_and, Bool.and_self, Bool.and_false, Bool.false_and, Bool.not_true, Bool.not_false, Bool.or_true, Bool.true_or, Bool.or_false, Bool.false_or, is_some, gd_some, bk_v, bk_u, x_O La, x_P7 La, Qa, p_O La, g2, b123_40, x_O L2, x_P7 L2, p_O L2, p_P0 L2, p_O1 L2, s2.2.2.2.1, bt_sh _ (show g < 32 by omega), bt_msk _ (show g < 32 by omega), dT hg, w_s]
    unfold szS
    cases is (plR D true Q.1 (D 0 6)).1 3 g
    · simp only [bI_F, cond_false, Nat.add_zero, Int32.add_zero]
    · simp only [bI_T, cond_true, w_s]) (wI (wI h 0 8 0) 120 2 (nI sd)) ⟨FR_wI (FR_0 h 0) _ (Or.inr (Or.inl (by omega))), by rw [hI_wI, if_neg (by omega), hI_wI, if_pos ⟨rfl, rfl⟩], by rw [hI_wI, if_pos ⟨rfl, rfl⟩]; rfl⟩
  refine ⟨a', ?_, i1, i2⟩
  rw [e123]
  simp only [b123_0, b123_14, b123_16, b123_18, b123_19, b123_20, b123_27, v1, v2, hP_wI, isO_wI, isA_wI, cond_true, decide_true, cond_false, Bool.and_true, Bool.true_and, Bool.and_self, Bool.and_false, Bool.false_and, Bool.not_true, Bool.not_false, Bool.or_true, Bool.true_or, Bool.or_false, Bool.false_or, is_some, gd_some, bk_v, bk_u, t_O L hT, t_P9 L hT, t_P10 L hT, t_P11 L hT, t_P12 L hT, t_P13 L hT, t_P14 L hT, t_OC L hT, t_C1 L hT, t_C2 L hT, t_C3 L hT, hQ, x_O L, x_P5 L, x_O77 L, s.1, s.2.1, s.2.2.1, s.2.2.2.1, s.2.2.2.2.1, s0.1, s0.2.1, s0.2.2.1, s0.2.2.2.1, s0.2.2.2.2.1, bI_T, bI_F, i1_0, c137 L hT w c hQ s u, gv_0 (show D 0 5 < 1000 by omega) hg, c142, sv_0 hsd, c135, c134 L, x_P7 L, p_O L]
  refine Eq.trans e ?_
  show R 123 31 [_, _, _, _, _, _, some (.int (nI n))] [] a' = _
  rw [b123_31, dT (Int32.le_refl _)]; rfl
theorem a123b {h : A_H} {T : Nat} {D : Gh} {S : Nat → Nat} (L : Ly h) (hT : isT T) (w : WF D) (c : CT h T D) (hQ : hP h 0 3 = some T) (s : CS h 77 D S) (u : WD D S) {x y z : Int32} (e : decide (eit (gv (D 0 5) x) (eit (sv y) (nv z)) = 0) = false) : Ce 123 [.ref 0, .int x, .int y, .int z] h (-1) (eit (gv (D 0 5) x) (eit (sv y) (nv z))) := by
  apply Ce_of
  rw [e123]
  cases h1 : decide (z < 1) with
  | true =>
    have hz : nv z = 2 := by unfold nv; rw [h1]; rfl
    rw [hz] at e ⊢
    simp only [b123_0, b123_14, b123_16, b123_18, b123_19, b123_20, h1, cond_true, decide_true, cond_false, Bool.and_true, Bool.true_and, Bool.and_self, Bool.and_false, Bool.false_and, Bool.not_true, Bool.not_false, Bool.or_true, Bool.true_or, Bool.or_false, Bool.false_or, is_some, gd_some, bk_v, bk_u, t_O L hT, t_P9 L hT, t_P10 L hT, t_P11 L hT, t_P12 L hT, t_P13 L hT, t_P14 L hT, t_OC L hT, t_C1 L hT, t_C2 L hT, t_C3 L hT, hQ, x_O L, x_P5 L, x_O77 L, s.1, s.2.1, s.2.2.1, s.2.2.2.1, s.2.2.2.2.1, c137 L hT w c hQ s u, c142, c135, eit_e, c134 L, e, bI_T, i1_0]
  | false =>
    cases h2 : decide ((50 : Int32) < z) with
    | true =>
      have hz : nv z = 2 := by unfold nv; rw [h1, h2]; rfl
      rw [hz] at e ⊢
      simp only [b123_0, b123_14, b123_16, b123_18, b123_19, b123_20, h1, h2, cond_true, decide_true, cond_false, Bool.and_true, Bool.true_and, Bool.and_self, Bool.and_false, Bool.false_and, Bool.not_true, Bool.not_false, Bool.or_true, Bool.true_or, Bool.or_false, Bool.false_or, is_some, gd_some, bk_v, bk_u, t_O L hT, t_P9 L hT, t_P10 L hT, t_P11 L hT, t_P12 L hT, t_P13 L hT, t_P14 L hT, t_OC L hT, t_C1 L hT, t_C2 L hT, t_C3 L hT, hQ, x_O L, x_P5 L, x_O77 L, s.1, s.2.1, s.2.2.1, s.2.2.2.1, s.2.2.2.2.1, c137 L hT w c hQ s u, c142, c135, eit_e, c134 L, e, bI_T, i1_0]
    | false =>
      have hz : nv z = 0 := by unfold nv; rw [h1, h2]; rfl
      rw [hz] at e ⊢
      simp only [b123_0, b123_14, b123_16, b123_18, b123_19, b123_20, h1, h2, cond_true, decide_true, cond_false, Bool.and_true, Bool.true_and, Bool.and_self, Bool.and_false, Bool.false_and, Bool.not_true, Bool.not_false, Bool.or_true, Bool.true_or, Bool.or_false, Bool.false_or, is_some, gd_some, bk_v, bk_u, t_O L hT, t_P9 L hT, t_P10 L hT, t_P11 L hT, t_P12 L hT, t_P13 L hT, t_P14 L hT, t_OC L hT, t_C1 L hT, t_C2 L hT, t_C3 L hT, hQ, x_O L, x_P5 L, x_O77 L, s.1, s.2.1, s.2.2.1, s.2.2.2.1, s.2.2.2.2.1, c137 L hT w c hQ s u, c142, c135, eit_e, c134 L, e, bI_T, i1_0]
theorem y_P26 {h : A_H} (L : Ly h) : hP h 124 26 = some 130 := ly_P L rfl
theorem y_A130 {h : A_H} {k : Nat} (L : Ly h) (hk : k < 6) : isA h 130 0 (nI k) = true := ly_A L (by decide) rfl hk (by decide)
theorem m254 {h : A_H} {B : Nat} {D : Gh} {S : Nat → Nat} (L : Ly h) (hB : hP h 124 3 = some B) (l : ML h B) (w : WF D) (b : MB h B D) (u : WD D S) (r : RW h 126 S) {k : Nat} (hk : k < D 0 6) : Qe 254 [.ref 124, .int (nI k)] h ((plR D false 0 (D 0 6)).2.2.2 k) 0 := by
  have L1 : Ly (wI h 124 0 0) := L; have hB1 : hP (wI h 124 0 0) 124 3 = some B := hB; have l1 : ML (wI h 124 0 0) B := l; have b1 : MB (wI h 124 0 0) B D := MB_wI l (by decide) b; have r1 : RW (wI h 124 0 0) 126 S := RW_wI (by decide) r
  have h6 := f_nx w
  obtain ⟨h', e, g1, f1, he, r2, -, a1⟩ := d253 L1 hB1 l1 w b1 u r1 (sd := 0) (by decide) (dr := false) (fun c => by cases c)
  rw [bI_F] at g1
  have q' := (QF_0 h).trans' f1
  have L2 := Ly_QF q' L
  refine Qe_of (h' := h') ?_ q'
  rw [e254]
  simp only [b254_0, b254_3, b254_16, b254_20, b254_27, cond_true, cond_false, decide_true, Bool.and_true, Bool.true_and, Bool.and_self, Bool.and_false, Bool.false_and, Bool.not_true, Bool.not_false, Bool.or_true, Bool.true_or, Bool.or_false, Bool.false_or, is_some, gd_some, bk_v, bk_u, hP_wI, isO_wI, isA_wI, hP_wp, isO_wp, isA_wp, y_124 L, y_P15 L, y_P16 L, hB, va_rf, a_isR, a_nul, dF (w_nn (show k < 2147483648 by omega)), mB_O l, b_s6 b1, dT (show nI k < nI (D 0 6) by rw [w_lt (by omega) (by omega)]; omega), g1, y_124 L2, y_P26 L2, y_A130 L2 (show k < 6 by omega), w_cl (show k < 2147483648 by omega), a1 k hk, d158 L2]
theorem m254b {h : A_H} {D : Gh} (L : Ly h) (w : WF D) (q : Mq h D) {x : Int32} (e : vd (D 0 6) x = false) : Qe 254 [.ref 124, .int x] h (-1) 1 := by
  have L1 : Ly (wI h 124 0 0) := L
  refine Qe_of (h' := wI h 124 0 0) ?_ (QF_0 h)
  rw [e254]
  rcases q with ⟨e0, -⟩ | ⟨B, hB, l, b⟩
  · simp only [b254_0, b254_3, b254_16, cond_true, cond_false, decide_true, Bool.and_true, Bool.true_and, Bool.and_self, Bool.and_false, Bool.false_and, Bool.not_true, Bool.not_false, Bool.or_true, Bool.true_or, Bool.or_false, Bool.false_or, is_some, gd_some, bk_v, bk_u, isO_wI, y_124 L, hP_wI, e0, va_rf, a_isR, a_nul, d155 L1]
  · have b1 : MB (wI h 124 0 0) B D := MB_wI l (by decide) b
    unfold vd at e
    cases h1 : decide (x < 0) with
    | true => simp only [b254_0, b254_3, b254_16, cond_true, cond_false, decide_true, Bool.and_true, Bool.true_and, Bool.and_self, Bool.and_false, Bool.false_and, Bool.not_true, Bool.not_false, Bool.or_true, Bool.true_or, Bool.or_false, Bool.false_or, is_some, gd_some, bk_v, bk_u, isO_wI, y_124 L, hP_wI, hB, va_rf, a_isR, a_nul, h1, d155 L1]
    | false =>
      rw [h1] at e
      have h2 : decide (x < nI (D 0 6)) = false := by
        rw [lt_le]
        cases c : decide (nI (D 0 6) ≤ x) with
        | true => rfl
        | false => rw [c] at e; cases e
      simp only [b254_0, b254_3, b254_16, cond_true, cond_false, decide_true, Bool.and_true, Bool.true_and, Bool.and_self, Bool.and_false, Bool.false_and, Bool.not_true, Bool.not_false, Bool.or_true, Bool.true_or, Bool.or_false, Bool.false_or, is_some, gd_some, bk_v, bk_u, isO_wI, y_124 L, hP_wI, hB, va_rf, a_isR, a_nul, h1, mB_O l, b_s6 b1, h2, d155 L1]
theorem m255 {h : A_H} {B : Nat} {D : Gh} {S : Nat → Nat} (L : Ly h) (hB : hP h 124 3 = some B) (l : ML h B) (w : WF D) (b : MB h B D) (u : WD D S) (r : RW h 126 S) : Qe 255 [.ref 124] h (oI (fsm (fun k => !opn D k) (D 0 6) 0)) 0 := by
  have L1 : Ly (wI h 124 0 0) := L; have hB1 : hP (wI h 124 0 0) 124 3 = some B := hB; have l1 : ML (wI h 124 0 0) B := l; have b1 : MB (wI h 124 0 0) B D := MB_wI l (by decide) b; have r1 : RW (wI h 124 0 0) 126 S := RW_wI (by decide) r
  have h6 := f_nx w
  refine Qe_of (h' := wI h 124 0 0) ?_ (QF_0 h)
  have key : ∀ f k, k + f = D 0 6 → R 255 12 [some (.ref 124), some (.int (nI k))] [] (wI h 124 0 0) = some (some (some (.int (oI (fsm (fun k => !opn D k) f k)))), wI (wI (wI h 124 0 0) 124 1 0) 124 2 (-1)) := by
    intro f
    induction f with
    | zero =>
      intro k hk
      have : k = D 0 6 := by omega
      subst this
      rw [b255_12]
      simp only [cond_true, cond_false, decide_true, Bool.and_true, Bool.true_and, Bool.and_self, Bool.and_false, Bool.false_and, Bool.not_true, Bool.not_false, Bool.or_true, Bool.true_or, Bool.or_false, Bool.false_or, is_some, gd_some, bk_v, bk_u, hP_wI, isO_wI, isA_wI, hP_wp, isO_wp, isA_wp, y_124 L, y_P15 L, y_P16 L, hB, mB_O l, b_s6 b1, x_stop, d158 L1, b255_30]; rfl
    | succ f ih =>
      intro k hk
      have hk' : k < D 0 6 := by omega
      rw [b255_12]
      simp only [cond_true, cond_false, decide_true, Bool.and_true, Bool.true_and, Bool.and_self, Bool.and_false, Bool.false_and, Bool.not_true, Bool.not_false, Bool.or_true, Bool.true_or, Bool.or_false, Bool.false_or, is_some, gd_some, bk_v, bk_u, hP_wI, isO_wI, isA_wI, hP_wp, isO_wp, isA_wp, y_124 L, y_P15 L, y_P16 L, hB, mB_O l, b_s6 b1, x_end w hk', d251 L1 hB1 l1 w b1 hk', b255_20, z_0, d158 L1, b255_24, w_s]
      rw [ih (k + 1) (by omega), fsm_s]
      cases opn D k <;> rfl
  rw [e255]
  simp only [b255_0, b255_3, cond_true, cond_false, decide_true, Bool.and_true, Bool.true_and, Bool.and_self, Bool.and_false, Bool.false_and, Bool.not_true, Bool.not_false, Bool.or_true, Bool.true_or, Bool.or_false, Bool.false_or, is_some, gd_some, bk_v, bk_u, hP_wI, isO_wI, isA_wI, hP_wp, isO_wp, isA_wp, y_124 L, y_P15 L, y_P16 L, hB, va_rf, a_isR, a_nul]
  exact key (D 0 6) 0 (Nat.zero_add _)
theorem m255b {h : A_H} (L : Ly h) (e : hP h 124 3 = none) : Qe 255 [.ref 124] h (-1) 1 := by
  have L1 : Ly (wI h 124 0 0) := L
  refine Qe_of (h' := wI h 124 0 0) ?_ (QF_0 h)
  rw [e255]
  simp only [b255_0, b255_3, b255_9, cond_true, cond_false, decide_true, Bool.and_true, Bool.true_and, Bool.and_self, Bool.and_false, Bool.false_and, Bool.not_true, Bool.not_false, Bool.or_true, Bool.true_or, Bool.or_false, Bool.false_or, is_some, gd_some, bk_v, bk_u, isO_wI, y_124 L, hP_wI, e, va_rf, a_isR, a_nul, d155 L1]
theorem m256 {h : A_H} {B : Nat} {D : Gh} {S : Nat → Nat} (L : Ly h) (hB : hP h 124 3 = some B) (l : ML h B) (w : WF D) (b : MB h B D) (u : WD D S) (r : RW h 126 S) (z : Bool) : Qe 256 [.ref 124, .int (bI z)] h (nI (msk (D 0 5) (is (plR D false 0 (D 0 6)).1 (bif z then 3 else 2)))) 0 := by
  have L1 : Ly (wI h 124 0 0) := L; have hB1 : hP (wI h 124 0 0) 124 3 = some B := hB; have l1 : ML (wI h 124 0 0) B := l; have b1 : MB (wI h 124 0 0) B D := MB_wI l (by decide) b; have r1 : RW (wI h 124 0 0) 126 S := RW_wI (by decide) r
  have h8 := f_nG w
  obtain ⟨h', e, g1, f1, he, r2, -, a1⟩ := d253 L1 hB1 l1 w b1 u r1 (sd := 0) (by decide) (dr := false) (fun c => by cases c)
  rw [bI_F] at g1
  have q' := (QF_0 h).trans' f1
  have L2 := Ly_QF q' L
  have ws := WS_u17 w (plR_I w (dr := false) (s := 0) (by decide) (Nat.le_refl (D 0 6))).1 (show e ≤ 1000 by omega)
  refine Qe_of (h' := h') ?_ q'
  rw [e256]
  simp only [b256_0, b256_3, b256_13, cond_true, cond_false, decide_true, Bool.and_true, Bool.true_and, Bool.and_self, Bool.and_false, Bool.false_and, Bool.not_true, Bool.not_false, Bool.or_true, Bool.true_or, Bool.or_false, Bool.false_or, is_some, gd_some, bk_v, bk_u, hP_wI, isO_wI, isA_wI, hP_wp, isO_wp, isA_wp, y_124 L, y_P15 L, y_P16 L, hB, va_rf, a_isR, a_nul, g1]
  refine (loop_ix (fun g => R 256 18 [some (.ref 124), some (.int (bI z)), some (.int (nI (msk g (is (plR D false 0 (D 0 6)).1 (bif z then 3 else 2))))), some (.int (nI g))] [] h') (D 0 5) ?_).trans ?_
  · intro g hg
    have hg8 : g < 8 := by omega
    have hs3 := s_ne ws hg8 (show 3 < 100 by decide)
    have hs2 := s_ne ws hg8 (show 2 < 100 by decide)
    rw [show nI 3 = 3 from rfl] at hs3
    rw [show nI 2 = 2 from rfl] at hs2
    have hu : up (plR D false 0 (D 0 6)).1 17 e g = (plR D false 0 (D 0 6)).1 g := if_neg (by omega)
    rw [hu] at hs3 hs2
    rw [b256_18]
    simp only [cond_true, cond_false, decide_true, Bool.and_true, Bool.true_and, Bool.and_self, Bool.and_false, Bool.false_and, Bool.not_true, Bool.not_false, Bool.or_true, Bool.true_or, Bool.or_false, Bool.false_or, is_some, gd_some, bk_v, bk_u, y_124 L2, hB_QF q' hB, mB_O (ML_QF q' l), b_s5 (MB_QF q' l b), g_go w hg, y_P16 L2, Int32.zero_add, v_A L2 (Or.inr rfl) (show g < 18 by omega), w_cl (show g < 2147483648 by omega), r2 g (show g < 18 by omega), hu, hs3, hs2, z_0, Int32.or_zero, w_s]
    cases z with
    | false =>
      simp only [cond_true, cond_false, decide_true, Bool.and_true, Bool.true_and, Bool.and_self, Bool.and_false, Bool.false_and, Bool.not_true, Bool.not_false, Bool.or_true, Bool.true_or, Bool.or_false, Bool.false_or, is_some, gd_some, bk_v, bk_u]
      cases hc : decide ((plR D false 0 (D 0 6)).1 g = 2) with
      | false => rw [no_msk (show is (plR D false 0 (D 0 6)).1 2 g = false from hc)]; rfl
      | true => rw [or_msk (by omega) (show is (plR D false 0 (D 0 6)).1 2 g = true from hc)]; rfl
    | true =>
      simp only [cond_true, cond_false, decide_true, Bool.and_true, Bool.true_and, Bool.and_self, Bool.and_false, Bool.false_and, Bool.not_true, Bool.not_false, Bool.or_true, Bool.true_or, Bool.or_false, Bool.false_or, is_some, gd_some, bk_v, bk_u]
      cases hc : decide ((plR D false 0 (D 0 6)).1 g = 3) with
      | false => rw [no_msk (show is (plR D false 0 (D 0 6)).1 3 g = false from hc)]; rfl
      | true => rw [or_msk (by omega) (show is (plR D false 0 (D 0 6)).1 3 g = true from hc)]; rfl
  · rw [b256_18]
    simp only [cond_true, cond_false, decide_true, Bool.and_true, Bool.true_and, Bool.and_self, Bool.and_false, Bool.false_and, Bool.not_true, Bool.not_false, Bool.or_true, Bool.true_or, Bool.or_false, Bool.false_or, is_some, gd_some, bk_v, bk_u, y_124 L2, hB_QF q' hB, mB_O (ML_QF q' l), b_s5 (MB_QF q' l b), g_stop w, d158 L2, b256_48]
theorem m256b {h : A_H} (L : Ly h) (e : hP h 124 3 = none) (z : Int32) : Qe 256 [.ref 124, .int z] h (-1) 1 := by
  have L1 : Ly (wI h 124 0 0) := L
  refine Qe_of (h' := wI h 124 0 0) ?_ (QF_0 h)
  rw [e256]
  simp only [b256_0, b256_3, b256_9, cond_true, cond_false, decide_true, Bool.and_true, Bool.true_and, Bool.and_self, Bool.and_false, Bool.false_and, Bool.not_true, Bool.not_false, Bool.or_true, Bool.true_or, Bool.or_false, Bool.false_or, is_some, gd_some, bk_v, bk_u, isO_wI, y_124 L, hP_wI, e, va_rf, a_isR, a_nul, d155 L1]
theorem d160s (x : Int32) (h : A_H) : C 160 [.int x, .int 0, .int 65536] h = some (some (some (.int (bI (vd 65537 x)))), h) := d160 x (k := 65536) (by decide) h
theorem m265 {h : A_H} {B : Nat} {D : Gh} {S : Nat → Nat} (L : Ly h) (hB : hP h 124 3 = some B) (l : ML h B) (w : WF D) (b : MB h B D) (u : WD D S) (r : RW h 126 S) {sd : Nat} (hsd : sd < 65537) : Qe 265 [.ref 124, .int (nI sd)] h (nI (plR D true sd (D 0 6)).2.2.1) 0 := by
  have L1 : Ly (wI h 124 0 0) := L; have hB1 : hP (wI h 124 0 0) 124 3 = some B := hB; have l1 : ML (wI h 124 0 0) B := l; have b1 : MB (wI h 124 0 0) B D := MB_wI l (by decide) b; have r1 : RW (wI h 124 0 0) 126 S := RW_wI (by decide) r
  have q1 : QF h (wI (wI h 124 0 0) 124 27 (nI sd)) := QF_wI (QF_0 h) _ (by unfold qs; omega)
  obtain ⟨h', e, g1, f1, he, r2, -, a1⟩ := d253 (Ly_QF q1 L) (hB_QF q1 hB) (ML_QF q1 l) w (MB_QF q1 l b) u (RW_QF q1 r) hsd (dr := true) (fun _ => by rw [hI_wI, if_pos ⟨rfl, rfl⟩])
  rw [bI_T] at g1
  have q' := q1.trans' f1
  have L2 := Ly_QF q' L
  refine Qe_of (h' := h') ?_ q'
  rw [e265]
  simp only [b265_0, b265_3, b265_14, b265_22, b265_26, b265_27, cond_true, cond_false, decide_true, Bool.and_true, Bool.true_and, Bool.and_self, Bool.and_false, Bool.false_and, Bool.not_true, Bool.not_false, Bool.or_true, Bool.true_or, Bool.or_false, Bool.false_or, is_some, gd_some, bk_v, bk_u, hP_wI, isO_wI, isA_wI, hP_wp, isO_wp, isA_wp, y_124 L, y_P15 L, y_P16 L, hB, va_rf, a_isR, a_nul, d160s, vd_of (show 65537 < 2147483648 by decide) hsd, bI_T, i1_0, g1, y_124 L2, d158 L2]
theorem m265b {h : A_H} {D : Gh} (L : Ly h) (q : Mq h D) {x : Int32} (e : hP h 124 3 = none ∨ vd 65537 x = false) : Qe 265 [.ref 124, .int x] h (-1) (bif (hP h 124 3).isSome then 2 else 1) := by
  have L1 : Ly (wI h 124 0 0) := L
  refine Qe_of (h' := wI h 124 0 0) ?_ (QF_0 h)
  rw [e265]
  cases hp : hP h 124 3 with
  | none => simp only [b265_0, b265_3, b265_9, cond_true, cond_false, decide_true, Bool.and_true, Bool.true_and, Bool.and_self, Bool.and_false, Bool.false_and, Bool.not_true, Bool.not_false, Bool.or_true, Bool.true_or, Bool.or_false, Bool.false_or, is_some, gd_some, bk_v, bk_u, isO_wI, y_124 L, hP_wI, hp, va_rf, a_isR, a_nul, d155 L1]; rfl
  | some B =>
    rcases e with e | e
    · rw [hp] at e; cases e
    · simp only [b265_0, b265_3, b265_14, b265_18, cond_true, cond_false, decide_true, Bool.and_true, Bool.true_and, Bool.and_self, Bool.and_false, Bool.false_and, Bool.not_true, Bool.not_false, Bool.or_true, Bool.true_or, Bool.or_false, Bool.false_or, is_some, gd_some, bk_v, bk_u, isO_wI, y_124 L, hP_wI, hp, va_rf, a_isR, a_nul, d160s, e, bI_F, d155 L1]
theorem d160v (x : Int32) (h : A_H) : C 160 [.int x, .int 1, .int 50] h = some (some (some (.int (bI (decide (nv x = 0))))), h) := by
  rw [e160, b160_0]
  unfold nv
  cases decide (x < 1) <;> cases decide ((50 : Int32) < x) <;> rfl
theorem m266 {h : A_H} {B : Nat} {D : Gh} {S : Nat → Nat} (L : Ly h) (hB : hP h 124 3 = some B) (l : ML h B) (w : WF D) (b : MB h B D) (u : WD D S) (r : RW h 126 S) {g sd n : Nat} (hg : g < D 0 5) (hsd : sd < 65537) (hn1 : 1 ≤ n) (hn2 : n ≤ 50) : Qe 266 [.ref 124, .int (nI g), .int (nI sd), .int (nI n)] h (nI (itr (szS D g) n (sd, 0)).2) 0 := by
  have L1 : Ly (wI h 124 0 0) := L; have hB1 : hP (wI h 124 0 0) 124 3 = some B := hB; have l1 : ML (wI h 124 0 0) B := l; have b1 : MB (wI h 124 0 0) B D := MB_wI l (by decide) b; have r1 : RW (wI h 124 0 0) 126 S := RW_wI (by decide) r
  have h8 := f_nG w
  have q1 : QF h (wI (wI h 124 0 0) 124 27 (nI sd)) := QF_wI (QF_0 h) _ (by unfold qs; omega)
  obtain ⟨v1, v2⟩ := nv_of hn1 hn2
  have v3 : decide (nv (nI n) = 0) = true := by unfold nv; rw [v1, v2]; rfl
  obtain ⟨a', ⟨i1, i3⟩, e⟩ := loop_inv (α := A_H) (fun i a => QF h a ∧ hI a 124 27 = nI (itr (szS D g) i (sd, 0)).1) (fun i a => R 266 32 [some (.ref 124), some (.int (nI g)), some (.int (nI sd)), some (.int (nI n)), some (.int (nI (itr (szS D g) i (sd, 0)).2)), some (.int (nI i))] [] a) n (by
    intro i ha hi iv
    obtain ⟨q, es1⟩ : QF h ha ∧ hI ha 124 27 = nI (itr (szS D g) i (sd, 0)).1 := iv
    have hs := szI w (g := g) (n := i) hsd
    show ∃ a' : A_H, (QF h a' ∧ hI a' 124 27 = nI (szS D g i (itr (szS D g) i (sd, 0))).1) ∧ _ = R 266 32 [_, _, _, _, some (.int (nI (szS D g i (itr (szS D g) i (sd, 0))).2)), _] [] a'
    generalize itr (szS D g) i (sd, 0) = Q at es1 hs ⊢
    obtain ⟨h2, e2, g2, f2, he, r2, es2, -⟩ := d253 (Ly_QF q L) (hB_QF q hB) (ML_QF q l) w (MB_QF q l b) u (RW_QF q r) hs (dr := true) (fun _ => es1)
    rw [bI_T] at g2
    have q2 := q.trans' f2
    have L2 := Ly_QF q2 L
    have ws := WS_u17 w (plR_I w (dr := true) hs (Nat.le_refl (D 0 6))).1 (show e2 ≤ 1000 by omega)
    have hs3 := s_ne ws (show g < 8 by omega) (show 3 < 100 by decide)
    have hu : up (plR D true Q.1 (D 0 6)).1 17 e2 g = (plR D true Q.1 (D 0 6)).1 g := if_neg (by omega)
    rw [show nI 3 = 3 from rfl, hu] at hs3
    refine ⟨h2, ⟨q2, es2 rfl⟩, ?_⟩
    rw [b266_32]
    simp only [dF (show ¬ nI n ≤ nI i by rw [w_le (by omega) (by omega)]; omega), cond_true, cond_false, decide_true, Bool.and_true, Bool.true_and, Bool.and_self, Bool.and_false, Bool.false_and, Bool.not_true, Bool.not_false, Bool.or_true, Bool.true_or, Bool.or_false, Bool.false_or, is_some, gd_some, bk_v, bk_u, y_124 (Ly_QF q L), g2, b266_38, y_124 L2, y_P16 L2, Int32.zero_add, v_A L2 (Or.inr rfl) (show g < 18 by omega), w_cl (show g < 2147483648 by omega), r2 g (show g < 18 by omega), hu, hs3, Int32.add_zero, w_s]
    unfold szS is
    cases decide ((plR D true Q.1 (D 0 6)).1 g = 3) <;> rfl) (wI (wI h 124 0 0) 124 27 (nI sd)) ⟨q1, by rw [hI_wI, if_pos ⟨rfl, rfl⟩]; rfl⟩
  have L2 := Ly_QF i1 L
  refine Qe_of (h' := a') ?_ i1
  rw [e266]
  simp only [b266_0, b266_3, b266_6, b266_15, b266_20, b266_28, cond_true, cond_false, decide_true, Bool.and_true, Bool.true_and, Bool.and_self, Bool.and_false, Bool.false_and, Bool.not_true, Bool.not_false, Bool.or_true, Bool.true_or, Bool.or_false, Bool.false_or, is_some, gd_some, bk_v, bk_u, hP_wI, isO_wI, isA_wI, hP_wp, isO_wp, isA_wp, y_124 L, y_P15 L, y_P16 L, hB, d199 L1 hB1 l1 b1, vd_of (show D 0 5 < 2147483648 by omega) hg, d160s, vd_of (show 65537 < 2147483648 by decide) hsd, d160v, v3, bI_T, i1_0]
  refine Eq.trans e ?_
  show R 266 32 [_, _, _, _, _, some (.int (nI n))] [] a' = _
  rw [b266_32, dT (Int32.le_refl _)]
  simp only [cond_true, cond_false, decide_true, Bool.and_true, Bool.true_and, Bool.and_self, Bool.and_false, Bool.false_and, Bool.not_true, Bool.not_false, Bool.or_true, Bool.true_or, Bool.or_false, Bool.false_or, is_some, gd_some, bk_v, bk_u, y_124 L2, d158 L2, b266_58]
theorem m266b {h : A_H} {D : Gh} (L : Ly h) (q : Mq h D) {x y z : Int32} (e : decide (eit (gv (D 0 5) x) (eit (sv y) (nv z)) = 0) = false) : Qe 266 [.ref 124, .int x, .int y, .int z] h (-1) (eit (gv (D 0 5) x) (eit (sv y) (nv z))) := by
  have L1 : Ly (wI h 124 0 0) := L
  have q1 := Mq_wI (j := 0) (v := 0) (show 124 < 134 by decide) q
  refine Qe_of (h' := wI h 124 0 0) ?_ (QF_0 h)
  rw [e266]
  unfold gv sv at e ⊢
  cases hx : vd (D 0 5) x with
  | false => simp only [b266_0, b266_3, b266_6, b266_10, cond_true, cond_false, decide_true, Bool.and_true, Bool.true_and, Bool.and_self, Bool.and_false, Bool.false_and, Bool.not_true, Bool.not_false, Bool.or_true, Bool.true_or, Bool.or_false, Bool.false_or, is_some, gd_some, bk_v, bk_u, isO_wI, y_124 L, q199 L1 q1, hx, bI_F, d155 L1]; rfl
  | true =>
    rw [hx] at e
    cases hy : vd 65537 y with
    | false => simp only [b266_0, b266_3, b266_6, b266_15, b266_24, cond_true, cond_false, decide_true, Bool.and_true, Bool.true_and, Bool.and_self, Bool.and_false, Bool.false_and, Bool.not_true, Bool.not_false, Bool.or_true, Bool.true_or, Bool.or_false, Bool.false_or, is_some, gd_some, bk_v, bk_u, isO_wI, y_124 L, q199 L1 q1, hx, bI_T, i1_0, d160s, hy, bI_F, d155 L1]; rfl
    | true =>
      rw [hy] at e
      have e2 : decide (nv z = 0) = false := e
      have e3 : nv z = 2 := by
        unfold nv at e2 ⊢
        revert e2
        cases decide (z < 1) <;> cases decide ((50 : Int32) < z) <;> intro e2 <;> first | rfl | exact absurd e2 (by decide)
      simp only [b266_0, b266_3, b266_6, b266_15, b266_20, b266_24, cond_true, cond_false, decide_true, Bool.and_true, Bool.true_and, Bool.and_self, Bool.and_false, Bool.false_and, Bool.not_true, Bool.not_false, Bool.or_true, Bool.true_or, Bool.or_false, Bool.false_or, is_some, gd_some, bk_v, bk_u, isO_wI, y_124 L, q199 L1 q1, hx, bI_T, i1_0, d160s, hy, d160v, e2, bI_F, d155 L1]
      rw [e3]; rfl
def exf (p : Nat → Bool) : Nat → Nat → Bool
  | 0, _ => false
  | f + 1, k => p k || exf p f (k + 1)
theorem exf_s (p : Nat → Bool) (f k : Nat) : exf p (f + 1) k = (p k || exf p f (k + 1)) := rfl
theorem exf_e (p : Nat → Bool) (f k : Nat) : exf p (f + 1) k = (exf p f k || p (k + f)) := by
  induction f generalizing k with
  | zero => simp [exf]
  | succ f ih => rw [exf_s, ih (k + 1), exf_s p f k, Bool.or_assoc, show k + 1 + f = k + (f + 1) by omega]
theorem ex_exf (n : Nat) (p : Nat → Bool) : ex n p = exf p n 0 := by
  induction n with
  | zero => rfl
  | succ n ih => rw [ex_s, ih, exf_e, Nat.zero_add]
theorem exf_congr {p q : Nat → Bool} {f k : Nat} (h : ∀ j, k ≤ j → j < k + f → p j = q j) : exf p f k = exf q f k := by
  induction f generalizing k with
  | zero => rfl
  | succ f ih => rw [exf_s, exf_s, h k (by omega) (by omega), ih (fun j h1 h2 => h j (by omega) (by omega))]
def myb (D : Gh) (c t : Nat) : Bool := exf (ows D (nI (D 22 c)) (D 23 c) t) (D 0 5) 0
def dpl (D : Gh) (v : Nat → Nat) (c b : Nat) : Bool := decide (D 23 b = D 23 c) && decide (v b = v c)
def okc (D : Gh) (v : Nat → Nat) (c : Nat) : Bool := myb D c (v c) && !exf (dpl D v c) c 0
theorem okc_congr {D : Gh} {v v' : Nat → Nat} {c : Nat} (h : ∀ j, j ≤ c → v j = v' j) : okc D v c = okc D v' c := by
  unfold okc
  rw [h c (Nat.le_refl c)]
  congr 2
  apply exf_congr
  intro j _ hj
  unfold dpl
  rw [h j (by omega), h c (Nat.le_refl c)]
theorem exf_F {p : Nat → Bool} {f k : Nat} (h : ∀ j, k ≤ j → j < k + f → p j = false) : exf p f k = false := by
  induction f generalizing k with
  | zero => rfl
  | succ f ih => rw [exf_s, h k (by omega) (by omega), ih (fun j h1 h2 => h j (by omega) (by omega))]; rfl
theorem myb_lt {D : Gh} (w : WF D) {c t : Nat} (ht : D 0 3 ≤ t) : myb D c t = false := by
  apply exf_F
  intro j _ hj
  have := f_own w (show j < D 0 5 by omega)
  unfold ows
  rw [dF (by omega : ¬ D 14 j = t), Bool.and_false]
def al (D : Gh) : Nat → Nat → (Nat → Nat) → Bool
  | _, 0, _ => true
  | c, r + 1, v => okc D v c && al D (c + 1) r v
theorem al_s (D : Gh) (c r : Nat) (v : Nat → Nat) : al D c (r + 1) v = (okc D v c && al D (c + 1) r v) := rfl
theorem al_congr {D : Gh} {v v' : Nat → Nat} {c r : Nat} (h : ∀ j, j < c + r → v j = v' j) : al D c r v = al D c r v' := by
  induction r generalizing c with
  | zero => rfl
  | succ r ih => rw [al_s, al_s, okc_congr (fun j hj => h j (by omega)), ih (fun j hj => h j (by omega))]
def eE (D : Gh) (g : (Nat → Nat) → Nat) : Nat → Nat → (Nat → Nat) → Nat → Nat
  | 0, c, v, t => bif okc D (up v c t) c then g (up v c t) else 0
  | r + 1, c, v, t => bif okc D (up v c t) c then sm (D 0 3) (fun t' => eE D g r (c + 1) (up v c t) t') else 0
theorem eE_0 (D : Gh) (g : (Nat → Nat) → Nat) (c : Nat) (v : Nat → Nat) (t : Nat) : eE D g 0 c v t = bif okc D (up v c t) c then g (up v c t) else 0 := rfl
theorem eE_s (D : Gh) (g : (Nat → Nat) → Nat) (r c : Nat) (v : Nat → Nat) (t : Nat) : eE D g (r + 1) c v t = bif okc D (up v c t) c then sm (D 0 3) (fun t' => eE D g r (c + 1) (up v c t) t') else 0 := rfl
def xt (v : Nat → Nat) (c m : Nat) : Nat → Nat := fun j => if j < c then v j else m / 4 ^ (j - c) % 4
theorem xt_lt {v : Nat → Nat} {c m j : Nat} (h : j < c) : xt v c m j = v j := if_pos h
theorem xt_s (v : Nat → Nat) (c t m : Nat) (ht : t < 4) : xt v c (t + 4 * m) = xt (up v c t) (c + 1) m := by
  funext j
  show (if j < c then v j else (t + 4 * m) / 4 ^ (j - c) % 4) = if j < c + 1 then (if j = c then t else v j) else m / 4 ^ (j - (c + 1)) % 4
  by_cases e1 : j < c
  · rw [if_pos e1, if_pos (by omega), if_neg (by omega)]
  · rw [if_neg e1]
    by_cases e2 : j = c
    · subst e2
      rw [if_pos (by omega), if_pos rfl, Nat.sub_self, Nat.pow_zero, Nat.div_one]; omega
    · rw [if_neg (by omega)]
      have e3 : j - c = (j - (c + 1)) + 1 := by omega
      rw [e3, Nat.pow_succ, Nat.mul_comm (4 ^ (j - (c + 1))), ← Nat.div_div_eq_div_mul]
      congr 2
      omega
theorem sm_4 (M : Nat) (f : Nat → Nat) : sm (4 * M) f = sm 4 (fun t => sm M (fun m => f (t + 4 * m))) := by
  induction M with
  | zero => rfl
  | succ M ih =>
    rw [show 4 * (M + 1) = 4 * M + 3 + 1 by omega, sm_s, show 4 * M + 3 = 4 * M + 2 + 1 by omega, sm_s, show 4 * M + 2 = 4 * M + 1 + 1 by omega, sm_s, sm_s, ih]
    simp only [show (4 : Nat) = 0 + 1 + 1 + 1 + 1 from rfl, sm_s]
    show sm 0 _ + _ + _ + _ + _ + _ + _ + _ + _ = sm 0 _ + _ + _ + _ + _
    simp only [show (0 + 1 + 1 + 1 + 1 : Nat) = 4 from rfl]
    rw [show ∀ f, sm 0 f = 0 from fun _ => rfl, show ∀ f, sm 0 f = 0 from fun _ => rfl]
    rw [show 0 + 4 * M = 4 * M by omega, show 0 + 1 + 4 * M = 4 * M + 1 by omega, show 0 + 1 + 1 + 4 * M = 4 * M + 1 + 1 by omega, show 0 + 1 + 1 + 1 + 4 * M = 4 * M + 1 + 1 + 1 by omega]
    omega
def kK (D : Gh) (g : (Nat → Nat) → Nat) (r c : Nat) (v : Nat → Nat) : Nat := sm (4 ^ r) (fun m => bif al D c r (xt v c m) then g (xt v c m) else 0)
theorem sm_ext0 {n k : Nat} {f : Nat → Nat} (hn : n ≤ k) (h : ∀ t, n ≤ t → t < k → f t = 0) : sm k f = sm n f := by
  have key : ∀ j, n + j ≤ k → sm (n + j) f = sm n f := by
    intro j
    induction j with
    | zero => intro _; rfl
    | succ j ih =>
      intro hj
      show sm (n + j + 1) f = _
      rw [sm_s, ih (by omega), h (n + j) (by omega) (by omega)]
      omega
  have := key (k - n) (by omega)
  rw [show n + (k - n) = k by omega] at this
  exact this
theorem up_eq {v : Nat → Nat} {c t : Nat} : up v c t c = t := if_pos rfl
theorem up_ne {v : Nat → Nat} {c t j : Nat} (h : ¬ j = c) : up v c t j = v j := if_neg h
theorem okc_xt {D : Gh} {v : Nat → Nat} {c t m : Nat} : okc D (xt (up v c t) (c + 1) m) c = okc D (up v c t) c := okc_congr (fun j hj => xt_lt (by omega))
theorem kE {D : Gh} (w : WF D) {g : (Nat → Nat) → Nat} {N : Nat} (hg : ∀ v v', (∀ j, j < N → v j = v' j) → g v = g v') (r c : Nat) (v : Nat → Nat) (hN : c + (r + 1) = N) : kK D g (r + 1) c v = sm (D 0 3) (fun t => eE D g r c v t) := by
  have h4 := f_nt w
  induction r generalizing c v with
  | zero =>
    unfold kK
    rw [Nat.zero_add, Nat.pow_one]
    have e : sm 4 (fun m => bif al D c 1 (xt v c m) then g (xt v c m) else 0) = sm 4 (fun t => eE D g 0 c v t) := by
      apply sm_congr
      intro t ht
      have e1 := xt_s v c t 0 ht
      rw [Nat.mul_zero, Nat.add_zero] at e1
      rw [e1, eE_0]
      have e2 : al D c 1 (xt (up v c t) (c + 1) 0) = okc D (up v c t) c := by
        show (okc D _ c && true) = _
        rw [Bool.and_true, okc_xt]
      rw [e2, hg (xt (up v c t) (c + 1) 0) (up v c t) (fun j hj => xt_lt (by omega))]
    rw [e]
    apply sm_ext0 h4
    intro t h1 _
    rw [eE_0]
    have : okc D (up v c t) c = false := by
      unfold okc
      rw [up_eq, myb_lt w h1]; rfl
    rw [this]; rfl
  | succ r ih =>
    unfold kK
    rw [Nat.pow_succ, Nat.mul_comm, sm_4]
    have e : sm 4 (fun t => sm (4 ^ (r + 1)) (fun m => bif al D c (r + 1 + 1) (xt v c (t + 4 * m)) then g (xt v c (t + 4 * m)) else 0)) = sm 4 (fun t => eE D g (r + 1) c v t) := by
      apply sm_congr
      intro t ht
      rw [eE_s]
      have e1 : sm (4 ^ (r + 1)) (fun m => bif al D c (r + 1 + 1) (xt v c (t + 4 * m)) then g (xt v c (t + 4 * m)) else 0) = sm (4 ^ (r + 1)) (fun m => bif okc D (up v c t) c && al D (c + 1) (r + 1) (xt (up v c t) (c + 1) m) then g (xt (up v c t) (c + 1) m) else 0) := by
        apply sm_congr
        intro m _
        rw [xt_s v c t m ht, al_s, okc_xt]
      rw [e1]
      cases okc D (up v c t) c with
      | false => simp only [Bool.false_and, cond_false]; exact sm_zero _
      | true =>
        simp only [Bool.true_and, cond_true]
        exact ih (c + 1) (up v c t) (by omega)
    rw [e]
    apply sm_ext0 h4
    intro t h1 _
    rw [eE_s]
    have : okc D (up v c t) c = false := by
      unfold okc
      rw [up_eq, myb_lt w h1]; rfl
    rw [this]; rfl
def dg (m : Nat) : Nat → Nat := fun j => m / 4 ^ j % 4
theorem xt_0 (v : Nat → Nat) (m : Nat) : xt v 0 m = dg m := by
  funext j
  show (if j < 0 then v j else m / 4 ^ (j - 0) % 4) = m / 4 ^ j % 4
  rw [if_neg (by omega), Nat.sub_zero]
def tT (D : Gh) (g : (Nat → Nat) → Nat) (n : Nat) : Nat := sm n (fun m => bif al D 0 (D 0 9) (dg m) then g (dg m) else 0)
theorem tT_E {D : Gh} (w : WF D) {g : (Nat → Nat) → Nat} (hg : ∀ v v', (∀ j, j < D 0 9 → v j = v' j) → g v = g v') (h0 : 0 < D 0 9) (v : Nat → Nat) : tT D g (4 ^ D 0 9) = sm (D 0 3) (fun t => eE D g (D 0 9 - 1) 0 v t) := by
  obtain ⟨r, hr⟩ : ∃ r, D 0 9 = r + 1 := ⟨D 0 9 - 1, by omega⟩
  have := kE w hg r 0 v (by omega)
  unfold kK at this
  simp only [xt_0] at this
  unfold tT
  rw [hr, Nat.add_sub_cancel]
  exact this
def g1 (_ : Nat → Nat) : Nat := 1
def gc (c t : Nat) (v : Nat → Nat) : Nat := bif decide (v c = t) then 1 else 0
theorem g1_c (N : Nat) : ∀ v v' : Nat → Nat, (∀ j, j < N → v j = v' j) → g1 v = g1 v' := fun _ _ _ => rfl
theorem gc_c {N c t : Nat} (hc : c < N) : ∀ v v' : Nat → Nat, (∀ j, j < N → v j = v' j) → gc c t v = gc c t v' := fun v v' h => by unfold gc; rw [h c hc]
def fo {α : Type} (f : Nat → α → α) : Nat → Nat → α → α
  | 0, _, a => a
  | n + 1, k, a => fo f n (k + 1) (f k a)
theorem fo_s {α : Type} (f : Nat → α → α) (n k : Nat) (a : α) : fo f (n + 1) k a = fo f n (k + 1) (f k a) := rfl
abbrev Ac : Type := Nat × (Nat → Int32)
def lf (N : Nat) (v : Nat → Nat) (a : Ac) : Ac := (a.1 + 1, fun k => if k < N then a.2 k ||| ((1 : Int32) <<< (nI (v k) &&& 31)) else a.2 k)
def stp (D : Gh) : Nat → Nat → (Nat → Nat) → Nat → Ac → Ac
  | 0, c, v, t, a => bif okc D (up v c t) c then lf (D 0 9) (up v c t) a else a
  | r + 1, c, v, t, a => bif okc D (up v c t) c then fo (stp D r (c + 1) (up v c t)) (D 0 3) 0 a else a
theorem stp_0 (D : Gh) (c : Nat) (v : Nat → Nat) (t : Nat) (a : Ac) : stp D 0 c v t a = bif okc D (up v c t) c then lf (D 0 9) (up v c t) a else a := rfl
theorem stp_s (D : Gh) (r c : Nat) (v : Nat → Nat) (t : Nat) (a : Ac) : stp D (r + 1) c v t a = bif okc D (up v c t) c then fo (stp D r (c + 1) (up v c t)) (D 0 3) 0 a else a := rfl
theorem fo_1 {f : Nat → Ac → Ac} {e : Nat → Nat} (h : ∀ t a, (f t a).1 = a.1 + e t) (n k : Nat) (a : Ac) : (fo f n k a).1 = a.1 + sm n (fun t => e (k + t)) := by
  induction n generalizing k a with
  | zero => rfl
  | succ n ih =>
    rw [fo_s, ih, h]
    have e1 : ∀ m, sm (m + 1) (fun t => e (k + t)) = e k + sm m (fun t => e (k + 1 + t)) := by
      intro m
      induction m with
      | zero => show 0 + e (k + 0) = e k + 0; rw [Nat.add_zero]; omega
      | succ m ihm => rw [sm_s, ihm, sm_s, show k + (m + 1) = k + 1 + m by omega]; omega
    rw [e1]; omega
theorem stp_1 {D : Gh} (r c : Nat) (v : Nat → Nat) (t : Nat) (a : Ac) : (stp D r c v t a).1 = a.1 + eE D g1 r c v t := by
  induction r generalizing c v t a with
  | zero =>
    rw [stp_0, eE_0]
    cases okc D (up v c t) c <;> rfl
  | succ r ih =>
    rw [stp_s, eE_s]
    cases okc D (up v c t) c
    · rfl
    · rw [cond_true, cond_true, fo_1 (fun t' a' => ih (c + 1) (up v c t) t' a')]
      simp only [Nat.zero_add]
theorem or_pos (x : Bool) (a b : Nat) : ((x || decide (0 < a)) || decide (0 < b)) = (x || decide (0 < a + b)) := by
  cases x
  · simp only [Bool.false_or]
    by_cases h1 : 0 < a
    · rw [dT h1, dT (by omega : 0 < a + b)]; rfl
    · rw [dF h1, show a + b = b by omega]; rfl
  · rfl
theorem fo_2 {f : Nat → Ac → Ac} {e : Nat → Nat} {c0 t0 : Nat} (h : ∀ t a, bt ((f t a).2 c0) t0 = (bt (a.2 c0) t0 || decide (0 < e t))) (n k : Nat) (a : Ac) : bt ((fo f n k a).2 c0) t0 = (bt (a.2 c0) t0 || decide (0 < sm n (fun t => e (k + t)))) := by
  induction n generalizing k a with
  | zero =>
    have e0 : sm 0 (fun t => e (k + t)) = 0 := rfl
    rw [e0, dF (Nat.lt_irrefl 0), Bool.or_false]
    rfl
  | succ n ih =>
    rw [fo_s, ih, h]
    have e1 : ∀ m, sm (m + 1) (fun t => e (k + t)) = e k + sm m (fun t => e (k + 1 + t)) := by
      intro m
      induction m with
      | zero => show 0 + e (k + 0) = e k + 0; rw [Nat.add_zero]; omega
      | succ m ihm => rw [sm_s, ihm, sm_s, show k + (m + 1) = k + 1 + m by omega]; omega
    rw [e1, or_pos]
theorem okc_lt {D : Gh} (w : WF D) {v : Nat → Nat} {c : Nat} (h : okc D v c = true) : v c < D 0 3 := by
  apply Classical.byContradiction
  intro hc
  unfold okc at h
  rw [myb_lt w (by omega)] at h
  cases h
theorem stp_2 {D : Gh} (w : WF D) {N : Nat} (hN : D 0 9 = N) {c0 t0 : Nat} (hc0 : c0 < N) (r c : Nat) (v : Nat → Nat) (hv : ∀ j, j < c → v j < 4) (hr : c + (r + 1) = N) (t : Nat) (a : Ac) : bt ((stp D r c v t a).2 c0) t0 = (bt (a.2 c0) t0 || decide (0 < eE D (gc c0 t0) r c v t)) := by
  have h4 := f_nt w
  induction r generalizing c v t a with
  | zero =>
    rw [stp_0, eE_0]
    cases hk : okc D (up v c t) c with
    | false => rw [cond_false, cond_false, dF (Nat.lt_irrefl 0), Bool.or_false]
    | true =>
      have ht := okc_lt w hk
      rw [up_eq] at ht
      have hv' : up v c t c0 < 4 := by
        by_cases e : c0 = c
        · rw [e, up_eq]; omega
        · rw [up_ne e]; exact hv c0 (by omega)
      rw [cond_true, cond_true]
      show bt (if c0 < D 0 9 then _ else _) t0 = _
      rw [if_pos (by omega), bt_or, bt_1 (by omega)]
      unfold gc
      by_cases e : up v c t c0 = t0
      · rw [dT e.symm, dT e]; rfl
      · rw [dF (fun c => e c.symm), dF e]; rfl
  | succ r ih =>
    rw [stp_s, eE_s]
    cases hk : okc D (up v c t) c with
    | false => rw [cond_false, cond_false, dF (Nat.lt_irrefl 0), Bool.or_false]
    | true =>
      have ht := okc_lt w hk
      rw [up_eq] at ht
      rw [cond_true, cond_true, fo_2 (fun t' a' => ih (c + 1) (up v c t) (fun j hj => by
        by_cases e : j = c
        · rw [e, up_eq]; omega
        · rw [up_ne e]; exact hv j (by omega)) (by omega) t' a')]
      simp only [Nat.zero_add]
