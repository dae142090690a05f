theorem loop_inv {α β : Type} (I : Nat → α → Prop) (X : Nat → α → β) (n : Nat) (hs : ∀ k a, k < n → I k a → ∃ a', I (k + 1) a' ∧ X k a = X (k + 1) a') (a : α) (h0 : I 0 a) : ∃ a', I n a' ∧ X 0 a = X n a' := by
  have key : ∀ k, k ≤ n → ∃ a', I k a' ∧ X 0 a = X k a' := by
    intro k
    induction k with
    | zero => intro _; exact ⟨a, h0, rfl⟩
    | succ k ih =>
      intro hk
      obtain ⟨a', i, e⟩ := ih (by omega)
      obtain ⟨a2, i2, e2⟩ := hs k a' (by omega) i
      exact ⟨a2, i2, e.trans e2⟩
  exact key n (Nat.le_refl n)
theorem d213' {h : A_H} {B V : Nat} {D : Gh} {S : Nat → Nat} (L : Ly h) (hB : hP h 124 3 = some B) (l : ML h B) (hV : isV V) (w : WF D) (b : MB h B D) (ws : WS S) (r : RW h V S) {d : Nat} {S0 : Nat → Nat} (hS : S = Sd S0 d) {t k : Nat} (ht : t < D 0 3) (hk : k < D 0 4) : C 213 [.ref 124, .ref V, .int (nI t), .int (nI k)] h = some (some (some (.int (nI (asS D S0 d t k)))), h) := by
  subst hS
  have h213 := d213 L hB l hV w b ws r ht hk
  rw [ask_congr (fun g hg => fnd_congr (hs_Sd w t) (fun _ _ => rfl) g hg) (q' := fun g => has D S0 t g && !hid S0 g) (fun g hg => by rw [hs_Sd w t g hg]; rfl)] at h213
  exact h213
theorem m231 {h : A_H} {B : Nat} {D : Gh} {S : Nat → Nat} (L : Ly h) (hB : hP h 124 3 = some B) (l : ML h B) (w : WF D) (b : MB h B D) (u : WD D S) (r : RW h 126 S) {t d : Nat} (ht : t < D 0 3) (hd : d ≤ 60) (h0 : 0 < D 0 4) : C 231 [.ref 124, .int (nI t), .int (nI d)] h = some (some (some (.int (nI (amin (asS D S d t) (D 0 4 - 1))))), wI (wI (wp (wI h 124 0 0) 127 (Sd S d) 18) 124 1 0) 124 2 (-1)) := by
  have L1 : Ly (wI h 124 0 0) := L; have hB1 : hP (wI h 124 0 0) 124 3 = some B := hB; have l1 : ML (wI h 124 0 0) B := l; have b1 : MB (wI h 124 0 0) B D := MB_wI l (by decide) b; have r1 : RW (wI h 124 0 0) 126 S := RW_wI (by decide) r
  have L2 : Ly (wp (wI h 124 0 0) 127 (Sd S d) 18) := L; have hB2 : hP (wp (wI h 124 0 0) 127 (Sd S d) 18) 124 3 = some B := hB; have l2 : ML (wp (wI h 124 0 0) 127 (Sd S d) 18) B := l; have b2 : MB (wp (wI h 124 0 0) 127 (Sd S d) 18) B D := MB_wp l1 (by decide) b1; have r2 := RW_wp (wI h 124 0 0) 127 (Sd S d); have v2 : isV 127 := Or.inr rfl; have ws2 : WS (Sd S d) := WS_Sd w u hd
  have := f_nt w
  have h3 := f_ng w
  rw [e231]
  simp only [b231_0, b231_3, b231_7, b231_9, b231_15, b231_31, b231_37, b231_45, cond_true, cond_false, decide_true, Bool.and_true, Bool.true_and, Bool.and_self, Bool.and_false, Bool.false_and, Bool.not_true, Bool.not_false, Bool.or_true, Bool.true_or, Bool.or_false, Bool.false_or, is_some, gd_some, bk_v, bk_u, hP_wI, isO_wI, isA_wI, hP_wp, isO_wp, isA_wp, y_124 L, y_P15 L, y_P16 L, hB, d200 L1 hB1 l1 b1, vd_of (show D 0 3 < 2147483648 by omega) ht, bI_T, d219 L1 r1 hd, c00]
  refine (loop_ix (fun k => R 231 20 [some (.ref 124), some (.int (nI t)), some (.int (nI d)), some (.int 0), some (.int (nI (amin (asS D S d t) k))), some (.int (nI (k + 1)))] [] (wp (wI h 124 0 0) 127 (Sd S d) 18)) (D 0 4 - 1) ?_).trans ?_
  · intro k hk
    have ha := amin_le (asS D S d t) k
    have a1 := asS_le w u hd t (amin (asS D S d t) k)
    have a2 := asS_le w u hd t (k + 1)
    rw [b231_20]
    simp only [cond_true, cond_false, decide_true, Bool.and_true, Bool.true_and, Bool.and_self, Bool.and_false, Bool.false_and, Bool.not_true, Bool.not_false, Bool.or_true, Bool.true_or, Bool.or_false, Bool.false_or, is_some, gd_some, bk_v, bk_u, hP_wI, isO_wI, isA_wI, hP_wp, isO_wp, isA_wp, y_124 L, y_P15 L, y_P16 L, hB, mB_O l, b_s4 b2, dF (show ¬ nI (D 0 4) ≤ nI (k + 1) by rw [w_le (by omega) (by omega)]; omega), d213' L2 hB2 l2 v2 w b2 ws2 r2 rfl ht (show k + 1 < D 0 4 by omega), b231_31, d213' L2 hB2 l2 v2 w b2 ws2 r2 rfl ht (show amin (asS D S d t) k < D 0 4 by omega), b231_37, w_s]
    rw [amin_s]
    by_cases e : asS D S d t (k + 1) < asS D S d t (amin (asS D S d t) k)
    · rw [dT e, dF (by rw [w_le (by omega) (by omega)]; omega)]; rfl
    · rw [dF e, dT (by rw [w_le (by omega) (by omega)]; omega)]; rfl
  · rw [b231_20]
    simp only [cond_true, cond_false, decide_true, Bool.and_true, Bool.true_and, Bool.and_self, Bool.and_false, Bool.false_and, Bool.not_true, Bool.not_false, Bool.or_true, Bool.true_or, Bool.or_false, Bool.false_or, is_some, gd_some, bk_v, bk_u, hP_wI, isO_wI, isA_wI, hP_wp, isO_wp, isA_wp, y_124 L, y_P15 L, y_P16 L, hB, mB_O l, b_s4 b2, dT (show nI (D 0 4) ≤ nI (D 0 4 - 1 + 1) by rw [w_le (by omega) (by omega)]; omega), d158 L2, b231_45]
theorem m231b {h : A_H} {D : Gh} (L : Ly h) (q : Mq h D) {x y : Int32} (e : decide (eit (gv (D 0 3) x) (dv y) = 0) = false) : C 231 [.ref 124, .int x, .int y] h = some (some (some (.int (-1))), wI (wI (wI h 124 0 0) 124 1 (eit (gv (D 0 3) x) (dv y))) 124 2 (-1)) := by
  have L1 : Ly (wI h 124 0 0) := L
  obtain ⟨e1, e2⟩ := gd_bad e
  rw [e2, e231]
  simp only [b231_0, b231_3, b231_7, b231_9, b231_15, b231_31, b231_37, b231_45, cond_true, cond_false, decide_true, Bool.and_true, Bool.true_and, Bool.and_self, Bool.and_false, Bool.false_and, Bool.not_true, Bool.not_false, Bool.or_true, Bool.true_or, Bool.or_false, Bool.false_or, is_some, gd_some, bk_v, bk_u, isO_wI, y_124 L, q200 L1 (Mq_wI (by decide) q), d219b L1 e1, c0_21, d155 L1]
def qs (a b : Nat) : Prop := a = 127 ∨ a = 130 ∨ a = 131 ∨ a = 132 ∨ (a = 124 ∧ (b ≤ 2 ∨ (21 ≤ b ∧ b ≤ 25) ∨ b = 27 ∨ b = 30))
def QF (h h' : A_H) : Prop := hn h' = hn h ∧ hs h' = hs h ∧ hsh h' = hsh h ∧ hL h' = hL h ∧ hP h' = hP h ∧ hX h' = hX h ∧ ∀ a b, ¬ qs a b → hI h' a b = hI h a b
theorem QF.rfl' (h : A_H) : QF h h := ⟨rfl, rfl, rfl, rfl, rfl, rfl, fun _ _ _ => rfl⟩
theorem QF.trans' {h h' h'' : A_H} (a : QF h h') (b : QF h' h'') : QF h h'' := ⟨b.1.trans a.1, b.2.1.trans a.2.1, b.2.2.1.trans a.2.2.1, b.2.2.2.1.trans a.2.2.2.1, b.2.2.2.2.1.trans a.2.2.2.2.1, b.2.2.2.2.2.1.trans a.2.2.2.2.2.1, fun x y n => (b.2.2.2.2.2.2 x y n).trans (a.2.2.2.2.2.2 x y n)⟩
theorem QF_wI {h h' : A_H} (a : QF h h') {k j : Nat} (v : Int32) (q : qs k j) : QF h (wI h' k j v) := a.trans' ⟨rfl, rfl, rfl, rfl, rfl, rfl, fun x y n => by rw [hI_wI, if_neg (fun e => n (by rw [e.1, e.2]; exact q))]⟩
theorem QF_wp {h h' : A_H} (a : QF h h') (S : Nat → Nat) (n : Nat) : QF h (wp h' 127 S n) := a.trans' ⟨rfl, rfl, rfl, rfl, rfl, rfl, fun x y m => by rw [hI_wp, if_neg (fun e => m (Or.inl e.1))]⟩
theorem Ly_QF {h h' : A_H} (a : QF h h') (L : Ly h) : Ly h' := by
  obtain ⟨h1, -, h3, -, h5, -, -⟩ := a
  unfold Ly
  rw [h1, h3, h5]
  exact L
theorem ML_QF {h h' : A_H} {B : Nat} (a : QF h h') (l : ML h B) : ML h' B := by
  obtain ⟨h1, -, h3, -, h5, -, -⟩ := a
  unfold ML
  rw [h1, h3, h5]
  exact l
theorem qs_134 {a b : Nat} (h : 134 ≤ a) : ¬ qs a b := by unfold qs; omega
theorem MB_QF {h h' : A_H} {B : Nat} {D : Gh} (a : QF h h') (l : ML h B) (b : MB h B D) : MB h' B D := MB_fr b (fun k j hk => a.2.2.2.2.2.2 k j (qs_134 (by have := m_134 l; omega)))
theorem RW_QF {h h' : A_H} {S : Nat → Nat} (a : QF h h') (r : RW h 126 S) : RW h' 126 S := fun j hj => (a.2.2.2.2.2.2 126 j (by unfold qs; omega)).trans (r j hj)
theorem hB_QF {h h' : A_H} {q : Option Nat} (a : QF h h') (e : hP h 124 3 = q) : hP h' 124 3 = q := by rw [a.2.2.2.2.1]; exact e
theorem CT_QF {h h' : A_H} {T : Nat} {D : Gh} (a : QF h h') (hT : isT T) (w : WF D) (c : CT h T D) : CT h' T D := CT_fr w c (fun k b h1 h2 _ => a.2.2.2.2.2.2 k b (by unfold qs; rcases hT with rfl | rfl <;> omega))
theorem CS_QF {h h' : A_H} {N : Nat} {D : Gh} {S : Nat → Nat} (a : QF h h') (hN : N < 122) (s : CS h N D S) : CS h' N D S := by
  have e : ∀ k b, k < 124 → hI h' k b = hI h k b := fun k b hk => a.2.2.2.2.2.2 k b (by unfold qs; omega)
  exact ⟨(e _ _ (by omega)).trans s.1, (e _ _ (by omega)).trans s.2.1, (e _ _ (by omega)).trans s.2.2.1, (e _ _ (by omega)).trans s.2.2.2.1, (e _ _ (by omega)).trans s.2.2.2.2.1, fun t ht => (e _ _ (by omega)).trans (s.2.2.2.2.2 t ht)⟩
def chI (D : Gh) (S : Nat → Nat) (t k : Nat) (h : A_H) (n : Nat) (h' : A_H) : Prop := QF h h' ∧ ((n = 0 ∧ hI h' 124 22 = -1) ∨ (0 < n ∧ hI h' 124 22 = nI (asD D S t k (amin (asD D S t k) (n - 1))) ∧ hI h' 124 21 = nI (amin (asD D S t k) (n - 1))))
theorem d232 {h : A_H} {B : Nat} {D : Gh} {S : Nat → Nat} (L : Ly h) (hB : hP h 124 3 = some B) (l : ML h B) (w : WF D) (b : MB h B D) (u : WD D S) (r : RW h 126 S) {t k : Nat} (ht : t < D 0 3) (hk : k < D 0 4) : ∃ h', C 232 [.ref 124, .int (nI t), .int (nI k)] h = some (some none, h') ∧ QF h h' ∧ hI h' 124 22 = nI (asD D S t k (amin (asD D S t k) 60)) ∧ hI h' 124 21 = nI (amin (asD D S t k) 60) := by
  rw [e232]
  simp only [b232_0, b232_3, y_124 L, cond_true]
  obtain ⟨a', ⟨i1, i2⟩, e⟩ := loop_inv (α := A_H × Option Value) (fun n a => chI D S t k h n a.1) (fun n a => R 232 5 [some (.ref 124), some (.int (nI t)), some (.int (nI k)), some (.int (nI n)), a.2] [] a.1) 61 (by
    intro n a hn i
    obtain ⟨h', l4⟩ := a
    obtain ⟨q, i⟩ : chI D S t k h n h' := i
    have hd : n ≤ 60 := by omega
    have La := Ly_QF q L
    have ra := RW_QF q r
    have q2 := QF_wp q (Sd S n) 18
    have L2 := Ly_QF q2 L
    have hB2 := hB_QF q2 hB
    have l2 := ML_QF q2 l
    have b2 := MB_QF q2 l b
    have v2 : isV 127 := Or.inr rfl
    have ws2 : WS (Sd S n) := WS_Sd w u hd
    have r2 := RW_wp h' 127 (Sd S n)
    have an : asD D S t k n ≤ 336960 := asS_le w u hd t k
    have h22 : hI (wp h' 127 (Sd S n) 18) 124 22 = hI h' 124 22 := rfl
    rw [b232_5, show (60 : Int32) = nI 60 from rfl, dF (show ¬ nI 60 < nI n by rw [w_lt (by omega) (by omega)]; omega)]
    simp only [cond_true, cond_false, decide_true, Bool.and_true, Bool.true_and, Bool.and_self, Bool.and_false, Bool.false_and, Bool.not_true, Bool.not_false, Bool.or_true, Bool.true_or, Bool.or_false, Bool.false_or, is_some, gd_some, bk_v, bk_u, y_124 La, d219 La ra hd, b232_12, isO_wp, hP_wp, y_P16 La, d213' L2 hB2 l2 v2 w b2 ws2 r2 rfl ht hk, b232_19, b232_32, b232_35, isO_wI, w_s, h22]
    rw [show asS D S n t k = asD D S t k n from rfl]
    have wr : amin (asD D S t k) n = n → ∃ a' : A_H × Option Value, chI D S t k h (n + 1) a'.1 ∧ R 232 5 [some (.ref 124), some (.int (nI t)), some (.int (nI k)), some (.int (nI (n + 1))), some (.int (nI (asD D S t k n)))] [] (wI (wI (wp h' 127 (Sd S n) 18) 124 22 (nI (asD D S t k n))) 124 21 (nI n)) = R 232 5 [some (.ref 124), some (.int (nI t)), some (.int (nI k)), some (.int (nI (n + 1))), a'.2] [] a'.1 := by
      intro hm
      refine ⟨(_, _), ⟨QF_wI (QF_wI q2 _ (by unfold qs; omega)) _ (by unfold qs; omega), Or.inr ⟨by omega, ?_, ?_⟩⟩, rfl⟩
      · show hI (wI (wI (wp h' 127 (Sd S n) 18) 124 22 (nI (asD D S t k n))) 124 21 (nI n)) 124 22 = _
        rw [Nat.add_sub_cancel, hm, hI_wI, if_neg (by omega), hI_wI, if_pos ⟨rfl, rfl⟩]
      · show hI (wI (wI (wp h' 127 (Sd S n) 18) 124 22 (nI (asD D S t k n))) 124 21 (nI n)) 124 21 = _
        rw [Nat.add_sub_cancel, hm, hI_wI, if_pos ⟨rfl, rfl⟩]
    rcases i with ⟨i0, i2⟩ | ⟨i0, i2, i3⟩
    · rw [i2, dT rfl]
      exact wr (by rw [i0]; rfl)
    · obtain ⟨p, rfl⟩ : ∃ p, n = p + 1 := ⟨n - 1, by omega⟩
      rw [Nat.add_sub_cancel] at i2 i3
      have ha := amin_le (asD D S t k) p
      have ap : asD D S t k (amin (asD D S t k) p) ≤ 336960 := asS_le w u (by omega) t k
      rw [i2, show decide (nI (asD D S t k (amin (asD D S t k) p)) = (-1 : Int32)) = false from dF (fun e => by
        have := congrArg Int32.toInt e
        rw [w_int (by omega)] at this
        have e2 : (-1 : Int32).toInt = -1 := rfl
        omega)]
      by_cases e : asD D S t k (p + 1) < asD D S t k (amin (asD D S t k) p)
      · rw [dT (show nI (asD D S t k (p + 1)) < nI (asD D S t k (amin (asD D S t k) p)) by rw [w_lt (by omega) (by omega)]; exact e)]
        exact wr (by rw [amin_s, dT e]; rfl)
      · rw [dF (show ¬ nI (asD D S t k (p + 1)) < nI (asD D S t k (amin (asD D S t k) p)) by rw [w_lt (by omega) (by omega)]; exact e)]
        refine ⟨(_, _), ⟨q2, Or.inr ⟨by omega, ?_, ?_⟩⟩, rfl⟩
        · rw [Nat.add_sub_cancel, amin_s, dF e, cond_false]; exact i2
        · rw [Nat.add_sub_cancel, amin_s, dF e, cond_false]; exact i3) (wI h 124 22 (-1), none) ⟨QF_wI (QF.rfl' h) _ (by unfold qs; omega), Or.inl ⟨rfl, by rw [hI_wI, if_pos ⟨rfl, rfl⟩]⟩⟩
  rcases i2 with ⟨i0, -⟩ | ⟨-, i2, i3⟩
  · omega
  · refine ⟨a'.1, ?_, i1, i2, i3⟩
    refine Eq.trans e ?_
    show R 232 5 [some (.ref 124), some (.int (nI t)), some (.int (nI k)), some (.int (nI 61)), a'.2] [] a'.1 = _
    rw [b232_5, show (60 : Int32) = nI 60 from rfl, dT (show nI 60 < nI 61 by rw [w_lt (by decide) (by decide)]; decide)]
    rfl
theorem QF_fin {h h' : A_H} (a : QF h h') (x : Int32) : QF h (wI (wI h' 124 1 x) 124 2 (-1)) := QF_wI (QF_wI a _ (by unfold qs; omega)) _ (by unfold qs; omega)
theorem fin_1 (h : A_H) (x : Int32) : hI (wI (wI h 124 1 x) 124 2 (-1)) 124 1 = x := by rw [hI_wI, if_neg (by omega), hI_wI, if_pos ⟨rfl, rfl⟩]
theorem fin_2 (h : A_H) (x : Int32) : hI (wI (wI h 124 1 x) 124 2 (-1)) 124 2 = -1 := by rw [hI_wI, if_pos ⟨rfl, rfl⟩]
def Qe (m : Nat) (as : List Value) (h : A_H) (v x : Int32) : Prop := ∃ h', C m as h = some (some (some (.int v)), h') ∧ QF h h' ∧ hI h' 124 1 = x ∧ hI h' 124 2 = -1
theorem Qe_of {m : Nat} {as : List Value} {h h' : A_H} {v x : Int32} (e : C m as h = some (some (some (.int v)), wI (wI h' 124 1 x) 124 2 (-1))) (a : QF h h') : Qe m as h v x := ⟨_, e, QF_fin a x, fin_1 _ _, fin_2 _ _⟩
theorem QF_0 (h : A_H) : QF h (wI h 124 0 0) := QF_wI (QF.rfl' h) _ (by unfold qs; omega)
theorem m233 {h : A_H} {B : Nat} {D : Gh} {S : Nat → Nat} (L : Ly h) (hB : hP h 124 3 = some B) (l : ML h B) (w : WF D) (b : MB h B D) (u : WD D S) (r : RW h 126 S) {t k : Nat} (ht : t < D 0 3) (hk : k < D 0 4) : Qe 233 [.ref 124, .int (nI t), .int (nI k)] h (nI (amin (asD D S t k) 60)) 0 := by
  have L1 : Ly (wI h 124 0 0) := L; have hB1 : hP (wI h 124 0 0) 124 3 = some B := hB; have l1 : ML (wI h 124 0 0) B := l; have b1 : MB (wI h 124 0 0) B D := MB_wI l (by decide) b; have r1 : RW (wI h 124 0 0) 126 S := RW_wI (by decide) r
  have := f_nt w
  have := f_ng w
  obtain ⟨h', e, q, e22, e21⟩ := d232 L1 hB1 l1 w b1 u r1 ht hk
  have q' := (QF_0 h).trans' q
  have L2 := Ly_QF q' L
  refine Qe_of (h' := h') ?_ q'
  rw [e233]
  simp only [b233_0, b233_3, b233_6, b233_10, b233_14, b233_19, b233_23, cond_true, cond_false, decide_true, Bool.and_true, Bool.true_and, Bool.and_self, Bool.and_false, Bool.false_and, Bool.not_true, Bool.not_false, Bool.or_true, Bool.true_or, Bool.or_false, Bool.false_or, is_some, gd_some, bk_v, bk_u, hP_wI, isO_wI, isA_wI, hP_wp, isO_wp, isA_wp, y_124 L, y_P15 L, y_P16 L, hB, d200 L1 hB1 l1 b1, vd_of (show D 0 3 < 2147483648 by omega) ht, bI_T, d202 L1 hB1 l1 b1, vd_of (show D 0 4 < 2147483648 by omega) hk, i1_0, e, y_124 L2, e21, d158 L2]
theorem m234 {h : A_H} {B : Nat} {D : Gh} {S : Nat → Nat} (L : Ly h) (hB : hP h 124 3 = some B) (l : ML h B) (w : WF D) (b : MB h B D) (u : WD D S) (r : RW h 126 S) {t k : Nat} (ht : t < D 0 3) (hk : k < D 0 4) : Qe 234 [.ref 124, .int (nI t), .int (nI k)] h (nI (asD D S t k (amin (asD D S t k) 60))) 0 := by
  have L1 : Ly (wI h 124 0 0) := L; have hB1 : hP (wI h 124 0 0) 124 3 = some B := hB; have l1 : ML (wI h 124 0 0) B := l; have b1 : MB (wI h 124 0 0) B D := MB_wI l (by decide) b; have r1 : RW (wI h 124 0 0) 126 S := RW_wI (by decide) r
  have := f_nt w
  have := f_ng w
  obtain ⟨h', e, q, e22, e21⟩ := d232 L1 hB1 l1 w b1 u r1 ht hk
  have q' := (QF_0 h).trans' q
  have L2 := Ly_QF q' L
  refine Qe_of (h' := h') ?_ q'
  rw [e234]
  simp only [b234_0, b234_3, b234_6, b234_10, b234_14, b234_19, b234_23, cond_true, cond_false, decide_true, Bool.and_true, Bool.true_and, Bool.and_self, Bool.and_false, Bool.false_and, Bool.not_true, Bool.not_false, Bool.or_true, Bool.true_or, Bool.or_false, Bool.false_or, is_some, gd_some, bk_v, bk_u, hP_wI, isO_wI, isA_wI, hP_wp, isO_wp, isA_wp, y_124 L, y_P15 L, y_P16 L, hB, d200 L1 hB1 l1 b1, vd_of (show D 0 3 < 2147483648 by omega) ht, bI_T, d202 L1 hB1 l1 b1, vd_of (show D 0 4 < 2147483648 by omega) hk, i1_0, e, y_124 L2, e22, d158 L2]
theorem tg_bad {n m : Nat} {x y : Int32} (e : decide (eit (eit (gv n x) (gv m y)) (dv 0) = 0) = false) : (vd n x = false ∧ eit (eit (gv n x) (gv m y)) (dv 0) = 1) ∨ (vd n x = true ∧ vd m y = false ∧ eit (eit (gv n x) (gv m y)) (dv 0) = 1) := by
  rcases tgd_bad e with h | h | h
  · exact Or.inl h
  · exact Or.inr h
  · exact absurd h.2.2.1 (by decide)
theorem m233b {h : A_H} {D : Gh} (L : Ly h) (q : Mq h D) {x y : Int32} (e : decide (eit (eit (gv (D 0 3) x) (gv (D 0 4) y)) (dv 0) = 0) = false) : Qe 233 [.ref 124, .int x, .int y] h (-1) (eit (eit (gv (D 0 3) x) (gv (D 0 4) y)) (dv 0)) := by
  have L1 : Ly (wI h 124 0 0) := L
  have q1 := Mq_wI (j := 0) (v := 0) (show 124 < 134 by decide) q
  refine Qe_of (h' := wI h 124 0 0) ?_ (QF_0 h)
  rcases tg_bad e with ⟨e1, e2⟩ | ⟨e1, e3, e2⟩
  · rw [e2, e233]
    simp only [b233_0, b233_3, b233_6, b233_10, b233_14, b233_19, b233_23, cond_true, cond_false, decide_true, Bool.and_true, Bool.true_and, Bool.and_self, Bool.and_false, Bool.false_and, Bool.not_true, Bool.not_false, Bool.or_true, Bool.true_or, Bool.or_false, Bool.false_or, is_some, gd_some, bk_v, bk_u, isO_wI, y_124 L, q200 L1 q1, e1, bI_F, d155 L1]
  · rw [e2, e233]
    simp only [b233_0, b233_3, b233_6, b233_10, b233_14, b233_19, b233_23, cond_true, cond_false, decide_true, Bool.and_true, Bool.true_and, Bool.and_self, Bool.and_false, Bool.false_and, Bool.not_true, Bool.not_false, Bool.or_true, Bool.true_or, Bool.or_false, Bool.false_or, is_some, gd_some, bk_v, bk_u, isO_wI, y_124 L, q200 L1 q1, e1, bI_T, i1_0, q202 L1 q1, e3, bI_F, d155 L1]
theorem m234b {h : A_H} {D : Gh} (L : Ly h) (q : Mq h D) {x y : Int32} (e : decide (eit (eit (gv (D 0 3) x) (gv (D 0 4) y)) (dv 0) = 0) = false) : Qe 234 [.ref 124, .int x, .int y] h (-1) (eit (eit (gv (D 0 3) x) (gv (D 0 4) y)) (dv 0)) := by
  have L1 : Ly (wI h 124 0 0) := L
  have q1 := Mq_wI (j := 0) (v := 0) (show 124 < 134 by decide) q
  refine Qe_of (h' := wI h 124 0 0) ?_ (QF_0 h)
  rcases tg_bad e with ⟨e1, e2⟩ | ⟨e1, e3, e2⟩
  · rw [e2, e234]
    simp only [b234_0, b234_3, b234_6, b234_10, b234_14, b234_19, b234_23, cond_true, cond_false, decide_true, Bool.and_true, Bool.true_and, Bool.and_self, Bool.and_false, Bool.false_and, Bool.not_true, Bool.not_false, Bool.or_true, Bool.true_or, Bool.or_false, Bool.false_or, is_some, gd_some, bk_v, bk_u, isO_wI, y_124 L, q200 L1 q1, e1, bI_F, d155 L1]
  · rw [e2, e234]
    simp only [b234_0, b234_3, b234_6, b234_10, b234_14, b234_19, b234_23, cond_true, cond_false, decide_true, Bool.and_true, Bool.true_and, Bool.and_self, Bool.and_false, Bool.false_and, Bool.not_true, Bool.not_false, Bool.or_true, Bool.true_or, Bool.or_false, Bool.false_or, is_some, gd_some, bk_v, bk_u, isO_wI, y_124 L, q200 L1 q1, e1, bI_T, i1_0, q202 L1 q1, e3, bI_F, d155 L1]
