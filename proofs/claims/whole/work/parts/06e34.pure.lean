def hoI (D : Gh) (S : Nat → Nat) (g : Nat) (h : A_H) (n : Nat) (h' : A_H) : Prop := QF h h' ∧ (n = 0 ∨ (0 < n ∧ hI h' 124 25 = hel D S g (amx (hel D S g) (n - 1)) ∧ hI h' 124 24 = nI (amx (hel D S g) (n - 1))))
theorem lt_le (x y : Int32) : decide (x < y) = !decide (y ≤ x) := by
  by_cases e : y ≤ x
  · rw [dT e, dF (by rw [Int32.lt_iff_toInt_lt]; rw [Int32.le_iff_toInt_le] at e; omega)]; rfl
  · rw [dF e, dT (by rw [Int32.lt_iff_toInt_lt]; rw [Int32.le_iff_toInt_le] at e; omega)]; rfl
theorem d243 {h : A_H} {B : Nat} {D : Gh} {S : Nat → Nat} (L : Ly h) (hB : hP h 124 3 = some B) (l : ML h B) (w : WF D) (b : MB h B D) (u : WD D S) (r : RW h 126 S) {g : Nat} (hg : g < D 0 5) : ∃ h', C 243 [.ref 124, .int (nI g)] h = some (some none, h') ∧ QF h h' ∧ hI h' 124 25 = hel D S g (amx (hel D S g) 60) ∧ hI h' 124 24 = nI (amx (hel D S g) 60) := by
  rw [e243]
  simp only [b243_0]
  obtain ⟨a', ⟨i1, i2⟩, e⟩ := loop_inv (α := A_H × Option Value) (fun n a => hoI D S g h n a.1) (fun n a => R 243 2 [some (.ref 124), some (.int (nI g)), some (.int (nI n)), a.2] [] a.1) 61 (by
    intro n a hn i
    obtain ⟨h', l4⟩ := a
    obtain ⟨q, i⟩ : hoI D S g h n h' := i
    have hd : n ≤ 60 := by omega
    have La := Ly_QF q L
    have ra := RW_QF q r
    have q2 := QF_wp q (Sd S n) 18
    have L2 := Ly_QF q2 L
    have hB2 := hB_QF q2 hB
    have l2 := ML_QF q2 l
    have b2 := MB_QF q2 l b
    have v2 : isV 127 := Or.inr rfl
    have ws2 : WS (Sd S n) := WS_Sd w u hd
    have r2 := RW_wp h' 127 (Sd S n)
    have h206 := d206 L2 hB2 l2 v2 w b2 ws2 r2 hg
    have h207 := d207 L2 hB2 l2 v2 w b2 ws2 r2 hg false
    rw [bI_F, cond_false, Sd_17] at h207
    rw [Sd_17] at h206
    have h25 : hI (wp h' 127 (Sd S n) 18) 124 25 = hI h' 124 25 := rfl
    have hB' : hP h' 124 3 = some B := hB_QF q hB
    have hO : isO h' B 12 = true := mB_O (ML_QF q l)
    have hfe : hI (wp h' 127 (Sd S n) 18) B 0 = nI (D 0 0) := b_s0 b2
    have hhe : (nI (wor D g (S 17 + n)) - nI (dut D 0 g (S 17 + n))) - nI n * nI (D 0 0) = hel D S g n := by unfold hel; rw [Int32.mul_comm]
    rw [b243_2, show (60 : Int32) = nI 60 from rfl, dF (show ¬ nI 60 < nI n by rw [w_lt (by omega) (by omega)]; omega)]
    simp only [cond_true, cond_false, decide_true, Bool.and_true, Bool.true_and, Bool.and_self, Bool.and_false, Bool.false_and, Bool.not_true, Bool.not_false, Bool.or_true, Bool.true_or, Bool.or_false, Bool.false_or, is_some, gd_some, bk_v, bk_u, y_124 La, d219 La ra hd, b243_9, isO_wp, hP_wp, y_P16 La, h206, b243_15, h207, b243_21, hB', hO, hfe, hhe, b243_39, b243_42, isO_wI, w_s, h25]
    have wr : amx (hel D S g) n = n → ∃ a' : A_H × Option Value, hoI D S g h (n + 1) a'.1 ∧ R 243 2 [some (.ref 124), some (.int (nI g)), some (.int (nI (n + 1))), some (.int (hel D S g n))] [] (wI (wI (wp h' 127 (Sd S n) 18) 124 25 (hel D S g n)) 124 24 (nI n)) = R 243 2 [some (.ref 124), some (.int (nI g)), some (.int (nI (n + 1))), a'.2] [] a'.1 := by
      intro hm
      refine ⟨(_, _), ⟨QF_wI (QF_wI q2 _ (by unfold qs; omega)) _ (by unfold qs; omega), Or.inr ⟨by omega, ?_, ?_⟩⟩, rfl⟩
      · show hI (wI (wI (wp h' 127 (Sd S n) 18) 124 25 (hel D S g n)) 124 24 (nI n)) 124 25 = _
        rw [Nat.add_sub_cancel, hm, hI_wI, if_neg (by omega), hI_wI, if_pos ⟨rfl, rfl⟩]
      · show hI (wI (wI (wp h' 127 (Sd S n) 18) 124 25 (hel D S g n)) 124 24 (nI n)) 124 24 = _
        rw [Nat.add_sub_cancel, hm, hI_wI, if_pos ⟨rfl, rfl⟩]
    rcases i with i0 | ⟨i0, i2, i3⟩
    · rw [dT (show nI n ≤ 0 by rw [i0]; decide)]
      exact wr (by rw [i0]; rfl)
    · obtain ⟨p, rfl⟩ : ∃ p, n = p + 1 := ⟨n - 1, by omega⟩
      rw [Nat.add_sub_cancel] at i2 i3
      rw [dF (show ¬ nI (p + 1) ≤ 0 by rw [show (0 : Int32) = nI 0 from rfl, w_le (by omega) (by omega)]; omega), i2, lt_le]
      cases e : decide (hel D S g (p + 1) ≤ hel D S g (amx (hel D S g) p)) with
      | false => exact wr (by rw [amx_s, e]; rfl)
      | true =>
        refine ⟨(_, _), ⟨q2, Or.inr ⟨by omega, ?_, ?_⟩⟩, rfl⟩
        · rw [Nat.add_sub_cancel, amx_s, e, cond_true]; exact i2
        · rw [Nat.add_sub_cancel, amx_s, e, cond_true]; exact i3) (h, none) ⟨QF.rfl' h, Or.inl rfl⟩
  rcases i2 with i0 | ⟨-, i2, i3⟩
  · omega
  · refine ⟨a'.1, ?_, i1, i2, i3⟩
    refine Eq.trans e ?_
    show R 243 2 [some (.ref 124), some (.int (nI g)), some (.int (nI 61)), a'.2] [] a'.1 = _
    rw [b243_2, show (60 : Int32) = nI 60 from rfl, dT (show nI 60 < nI 61 by rw [w_lt (by decide) (by decide)]; decide)]
    rfl
theorem m244 {h : A_H} {B : Nat} {D : Gh} {S : Nat → Nat} (L : Ly h) (hB : hP h 124 3 = some B) (l : ML h B) (w : WF D) (b : MB h B D) (u : WD D S) (r : RW h 126 S) {g : Nat} (hg : g < D 0 5) : Qe 244 [.ref 124, .int (nI g)] h (nI (amx (hel D S g) 60)) 0 := by
  have L1 : Ly (wI h 124 0 0) := L; have hB1 : hP (wI h 124 0 0) 124 3 = some B := hB; have l1 : ML (wI h 124 0 0) B := l; have b1 : MB (wI h 124 0 0) B D := MB_wI l (by decide) b; have r1 : RW (wI h 124 0 0) 126 S := RW_wI (by decide) r
  have := f_nG w
  obtain ⟨h', e, q, e25, e24⟩ := d243 L1 hB1 l1 w b1 u r1 hg
  have q' := (QF_0 h).trans' q
  have L2 := Ly_QF q' L
  refine Qe_of (h' := h') ?_ q'
  rw [e244]
  simp only [b244_0, b244_3, b244_6, b244_10, b244_14, b244_18, cond_true, cond_false, decide_true, Bool.and_true, Bool.true_and, Bool.and_self, Bool.and_false, Bool.false_and, Bool.not_true, Bool.not_false, Bool.or_true, Bool.true_or, Bool.or_false, Bool.false_or, is_some, gd_some, bk_v, bk_u, hP_wI, isO_wI, isA_wI, hP_wp, isO_wp, isA_wp, y_124 L, y_P15 L, y_P16 L, hB, d199 L1 hB1 l1 b1, vd_of (show D 0 5 < 2147483648 by omega) hg, bI_T, i1_0, e, y_124 L2, e24, d158 L2]
theorem m245 {h : A_H} {B : Nat} {D : Gh} {S : Nat → Nat} (L : Ly h) (hB : hP h 124 3 = some B) (l : ML h B) (w : WF D) (b : MB h B D) (u : WD D S) (r : RW h 126 S) {g : Nat} (hg : g < D 0 5) : Qe 245 [.ref 124, .int (nI g)] h (hel D S g (amx (hel D S g) 60)) 0 := by
  have L1 : Ly (wI h 124 0 0) := L; have hB1 : hP (wI h 124 0 0) 124 3 = some B := hB; have l1 : ML (wI h 124 0 0) B := l; have b1 : MB (wI h 124 0 0) B D := MB_wI l (by decide) b; have r1 : RW (wI h 124 0 0) 126 S := RW_wI (by decide) r
  have := f_nG w
  obtain ⟨h', e, q, e25, e24⟩ := d243 L1 hB1 l1 w b1 u r1 hg
  have q' := (QF_0 h).trans' q
  have L2 := Ly_QF q' L
  refine Qe_of (h' := h') ?_ q'
  rw [e245]
  simp only [b245_0, b245_3, b245_6, b245_10, b245_14, b245_18, cond_true, cond_false, decide_true, Bool.and_true, Bool.true_and, Bool.and_self, Bool.and_false, Bool.false_and, Bool.not_true, Bool.not_false, Bool.or_true, Bool.true_or, Bool.or_false, Bool.false_or, is_some, gd_some, bk_v, bk_u, hP_wI, isO_wI, isA_wI, hP_wp, isO_wp, isA_wp, y_124 L, y_P15 L, y_P16 L, hB, d199 L1 hB1 l1 b1, vd_of (show D 0 5 < 2147483648 by omega) hg, bI_T, i1_0, e, y_124 L2, e25, d158 L2]
theorem m244b {h : A_H} {D : Gh} (L : Ly h) (q : Mq h D) {x : Int32} (e : vd (D 0 5) x = false) : Qe 244 [.ref 124, .int x] h (-1) 1 := by
  have L1 : Ly (wI h 124 0 0) := L
  refine Qe_of (h' := wI h 124 0 0) ?_ (QF_0 h)
  rw [e244]
  simp only [b244_0, b244_3, b244_6, b244_10, b244_14, b244_18, cond_true, cond_false, decide_true, Bool.and_true, Bool.true_and, Bool.and_self, Bool.and_false, Bool.false_and, Bool.not_true, Bool.not_false, Bool.or_true, Bool.true_or, Bool.or_false, Bool.false_or, is_some, gd_some, bk_v, bk_u, isO_wI, y_124 L, q199 L1 (Mq_wI (by decide) q), e, bI_F, d155 L1]
theorem m245b {h : A_H} {D : Gh} (L : Ly h) (q : Mq h D) {x : Int32} (e : vd (D 0 5) x = false) : Qe 245 [.ref 124, .int x] h (-10000) 1 := by
  have L1 : Ly (wI h 124 0 0) := L
  refine Qe_of (h' := wI h 124 0 0) ?_ (QF_0 h)
  rw [e245]
  simp only [b245_0, b245_3, b245_6, b245_10, b245_14, b245_18, cond_true, cond_false, decide_true, Bool.and_true, Bool.true_and, Bool.and_self, Bool.and_false, Bool.false_and, Bool.not_true, Bool.not_false, Bool.or_true, Bool.true_or, Bool.or_false, Bool.false_or, is_some, gd_some, bk_v, bk_u, isO_wI, y_124 L, q199 L1 (Mq_wI (by decide) q), e, bI_F, d156 L1]
theorem msk_z {n : Nat} {p : Nat → Bool} : msk n p = 0 ↔ ∀ g, g < n → p g = false := by
  constructor
  · intro e g hg
    have := msk_bit n p g
    rw [e, Nat.zero_testBit, dT hg, Bool.true_and] at this
    exact this.symm
  · intro h
    rw [msk_congr (q := fun _ => false) h]
    clear h
    induction n with
    | zero => rfl
    | succ n ih => rw [msk_s, ih]; rfl
theorem sme_m (D : Gh) (d g : Nat) (p : Nat → Bool) (m : Nat) : sme D d g p m = sme D d g p 0 - 2 * m := by unfold sme; omega
theorem smx_lt {D : Gh} {S : Nat → Nat} {d t n b : Nat} (hb : 0 < b) : smx D S d t n < b ↔ ∀ g, g < n → (has D S t g && hid S g) = true → sme D d g (has0 S) 0 < b := by
  induction n with
  | zero => exact ⟨fun _ g hg => absurd hg (Nat.not_lt_zero g), fun _ => hb⟩
  | succ n ih =>
    rw [smx_s]
    cases hc : (has D S t n && hid S n) with
    | false =>
      rw [cond_false, ih]
      constructor
      · intro h g hg hh
        by_cases e : g = n
        · rw [e, hc] at hh; cases hh
        · exact h g (by omega) hh
      · intro h g hg hh; exact h g (by omega) hh
    | true =>
      rw [cond_true, Nat.max_lt, ih]
      constructor
      · intro ⟨h1, h2⟩ g hg hh
        by_cases e : g = n
        · rw [e]; exact h2
        · exact h1 g (by omega) hh
      · intro h
        exact ⟨fun g hg hh => h g (by omega) hh, h n (by omega) hc⟩
theorem cov_eq {D : Gh} {S : Nat → Nat} (w : WF D) {d t k : Nat} (hk : k < D 0 4) (m : Nat) : decide (msk (D 0 5) (fnd D d (D 9 k) (has D S t) (hid S) m) = 0) = decide (smx D S d t (D 0 5) < D 9 k + 2 * m) := by
  have hn := f_nose w hk
  apply decide_eq_decide.mpr
  rw [msk_z, smx_lt (by omega)]
  constructor
  · intro h g hg hh
    have h1 := h g hg
    have eo : D 14 g = t := by
      rw [Bool.and_eq_true] at hh
      have := hh.1
      unfold has at this
      rw [Bool.and_eq_true] at this
      exact of_decide_eq_true this.1
    unfold fnd at h1
    rw [hh, Bool.true_and, sme_has eo, sme_m] at h1
    have := of_decide_eq_false h1
    omega
  · intro h g hg
    unfold fnd
    cases hh : (has D S t g && hid S g) with
    | false => rfl
    | true =>
      have h1 := h g hg hh
      have eo : D 14 g = t := by
        rw [Bool.and_eq_true] at hh
        have := hh.1
        unfold has at this
        rw [Bool.and_eq_true] at this
        exact of_decide_eq_true this.1
      rw [Bool.true_and, sme_has eo, sme_m]
      exact dF (by omega)
theorem m242 {h : A_H} {B : Nat} {D : Gh} {S : Nat → Nat} (L : Ly h) (hB : hP h 124 3 = some B) (l : ML h B) (w : WF D) (b : MB h B D) (u : WD D S) (r : RW h 126 S) {t k d : Nat} (ht : t < D 0 3) (hk : k < D 0 4) (hd : d ≤ 60) : C 242 [.ref 124, .int (nI t), .int (nI k), .int (nI d)] h = some (some (some (.int (oI (fsm (fun m => decide (smx D S (S 17 + d) t (D 0 5) < D 9 k + 2 * m)) 31 0)))), wI (wI (wp (wI h 124 0 0) 127 (Sd S d) 18) 124 1 0) 124 2 (-1)) := by
  have L1 : Ly (wI h 124 0 0) := L; have hB1 : hP (wI h 124 0 0) 124 3 = some B := hB; have l1 : ML (wI h 124 0 0) B := l; have b1 : MB (wI h 124 0 0) B D := MB_wI l (by decide) b; have r1 : RW (wI h 124 0 0) 126 S := RW_wI (by decide) r
  have L2 : Ly (wp (wI h 124 0 0) 127 (Sd S d) 18) := L; have hB2 : hP (wp (wI h 124 0 0) 127 (Sd S d) 18) 124 3 = some B := hB; have l2 : ML (wp (wI h 124 0 0) 127 (Sd S d) 18) B := l; have b2 : MB (wp (wI h 124 0 0) 127 (Sd S d) 18) B D := MB_wp l1 (by decide) b1; have r2 := RW_wp (wI h 124 0 0) 127 (Sd S d); have v2 : isV 127 := Or.inr rfl; have ws2 : WS (Sd S d) := WS_Sd w u hd
  have := f_nt w
  have := f_ng w
  have h8 := f_nG w
  have h211 : ∀ m, m ≤ 100 → C 211 [.ref 124, .ref 127, .int (nI t), .int (nI k), .int (nI m)] (wp (wI h 124 0 0) 127 (Sd S d) 18) = some (some (some (.int (nI (msk (D 0 5) (fnd D (S 17 + d) (D 9 k) (has D S t) (hid S) m))))), wp (wI h 124 0 0) 127 (Sd S d) 18) := by
    intro m hm
    have h211 := d211 L2 hB2 l2 v2 w b2 ws2 r2 (show t < 100 by omega) hk hm
    rw [msk_congr (fun g hg => fnd_congr (hs_Sd w t) (fun _ _ => rfl) g hg)] at h211
    exact h211
  have hz : ∀ m, decide (nI (msk (D 0 5) (fnd D (S 17 + d) (D 9 k) (has D S t) (hid S) m)) = 0) = decide (smx D S (S 17 + d) t (D 0 5) < D 9 k + 2 * m) := by
    intro m
    rw [← cov_eq w hk m, show (0 : Int32) = nI 0 from rfl]
    have := msk_256 h8 (fnd D (S 17 + d) (D 9 k) (has D S t) (hid S) m)
    simp only [w_eq (show msk (D 0 5) (fnd D (S 17 + d) (D 9 k) (has D S t) (hid S) m) < 2147483648 by omega) (show 0 < 2147483648 by decide)]
  have key : ∀ f m, m + f = 31 → R 242 26 [some (.ref 124), some (.int (nI t)), some (.int (nI k)), some (.int (nI d)), some (.int 0), some (.int (nI m))] [] (wp (wI h 124 0 0) 127 (Sd S d) 18) = some (some (some (.int (oI (fsm (fun m => decide (smx D S (S 17 + d) t (D 0 5) < D 9 k + 2 * m)) f m)))), wI (wI (wp (wI h 124 0 0) 127 (Sd S d) 18) 124 1 0) 124 2 (-1)) := by
    intro f
    induction f with
    | zero =>
      intro m hm
      rw [b242_26, show (30 : Int32) = nI 30 from rfl, dT (by rw [w_lt (by omega) (by omega)]; omega)]
      simp only [cond_true, cond_false, decide_true, Bool.and_true, Bool.true_and, Bool.and_self, Bool.and_false, Bool.false_and, Bool.not_true, Bool.not_false, Bool.or_true, Bool.true_or, Bool.or_false, Bool.false_or, is_some, gd_some, bk_v, bk_u, hP_wI, isO_wI, isA_wI, hP_wp, isO_wp, isA_wp, y_124 L, y_P15 L, y_P16 L, hB, d158 L2, b242_46]
      rfl
    | succ f ih =>
      intro m hm
      rw [b242_26, show (30 : Int32) = nI 30 from rfl, dF (show ¬ nI 30 < nI m by rw [w_lt (by omega) (by omega)]; omega)]
      simp only [cond_true, cond_false, decide_true, Bool.and_true, Bool.true_and, Bool.and_self, Bool.and_false, Bool.false_and, Bool.not_true, Bool.not_false, Bool.or_true, Bool.true_or, Bool.or_false, Bool.false_or, is_some, gd_some, bk_v, bk_u, hP_wI, isO_wI, isA_wI, hP_wp, isO_wp, isA_wp, y_124 L, y_P15 L, y_P16 L, hB, h211 m (by omega), b242_36, hz, d158 L2, b242_40, w_s]
      rw [ih (m + 1) (by omega), fsm_s]
      cases decide (smx D S (S 17 + d) t (D 0 5) < D 9 k + 2 * m) <;> rfl
  rw [e242]
  simp only [b242_0, b242_3, b242_7, b242_11, b242_17, b242_23, b242_36, b242_40, b242_46, cond_true, cond_false, decide_true, Bool.and_true, Bool.true_and, Bool.and_self, Bool.and_false, Bool.false_and, Bool.not_true, Bool.not_false, Bool.or_true, Bool.true_or, Bool.or_false, Bool.false_or, is_some, gd_some, bk_v, bk_u, hP_wI, isO_wI, isA_wI, hP_wp, isO_wp, isA_wp, y_124 L, y_P15 L, y_P16 L, hB, d200 L1 hB1 l1 b1, vd_of (show D 0 3 < 2147483648 by omega) ht, bI_T, d202 L1 hB1 l1 b1, vd_of (show D 0 4 < 2147483648 by omega) hk, i1_0, d219 L1 r1 hd, c00]
  exact key 31 0 rfl
theorem m242b {h : A_H} {D : Gh} (L : Ly h) (q : Mq h D) {x y z : Int32} (e : decide (eit (eit (gv (D 0 3) x) (gv (D 0 4) y)) (dv z) = 0) = false) : C 242 [.ref 124, .int x, .int y, .int z] h = some (some (some (.int (-1))), wI (wI (wI h 124 0 0) 124 1 (eit (eit (gv (D 0 3) x) (gv (D 0 4) y)) (dv z))) 124 2 (-1)) := by
  have L1 : Ly (wI h 124 0 0) := L
  have q1 := Mq_wI (j := 0) (v := 0) (show 124 < 134 by decide) q
  rcases tgd_bad e with ⟨e1, e2⟩ | ⟨e1, e3, e2⟩ | ⟨e1, e3, e4, e2⟩
  · rw [e2, e242]
    simp only [b242_0, b242_3, b242_7, b242_11, b242_17, b242_23, b242_36, b242_40, b242_46, cond_true, cond_false, decide_true, Bool.and_true, Bool.true_and, Bool.and_self, Bool.and_false, Bool.false_and, Bool.not_true, Bool.not_false, Bool.or_true, Bool.true_or, Bool.or_false, Bool.false_or, is_some, gd_some, bk_v, bk_u, isO_wI, y_124 L, q200 L1 q1, e1, bI_F, d219y L1, c01, d155 L1]
  · rw [e2, e242]
    simp only [b242_0, b242_3, b242_7, b242_11, b242_17, b242_23, b242_36, b242_40, b242_46, cond_true, cond_false, decide_true, Bool.and_true, Bool.true_and, Bool.and_self, Bool.and_false, Bool.false_and, Bool.not_true, Bool.not_false, Bool.or_true, Bool.true_or, Bool.or_false, Bool.false_or, is_some, gd_some, bk_v, bk_u, isO_wI, y_124 L, q200 L1 q1, e1, bI_T, i1_0, q202 L1 q1, e3, bI_F, d219y L1, c01, d155 L1]
  · rw [e2, e242]
    simp only [b242_0, b242_3, b242_7, b242_11, b242_17, b242_23, b242_36, b242_40, b242_46, cond_true, cond_false, decide_true, Bool.and_true, Bool.true_and, Bool.and_self, Bool.and_false, Bool.false_and, Bool.not_true, Bool.not_false, Bool.or_true, Bool.true_or, Bool.or_false, Bool.false_or, is_some, gd_some, bk_v, bk_u, isO_wI, y_124 L, q200 L1 q1, e1, bI_T, i1_0, q202 L1 q1, e3, d219x L1 e4, c02, d155 L1]
