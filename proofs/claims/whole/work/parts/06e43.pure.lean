theorem sbs_of {m H : Nat} (h : ∀ j, j < 32 → m.testBit j = true → H.testBit j = true) : sbs m H = true := by
  unfold sbs
  apply dT
  apply i_ext
  intro j hj
  have h0 : bt (0 : Int32) j = false := BitVec.getLsbD_zero
  rw [bt_and, bt_xm _ hj, bt_nI _ hj, bt_nI _ hj, h0]
  cases hm : m.testBit j with
  | false => rfl
  | true => rw [h j hj hm]; rfl
theorem sbs_le {m H : Nat} (hm : m < 256) (e : sbs m H = true) : m ≤ H := by
  have : m &&& H = m := by
    apply Nat.eq_of_testBit_eq
    intro j
    rw [Nat.testBit_and]
    cases hb : m.testBit j with
    | false => rfl
    | true =>
      have hj : j < 32 := by
        apply Classical.byContradiction
        intro c
        have h1 : m < 2 ^ j := Nat.lt_of_lt_of_le hm (Nat.le_trans (by decide : 256 ≤ 2 ^ 32) (Nat.pow_le_pow_right (by decide) (by omega)))
        rw [Nat.testBit_lt_two_pow h1] at hb
        cases hb
      rw [sbs_T e hj hb]; rfl
  rw [← this]
  exact Nat.and_le_right
theorem hi_ok {D : Gh} {S : Nat → Nat} (w : WF D) {d t k m : Nat} : (sbs m (msk (D 0 5) (has D S t)) && decide (msk (D 0 5) (fnd D d (D 9 k) (has D S t) (fun g => m.testBit g) 0) = 0)) = sbs m (msk (D 0 5) (saf D S d t k)) := by
  have h8 := f_nG w
  cases hs : sbs m (msk (D 0 5) (saf D S d t k)) with
  | true =>
    rw [Bool.and_eq_true]
    refine ⟨sbs_of (fun j hj hm => ?_), dT (msk_z.mpr (fun g hg => saf_nf w hs hg))⟩
    have h1 := sbs_T hs hj hm
    rw [msk_bit, Bool.and_eq_true] at h1 ⊢
    refine ⟨h1.1, ?_⟩
    have := h1.2
    unfold saf at this
    rw [Bool.and_eq_true] at this
    exact this.1
  | false =>
    rw [Bool.and_eq_false_iff]
    cases h1 : sbs m (msk (D 0 5) (has D S t)) with
    | false => exact Or.inl rfl
    | true =>
      right
      apply dF
      intro c
      rw [msk_z] at c
      have : sbs m (msk (D 0 5) (saf D S d t k)) = true := by
        apply sbs_of
        intro j hj hm
        have h2 := sbs_T h1 hj hm
        rw [msk_bit, Bool.and_eq_true] at h2 ⊢
        refine ⟨h2.1, ?_⟩
        have hjn := of_decide_eq_true h2.1
        have h3 := c j hjn
        unfold saf
        unfold fnd at h3 ⊢
        simp only [hm, h2.2, Bool.true_and] at h3 ⊢
        rw [h3]; rfl
      rw [hs] at this
      cases this
theorem hiR_ext {D : Gh} {S : Nat → Nat} {d t k n : Nat} (h1 : msk (D 0 5) (saf D S d t k) ≤ n) (h2 : n < 256) : hiR D S d t k n = hiR D S d t k (msk (D 0 5) (saf D S d t k)) := by
  have key : ∀ j, msk (D 0 5) (saf D S d t k) + j < 256 → hiR D S d t k (msk (D 0 5) (saf D S d t k) + j) = hiR D S d t k (msk (D 0 5) (saf D S d t k)) := by
    intro j
    induction j with
    | zero => intro _; rfl
    | succ j ih =>
      intro hj
      show hiR D S d t k (msk (D 0 5) (saf D S d t k) + j + 1) = _
      rw [hiR_s]
      unfold hiS
      cases c : sbs (msk (D 0 5) (saf D S d t k) + j + 1) (msk (D 0 5) (saf D S d t k)) with
      | false => exact ih (by omega)
      | true =>
        have := sbs_le (by omega) c
        omega
  have := key (n - msk (D 0 5) (saf D S d t k)) (by omega)
  rw [show msk (D 0 5) (saf D S d t k) + (n - msk (D 0 5) (saf D S d t k)) = n by omega] at this
  exact this
theorem saf_le {D : Gh} {S : Nat → Nat} (w : WF D) (d t k : Nat) : msk (D 0 5) (saf D S d t k) ≤ msk (D 0 5) (has D S t) := by
  apply sbs_le (msk_256 (f_nG w) _)
  apply sbs_of
  intro j _ hm
  rw [msk_bit, Bool.and_eq_true] at hm ⊢
  refine ⟨hm.1, ?_⟩
  have := hm.2
  unfold saf at this
  rw [Bool.and_eq_true] at this
  exact this.1
def hiI (D : Gh) (S : Nat → Nat) (d t k : Nat) (h : A_H) (n : Nat) (h' : A_H) : Prop := QF h h' ∧ ((n = 0 ∧ hI h' 124 22 = -1) ∨ (0 < n ∧ hI h' 124 22 = nI (hiR D S d t k (n - 1)).2 ∧ hI h' 124 23 = nI (hiR D S d t k (n - 1)).1))
theorem d239 {h : A_H} {B : Nat} {D : Gh} {S : Nat → Nat} (L : Ly h) (hB : hP h 124 3 = some B) (l : ML h B) (w : WF D) (b : MB h B D) (u : WD D S) (r : RW h 126 S) {t k d : Nat} (ht : t < D 0 3) (hk : k < D 0 4) (hd : d ≤ 60) : ∃ h', C 239 [.ref 124, .int (nI t), .int (nI k), .int (nI d)] h = some (some none, h') ∧ QF h h' ∧ hI h' 124 22 = nI (hiR D S (S 17 + d) t k (msk (D 0 5) (saf D S (S 17 + d) t k))).2 ∧ hI h' 124 23 = nI (hiR D S (S 17 + d) t k (msk (D 0 5) (saf D S (S 17 + d) t k))).1 := by
  have h17 := u.1
  have hd' : S 17 + d ≤ 1000 := by omega
  have h8' := f_nG w
  have h4' := f_nt w
  have hH := msk_256 (f_nG w) (has D S t)
  have ws := WS_S w u
  have q1 : QF h (wI h 124 22 (-1)) := QF_wI (QF.rfl' h) _ (by unfold qs; omega)
  have h216 := d216 (Ly_QF q1 L) (hB_QF q1 hB) (ML_QF q1 l) w (MB_QF q1 l b) ws (RW_QF q1 r) (show t < 100 by omega)
  rw [e239]
  simp only [b239_0, b239_3, b239_6, cond_true, cond_false, decide_true, Bool.and_true, Bool.true_and, Bool.and_self, Bool.and_false, Bool.false_and, Bool.not_true, Bool.not_false, Bool.or_true, Bool.true_or, Bool.or_false, Bool.false_or, is_some, gd_some, bk_v, bk_u, isO_wI, y_124 L, h216]
  obtain ⟨a', ⟨i1, i2⟩, e⟩ := loop_inv (α := A_H) (fun n a => hiI D S (S 17 + d) t k h n a) (fun n a => R 239 9 [some (.ref 124), some (.int (nI t)), some (.int (nI k)), some (.int (nI d)), some (.int (nI (msk (D 0 5) (has D S t)))), some (.int (nI n))] [] a) (msk (D 0 5) (has D S t) + 1) (by
    intro n h' hn i
    obtain ⟨q, i⟩ : hiI D S (S 17 + d) t k h n h' := i
    have hn8 : n < 256 := by omega
    have La := Ly_QF q L
    have ra := RW_QF q r
    have q2 := QF_wp q (up (Sd S d) 16 n) 18
    have L2 := Ly_QF q2 L
    have hB2 := hB_QF q2 hB
    have l2 := ML_QF q2 l
    have b2 := MB_QF q2 l b
    have v2 : isV 127 := Or.inr rfl
    have r2 := RW_wp h' 127 (up (Sd S d) 16 n)
    have wsd := WS_Sd w u hd
    have ws2 : WS (up (Sd S d) 16 n) := by
      refine ⟨wsd.1, fun g hg => ?_, hn8⟩
      unfold up
      rw [if_neg (by omega)]; exact wsd.2.1 g hg
    have h213 := d213 L2 hB2 l2 v2 w b2 ws2 r2 ht hk
    have h211 := d211 L2 hB2 l2 v2 w b2 ws2 r2 (show t < 100 by omega) hk (m := 0) (by decide)
    have e17 : up (Sd S d) 16 n 17 = S 17 + d := rfl
    have ehs : ∀ g, g < D 0 5 → has D (up (Sd S d) 16 n) t g = has D S t g := by
      intro g hg
      refine Eq.trans ?_ (hs_Sd (d := d) w t g hg)
      unfold has up
      rw [if_neg (by omega)]
    have ehi : ∀ g, g < D 0 5 → hid (up (Sd S d) 16 n) g = n.testBit g := fun g _ => rfl
    rw [e17, ask_congr (fun g hg => fnd_congr ehs ehi g hg) (q' := fun g => has D S t g && !n.testBit g) (fun g hg => by rw [ehs g hg, ehi g hg])] at h213
    rw [e17, msk_congr (fun g hg => fnd_congr ehs ehi g hg), show nI 0 = 0 from rfl] at h211
    have hz : ∀ x : Nat, x < 256 → decide (nI x = 0) = decide (x = 0) := by
      intro x hx
      rw [show (0 : Int32) = nI 0 from rfl]
      simp only [w_eq (show x < 2147483648 by omega) (show 0 < 2147483648 by decide)]
    have h16 := wp_up h' 127 (Sd S d) (show 16 < 18 by decide) n
    have ok := hi_ok (S := S) w (d := S 17 + d) (t := t) (k := k) (m := n)
    have hfm := msk_256 h8' (fnd D (S 17 + d) (D 9 k) (has D S t) (fun g => n.testBit g) 0)
    have ha := hiA_le w hd' S t n
    have h213' : sbs n (msk (D 0 5) (saf D S (S 17 + d) t k)) = true → C 213 [.ref 124, .ref 127, .int (nI t), .int (nI k)] (wp h' 127 (up (Sd S d) 16 n) 18) = some (some (some (.int (nI (hiA D S (S 17 + d) t n)))), wp h' 127 (up (Sd S d) 16 n) 18) := by
      intro c
      rw [h213, ask_congr (p' := fun _ => false) (q' := fun g => has D S t g && !n.testBit g) (fun g hg => saf_nf w c hg) (fun _ _ => rfl)]
      rfl
    rw [b239_9]
    simp only [dF (show ¬ nI (msk (D 0 5) (has D S t)) < nI n by rw [w_lt (by omega) (by omega)]; omega), cond_true, cond_false, decide_true, Bool.and_true, Bool.true_and, Bool.and_self, Bool.and_false, Bool.false_and, Bool.not_true, Bool.not_false, Bool.or_true, Bool.true_or, Bool.or_false, Bool.false_or, is_some, gd_some, bk_v, bk_u, y_124 La, d219 La ra hd, b239_23, isO_wp, hP_wp, isA_wp, y_P16 La, v_16 La (Or.inr rfl), i_16, h16, b239_29, h211, b239_36, hz _ hfm, w_s]
    rw [show decide (nI n &&& (nI (msk (D 0 5) (has D S t)) ^^^ (-1 : Int32)) = 0) = sbs n (msk (D 0 5) (has D S t)) from rfl]
    rcases i with ⟨i0, i2⟩ | ⟨i0, i2, i3⟩
    · subst i0
      have hz0 : sbs 0 (msk (D 0 5) (has D S t)) = true := sbs_0 _
      have hs0 : sbs 0 (msk (D 0 5) (saf D S (S 17 + d) t k)) = true := sbs_0 _
      rw [hz0, hs0, Bool.true_and] at ok
      have i2' : hI (wp h' 127 (up (Sd S d) 16 0) 18) 124 22 = -1 := by rw [wpf _ _ (by decide)]; exact i2
      simp only [hz0, ok, cond_true, cond_false, decide_true, Bool.and_true, Bool.true_and, Bool.and_self, Bool.and_false, Bool.false_and, Bool.not_true, Bool.not_false, Bool.or_true, Bool.true_or, Bool.or_false, Bool.false_or, is_some, gd_some, bk_v, bk_u, y_124 La, h213' hs0, b239_45, d235a L2 i2', b239_46, isO_wp, w_s]
      refine ⟨_, ⟨QF_wI (QF_wI q2 _ (by unfold qs; omega)) _ (by unfold qs; omega), Or.inr ⟨by omega, ?_, ?_⟩⟩, rfl⟩
      · show hI (wI (wI _ 124 22 _) 124 23 _) 124 22 = _
        rw [hI_wI, if_neg (by omega), hI_wI, if_pos ⟨rfl, rfl⟩]; rfl
      · show hI (wI (wI _ 124 22 _) 124 23 _) 124 23 = _
        rw [hI_wI, if_pos ⟨rfl, rfl⟩]; rfl
    · obtain ⟨p, rfl⟩ : ∃ p, n = p + 1 := ⟨n - 1, by omega⟩
      rw [Nat.add_sub_cancel] at i2 i3
      have hb := hiR_p w hd' S t k p
      have i2' : hI (wp h' 127 (up (Sd S d) 16 (p + 1)) 18) 124 22 = nI (hiR D S (S 17 + d) t k p).2 := by rw [wpf _ _ (by decide)]; exact i2
      have i3' : hI (wp h' 127 (up (Sd S d) 16 (p + 1)) 18) 124 23 = nI (hiR D S (S 17 + d) t k p).1 := by rw [wpf _ _ (by decide)]; exact i3
      have hst : hiR D S (S 17 + d) t k (p + 1) = hiS D S (S 17 + d) t k p (hiR D S (S 17 + d) t k p) := rfl
      unfold hiS tks2 at hst
      cases c0 : sbs (p + 1) (msk (D 0 5) (saf D S (S 17 + d) t k)) with
      | false =>
        rw [c0, cond_false] at hst
        rw [c0] at ok
        cases c1 : sbs (p + 1) (msk (D 0 5) (has D S t)) with
        | false => exact ⟨_, ⟨q, Or.inr ⟨by omega, by rw [Nat.add_sub_cancel, hst]; exact i2, by rw [Nat.add_sub_cancel, hst]; exact i3⟩⟩, rfl⟩
        | true =>
          rw [c1, Bool.true_and] at ok
          simp only [ok, cond_true, cond_false, decide_true, Bool.and_true, Bool.true_and, Bool.and_self, Bool.and_false, Bool.false_and, Bool.not_true, Bool.not_false, Bool.or_true, Bool.true_or, Bool.or_false, Bool.false_or, is_some, gd_some, bk_v, bk_u]
          exact ⟨_, ⟨q2, Or.inr ⟨by omega, by rw [Nat.add_sub_cancel, hst]; exact i2', by rw [Nat.add_sub_cancel, hst]; exact i3'⟩⟩, rfl⟩
      | true =>
        rw [c0, cond_true] at hst
        rw [c0, Bool.and_eq_true] at ok
        simp only [ok.1, ok.2, cond_true, cond_false, decide_true, Bool.and_true, Bool.true_and, Bool.and_self, Bool.and_false, Bool.false_and, Bool.not_true, Bool.not_false, Bool.or_true, Bool.true_or, Bool.or_false, Bool.false_or, is_some, gd_some, bk_v, bk_u, y_124 La, h213' c0, b239_45, d235 L2 (a := hiA D S (S 17 + d) t (p + 1)) (m := p + 1) (q := hiR D S (S 17 + d) t k p) (by omega) hn8 (by omega) (by omega) i2' i3', b239_46, isO_wp, w_s]
        cases c3 : btr (hiA D S (S 17 + d) t (p + 1)) (p + 1) (hiR D S (S 17 + d) t k p).2 (hiR D S (S 17 + d) t k p).1 with
        | false =>
          rw [c3, cond_false] at hst
          exact ⟨_, ⟨q2, Or.inr ⟨by omega, by rw [Nat.add_sub_cancel, hst]; exact i2', by rw [Nat.add_sub_cancel, hst]; exact i3'⟩⟩, rfl⟩
        | true =>
          rw [c3, cond_true] at hst
          refine ⟨_, ⟨QF_wI (QF_wI q2 _ (by unfold qs; omega)) _ (by unfold qs; omega), Or.inr ⟨by omega, ?_, ?_⟩⟩, rfl⟩
          · show hI (wI (wI _ 124 22 _) 124 23 _) 124 22 = _
            rw [Nat.add_sub_cancel, hst, hI_wI, if_neg (by omega), hI_wI, if_pos ⟨rfl, rfl⟩]
          · show hI (wI (wI _ 124 22 _) 124 23 _) 124 23 = _
            rw [Nat.add_sub_cancel, hst, hI_wI, if_pos ⟨rfl, rfl⟩]) (wI h 124 22 (-1)) ⟨q1, Or.inl ⟨rfl, by rw [hI_wI, if_pos ⟨rfl, rfl⟩]⟩⟩
  rcases i2 with ⟨i0, -⟩ | ⟨-, i2, i3⟩
  · omega
  · rw [Nat.add_sub_cancel, hiR_ext (saf_le w _ _ _) hH] at i2 i3
    refine ⟨a', ?_, i1, i2, i3⟩
    refine Eq.trans e ?_
    show R 239 9 [some (.ref 124), some (.int (nI t)), some (.int (nI k)), some (.int (nI d)), some (.int (nI (msk (D 0 5) (has D S t)))), some (.int (nI (msk (D 0 5) (has D S t) + 1)))] [] a' = _
    rw [b239_9, dT (show nI (msk (D 0 5) (has D S t)) < nI (msk (D 0 5) (has D S t) + 1) by rw [w_lt (by omega) (by omega)]; omega)]
    rfl
theorem m237 {h : A_H} {B : Nat} {D : Gh} {S : Nat → Nat} (L : Ly h) (hB : hP h 124 3 = some B) (l : ML h B) (w : WF D) (b : MB h B D) (u : WD D S) (r : RW h 126 S) {t k d : Nat} (ht : t < D 0 3) (hk : k < D 0 4) (hd : d ≤ 60) : Qe 237 [.ref 124, .int (nI t), .int (nI k), .int (nI d)] h (nI (eaR D S (S 17 + d) t k (msk (D 0 5) (has D S t))).1) 0 := by
  have L1 : Ly (wI h 124 0 0) := L; have hB1 : hP (wI h 124 0 0) 124 3 = some B := hB; have l1 : ML (wI h 124 0 0) B := l; have b1 : MB (wI h 124 0 0) B D := MB_wI l (by decide) b; have r1 : RW (wI h 124 0 0) 126 S := RW_wI (by decide) r
  have L2 : Ly (wp (wI h 124 0 0) 127 (Sd S d) 18) := L; have hB2 : hP (wp (wI h 124 0 0) 127 (Sd S d) 18) 124 3 = some B := hB; have l2 : ML (wp (wI h 124 0 0) 127 (Sd S d) 18) B := l; have b2 : MB (wp (wI h 124 0 0) 127 (Sd S d) 18) B D := MB_wp l1 (by decide) b1; have r2 := RW_wp (wI h 124 0 0) 127 (Sd S d); have v2 : isV 127 := Or.inr rfl; have ws2 : WS (Sd S d) := WS_Sd w u hd
  have := f_nt w
  have := f_ng w
  have q2 : QF (wI h 124 0 0) (wp (wI h 124 0 0) 127 (Sd S d) 18) := QF_wp (QF.rfl' _) _ _
  obtain ⟨h', e, q, e22, e23⟩ := d236 L2 hB2 l2 w b2 u (RW_QF q2 r1) ht hk hd
  have q' := (QF_0 h).trans' (q2.trans' q)
  have L3 := Ly_QF q' L
  refine Qe_of (h' := h') ?_ q'
  rw [e237]
  simp only [b237_0, b237_3, b237_7, b237_11, b237_17, b237_23, b237_29, b237_33, cond_true, cond_false, decide_true, Bool.and_true, Bool.true_and, Bool.and_self, Bool.and_false, Bool.false_and, Bool.not_true, Bool.not_false, Bool.or_true, Bool.true_or, Bool.or_false, Bool.false_or, is_some, gd_some, bk_v, bk_u, hP_wI, isO_wI, isA_wI, hP_wp, isO_wp, isA_wp, y_124 L, y_P15 L, y_P16 L, hB, d200 L1 hB1 l1 b1, vd_of (show D 0 3 < 2147483648 by omega) ht, bI_T, d202 L1 hB1 l1 b1, vd_of (show D 0 4 < 2147483648 by omega) hk, i1_0, d219 L1 r1 hd, c00, e, y_124 L3, e23, d158 L3]
theorem m237b {h : A_H} {D : Gh} (L : Ly h) (q : Mq h D) {x y z : Int32} (e : decide (eit (eit (gv (D 0 3) x) (gv (D 0 4) y)) (dv z) = 0) = false) : C 237 [.ref 124, .int x, .int y, .int z] h = some (some (some (.int (-1))), wI (wI (wI h 124 0 0) 124 1 (eit (eit (gv (D 0 3) x) (gv (D 0 4) y)) (dv z))) 124 2 (-1)) := by
  have L1 : Ly (wI h 124 0 0) := L
  have q1 := Mq_wI (j := 0) (v := 0) (show 124 < 134 by decide) q
  rcases tgd_bad e with ⟨e1, e2⟩ | ⟨e1, e3, e2⟩ | ⟨e1, e3, e4, e2⟩
  · rw [e2, e237]
    simp only [b237_0, b237_3, b237_7, b237_11, b237_17, b237_23, b237_29, b237_33, cond_true, cond_false, decide_true, Bool.and_true, Bool.true_and, Bool.and_self, Bool.and_false, Bool.false_and, Bool.not_true, Bool.not_false, Bool.or_true, Bool.true_or, Bool.or_false, Bool.false_or, is_some, gd_some, bk_v, bk_u, isO_wI, y_124 L, q200 L1 q1, e1, bI_F, d219y L1, c01, d155 L1]
  · rw [e2, e237]
    simp only [b237_0, b237_3, b237_7, b237_11, b237_17, b237_23, b237_29, b237_33, cond_true, cond_false, decide_true, Bool.and_true, Bool.true_and, Bool.and_self, Bool.and_false, Bool.false_and, Bool.not_true, Bool.not_false, Bool.or_true, Bool.true_or, Bool.or_false, Bool.false_or, is_some, gd_some, bk_v, bk_u, isO_wI, y_124 L, q200 L1 q1, e1, bI_T, i1_0, q202 L1 q1, e3, bI_F, d219y L1, c01, d155 L1]
  · rw [e2, e237]
    simp only [b237_0, b237_3, b237_7, b237_11, b237_17, b237_23, b237_29, b237_33, cond_true, cond_false, decide_true, Bool.and_true, Bool.true_and, Bool.and_self, Bool.and_false, Bool.false_and, Bool.not_true, Bool.not_false, Bool.or_true, Bool.true_or, Bool.or_false, Bool.false_or, is_some, gd_some, bk_v, bk_u, isO_wI, y_124 L, q200 L1 q1, e1, bI_T, i1_0, q202 L1 q1, e3, d219x L1 e4, c02, d155 L1]
theorem m238 {h : A_H} {B : Nat} {D : Gh} {S : Nat → Nat} (L : Ly h) (hB : hP h 124 3 = some B) (l : ML h B) (w : WF D) (b : MB h B D) (u : WD D S) (r : RW h 126 S) {t k d : Nat} (ht : t < D 0 3) (hk : k < D 0 4) (hd : d ≤ 60) : Qe 238 [.ref 124, .int (nI t), .int (nI k), .int (nI d)] h (nI (eaR D S (S 17 + d) t k (msk (D 0 5) (has D S t))).2) 0 := by
  have L1 : Ly (wI h 124 0 0) := L; have hB1 : hP (wI h 124 0 0) 124 3 = some B := hB; have l1 : ML (wI h 124 0 0) B := l; have b1 : MB (wI h 124 0 0) B D := MB_wI l (by decide) b; have r1 : RW (wI h 124 0 0) 126 S := RW_wI (by decide) r
  have L2 : Ly (wp (wI h 124 0 0) 127 (Sd S d) 18) := L; have hB2 : hP (wp (wI h 124 0 0) 127 (Sd S d) 18) 124 3 = some B := hB; have l2 : ML (wp (wI h 124 0 0) 127 (Sd S d) 18) B := l; have b2 : MB (wp (wI h 124 0 0) 127 (Sd S d) 18) B D := MB_wp l1 (by decide) b1; have r2 := RW_wp (wI h 124 0 0) 127 (Sd S d); have v2 : isV 127 := Or.inr rfl; have ws2 : WS (Sd S d) := WS_Sd w u hd
  have := f_nt w
  have := f_ng w
  have q2 : QF (wI h 124 0 0) (wp (wI h 124 0 0) 127 (Sd S d) 18) := QF_wp (QF.rfl' _) _ _
  obtain ⟨h', e, q, e22, e23⟩ := d236 L2 hB2 l2 w b2 u (RW_QF q2 r1) ht hk hd
  have q' := (QF_0 h).trans' (q2.trans' q)
  have L3 := Ly_QF q' L
  refine Qe_of (h' := h') ?_ q'
  rw [e238]
  simp only [b238_0, b238_3, b238_7, b238_11, b238_17, b238_23, b238_29, b238_33, cond_true, cond_false, decide_true, Bool.and_true, Bool.true_and, Bool.and_self, Bool.and_false, Bool.false_and, Bool.not_true, Bool.not_false, Bool.or_true, Bool.true_or, Bool.or_false, Bool.false_or, is_some, gd_some, bk_v, bk_u, hP_wI, isO_wI, isA_wI, hP_wp, isO_wp, isA_wp, y_124 L, y_P15 L, y_P16 L, hB, d200 L1 hB1 l1 b1, vd_of (show D 0 3 < 2147483648 by omega) ht, bI_T, d202 L1 hB1 l1 b1, vd_of (show D 0 4 < 2147483648 by omega) hk, i1_0, d219 L1 r1 hd, c00, e, y_124 L3, e22, d158 L3]
theorem m238b {h : A_H} {D : Gh} (L : Ly h) (q : Mq h D) {x y z : Int32} (e : decide (eit (eit (gv (D 0 3) x) (gv (D 0 4) y)) (dv z) = 0) = false) : C 238 [.ref 124, .int x, .int y, .int z] h = some (some (some (.int (-1))), wI (wI (wI h 124 0 0) 124 1 (eit (eit (gv (D 0 3) x) (gv (D 0 4) y)) (dv z))) 124 2 (-1)) := by
  have L1 : Ly (wI h 124 0 0) := L
  have q1 := Mq_wI (j := 0) (v := 0) (show 124 < 134 by decide) q
  rcases tgd_bad e with ⟨e1, e2⟩ | ⟨e1, e3, e2⟩ | ⟨e1, e3, e4, e2⟩
  · rw [e2, e238]
    simp only [b238_0, b238_3, b238_7, b238_11, b238_17, b238_23, b238_29, b238_33, cond_true, cond_false, decide_true, Bool.and_true, Bool.true_and, Bool.and_self, Bool.and_false, Bool.false_and, Bool.not_true, Bool.not_false, Bool.or_true, Bool.true_or, Bool.or_false, Bool.false_or, is_some, gd_some, bk_v, bk_u, isO_wI, y_124 L, q200 L1 q1, e1, bI_F, d219y L1, c01, d155 L1]
  · rw [e2, e238]
    simp only [b238_0, b238_3, b238_7, b238_11, b238_17, b238_23, b238_29, b238_33, cond_true, cond_false, decide_true, Bool.and_true, Bool.true_and, Bool.and_self, Bool.and_false, Bool.false_and, Bool.not_true, Bool.not_false, Bool.or_true, Bool.true_or, Bool.or_false, Bool.false_or, is_some, gd_some, bk_v, bk_u, isO_wI, y_124 L, q200 L1 q1, e1, bI_T, i1_0, q202 L1 q1, e3, bI_F, d219y L1, c01, d155 L1]
  · rw [e2, e238]
    simp only [b238_0, b238_3, b238_7, b238_11, b238_17, b238_23, b238_29, b238_33, cond_true, cond_false, decide_true, Bool.and_true, Bool.true_and, Bool.and_self, Bool.and_false, Bool.false_and, Bool.not_true, Bool.not_false, Bool.or_true, Bool.true_or, Bool.or_false, Bool.false_or, is_some, gd_some, bk_v, bk_u, isO_wI, y_124 L, q200 L1 q1, e1, bI_T, i1_0, q202 L1 q1, e3, d219x L1 e4, c02, d155 L1]
theorem m240 {h : A_H} {B : Nat} {D : Gh} {S : Nat → Nat} (L : Ly h) (hB : hP h 124 3 = some B) (l : ML h B) (w : WF D) (b : MB h B D) (u : WD D S) (r : RW h 126 S) {t k d : Nat} (ht : t < D 0 3) (hk : k < D 0 4) (hd : d ≤ 60) : Qe 240 [.ref 124, .int (nI t), .int (nI k), .int (nI d)] h (nI (hiR D S (S 17 + d) t k (msk (D 0 5) (saf D S (S 17 + d) t k))).1) 0 := by
  have L1 : Ly (wI h 124 0 0) := L; have hB1 : hP (wI h 124 0 0) 124 3 = some B := hB; have l1 : ML (wI h 124 0 0) B := l; have b1 : MB (wI h 124 0 0) B D := MB_wI l (by decide) b; have r1 : RW (wI h 124 0 0) 126 S := RW_wI (by decide) r
  have L2 : Ly (wp (wI h 124 0 0) 127 (Sd S d) 18) := L; have hB2 : hP (wp (wI h 124 0 0) 127 (Sd S d) 18) 124 3 = some B := hB; have l2 : ML (wp (wI h 124 0 0) 127 (Sd S d) 18) B := l; have b2 : MB (wp (wI h 124 0 0) 127 (Sd S d) 18) B D := MB_wp l1 (by decide) b1; have r2 := RW_wp (wI h 124 0 0) 127 (Sd S d); have v2 : isV 127 := Or.inr rfl; have ws2 : WS (Sd S d) := WS_Sd w u hd
  have := f_nt w
  have := f_ng w
  have q2 : QF (wI h 124 0 0) (wp (wI h 124 0 0) 127 (Sd S d) 18) := QF_wp (QF.rfl' _) _ _
  obtain ⟨h', e, q, e22, e23⟩ := d239 L2 hB2 l2 w b2 u (RW_QF q2 r1) ht hk hd
  have q' := (QF_0 h).trans' (q2.trans' q)
  have L3 := Ly_QF q' L
  refine Qe_of (h' := h') ?_ q'
  rw [e240]
  simp only [b240_0, b240_3, b240_7, b240_11, b240_17, b240_23, b240_29, b240_33, cond_true, cond_false, decide_true, Bool.and_true, Bool.true_and, Bool.and_self, Bool.and_false, Bool.false_and, Bool.not_true, Bool.not_false, Bool.or_true, Bool.true_or, Bool.or_false, Bool.false_or, is_some, gd_some, bk_v, bk_u, hP_wI, isO_wI, isA_wI, hP_wp, isO_wp, isA_wp, y_124 L, y_P15 L, y_P16 L, hB, d200 L1 hB1 l1 b1, vd_of (show D 0 3 < 2147483648 by omega) ht, bI_T, d202 L1 hB1 l1 b1, vd_of (show D 0 4 < 2147483648 by omega) hk, i1_0, d219 L1 r1 hd, c00, e, y_124 L3, e23, d158 L3]
theorem m240b {h : A_H} {D : Gh} (L : Ly h) (q : Mq h D) {x y z : Int32} (e : decide (eit (eit (gv (D 0 3) x) (gv (D 0 4) y)) (dv z) = 0) = false) : C 240 [.ref 124, .int x, .int y, .int z] h = some (some (some (.int (-1))), wI (wI (wI h 124 0 0) 124 1 (eit (eit (gv (D 0 3) x) (gv (D 0 4) y)) (dv z))) 124 2 (-1)) := by
  have L1 : Ly (wI h 124 0 0) := L
  have q1 := Mq_wI (j := 0) (v := 0) (show 124 < 134 by decide) q
  rcases tgd_bad e with ⟨e1, e2⟩ | ⟨e1, e3, e2⟩ | ⟨e1, e3, e4, e2⟩
  · rw [e2, e240]
    simp only [b240_0, b240_3, b240_7, b240_11, b240_17, b240_23, b240_29, b240_33, cond_true, cond_false, decide_true, Bool.and_true, Bool.true_and, Bool.and_self, Bool.and_false, Bool.false_and, Bool.not_true, Bool.not_false, Bool.or_true, Bool.true_or, Bool.or_false, Bool.false_or, is_some, gd_some, bk_v, bk_u, isO_wI, y_124 L, q200 L1 q1, e1, bI_F, d219y L1, c01, d155 L1]
  · rw [e2, e240]
    simp only [b240_0, b240_3, b240_7, b240_11, b240_17, b240_23, b240_29, b240_33, cond_true, cond_false, decide_true, Bool.and_true, Bool.true_and, Bool.and_self, Bool.and_false, Bool.false_and, Bool.not_true, Bool.not_false, Bool.or_true, Bool.true_or, Bool.or_false, Bool.false_or, is_some, gd_some, bk_v, bk_u, isO_wI, y_124 L, q200 L1 q1, e1, bI_T, i1_0, q202 L1 q1, e3, bI_F, d219y L1, c01, d155 L1]
  · rw [e2, e240]
    simp only [b240_0, b240_3, b240_7, b240_11, b240_17, b240_23, b240_29, b240_33, cond_true, cond_false, decide_true, Bool.and_true, Bool.true_and, Bool.and_self, Bool.and_false, Bool.false_and, Bool.not_true, Bool.not_false, Bool.or_true, Bool.true_or, Bool.or_false, Bool.false_or, is_some, gd_some, bk_v, bk_u, isO_wI, y_124 L, q200 L1 q1, e1, bI_T, i1_0, q202 L1 q1, e3, d219x L1 e4, c02, d155 L1]
theorem m241 {h : A_H} {B : Nat} {D : Gh} {S : Nat → Nat} (L : Ly h) (hB : hP h 124 3 = some B) (l : ML h B) (w : WF D) (b : MB h B D) (u : WD D S) (r : RW h 126 S) {t k d : Nat} (ht : t < D 0 3) (hk : k < D 0 4) (hd : d ≤ 60) : Qe 241 [.ref 124, .int (nI t), .int (nI k), .int (nI d)] h (nI (hiR D S (S 17 + d) t k (msk (D 0 5) (saf D S (S 17 + d) t k))).2) 0 := by
  have L1 : Ly (wI h 124 0 0) := L; have hB1 : hP (wI h 124 0 0) 124 3 = some B := hB; have l1 : ML (wI h 124 0 0) B := l; have b1 : MB (wI h 124 0 0) B D := MB_wI l (by decide) b; have r1 : RW (wI h 124 0 0) 126 S := RW_wI (by decide) r
  have L2 : Ly (wp (wI h 124 0 0) 127 (Sd S d) 18) := L; have hB2 : hP (wp (wI h 124 0 0) 127 (Sd S d) 18) 124 3 = some B := hB; have l2 : ML (wp (wI h 124 0 0) 127 (Sd S d) 18) B := l; have b2 : MB (wp (wI h 124 0 0) 127 (Sd S d) 18) B D := MB_wp l1 (by decide) b1; have r2 := RW_wp (wI h 124 0 0) 127 (Sd S d); have v2 : isV 127 := Or.inr rfl; have ws2 : WS (Sd S d) := WS_Sd w u hd
  have := f_nt w
  have := f_ng w
  have q2 : QF (wI h 124 0 0) (wp (wI h 124 0 0) 127 (Sd S d) 18) := QF_wp (QF.rfl' _) _ _
  obtain ⟨h', e, q, e22, e23⟩ := d239 L2 hB2 l2 w b2 u (RW_QF q2 r1) ht hk hd
  have q' := (QF_0 h).trans' (q2.trans' q)
  have L3 := Ly_QF q' L
  refine Qe_of (h' := h') ?_ q'
  rw [e241]
  simp only [b241_0, b241_3, b241_7, b241_11, b241_17, b241_23, b241_29, b241_33, cond_true, cond_false, decide_true, Bool.and_true, Bool.true_and, Bool.and_self, Bool.and_false, Bool.false_and, Bool.not_true, Bool.not_false, Bool.or_true, Bool.true_or, Bool.or_false, Bool.false_or, is_some, gd_some, bk_v, bk_u, hP_wI, isO_wI, isA_wI, hP_wp, isO_wp, isA_wp, y_124 L, y_P15 L, y_P16 L, hB, d200 L1 hB1 l1 b1, vd_of (show D 0 3 < 2147483648 by omega) ht, bI_T, d202 L1 hB1 l1 b1, vd_of (show D 0 4 < 2147483648 by omega) hk, i1_0, d219 L1 r1 hd, c00, e, y_124 L3, e22, d158 L3]
theorem m241b {h : A_H} {D : Gh} (L : Ly h) (q : Mq h D) {x y z : Int32} (e : decide (eit (eit (gv (D 0 3) x) (gv (D 0 4) y)) (dv z) = 0) = false) : C 241 [.ref 124, .int x, .int y, .int z] h = some (some (some (.int (-1))), wI (wI (wI h 124 0 0) 124 1 (eit (eit (gv (D 0 3) x) (gv (D 0 4) y)) (dv z))) 124 2 (-1)) := by
  have L1 : Ly (wI h 124 0 0) := L
  have q1 := Mq_wI (j := 0) (v := 0) (show 124 < 134 by decide) q
  rcases tgd_bad e with ⟨e1, e2⟩ | ⟨e1, e3, e2⟩ | ⟨e1, e3, e4, e2⟩
  · rw [e2, e241]
    simp only [b241_0, b241_3, b241_7, b241_11, b241_17, b241_23, b241_29, b241_33, cond_true, cond_false, decide_true, Bool.and_true, Bool.true_and, Bool.and_self, Bool.and_false, Bool.false_and, Bool.not_true, Bool.not_false, Bool.or_true, Bool.true_or, Bool.or_false, Bool.false_or, is_some, gd_some, bk_v, bk_u, isO_wI, y_124 L, q200 L1 q1, e1, bI_F, d219y L1, c01, d155 L1]
  · rw [e2, e241]
    simp only [b241_0, b241_3, b241_7, b241_11, b241_17, b241_23, b241_29, b241_33, cond_true, cond_false, decide_true, Bool.and_true, Bool.true_and, Bool.and_self, Bool.and_false, Bool.false_and, Bool.not_true, Bool.not_false, Bool.or_true, Bool.true_or, Bool.or_false, Bool.false_or, is_some, gd_some, bk_v, bk_u, isO_wI, y_124 L, q200 L1 q1, e1, bI_T, i1_0, q202 L1 q1, e3, bI_F, d219y L1, c01, d155 L1]
  · rw [e2, e241]
    simp only [b241_0, b241_3, b241_7, b241_11, b241_17, b241_23, b241_29, b241_33, cond_true, cond_false, decide_true, Bool.and_true, Bool.true_and, Bool.and_self, Bool.and_false, Bool.false_and, Bool.not_true, Bool.not_false, Bool.or_true, Bool.true_or, Bool.or_false, Bool.false_or, is_some, gd_some, bk_v, bk_u, isO_wI, y_124 L, q200 L1 q1, e1, bI_T, i1_0, q202 L1 q1, e3, d219x L1 e4, c02, d155 L1]
def FR (P : Nat → Nat → Prop) (h h' : A_H) : Prop := hn h' = hn h ∧ hs h' = hs h ∧ hsh h' = hsh h ∧ hL h' = hL h ∧ hP h' = hP h ∧ hX h' = hX h ∧ ∀ a b, ¬ P a b → hI h' a b = hI h a b
theorem FR_rfl (P : Nat → Nat → Prop) (h : A_H) : FR P h h := ⟨rfl, rfl, rfl, rfl, rfl, rfl, fun _ _ _ => rfl⟩
theorem FR_tr {P : Nat → Nat → Prop} {h h' h'' : A_H} (a : FR P h h') (b : FR P h' h'') : FR P h h'' := ⟨b.1.trans a.1, b.2.1.trans a.2.1, b.2.2.1.trans a.2.2.1, b.2.2.2.1.trans a.2.2.2.1, b.2.2.2.2.1.trans a.2.2.2.2.1, b.2.2.2.2.2.1.trans a.2.2.2.2.2.1, fun x y n => (b.2.2.2.2.2.2 x y n).trans (a.2.2.2.2.2.2 x y n)⟩
theorem FR_mo {P Q : Nat → Nat → Prop} {h h' : A_H} (m : ∀ a b, P a b → Q a b) (f : FR P h h') : FR Q h h' := ⟨f.1, f.2.1, f.2.2.1, f.2.2.2.1, f.2.2.2.2.1, f.2.2.2.2.2.1, fun a b n => f.2.2.2.2.2.2 a b (fun p => n (m a b p))⟩
theorem FR_wI {P : Nat → Nat → Prop} {h h' : A_H} (a : FR P h h') {k j : Nat} (v : Int32) (q : P k j) : FR P h (wI h' k j v) := FR_tr a ⟨rfl, rfl, rfl, rfl, rfl, rfl, fun x y n => by rw [hI_wI, if_neg (fun e => n (by rw [e.1, e.2]; exact q))]⟩
theorem FR_wp {P : Nat → Nat → Prop} {h h' : A_H} (a : FR P h h') {V : Nat} (S : Nat → Nat) {n : Nat} (q : ∀ b, b < n → P V b) : FR P h (wp h' V S n) := FR_tr a ⟨rfl, rfl, rfl, rfl, rfl, rfl, fun x y m => by rw [hI_wp, if_neg (fun e => m (by rw [e.1]; exact q y e.2))]⟩
theorem FR_Ly {P : Nat → Nat → Prop} {h h' : A_H} (a : FR P h h') (L : Ly h) : Ly h' := by
  obtain ⟨h1, -, h3, -, h5, -, -⟩ := a
  unfold Ly
  rw [h1, h3, h5]
  exact L
theorem FR_P {P : Nat → Nat → Prop} {h h' : A_H} (a : FR P h h') : hP h' = hP h := a.2.2.2.2.1
theorem FR_I {P : Nat → Nat → Prop} {h h' : A_H} (f : FR P h h') {a b : Nat} (n : ¬ P a b) : hI h' a b = hI h a b := f.2.2.2.2.2.2 a b n
theorem FR_CT {P : Nat → Nat → Prop} {h h' : A_H} {T : Nat} {D : Gh} (f : FR P h h') (w : WF D) (c : CT h T D) (n : ∀ k b, T ≤ k → k < T + 35 → ¬ k = T + 9 → ¬ P k b) : CT h' T D := CT_fr w c (fun k b h1 h2 h3 => FR_I f (n k b h1 h2 h3))
theorem FR_CS {P : Nat → Nat → Prop} {h h' : A_H} {N : Nat} {D : Gh} {S : Nat → Nat} (f : FR P h h') (s : CS h N D S) (n : ∀ k b, N ≤ k → k ≤ N + 1 → ¬ P k b) : CS h' N D S := ⟨(FR_I f (n _ _ (by omega) (by omega))).trans s.1, (FR_I f (n _ _ (by omega) (by omega))).trans s.2.1, (FR_I f (n _ _ (by omega) (by omega))).trans s.2.2.1, (FR_I f (n _ _ (by omega) (by omega))).trans s.2.2.2.1, (FR_I f (n _ _ (by omega) (by omega))).trans s.2.2.2.2.1, fun t ht => (FR_I f (n _ _ (by omega) (by omega))).trans (s.2.2.2.2.2 t ht)⟩
theorem FR_ML {P : Nat → Nat → Prop} {h h' : A_H} {B : Nat} (a : FR P h h') (l : ML h B) : ML h' B := by
  obtain ⟨h1, -, h3, -, h5, -, -⟩ := a
  unfold ML
  rw [h1, h3, h5]
  exact l
theorem FR_MB {P : Nat → Nat → Prop} {h h' : A_H} {B : Nat} {D : Gh} (f : FR P h h') (b : MB h B D) (n : ∀ k j, B ≤ k → ¬ P k j) : MB h' B D := MB_fr b (fun k j hk => FR_I f (n k j hk))
def stF (N a b : Nat) : Prop := a = N ∨ a = N + 1
def S0t (D : Gh) (t : Nat) : Nat → Nat := fun k => if 8 ≤ k ∧ k < 8 + t then D 8 (k - 8) else 0
def S0 (D : Gh) : Nat → Nat := up (S0t D (D 0 3)) 16 (D 0 8)
theorem S0_g {D : Gh} {g : Nat} (hg : g < 8) : S0 D g = 0 := by
  show (if g = 16 then _ else if 8 ≤ g ∧ g < 8 + D 0 3 then _ else 0) = 0
  rw [if_neg (by omega), if_neg (by omega)]
theorem S0_8 {D : Gh} (w : WF D) {t : Nat} (ht : t < D 0 3) : S0 D (8 + t) = D 8 t := by
  have := f_nt w
  show (if 8 + t = 16 then _ else if 8 ≤ 8 + t ∧ 8 + t < 8 + D 0 3 then D 8 (8 + t - 8) else 0) = D 8 t
  rw [if_neg (by omega), if_pos (by omega), Nat.add_sub_cancel_left]
theorem S0_12 {D : Gh} (w : WF D) {t : Nat} (ht : t < 4) : S0 D (12 + t) = 0 := by
  have := f_nt w
  show (if 12 + t = 16 then _ else if 8 ≤ 12 + t ∧ 12 + t < 8 + D 0 3 then _ else 0) = 0
  rw [if_neg (by omega), if_neg (by omega)]
theorem S0_16 (D : Gh) : S0 D 16 = D 0 8 := rfl
theorem S0_17 {D : Gh} (w : WF D) : S0 D 17 = 0 := by
  have := f_nt w
  show (if 17 = 16 then D 0 8 else if 8 ≤ 17 ∧ 17 < 8 + D 0 3 then D 8 (17 - 8) else 0) = 0
  rw [if_neg (by omega), if_neg (by omega)]
theorem cnt_z {n : Nat} {p : Nat → Bool} (h : ∀ k, k < n → p k = false) : cnt n p = 0 := by
  rw [cnt_congr (q := fun _ => false) h]
  clear h
  induction n with
  | zero => rfl
  | succ n ih => rw [cnt_s, ih]; rfl
theorem WD_S0 {D : Gh} (w : WF D) : WD D (S0 D) := by
  have h8 := f_nG w
  refine ⟨by rw [S0_17 w]; decide, fun g hg => by rw [S0_g hg]; decide, f_hid w, fun g _ hg => S0_g hg, fun t ht => ?_⟩
  rw [S0_8 w ht, cnt_z]
  · rfl
  · intro k hk
    unfold is
    rw [S0_g (by omega)]
    simp
theorem is_S0 {D : Gh} (w : WF D) {x : Nat} (hx : ¬ x = 0) : msk (D 0 5) (is (S0 D) x) = 0 := by
  have h8 := f_nG w
  rw [msk_z]
  intro g hg
  unfold is
  rw [S0_g (by omega)]
  exact dF (fun e => hx e.symm)
theorem isO_wp' (h : A_H) (V : Nat) (S : Nat → Nat) (n k ci : Nat) : isO (wp h V S n) k ci = isO h k ci := by rw [isO_wp]
theorem isA_wp' (h : A_H) (V : Nat) (S : Nat → Nat) (n k tg : Nat) (i : Int32) : isA (wp h V S n) k tg i = isA h k tg i := by rw [isA_wp]
theorem hP_wp' (h : A_H) (V : Nat) (S : Nat → Nat) (n k j : Nat) : hP (wp h V S n) k j = hP h k j := by rw [hP_wp]
theorem wp_s' {h : A_H} {V n : Nat} {S : Nat → Nat} {v : Int32} (e : v = nI (S n)) : wI (wp h V S n) V n v = wp h V S (n + 1) := by rw [e]; exact wp_s h V S n
theorem c49 {h : A_H} {N T : Nat} {D : Gh} (L : Ly h) (hN : N ∈ stN) (hT : isT T) (w : WF D) (c : CT h T D) : ∃ h', C 49 [.ref N, .ref T] h = some (some none, h') ∧ CS h' N D (S0 D) ∧ FR (stF N) h h' := by
  have hT8 : ¬ T = N := by
    rcases hT with rfl | rfl
    · intro e; rw [← e] at hN; exact absurd hN (by decide)
    · intro e; rw [← e] at hN; exact absurd hN (by decide)
  have h8 : hI (wI (wI (wI (wI h N 0 0) N 1 0) N 2 0) N 3 0) T 8 = nI (D 0 8) := by
    simp only [hI_wI]
    rw [if_neg (fun e => hT8 e.1), if_neg (fun e => hT8 e.1), if_neg (fun e => hT8 e.1), if_neg (fun e => hT8 e.1)]
    exact c_s8 c
  refine ⟨wp (wI (wI (wI (wI (wI h N 0 0) N 1 0) N 2 0) N 3 0) N 4 (nI (D 0 8))) (N + 1) (fun _ => 0) 4, ?_, ?_, ?_⟩
  · rw [e49]
    simp only [b49_0, b49_3, b49_6, b49_9, b49_12, b49_16, cond_true, cond_false, decide_true, Bool.and_true, Bool.true_and, Bool.and_self, Bool.and_false, Bool.false_and, Bool.not_true, Bool.not_false, Bool.or_true, Bool.true_or, Bool.or_false, Bool.false_or, is_some, gd_some, bk_v, bk_u, isO_wI, n_O L hN, t_O L hT, h8]
    generalize hg : wI (wI (wI (wI (wI h N 0 0) N 1 0) N 2 0) N 3 0) N 4 (nI (D 0 8)) = h1
    have L1 : Ly h1 := by rw [← hg]; exact L
    have e0 := loop_ix (fun t => R 49 18 [some (.ref N), some (.ref T), some (.int (nI t))] [] (wp h1 (N + 1) (fun _ => 0) t)) 4 (by
      intro t ht
      rw [b49_18, show (4 : Int32) = nI 4 from rfl, dF (by rw [w_le (by decide) (by omega)]; omega)]
      simp only [cond_true, cond_false, decide_true, Bool.and_true, Bool.true_and, Bool.and_self, Bool.and_false, Bool.false_and, Bool.not_true, Bool.not_false, Bool.or_true, Bool.true_or, Bool.or_false, Bool.false_or, is_some, gd_some, bk_v, bk_u, hP_wp', isO_wp', isA_wp', n_O L1 hN, n_P L1 hN, n_A L1 hN ht, w_cl (show t < 2147483648 by omega), b49_26, w_s]
      rw [wp_s' (v := 0) rfl])
    simp only [wp_0] at e0
    refine Eq.trans e0 ?_
    show R 49 18 [some (.ref N), some (.ref T), some (.int (nI 4))] [] (wp h1 (N + 1) (fun _ => 0) 4) = _
    rw [b49_18, show (4 : Int32) = nI 4 from rfl, dT (Int32.le_refl _), cond_true]
  · refine ⟨?_, ?_, ?_, ?_, ?_, fun t ht => ?_⟩
    · rw [S0_17 w]; simp [hI_wp, hI_wI]; rfl
    · rw [is_S0 w (by decide)]; simp [hI_wp, hI_wI]; rfl
    · rw [is_S0 w (by decide)]; simp [hI_wp, hI_wI]; rfl
    · rw [is_S0 w (by decide)]; simp [hI_wp, hI_wI]; rfl
    · rw [S0_16]; simp [hI_wp, hI_wI]
    · rw [S0_12 w ht, hI_wp, if_pos ⟨rfl, ht⟩]
  · exact FR_wp (FR_wI (FR_wI (FR_wI (FR_wI (FR_wI (FR_rfl _ h) _ (Or.inl rfl)) _ (Or.inl rfl)) _ (Or.inl rfl)) _ (Or.inl rfl)) _ (Or.inl rfl)) _ (fun _ _ => Or.inr rfl)
theorem c50 {h : A_H} {N M : Nat} {D : Gh} {S : Nat → Nat} (L : Ly h) (hN : N ∈ stN) (hM : M ∈ stN) (hNM : ¬ M = N ∧ ¬ M = N + 1 ∧ ¬ M + 1 = N) (s : CS h M D S) : ∃ h', C 50 [.ref N, .ref M] h = some (some none, h') ∧ CS h' N D S ∧ FR (stF N) h h' := by
  obtain ⟨k1, k2, k3⟩ := hNM
  have f : ∀ (h' : A_H) (j : Nat) (v : Int32) (b : Nat), hI (wI h' N j v) M b = hI h' M b := fun h' j v b => by rw [hI_wI, if_neg (fun e => k1 e.1)]
  refine ⟨wp (wI (wI (wI (wI (wI h N 0 (nI (S 17))) N 1 (nI (msk (D 0 5) (is S 1)))) N 2 (nI (msk (D 0 5) (is S 2)))) N 3 (nI (msk (D 0 5) (is S 3)))) N 4 (nI (S 16))) (N + 1) (fun t => S (12 + t)) 4, ?_, ?_, ?_⟩
  · rw [e50]
    simp only [b50_0, b50_4, b50_8, b50_12, b50_16, b50_20, cond_true, cond_false, decide_true, Bool.and_true, Bool.true_and, Bool.and_self, Bool.and_false, Bool.false_and, Bool.not_true, Bool.not_false, Bool.or_true, Bool.true_or, Bool.or_false, Bool.false_or, is_some, gd_some, bk_v, bk_u, isO_wI, n_O L hN, n_O L hM, f, s.1, s.2.1, s.2.2.1, s.2.2.2.1, s.2.2.2.2.1]
    have hp : ∀ t, t < 4 → hI (wI (wI (wI (wI (wI h N 0 (nI (S 17))) N 1 (nI (msk (D 0 5) (is S 1)))) N 2 (nI (msk (D 0 5) (is S 2)))) N 3 (nI (msk (D 0 5) (is S 3)))) N 4 (nI (S 16))) (M + 1) t = nI (S (12 + t)) := by
      intro t ht
      simp only [hI_wI]
      rw [if_neg (fun e => k3 e.1), if_neg (fun e => k3 e.1), if_neg (fun e => k3 e.1), if_neg (fun e => k3 e.1), if_neg (fun e => k3 e.1)]
      exact s.2.2.2.2.2 t ht
    generalize hg : wI (wI (wI (wI (wI h N 0 (nI (S 17))) N 1 (nI (msk (D 0 5) (is S 1)))) N 2 (nI (msk (D 0 5) (is S 2)))) N 3 (nI (msk (D 0 5) (is S 3)))) N 4 (nI (S 16)) = h1 at hp
    have L1 : Ly h1 := by rw [← hg]; exact L
    have e0 := loop_ix (fun t => R 50 22 [some (.ref N), some (.ref M), some (.int (nI t))] [] (wp h1 (N + 1) (fun t => S (12 + t)) t)) 4 (by
      intro t ht
      have hp' : hI (wp h1 (N + 1) (fun t => S (12 + t)) t) (M + 1) t = nI (S (12 + t)) := by
        rw [hI_wp, if_neg (by omega)]; exact hp t ht
      rw [b50_22, show (4 : Int32) = nI 4 from rfl, dF (by rw [w_le (by decide) (by omega)]; omega)]
      simp only [cond_true, cond_false, decide_true, Bool.and_true, Bool.true_and, Bool.and_self, Bool.and_false, Bool.false_and, Bool.not_true, Bool.not_false, Bool.or_true, Bool.true_or, Bool.or_false, Bool.false_or, is_some, gd_some, bk_v, bk_u, hP_wp', isO_wp', isA_wp', n_O L1 hN, n_P L1 hN, n_A L1 hN ht, n_O L1 hM, n_P L1 hM, n_A L1 hM ht, w_cl (show t < 2147483648 by omega), hp', b50_33, w_s]
      rw [wp_s' rfl])
    simp only [wp_0] at e0
    refine Eq.trans e0 ?_
    show R 50 22 [some (.ref N), some (.ref M), some (.int (nI 4))] [] (wp h1 (N + 1) (fun t => S (12 + t)) 4) = _
    rw [b50_22, show (4 : Int32) = nI 4 from rfl, dT (Int32.le_refl _), cond_true]
  · refine ⟨?_, ?_, ?_, ?_, ?_, fun t ht => ?_⟩
    · simp [hI_wp, hI_wI]
    · simp [hI_wp, hI_wI]
    · simp [hI_wp, hI_wI]
    · simp [hI_wp, hI_wI]
    · simp [hI_wp, hI_wI]
    · rw [hI_wp, if_pos ⟨rfl, ht⟩]
  · exact FR_wp (FR_wI (FR_wI (FR_wI (FR_wI (FR_wI (FR_rfl _ h) _ (Or.inl rfl)) _ (Or.inl rfl)) _ (Or.inl rfl)) _ (Or.inl rfl)) _ (Or.inl rfl)) _ (fun _ _ => Or.inr rfl)
def crk (D : Gh) (S : Nat → Nat) (t : Nat) (f : Int32) (n : Nat) : Nat → Nat := fun k => if k < n ∧ has D S t k = true then (bif bt f k then 3 else 2) else S k
def crs (D : Gh) (S : Nat → Nat) (t : Nat) (f : Int32) (a : Nat) : Nat → Nat := up (crk D S t f (D 0 5)) (12 + t) (S (12 + t) + a)
theorem crs_g {D : Gh} {S : Nat → Nat} {t a k : Nat} {f : Int32} (hk : k < D 0 5) (h8 : D 0 5 ≤ 8) : crs D S t f a k = bif has D S t k then (bif bt f k then 3 else 2) else S k := by
  show (if k = 12 + t then _ else if k < D 0 5 ∧ has D S t k = true then _ else S k) = _
  rw [if_neg (by omega)]
  cases hh : has D S t k with
  | true => rw [if_pos ⟨hk, rfl⟩]; rfl
  | false => rw [if_neg (fun c => absurd c.2 (by decide))]; rfl
theorem crs_n {D : Gh} {S : Nat → Nat} {t a k : Nat} {f : Int32} (hk : D 0 5 ≤ k) (hn : ¬ k = 12 + t) : crs D S t f a k = S k := by
  show (if k = 12 + t then _ else if k < D 0 5 ∧ has D S t k = true then _ else S k) = _
  rw [if_neg hn, if_neg (by omega)]
theorem crs_12 {D : Gh} {S : Nat → Nat} {t a : Nat} {f : Int32} : crs D S t f a (12 + t) = S (12 + t) + a := by
  show (if 12 + t = 12 + t then _ else _) = _
  rw [if_pos rfl]
theorem has_0 {D : Gh} {S : Nat → Nat} {t g : Nat} (h : has D S t g = true) : S g = 0 := by
  unfold has at h
  rw [Bool.and_eq_true] at h
  exact of_decide_eq_true h.2
theorem has_t {D : Gh} {S : Nat → Nat} {t g : Nat} (h : has D S t g = true) : D 14 g = t := by
  unfold has at h
  rw [Bool.and_eq_true] at h
  exact of_decide_eq_true h.1
theorem crs_1 {D : Gh} {S : Nat → Nat} {t a k : Nat} {f : Int32} (hk : k < D 0 5) (h8 : D 0 5 ≤ 8) : is (crs D S t f a) 1 k = is S 1 k := by
  unfold is
  rw [crs_g hk h8]
  cases hh : has D S t k with
  | false => rfl
  | true =>
    rw [has_0 hh]
    cases bt f k <;> rfl
theorem WD_crs {D : Gh} {S : Nat → Nat} (w : WF D) (u : WD D S) {t a : Nat} {f : Int32} (ht : t < D 0 3) : WD D (crs D S t f a) := by
  have h8 := f_nG w
  have h4 := f_nt w
  obtain ⟨u1, u2, u3, u4, u5⟩ := u
  refine ⟨by rw [crs_n (by omega) (by omega)]; exact u1, fun g hg => ?_, by rw [crs_n (by omega) (by omega)]; exact u3, fun g h1 h2 => by rw [crs_n h1 (by omega)]; exact u4 g h1 h2, fun t' ht' => ?_⟩
  · by_cases e : g < D 0 5
    · rw [crs_g e h8]
      cases has D S t g
      · exact u2 g hg
      · rw [cond_true]; cases bt f g <;> decide
    · rw [crs_n (by omega) (by omega)]; exact u2 g hg
  · rw [crs_n (by omega) (by omega), cnt_congr (q := fun g => decide (D 14 g = t') && is S 1 g)]
    · exact u5 t' ht'
    · intro g hg
      simp only [crs_1 hg h8]
theorem c53 {h : A_H} {N : Nat} {D : Gh} {S : Nat → Nat} (L : Ly h) (hN : N ∈ stN) (w : WF D) (u : WD D S) (s : CS h N D S) {t a : Nat} (ht : t < D 0 3) {f : Int32} (hf : ∀ j, j < 32 → bt f j = true → j < D 0 5 ∧ has D S t j = true) : ∃ h', C 53 [.ref N, .int (nI t), .int (nI (msk (D 0 5) (has D S t))), .int f, .int (nI a)] h = some (some none, h') ∧ CS h' N D (crs D S t f a) ∧ FR (stF N) h h' := by
  have h8 := f_nG w
  have ht4 : t < 4 := Nat.lt_of_lt_of_le ht (f_nt w)
  have e3 : nI (msk (D 0 5) (is S 3)) ||| f = nI (msk (D 0 5) (is (crs D S t f a) 3)) := by
    apply i_ext
    intro j hj
    rw [bt_or, bt_msk _ hj, bt_msk _ hj]
    by_cases e : j < D 0 5
    · rw [dT e, Bool.true_and, Bool.true_and]
      unfold is
      rw [crs_g e h8]
      cases hb : bt f j with
      | true => rw [(hf j hj hb).2]; simp
      | false =>
        cases hh : has D S t j with
        | false => simp
        | true => rw [has_0 hh]; rfl
    · rw [dF e]
      cases hb : bt f j with
      | true => exact absurd (hf j hj hb).1 e
      | false => rfl
  have e2 : nI (msk (D 0 5) (is S 2)) ||| (nI (msk (D 0 5) (has D S t)) &&& (f ^^^ (-1 : Int32))) = nI (msk (D 0 5) (is (crs D S t f a) 2)) := by
    apply i_ext
    intro j hj
    rw [bt_or, bt_and, bt_xm _ hj, bt_msk _ hj, bt_msk _ hj, bt_msk _ hj]
    by_cases e : j < D 0 5
    · rw [dT e, Bool.true_and, Bool.true_and, Bool.true_and]
      unfold is
      rw [crs_g e h8]
      cases hh : has D S t j with
      | false => simp
      | true => rw [has_0 hh]; cases bt f j <;> rfl
    · rw [dF e]; rfl
  have f3 : ∀ v : Int32, hI (wI h N 3 v) N 2 = hI h N 2 := fun v => by rw [hI_wI, if_neg (by omega)]
  have f5 : ∀ v v' : Int32, hI (wI (wI h N 3 v) N 2 v') (N + 1) t = nI (S (12 + t)) := fun v v' => by rw [hI_wI, if_neg (by omega), hI_wI, if_neg (by omega)]; exact s.2.2.2.2.2 t ht4
  refine ⟨wI (wI (wI h N 3 (nI (msk (D 0 5) (is (crs D S t f a) 3)))) N 2 (nI (msk (D 0 5) (is (crs D S t f a) 2)))) (N + 1) t (nI (S (12 + t) + a)), ?_, ?_, ?_⟩
  · rw [e53]
    simp only [b53_0, b53_6, b53_16, b53_24, cond_true, cond_false, decide_true, Bool.and_true, Bool.true_and, Bool.and_self, Bool.and_false, Bool.false_and, Bool.not_true, Bool.not_false, Bool.or_true, Bool.true_or, Bool.or_false, Bool.false_or, is_some, gd_some, bk_v, bk_u, isO_wI, isA_wI, hP_wI, n_O L hN, n_P L hN, n_A L hN ht4, w_cl (show t < 2147483648 by omega), s.2.2.2.1, e3, f3, s.2.2.1, e2, f5, nI_add]
  · refine ⟨?_, ?_, ?_, ?_, ?_, fun t' ht' => ?_⟩
    · rw [crs_n (by omega) (by omega), hI_wI, if_neg (by omega), hI_wI, if_neg (by omega), hI_wI, if_neg (by omega)]; exact s.1
    · rw [msk_congr (q := is S 1) (fun g hg => crs_1 hg h8), hI_wI, if_neg (by omega), hI_wI, if_neg (by omega), hI_wI, if_neg (by omega)]; exact s.2.1
    · rw [hI_wI, if_neg (by omega), hI_wI, if_pos ⟨rfl, rfl⟩]
    · rw [hI_wI, if_neg (by omega), hI_wI, if_neg (by omega), hI_wI, if_pos ⟨rfl, rfl⟩]
    · rw [crs_n (by omega) (by omega), hI_wI, if_neg (by omega), hI_wI, if_neg (by omega), hI_wI, if_neg (by omega)]; exact s.2.2.2.2.1
    · rw [hI_wI]
      by_cases e : t' = t
      · subst e; rw [if_pos ⟨rfl, rfl⟩, crs_12]
      · rw [if_neg (by omega), crs_n (by omega) (by omega), hI_wI, if_neg (by omega), hI_wI, if_neg (by omega)]; exact s.2.2.2.2.2 t' ht'
  · exact FR_wI (FR_wI (FR_wI (FR_rfl _ h) _ (Or.inl rfl)) _ (Or.inl rfl)) _ (Or.inr rfl)
