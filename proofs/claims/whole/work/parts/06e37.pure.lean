def neI (D : Gh) (S : Nat → Nat) (d : Nat) (q : Int32 × Int32) : Prop := q = (-2, -1) ∨ ∃ b, b < D 0 5 ∧ q = (nI b, nI (sme D d b (has0 S) 0))
theorem n_m1le {a : Nat} (ha : a < 1000) : decide ((-1 : Int32) ≤ nI a) = true ∧ decide (nI a ≤ (-1 : Int32)) = false := by
  have e2 : (-1 : Int32).toInt = -1 := rfl
  constructor
  · apply dT; rw [Int32.le_iff_toInt_le, w_int (by omega)]; omega
  · apply dF; rw [Int32.le_iff_toInt_le, w_int (by omega)]; omega
theorem m230 {h : A_H} {B : Nat} {D : Gh} {S : Nat → Nat} (L : Ly h) (hB : hP h 124 3 = some B) (l : ML h B) (w : WF D) (b : MB h B D) (u : WD D S) (r : RW h 126 S) {t k d : Nat} (ht : t < D 0 3) (hk : k < D 0 4) (hd : d ≤ 60) : C 230 [.ref 124, .int (nI t), .int (nI k), .int (nI d)] h = some (some (some (.int (itr (neS D S (S 17 + d) t k) (D 0 5) (-2, -1)).1)), wI (wI (wp (wI h 124 0 0) 127 (Sd S d) 18) 124 1 0) 124 2 (-1)) := by
  have L1 : Ly (wI h 124 0 0) := L; have hB1 : hP (wI h 124 0 0) 124 3 = some B := hB; have l1 : ML (wI h 124 0 0) B := l; have b1 : MB (wI h 124 0 0) B D := MB_wI l (by decide) b; have r1 : RW (wI h 124 0 0) 126 S := RW_wI (by decide) r
  have L2 : Ly (wp (wI h 124 0 0) 127 (Sd S d) 18) := L; have hB2 : hP (wp (wI h 124 0 0) 127 (Sd S d) 18) 124 3 = some B := hB; have l2 : ML (wp (wI h 124 0 0) 127 (Sd S d) 18) B := l; have b2 : MB (wp (wI h 124 0 0) 127 (Sd S d) 18) B D := MB_wp l1 (by decide) b1; have r2 := RW_wp (wI h 124 0 0) 127 (Sd S d); have v2 : isV 127 := Or.inr rfl; have ws2 : WS (Sd S d) := WS_Sd w u hd
  have := f_nt w
  have := f_ng w
  have h8' := f_nG w
  have h17 := u.1
  have hd' : S 17 + d ≤ 1000 := by omega
  have h211 := d211 L2 hB2 l2 v2 w b2 ws2 r2 (show t < 100 by omega) hk (m := 0) (by decide)
  rw [msk_congr (fun g hg => fnd_congr (hs_Sd w t) (fun _ _ => rfl) g hg), show nI 0 = 0 from rfl] at h211
  have h209 : ∀ g, g < D 0 5 → C 209 [.ref 124, .ref 127, .int (nI g), .int 0] (wp (wI h 124 0 0) 127 (Sd S d) 18) = some (some (some (.int (nI (sme D (S 17 + d) g (has0 S) 0)))), wp (wI h 124 0 0) 127 (Sd S d) 18) := by
    intro g hg
    have h209 := d209 L2 hB2 l2 v2 w b2 ws2 r2 hg (m := 0) (by decide)
    rw [show nI 0 = 0 from rfl, sme_congr (h0_Sd w)] at h209
    exact h209
  rw [e230]
  simp only [b230_0, b230_3, b230_7, b230_11, b230_17, b230_23, b230_31, b230_47, b230_53, b230_57, b230_68, b230_74, b230_82, cond_true, cond_false, decide_true, Bool.and_true, Bool.true_and, Bool.and_self, Bool.and_false, Bool.false_and, Bool.not_true, Bool.not_false, Bool.or_true, Bool.true_or, Bool.or_false, Bool.false_or, is_some, gd_some, bk_v, bk_u, hP_wI, isO_wI, isA_wI, hP_wp, isO_wp, isA_wp, y_124 L, y_P15 L, y_P16 L, hB, d200 L1 hB1 l1 b1, vd_of (show D 0 3 < 2147483648 by omega) ht, bI_T, d202 L1 hB1 l1 b1, vd_of (show D 0 4 < 2147483648 by omega) hk, i1_0, d219 L1 r1 hd, c00, h211]
  obtain ⟨e, -⟩ := itr_loopI (fun _ q => neI D S (S 17 + d) q) (fun g (q : Int32 × Int32) => R 230 36 [some (.ref 124), some (.int (nI t)), some (.int (nI k)), some (.int (nI d)), some (.int 0), some (.int (nI (msk (D 0 5) (fnd D (S 17 + d) (D 9 k) (has D S t) (hid S) 0)))), some (.int q.1), some (.int (nI g))] [] (wp (wI h 124 0 0) 127 (Sd S d) 18)) (neS D S (S 17 + d) t k) (D 0 5) (by
    intro g q hg i
    have h8 : g < 8 := by omega
    have hs := sme_le w hg hd' (has0 S) 0
    rw [b230_36]
    simp only [cond_true, cond_false, decide_true, Bool.and_true, Bool.true_and, Bool.and_self, Bool.and_false, Bool.false_and, Bool.not_true, Bool.not_false, Bool.or_true, Bool.true_or, Bool.or_false, Bool.false_or, is_some, gd_some, bk_v, bk_u, hP_wI, isO_wI, isA_wI, hP_wp, isO_wp, isA_wp, y_124 L, y_P15 L, y_P16 L, hB, mB_O l, b_s5 b2, g_go w hg, d205 L2 hB2 l2 v2 w b2 ws2 r2 hg (show t < 100 by omega), hs_Sd w t g hg, b230_47, z_0, d210 L2 hB2 l2 v2 w b2 ws2 r2 (show g < 32 by omega), b230_53, d161 _ (show g < 32 by omega), bt_msk _ (show g < 32 by omega), dT hg, b230_57, h209 g hg, b230_68, b230_74, w_s, Bool.not_not]
    rw [show (Sd S d 16).testBit g = hid S g from rfl]
    unfold neS
    have hq : decide ((-1 : Int32) ≤ q.2) = true := by
      rcases i with rfl | ⟨b', hb, rfl⟩
      · rfl
      · have := sme_le w hb hd' (has0 S) 0
        exact (n_m1le (by omega)).1
    cases has D S t g
    · simp only [cond_true, cond_false, decide_true, Bool.and_true, Bool.true_and, Bool.and_self, Bool.and_false, Bool.false_and, Bool.not_true, Bool.not_false, Bool.or_true, Bool.true_or, Bool.or_false, Bool.false_or, is_some, gd_some, bk_v, bk_u, hq]
    · cases hid S g
      · simp only [cond_true, cond_false, decide_true, Bool.and_true, Bool.true_and, Bool.and_self, Bool.and_false, Bool.false_and, Bool.not_true, Bool.not_false, Bool.or_true, Bool.true_or, Bool.or_false, Bool.false_or, is_some, gd_some, bk_v, bk_u, hq]
      · cases fnd D (S 17 + d) (D 9 k) (has D S t) (hid S) 0 g
        · simp only [cond_true, cond_false, decide_true, Bool.and_true, Bool.true_and, Bool.and_self, Bool.and_false, Bool.false_and, Bool.not_true, Bool.not_false, Bool.or_true, Bool.true_or, Bool.or_false, Bool.false_or, is_some, gd_some, bk_v, bk_u]
          rcases i with rfl | ⟨b', hb, rfl⟩
          · rw [(n_m1le (show sme D (S 17 + d) g (has0 S) 0 < 1000 by omega)).2]; rfl
          · rw [n_m2 (show b' < 1000 by omega)]
            simp only [h209 b' hb, cond_true, cond_false, decide_true, Bool.and_true, Bool.true_and, Bool.and_self, Bool.and_false, Bool.false_and, Bool.not_true, Bool.not_false, Bool.or_true, Bool.true_or, Bool.or_false, Bool.false_or, is_some, gd_some, bk_v, bk_u, b230_74, w_s]
            cases decide (nI (sme D (S 17 + d) g (has0 S) 0) ≤ nI (sme D (S 17 + d) b' (has0 S) 0)) <;> rfl
        · simp only [cond_true, cond_false, decide_true, Bool.and_true, Bool.true_and, Bool.and_self, Bool.and_false, Bool.false_and, Bool.not_true, Bool.not_false, Bool.or_true, Bool.true_or, Bool.or_false, Bool.false_or, is_some, gd_some, bk_v, bk_u, hq]) (by
    intro g q hg i
    unfold neS
    have hq : decide ((-1 : Int32) ≤ q.2) = true := by
      rcases i with rfl | ⟨b', hb, rfl⟩
      · rfl
      · have := sme_le w hb hd' (has0 S) 0
        exact (n_m1le (by omega)).1
    cases (has D S t g && hid S g && !fnd D (S 17 + d) (D 9 k) (has D S t) (hid S) 0 g)
    · rw [cond_false, hq]; exact i
    · rw [cond_true]
      cases decide (nI (sme D (S 17 + d) g (has0 S) 0) ≤ q.2)
      · exact Or.inr ⟨g, hg, rfl⟩
      · exact i) (-2, -1) (Or.inl rfl)
  refine Eq.trans e ?_
  rw [b230_36]
  simp only [cond_true, cond_false, decide_true, Bool.and_true, Bool.true_and, Bool.and_self, Bool.and_false, Bool.false_and, Bool.not_true, Bool.not_false, Bool.or_true, Bool.true_or, Bool.or_false, Bool.false_or, is_some, gd_some, bk_v, bk_u, hP_wI, isO_wI, isA_wI, hP_wp, isO_wp, isA_wp, y_124 L, y_P15 L, y_P16 L, hB, mB_O l, b_s5 b2, g_stop w, d158 L2, b230_82]
def hwm (D : Gh) (S : Nat → Nat) (m g : Nat) : Nat := bif m.testBit (D 14 g) && has0 S g && hid S g then wor D g (S 17) else 0
theorem d249 {h : A_H} {B : Nat} {D : Gh} {S : Nat → Nat} (L : Ly h) (hB : hP h 124 3 = some B) (l : ML h B) (w : WF D) (b : MB h B D) (u : WD D S) (r : RW h 126 S) (m : Nat) : C 249 [.ref 124, .int (nI m)] h = some (some (some (.int (nI (sm (D 0 5) (hwm D S m))))), h) := by
  have v1 : isV 126 := Or.inl rfl
  have ws := WS_S w u
  have h4 := f_nt w
  rw [e249]
  simp only [b249_0]
  refine (loop_ix (fun g => R 249 4 [some (.ref 124), some (.int (nI m)), some (.int (nI (sm g (hwm D S m)))), some (.int (nI g))] [] h) (D 0 5) ?_).trans ?_
  · intro g hg
    have h8 : g < 8 := Nat.lt_of_lt_of_le hg (f_nG w)
    have ho := f_own w hg
    have hs := s_ne ws h8 (show 0 < 100 by decide)
    rw [show nI 0 = 0 from rfl] at hs
    rw [b249_4]
    simp only [cond_true, cond_false, decide_true, Bool.and_true, Bool.true_and, Bool.and_self, Bool.and_false, Bool.false_and, Bool.not_true, Bool.not_false, Bool.or_true, Bool.true_or, Bool.or_false, Bool.false_or, is_some, gd_some, bk_v, bk_u, hB, y_124 L, mB_O l, m_p11 l, m_p12 l, m_p13 l, m_p14 l, m_p15 l, m_p16 l, m_p17 l, m_p18 l, m_p19 l, m_p20 l, m_p21 l, m_p22 l, m_p23 l, m_p24 l, m_p25 l, m_p26 l, m_p27 l, m_p28 l, m_p29 l, m_p30 l, m_p31 l, m_p32 l, m_p33 l, m_p34 l, b_s5 b, g_go w hg, mA_12 l h8, w_cl (show g < 2147483648 by omega), b_owner b hg, d161 _ (show D 14 g < 32 by omega), bt_nI _ (show D 14 g < 32 by omega), b249_17, z_0, y_P15 L, Int32.zero_add, v_A L v1 (show g < 18 by omega), r g (show g < 18 by omega), hs, d210 L hB l v1 w b ws r (show g < 32 by omega), b249_30, d206 L hB l v1 w b ws r hg, b249_36, w_s, sm_s, nI_add, Int32.add_zero]
    rw [show (S 16).testBit g = hid S g from rfl, show decide (S g = 0) = has0 S g from rfl]
    unfold hwm
    cases m.testBit (D 14 g) <;> cases has0 S g <;> cases hid S g <;> rfl
  · rw [b249_4]
    simp only [cond_true, cond_false, decide_true, Bool.and_true, Bool.true_and, Bool.and_self, Bool.and_false, Bool.false_and, Bool.not_true, Bool.not_false, Bool.or_true, Bool.true_or, Bool.or_false, Bool.false_or, is_some, gd_some, bk_v, bk_u, hB, y_124 L, mB_O l, m_p11 l, m_p12 l, m_p13 l, m_p14 l, m_p15 l, m_p16 l, m_p17 l, m_p18 l, m_p19 l, m_p20 l, m_p21 l, m_p22 l, m_p23 l, m_p24 l, m_p25 l, m_p26 l, m_p27 l, m_p28 l, m_p29 l, m_p30 l, m_p31 l, m_p32 l, m_p33 l, m_p34 l, b_s5 b, g_stop w]
theorem sm_add (n : Nat) (f g : Nat → Nat) : sm n (fun k => f k + g k) = sm n f + sm n g := by
  induction n with
  | zero => rfl
  | succ n ih => rw [sm_s, sm_s, sm_s, ih]; omega
theorem sm_zero (n : Nat) : sm n (fun _ => 0) = 0 := by
  induction n with
  | zero => rfl
  | succ n ih => rw [sm_s, ih]
theorem sm_swap (n m : Nat) (f : Nat → Nat → Nat) : sm n (fun a => sm m (fun b => f a b)) = sm m (fun b => sm n (fun a => f a b)) := by
  induction n with
  | zero => exact (sm_zero m).symm
  | succ n ih => rw [sm_s, ih, ← sm_add]; rfl
theorem sm_one {n o : Nat} (ho : o < n) (x : Nat) (p : Nat → Bool) : sm n (fun t => bif p t && decide (o = t) then x else 0) = bif p o then x else 0 := by
  have key : ∀ k, k ≤ n → sm k (fun t => bif p t && decide (o = t) then x else 0) = bif p o && decide (o < k) then x else 0 := by
    intro k
    induction k with
    | zero => intro _; rw [dF (Nat.not_lt_zero o), Bool.and_false]; rfl
    | succ k ih =>
      intro hk
      rw [sm_s, ih (by omega)]
      by_cases e : o = k
      · subst e
        rw [dF (Nat.lt_irrefl o), dT rfl, dT (Nat.lt_succ_self o), Bool.and_false, Bool.and_true]
        cases p o <;> simp
      · rw [dF e, Bool.and_false, cond_false, Nat.add_zero, show decide (o < k + 1) = decide (o < k) from decide_eq_decide.mpr (by omega)]
  rw [key n (Nat.le_refl n), dT ho, Bool.and_true]
theorem hw_eq {D : Gh} {S : Nat → Nat} (w : WF D) (m : Nat) : sm (D 0 5) (hwm D S m) = hw D S m := by
  unfold hw hwt
  have e1 : sm (D 0 3) (fun t => bif m.testBit t then sm (D 0 5) (fun g => bif has D S t g && hid S g then wor D g (S 17) else 0) else 0) = sm (D 0 3) (fun t => sm (D 0 5) (fun g => bif (m.testBit t && has0 S g && hid S g) && decide (D 14 g = t) then wor D g (S 17) else 0)) := by
    apply sm_congr
    intro t _
    cases m.testBit t with
    | false => exact (sm_zero _).symm
    | true =>
      apply sm_congr
      intro g _
      unfold has has0
      cases decide (D 14 g = t) <;> cases decide (S g = 0) <;> cases hid S g <;> rfl
  rw [e1, sm_swap]
  apply sm_congr
  intro g hg
  rw [sm_one (f_own w hg) _ (fun t => m.testBit t && has0 S g && hid S g)]
  rfl
theorem pc_st : ∀ m, m < 256 → m = 0 ∨ (nI m &&& (nI m - 1) = nI (m &&& (m - 1)) ∧ pc (m &&& (m - 1)) + 1 = pc m ∧ (m &&& (m - 1)) < 256 ∧ decide (nI m = 0) = false) := by decide +kernel
theorem d162 (h : A_H) {m : Nat} (hm : m < 256) : C 162 [.int (nI m)] h = some (some (some (.int (nI (pc m)))), h) := by
  have key : ∀ f m a, m < 256 → pc m = f → ∀ x : Int32, R 162 4 [some (.int x), some (.int (nI a)), some (.int (nI m))] [] h = some (some (some (.int (nI (a + f)))), h) := by
    intro f
    induction f with
    | zero =>
      intro m a hm hp x
      rcases pc_st m hm with rfl | ⟨-, e2, -, -⟩
      · rw [b162_4]; rfl
      · omega
    | succ f ih =>
      intro m a hm hp x
      rcases pc_st m hm with rfl | ⟨e1, e2, e3, e4⟩
      · have h0 : pc 0 = 0 := by decide
        omega
      · rw [b162_4, e4, cond_false, e1, w_s, ih _ (a + 1) e3 (by omega)]
        rw [show a + 1 + f = a + (f + 1) by omega]
  rw [e162]
  simp only [b162_0]
  have := key (pc m) m 0 hm rfl (nI m)
  rw [Nat.zero_add] at this
  exact this
