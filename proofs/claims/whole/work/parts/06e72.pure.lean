def rmP (B a b : Nat) : Prop := mT a b ∨ (B ≤ a ∧ a < B + 25)
def rmQ (B a b : Nat) : Prop := ML14 a b ∨ a = B + 22
def RM (B : Nat) (h h' : A_H) : Prop := FG (rmP B) (rmQ B) h h'
set_option maxRecDepth 16384 in
theorem RM_rfl (B : Nat) (h : A_H) : RM B h h := FG_rfl _ _ h
set_option maxRecDepth 16384 in
theorem RM_T {B : Nat} {h h' h'' : A_H} (a : RM B h h') (f : FG mT ML14 h' h'') : RM B h h'' := FG_tr a (FG_mo (fun _ _ q => Or.inl q) (fun _ _ q => Or.inl q) f)
set_option maxRecDepth 16384 in
theorem RM_w {B : Nat} {h h' : A_H} (a : RM B h h') {k j : Nat} (v : Int32) (hk : B ≤ k ∧ k < B + 25) : RM B h (wI h' k j v) := FG_wI a v (Or.inr hk)
set_option maxRecDepth 16384 in
theorem MB_T {h h' : A_H} {B : Nat} {P : Gh} (f : FG mT ML14 h h') (h134 : 134 ≤ B) {a j : Nat} (ha : B ≤ a) : hI h' a j = hI h a j := FG_I f (by unfold mT; omega)
set_option maxRecDepth 16384 in
theorem MKt_w {h : A_H} {bs : Nat → Int32} {n : Nat} {τ : Nat → Nat} (t : MKt h bs n τ) {a b : Nat} (v : Int32) (ha : 134 ≤ a) : MKt (wI h a b v) bs n τ := by
  have q : ∀ x y, (x = 124 ∨ x = 125) → hI (wI h a b v) x y = hI h x y := fun x y hx => by rw [hI_wI, if_neg (by omega)]
  obtain ⟨t1, t2, t3⟩ := t
  refine ⟨⟨(q _ _ (Or.inl rfl)).trans t1.1, t1.2.1, fun k hk => (q _ _ (Or.inr rfl)).trans (t1.2.2 k hk)⟩, fun c => ?_, fun c => ?_⟩
  · obtain ⟨a1, a2, a3, a4, a5, a6, a7⟩ := t2 c
    exact ⟨(q _ _ (Or.inl rfl)).trans a1, (q _ _ (Or.inl rfl)).trans a2, fun d => (q _ _ (Or.inl rfl)).trans (a3 d), a4, fun d => (q _ _ (Or.inl rfl)).trans (a5 d), (q _ _ (Or.inl rfl)).trans a6, a7⟩
  · obtain ⟨a1, a2, a3, a4⟩ := t3 c
    exact ⟨(q _ _ (Or.inl rfl)).trans a1, (q _ _ (Or.inl rfl)).trans a2, a3, (q _ _ (Or.inl rfl)).trans a4⟩
set_option maxRecDepth 16384 in
theorem MKt_L {h : A_H} {bs : Nat → Int32} {n : Nat} {τ : Nat → Nat} (t : MKt h bs n τ) {a b : Nat} (v : Int64) (ha : 134 ≤ a) : MKt (wL h a b v) bs n τ := by
  obtain ⟨t1, t2, t3⟩ := t
  refine ⟨t1, fun c => ?_, t3⟩
  obtain ⟨a1, a2, a3, a4, a5, a6, a7⟩ := t2 c
  exact ⟨a1, a2, a3, fun d => by rw [hL_wL, if_neg (by omega)]; exact a4 d, a5, a6, a7⟩
set_option maxRecDepth 16384 in
theorem MN_w {h : A_H} {B : Nat} {P : Gh} (c : MN h B P) {a j : Nat} (v : Int32) (ha : B ≤ a ∧ a < B + 22) (hj : ¬ (a = B ∧ j = 10)) : MN (wI h a j v) B P := ⟨by rw [hI_wI, if_neg (by omega)]; exact c.1, c.2.1, fun i hi => by
  obtain ⟨c1, c2, c3, c4, c5⟩ := c.2.2 i hi
  exact ⟨c1, c2, by rw [hI_wI, if_neg (by omega)]; exact c3, c4, by rw [hI_wI, if_neg (by omega)]; exact c5⟩⟩
set_option maxRecDepth 16384 in
theorem MN_eq {h : A_H} {B : Nat} {P P' : Gh} (c : MN h B P) (e : ∀ a b, 30 ≤ a → P' a b = P a b) : MN h B P' := by
  unfold MN
  rw [e 30 0 (by decide)]
  refine ⟨c.1, c.2.1, fun i hi => ?_⟩
  rw [e 31 i (by decide), e 32 i (by decide), e 33 i (by decide)]
  exact c.2.2 i hi
def nmP (B a b : Nat) : Prop := (a = B ∧ b = 10) ∨ a = B + 23 ∨ a = B + 24
def nmQ (B a b : Nat) : Prop := a = B + 22
set_option maxRecDepth 16384 in
theorem d178 {h : A_H} {bs : Nat → Int32} {n : Nat} {τ : Nat → Nat} {B : Nat} {P : Gh} (L : Ly h) (t : MKt h bs n τ) (hB : hP h 124 4 = some B) (l : ML h B) (c : MN h B P) (h19 : P 30 0 < 19) {v s k : Nat} (hv : v < 35184372088832) (hs : 1 ≤ s ∧ s < 100) : ∃ h', C 178 [.ref 124, .long (nL v), .int (nI (s - 1)), .int (nI k)] h = some (some none, h') ∧ FG (nmP B) (nmQ B) h h' ∧ MN h' B (adN P v s k) ∧ MKt h' bs n τ := by
  have h134 := m_134 l
  obtain ⟨c1, c2, c3⟩ := c
  have i1 : hI (wL h (B + 22) (P 30 0) (nL v)) B 10 = nI (P 30 0) := c1
  have i2 : hI (wI (wL h (B + 22) (P 30 0) (nL v)) (B + 23) (P 30 0) (nI (s - 1))) B 10 = nI (P 30 0) := by rw [hI_wI, if_neg (by omega)]; exact c1
  have i3 : hI (wI (wI (wL h (B + 22) (P 30 0) (nL v)) (B + 23) (P 30 0) (nI (s - 1))) (B + 24) (P 30 0) (nI k)) B 10 = nI (P 30 0) := by rw [hI_wI, if_neg (by omega)]; exact i2
  have q1 : nmQ B (B + 22) (P 30 0) := rfl
  have q2 : nmP B (B + 23) (P 30 0) := Or.inr (Or.inl rfl)
  have q3 : nmP B (B + 24) (P 30 0) := Or.inr (Or.inr rfl)
  have q4 : nmP B B 10 := Or.inl ⟨rfl, rfl⟩
  have j1 : FG (nmP B) (nmQ B) h (wL h (B + 22) (P 30 0) (nL v)) := FG_wL (FG_rfl _ _ h) (nL v) q1
  have j2 := FG_wI j1 (nI (s - 1)) q2
  have j3 := FG_wI j2 (nI k) q3
  have j4 := FG_wI j3 (nI (P 30 0 + 1)) q4
  have y1 : MKt (wL h (B + 22) (P 30 0) (nL v)) bs n τ := MKt_L t (nL v) (by omega)
  have y2 := MKt_w y1 (a := B + 23) (b := P 30 0) (nI (s - 1)) (by omega)
  have y3 := MKt_w y2 (a := B + 24) (b := P 30 0) (nI k) (by omega)
  have y4 := MKt_w y3 (a := B) (b := 10) (nI (P 30 0 + 1)) h134
  refine ⟨wI (wI (wI (wL h (B + 22) (P 30 0) (nL v)) (B + 23) (P 30 0) (nI (s - 1))) (B + 24) (P 30 0) (nI k)) B 10 (nI (P 30 0 + 1)), ?_, j4, ?_, y4⟩
  · rw [e178]
    simp only [b178_0, b178_8, b178_16, b178_24, b178_31, cond_true, cond_false, decide_true, Bool.and_true, Bool.true_and, Bool.and_self, Bool.and_false, Bool.false_and, Bool.not_true, Bool.not_false, Bool.or_true, Bool.true_or, Bool.or_false, Bool.false_or, is_some, gd_some, bk_v, bk_u, isO_wL, hP_wL, isA_wL, isO_wI, hP_wI, isA_wI, y_124 L, hB, mB_O l, m_p32 l, m_p33 l, m_p34 l, c1, i1, i2, i3, mA_22 l h19, mA_23 l h19, mA_24 l h19, w_cl (show P 30 0 < 2147483648 by omega), w_s]
  · refine ⟨?_, by rw [adN_30]; omega, fun i hi => ?_⟩
    · rw [adN_30, hI_wI, if_pos ⟨rfl, rfl⟩]
    · rw [adN_30] at hi
      rw [adN_31, adN_32, adN_33]
      by_cases ei : i = P 30 0
      · rw [if_pos ei, if_pos ei, if_pos ei]
        refine ⟨?_, hv, ?_, hs, ?_⟩
        · show hL (wL h (B + 22) (P 30 0) (nL v)) (B + 22) i = _
          rw [hL_wL, if_pos ⟨rfl, ei⟩]
        · rw [hI_wI, if_neg (by omega), hI_wI, if_neg (by omega), hI_wI, if_pos ⟨rfl, ei⟩]
        · rw [hI_wI, if_neg (by omega), hI_wI, if_pos ⟨rfl, ei⟩]
      · rw [if_neg ei, if_neg ei, if_neg ei]
        obtain ⟨d1, d2, d3, d4, d5⟩ := c3 i (by omega)
        refine ⟨?_, d2, ?_, d4, ?_⟩
        · show hL (wL h (B + 22) (P 30 0) (nL v)) (B + 22) i = _
          rw [hL_wL, if_neg (by omega)]; exact d1
        · rw [hI_wI, if_neg (by omega), hI_wI, if_neg (by omega), hI_wI, if_neg (by omega)]; exact d3
        · rw [hI_wI, if_neg (by omega), hI_wI, if_neg (by omega), hI_wI, if_neg (by omega)]; exact d5
set_option maxRecDepth 16384 in
theorem RM_N {B : Nat} {h h' h'' : A_H} (a : RM B h h') (f : FG (nmP B) (nmQ B) h' h'') : RM B h h'' := FG_tr a (FG_mo (fun a b q => by unfold nmP at q; unfold rmP; omega) (fun a b q => Or.inr q) f)
set_option maxRecDepth 16384 in
theorem tld {h : A_H} {B : Nat} {P : Gh} (w : WF P) (b : MB h B P) : decide (hI h B 0 = -1) = false := by rw [b_s0 b]; exact n_m1 (by have := f_fee w; omega)
set_option maxRecDepth 16384 in
theorem d184 {h : A_H} {bs : Nat → Int32} {n : Nat} {τ : Nat → Nat} {B : Nat} {P : Gh} (L : Ly h) (b8 : B8 bs n) (t : MKt h bs n τ) (e0 : τ 4 = 0) (k0 : ¬ τ 0 = 4) (hB : hP h 124 4 = some B) (l : ML h B) (c : MN h B P) (b : MB h B P) (w : WF P) (nc : NC P) : ∃ h', C 184 [.ref 124] h = some (some none, h') ∧ RM B h h' ∧ MKt h' bs n (me8 bs n P τ) ∧ ((me8 bs n P τ) 4 = 0 → MB h' B (pMe bs n P τ) ∧ MN h' B (pMe bs n P τ)) := by
  have k2 := f_nm w
  have k3 := f_nt w
  have k4 := f_ng w
  have k5 := f_nG w
  have hn1 := nc.1
  have h134 := m_134 l
  obtain ⟨h1, g1, f1, t1⟩ := d176 L b8 t hB l (tld w b) (a := P 0 2) (m := 4) (by omega) (by decide) e0 k0
  have g1 : C 176 [.ref 124, .int (nI (P 0 2)), .int 4] h = some (some none, h1) := g1
  have t1 : MKt h1 bs n (me1 bs n P τ) := t1
  have L1 := FG_Ly f1 L
  have l1 := FG_ML f1 l
  have B1 : hP h1 124 4 = some B := by rw [FG_P f1]; exact hB
  have c1 := MN_FG f1 h134 c
  obtain ⟨v2, h2, g2, f2, t2, u2⟩ := d177 L1 b8 t1 B1 l1 c1
  have t2 : MKt h2 bs n (me2 bs n P τ) := t2
  have L2 := FG_Ly f2 L1
  have l2 := FG_ML f2 l1
  have B2 : hP h2 124 4 = some B := by rw [FG_P f2]; exact B1
  have c2 := MN_FG f2 h134 c1
  obtain ⟨m4, h4, g4, f4, t4, b4, v4⟩ := d174 L2 b8 t2 (x := 14) (by decide) (by decide) (lo := 0) (hi := 9) (by first | decide | exact b6) (by decide)
  have g4 : C 174 [.ref 124, .float 14, .int 0, .int 9] h2 = some (some (some (.int (nI m4))), h4) := g4
  have t4 : MKt h4 bs n (me4 bs n P τ) := t4
  have v4 : (me4 bs n P τ) 4 = 0 → m4 = me3 bs n P τ 3 := v4
  have L4 := FG_Ly f4 L2
  have l4 := FG_ML f4 l2
  have B4 : hP h4 124 4 = some B := by rw [FG_P f4]; exact B2
  have c4 := MN_FG f4 h134 c2
  obtain ⟨m6, h6, g6, f6, t6, b6, v6⟩ := d174 L4 b8 t4 (x := 15) (by decide) (by decide) (lo := 0) (hi := 9) (by first | decide | exact b6) (by decide)
  have g6 : C 174 [.ref 124, .float 15, .int 0, .int 9] h4 = some (some (some (.int (nI m6))), h6) := g6
  have t6 : MKt h6 bs n (me6 bs n P τ) := t6
  have v6 : (me6 bs n P τ) 4 = 0 → m6 = me5 bs n P τ 3 := v6
  have L6 := FG_Ly f6 L4
  have l6 := FG_ML f6 l4
  have B6 : hP h6 124 4 = some B := by rw [FG_P f6]; exact B4
  have c6 := MN_FG f6 h134 c4
  obtain ⟨m8, h8, g8, f8, t8, b8, v8⟩ := d174 L6 b8 t6 (x := 16) (by decide) (by decide) (lo := 1) (hi := 300) (by first | decide | exact b6) (by decide)
  have g8 : C 174 [.ref 124, .float 16, .int 1, .int 300] h6 = some (some (some (.int (nI m8))), h8) := g8
  have t8 : MKt h8 bs n (me8 bs n P τ) := t8
  have v8 : (me8 bs n P τ) 4 = 0 → m8 = me7 bs n P τ 3 := v8
  have L8 := FG_Ly f8 L6
  have l8 := FG_ML f8 l6
  have B8 : hP h8 124 4 = some B := by rw [FG_P f8]; exact B6
  have c8 := MN_FG f8 h134 c6
  have rd : RM B h h8 := RM_T (RM_T (RM_T (RM_T (RM_T (RM_rfl B h) f1) f2) f4) f6) f8
  have fr : ∀ a j, B ≤ a → hI h8 a j = hI h a j := by
    intro a j ha
    rw [MB_T (P := P) f8 h134 ha, MB_T (P := P) f6 h134 ha, MB_T (P := P) f4 h134 ha, MB_T (P := P) f2 h134 ha, MB_T (P := P) f1 h134 ha]
  by_cases e : (me8 bs n P τ) 4 = 0
  · have zz8 : (me8 bs n P τ) 4 = 0 := e
    have zz7 : (me7 bs n P τ) 4 = 0 := z_wh zz8
    have zz6 : (me6 bs n P τ) 4 = 0 := z_wd zz7
    have zz5 : (me5 bs n P τ) 4 = 0 := z_wh zz6
    have zz4 : (me4 bs n P τ) 4 = 0 := z_wd zz5
    have zz3 : (me3 bs n P τ) 4 = 0 := z_wh zz4
    have zz2 : (me2 bs n P τ) 4 = 0 := z_wd zz3
    have zz1 : (me1 bs n P τ) 4 = 0 := z_nw zz2
    obtain ⟨-, cm⟩ := rm_b zz1
    have hv := rm_tok zz1 (t.2.1 e0).2.2.2.2.2.2.2.2.1
    have hv := hv.2.2.2.1 (nw_b zz2).1
    have u2 := u2 zz2
    subst u2
    have s9 : decide (hI h8 124 9 = 5) = false := by rw [(t8.2.1 e).1]; exact mk_ne5
    have hk : hI h8 B 2 = nI (P 0 2) := (fr _ _ (Nat.le_refl _)).trans (b_s2 b)
    obtain ⟨hN, gN, fN, cN, tN⟩ := d178 L8 t8 B8 l8 c8 (by omega) (v := me1 bs n P τ 3) (s := 1) (k := P 0 2) hv (by decide)
    have gN : C 178 [.ref 124, .long (nL (me1 bs n P τ 3)), .int 0, .int (nI (P 0 2))] h8 = some (some none, hN) := gN
    have LN := FG_Ly fN L8
    have lN := FG_ML fN l8
    have BN : hP hN 124 4 = some B := by rw [FG_P fN]; exact B8
    have frN : ∀ a j, B ≤ a → a < B + 22 → ¬ (a = B ∧ j = 10) → hI hN a j = hI h a j := fun a j i1 i2 i3 => (FG_I fN (by unfold nmP; omega)).trans (fr a j i1)
    have hk0 : hI hN B 2 = nI (P 0 2) := (frN _ _ (Nat.le_refl _) (by omega) (by omega)).trans (b_s2 b)
    have hk1 : hI (wI hN (B + 1) (P 0 2) (nI m4)) B 2 = nI (P 0 2) := by rw [hI_wI, if_neg (by omega)]; exact hk0
    have hk2 : hI (wI (wI hN (B + 1) (P 0 2) (nI m4)) (B + 1) (4 + P 0 2) (nI m6)) B 2 = nI (P 0 2) := by rw [hI_wI, if_neg (by omega)]; exact hk1
    have hk3 : hI (wI (wI (wI hN (B + 1) (P 0 2) (nI m4)) (B + 1) (4 + P 0 2) (nI m6)) (B + 2) (P 0 2) (nI m8)) B 2 = nI (P 0 2) := by rw [hI_wI, if_neg (by omega)]; exact hk2
    have hk4 : hI (wI (wI (wI (wI hN (B + 1) (P 0 2) (nI m4)) (B + 1) (4 + P 0 2) (nI m6)) (B + 2) (P 0 2) (nI m8)) (B + 3) (P 0 2) (-1)) B 2 = nI (P 0 2) := by rw [hI_wI, if_neg (by omega)]; exact hk3
    refine ⟨(wI (wI (wI (wI (wI hN (B + 1) (P 0 2) (nI m4)) (B + 1) (4 + P 0 2) (nI m6)) (B + 2) (P 0 2) (nI m8)) (B + 3) (P 0 2) (-1)) B 2 (nI (P 0 2 + 1))), ?_, RM_w (RM_w (RM_w (RM_w (RM_w (RM_N rd fN) _ (by omega)) _ (by omega)) _ (by omega)) _ (by omega)) _ (by omega), MKt_w (MKt_w (MKt_w (MKt_w (MKt_w (tN) _ (by omega)) _ (by omega)) _ (by omega)) _ (by omega)) _ (by omega), fun _ => ⟨?_, MN_eq (MN_w (MN_w (MN_w (MN_w (MN_w (cN) _ (by omega) (by omega)) _ (by omega) (by omega)) _ (by omega) (by omega)) _ (by omega) (by omega)) _ (by omega) (by omega)) pMe_n⟩⟩
    · rw [e184]
      simp only [b184_0, b184_6, b184_8, b184_14, b184_20, b184_26, b184_39, b184_47, b184_57, b184_65, b184_73, b184_80, cond_true, cond_false, decide_true, Bool.and_true, Bool.true_and, Bool.and_self, Bool.and_false, Bool.false_and, Bool.not_true, Bool.not_false, Bool.or_true, Bool.true_or, Bool.or_false, Bool.false_or, is_some, gd_some, bk_v, bk_u, isO_wI, hP_wI, isA_wI, y_124 L, y_124 L1, y_124 L2, y_124 L4, y_124 L6, y_124 L8, hB, B1, B2, B8, mB_O l, mB_O l8, b_s2 b, g1, g2, g4, g6, g8, s9, hk, gN, y_124 LN, BN, mB_O lN, hk0, hk1, hk2, hk3, hk4, m_p11 lN, m_p12 lN, m_p13 lN, w_cl (show P 0 2 < 2147483648 by omega), mA_1 lN (show P 0 2 < 8 by omega), mA_1 lN (show 4 + P 0 2 < 8 by omega), mA_2 lN (show P 0 2 < 4 by omega), mA_3 lN (show P 0 2 < 4 by omega), w_s, show (4 : Int32) + nI (P 0 2) = nI (4 + P 0 2) from nI_add 4 _, w_cl (show 4 + P 0 2 < 2147483648 by omega)]
    · refine MB_a2 w b cm pMe_0 pMe_1 pMe_r ?_ (by rw [hI_wI, if_pos ⟨rfl, rfl⟩]) (by rw [pMe_1v, hI_wI, if_neg (by omega), hI_wI, if_neg (by omega), hI_wI, if_neg (by omega), hI_wI, if_neg (by omega), hI_wI, if_pos ⟨rfl, rfl⟩, v4 zz4]) (by rw [pMe_2v, hI_wI, if_neg (by omega), hI_wI, if_neg (by omega), hI_wI, if_neg (by omega), hI_wI, if_pos ⟨rfl, rfl⟩, v6 zz6]) (by rw [pMe_3v, hI_wI, if_neg (by omega), hI_wI, if_neg (by omega), hI_wI, if_pos ⟨rfl, rfl⟩, v8 zz8]) (by rw [hI_wI, if_neg (by omega), hI_wI, if_pos ⟨rfl, rfl⟩]) pMe_4v
      intro a j i1 i2 i3 i4
      rw [hI_wI, if_neg (by omega), hI_wI, if_neg (by omega), hI_wI, if_neg (by omega), hI_wI, if_neg (by omega), hI_wI, if_neg (by omega), frN a j i1 i2 (by omega)]
  · have s9 : hI h8 124 9 = 5 := (t8.2.2 e).1
    refine ⟨h8, ?_, rd, t8, fun q => absurd q e⟩
    rw [e184]
    simp only [b184_0, b184_6, b184_8, b184_14, b184_20, b184_26, b184_39, b184_47, b184_57, b184_65, b184_73, b184_80, cond_true, cond_false, decide_true, Bool.and_true, Bool.true_and, Bool.and_self, Bool.and_false, Bool.false_and, Bool.not_true, Bool.not_false, Bool.or_true, Bool.true_or, Bool.or_false, Bool.false_or, is_some, gd_some, bk_v, bk_u, y_124 L, y_124 L1, y_124 L2, y_124 L4, y_124 L6, y_124 L8, hB, B1, B2, B8, mB_O l, mB_O l8, b_s2 b, g1, g2, g4, g6, g8, s9]
set_option maxRecDepth 16384 in
theorem d185 {h : A_H} {bs : Nat → Int32} {n : Nat} {τ : Nat → Nat} {B : Nat} {P : Gh} (L : Ly h) (b8 : B8 bs n) (t : MKt h bs n τ) (e0 : τ 4 = 0) (k0 : ¬ τ 0 = 4) (hB : hP h 124 4 = some B) (l : ML h B) (c : MN h B P) (b : MB h B P) (w : WF P) (nc : NC P) : ∃ h', C 185 [.ref 124] h = some (some none, h') ∧ RM B h h' ∧ MKt h' bs n (tr6 bs n P τ) ∧ ((tr6 bs n P τ) 4 = 0 → MB h' B (pTr bs n P τ) ∧ MN h' B (pTr bs n P τ)) := by
  have k2 := f_nm w
  have k3 := f_nt w
  have k4 := f_ng w
  have k5 := f_nG w
  have hn1 := nc.1
  have h134 := m_134 l
  obtain ⟨h1, g1, f1, t1⟩ := d176 L b8 t hB l (tld w b) (a := P 0 3) (m := 4) (by omega) (by decide) e0 k0
  have g1 : C 176 [.ref 124, .int (nI (P 0 3)), .int 4] h = some (some none, h1) := g1
  have t1 : MKt h1 bs n (tr1 bs n P τ) := t1
  have L1 := FG_Ly f1 L
  have l1 := FG_ML f1 l
  have B1 : hP h1 124 4 = some B := by rw [FG_P f1]; exact hB
  have c1 := MN_FG f1 h134 c
  obtain ⟨v2, h2, g2, f2, t2, u2⟩ := d177 L1 b8 t1 B1 l1 c1
  have t2 : MKt h2 bs n (tr2 bs n P τ) := t2
  have L2 := FG_Ly f2 L1
  have l2 := FG_ML f2 l1
  have B2 : hP h2 124 4 = some B := by rw [FG_P f2]; exact B1
  have c2 := MN_FG f2 h134 c1
  obtain ⟨m4, h4, g4, f4, t4, b4, v4⟩ := d174 L2 b8 t2 (x := 17) (by decide) (by decide) (lo := 0) (hi := 99) (by first | decide | exact b6) (by decide)
  have g4 : C 174 [.ref 124, .float 17, .int 0, .int 99] h2 = some (some (some (.int (nI m4))), h4) := g4
  have t4 : MKt h4 bs n (tr4 bs n P τ) := t4
  have v4 : (tr4 bs n P τ) 4 = 0 → m4 = tr3 bs n P τ 3 := v4
  have L4 := FG_Ly f4 L2
  have l4 := FG_ML f4 l2
  have B4 : hP h4 124 4 = some B := by rw [FG_P f4]; exact B2
  have c4 := MN_FG f4 h134 c2
  obtain ⟨m6, h6, g6, f6, t6, b6, v6⟩ := d174 L4 b8 t4 (x := 18) (by decide) (by decide) (lo := 0) (hi := 3) (by first | decide | exact b6) (by decide)
  have g6 : C 174 [.ref 124, .float 18, .int 0, .int 3] h4 = some (some (some (.int (nI m6))), h6) := g6
  have t6 : MKt h6 bs n (tr6 bs n P τ) := t6
  have v6 : (tr6 bs n P τ) 4 = 0 → m6 = tr5 bs n P τ 3 := v6
  have L6 := FG_Ly f6 L4
  have l6 := FG_ML f6 l4
  have B6 : hP h6 124 4 = some B := by rw [FG_P f6]; exact B4
  have c6 := MN_FG f6 h134 c4
  have rd : RM B h h6 := RM_T (RM_T (RM_T (RM_T (RM_rfl B h) f1) f2) f4) f6
  have fr : ∀ a j, B ≤ a → hI h6 a j = hI h a j := by
    intro a j ha
    rw [MB_T (P := P) f6 h134 ha, MB_T (P := P) f4 h134 ha, MB_T (P := P) f2 h134 ha, MB_T (P := P) f1 h134 ha]
  by_cases e : (tr6 bs n P τ) 4 = 0
  · have zz6 : (tr6 bs n P τ) 4 = 0 := e
    have zz5 : (tr5 bs n P τ) 4 = 0 := z_wh zz6
    have zz4 : (tr4 bs n P τ) 4 = 0 := z_wd zz5
    have zz3 : (tr3 bs n P τ) 4 = 0 := z_wh zz4
    have zz2 : (tr2 bs n P τ) 4 = 0 := z_wd zz3
    have zz1 : (tr1 bs n P τ) 4 = 0 := z_nw zz2
    obtain ⟨-, cm⟩ := rm_b zz1
    have hv := rm_tok zz1 (t.2.1 e0).2.2.2.2.2.2.2.2.1
    have hv := hv.2.2.2.1 (nw_b zz2).1
    have u2 := u2 zz2
    subst u2
    have s9 : decide (hI h6 124 9 = 5) = false := by rw [(t6.2.1 e).1]; exact mk_ne5
    have hk : hI h6 B 3 = nI (P 0 3) := (fr _ _ (Nat.le_refl _)).trans (b_s3 b)
    obtain ⟨hN, gN, fN, cN, tN⟩ := d178 L6 t6 B6 l6 c6 (by omega) (v := tr1 bs n P τ 3) (s := 2) (k := P 0 3) hv (by decide)
    have gN : C 178 [.ref 124, .long (nL (tr1 bs n P τ 3)), .int 1, .int (nI (P 0 3))] h6 = some (some none, hN) := gN
    have LN := FG_Ly fN L6
    have lN := FG_ML fN l6
    have BN : hP hN 124 4 = some B := by rw [FG_P fN]; exact B6
    have frN : ∀ a j, B ≤ a → a < B + 22 → ¬ (a = B ∧ j = 10) → hI hN a j = hI h a j := fun a j i1 i2 i3 => (FG_I fN (by unfold nmP; omega)).trans (fr a j i1)
    have hk0 : hI hN B 3 = nI (P 0 3) := (frN _ _ (Nat.le_refl _) (by omega) (by omega)).trans (b_s3 b)
    have hk1 : hI (wI hN (B + 5) (P 0 3) (nI m4)) B 3 = nI (P 0 3) := by rw [hI_wI, if_neg (by omega)]; exact hk0
    have hk2 : hI (wI (wI hN (B + 5) (P 0 3) (nI m4)) (B + 6) (P 0 3) (nI m6)) B 3 = nI (P 0 3) := by rw [hI_wI, if_neg (by omega)]; exact hk1
    refine ⟨(wI (wI (wI hN (B + 5) (P 0 3) (nI m4)) (B + 6) (P 0 3) (nI m6)) B 3 (nI (P 0 3 + 1))), ?_, RM_w (RM_w (RM_w (RM_N rd fN) _ (by omega)) _ (by omega)) _ (by omega), MKt_w (MKt_w (MKt_w (tN) _ (by omega)) _ (by omega)) _ (by omega), fun _ => ⟨?_, MN_eq (MN_w (MN_w (MN_w (cN) _ (by omega) (by omega)) _ (by omega) (by omega)) _ (by omega) (by omega)) pTr_n⟩⟩
    · rw [e185]
      simp only [b185_0, b185_6, b185_8, b185_14, b185_20, b185_33, b185_41, b185_49, b185_56, cond_true, cond_false, decide_true, Bool.and_true, Bool.true_and, Bool.and_self, Bool.and_false, Bool.false_and, Bool.not_true, Bool.not_false, Bool.or_true, Bool.true_or, Bool.or_false, Bool.false_or, is_some, gd_some, bk_v, bk_u, isO_wI, hP_wI, isA_wI, y_124 L, y_124 L1, y_124 L2, y_124 L4, y_124 L6, hB, B1, B2, B6, mB_O l, mB_O l6, b_s3 b, g1, g2, g4, g6, s9, hk, gN, y_124 LN, BN, mB_O lN, hk0, hk1, hk2, m_p15 lN, m_p16 lN, w_cl (show P 0 3 < 2147483648 by omega), mA_5 lN (show P 0 3 < 4 by omega), mA_6 lN (show P 0 3 < 4 by omega), w_s]
    · refine MB_a3 w b cm pTr_0 pTr_1 pTr_r ?_ (by rw [hI_wI, if_pos ⟨rfl, rfl⟩]) (by rw [pTr_7v, hI_wI, if_neg (by omega), hI_wI, if_neg (by omega), hI_wI, if_pos ⟨rfl, rfl⟩, v4 zz4]) (by rw [pTr_8v, hI_wI, if_neg (by omega), hI_wI, if_pos ⟨rfl, rfl⟩, v6 zz6])
      intro a j i1 i2 i3 i4
      rw [hI_wI, if_neg (by omega), hI_wI, if_neg (by omega), hI_wI, if_neg (by omega), frN a j i1 i2 (by omega)]
  · have s9 : hI h6 124 9 = 5 := (t6.2.2 e).1
    refine ⟨h6, ?_, rd, t6, fun q => absurd q e⟩
    rw [e185]
    simp only [b185_0, b185_6, b185_8, b185_14, b185_20, b185_33, b185_41, b185_49, b185_56, cond_true, cond_false, decide_true, Bool.and_true, Bool.true_and, Bool.and_self, Bool.and_false, Bool.false_and, Bool.not_true, Bool.not_false, Bool.or_true, Bool.true_or, Bool.or_false, Bool.false_or, is_some, gd_some, bk_v, bk_u, y_124 L, y_124 L1, y_124 L2, y_124 L4, y_124 L6, hB, B1, B2, B6, mB_O l, mB_O l6, b_s3 b, g1, g2, g4, g6, s9]
set_option maxRecDepth 16384 in
theorem d186 {h : A_H} {bs : Nat → Int32} {n : Nat} {τ : Nat → Nat} {B : Nat} {P : Gh} (L : Ly h) (b8 : B8 bs n) (t : MKt h bs n τ) (e0 : τ 4 = 0) (k0 : ¬ τ 0 = 4) (hB : hP h 124 4 = some B) (l : ML h B) (c : MN h B P) (b : MB h B P) (w : WF P) (nc : NC P) : ∃ h', C 186 [.ref 124] h = some (some none, h') ∧ RM B h h' ∧ MKt h' bs n (ga8 bs n P τ) ∧ ((ga8 bs n P τ) 4 = 0 → MB h' B (pGa bs n P τ) ∧ MN h' B (pGa bs n P τ)) := by
  have k2 := f_nm w
  have k3 := f_nt w
  have k4 := f_ng w
  have k5 := f_nG w
  have hn1 := nc.1
  have h134 := m_134 l
  obtain ⟨h1, g1, f1, t1⟩ := d176 L b8 t hB l (tld w b) (a := P 0 4) (m := 3) (by omega) (by decide) e0 k0
  have g1 : C 176 [.ref 124, .int (nI (P 0 4)), .int 3] h = some (some none, h1) := g1
  have t1 : MKt h1 bs n (ga1 bs n P τ) := t1
  have L1 := FG_Ly f1 L
  have l1 := FG_ML f1 l
  have B1 : hP h1 124 4 = some B := by rw [FG_P f1]; exact hB
  have c1 := MN_FG f1 h134 c
  obtain ⟨v2, h2, g2, f2, t2, u2⟩ := d177 L1 b8 t1 B1 l1 c1
  have t2 : MKt h2 bs n (ga2 bs n P τ) := t2
  have L2 := FG_Ly f2 L1
  have l2 := FG_ML f2 l1
  have B2 : hP h2 124 4 = some B := by rw [FG_P f2]; exact B1
  have c2 := MN_FG f2 h134 c1
  obtain ⟨m4, h4, g4, f4, t4, b4, v4⟩ := d174 L2 b8 t2 (x := 19) (by decide) (by decide) (lo := 1) (hi := 99) (by first | decide | exact b6) (by decide)
  have g4 : C 174 [.ref 124, .float 19, .int 1, .int 99] h2 = some (some (some (.int (nI m4))), h4) := g4
  have t4 : MKt h4 bs n (ga4 bs n P τ) := t4
  have v4 : (ga4 bs n P τ) 4 = 0 → m4 = ga3 bs n P τ 3 := v4
  have L4 := FG_Ly f4 L2
  have l4 := FG_ML f4 l2
  have B4 : hP h4 124 4 = some B := by rw [FG_P f4]; exact B2
  have c4 := MN_FG f4 h134 c2
  obtain ⟨m6, h6, g6, f6, t6, b6, v6⟩ := d174 L4 b8 t4 (x := 20) (by decide) (by decide) (lo := 0) (hi := 23) (by first | decide | exact b6) (by decide)
  have g6 : C 174 [.ref 124, .float 20, .int 0, .int 23] h4 = some (some (some (.int (nI m6))), h6) := g6
  have t6 : MKt h6 bs n (ga6 bs n P τ) := t6
  have v6 : (ga6 bs n P τ) 4 = 0 → m6 = ga5 bs n P τ 3 := v6
  have L6 := FG_Ly f6 L4
  have l6 := FG_ML f6 l4
  have B6 : hP h6 124 4 = some B := by rw [FG_P f6]; exact B4
  have c6 := MN_FG f6 h134 c4
  obtain ⟨m8, h8, g8, f8, t8, b8, v8⟩ := d174 L6 b8 t6 (x := 21) (by decide) (by decide) (lo := m6) (hi := 23) (by first | decide | exact b6) (by decide)
  have g8 : C 174 [.ref 124, .float 21, .int (nI m6), .int 23] h6 = some (some (some (.int (nI m8))), h8) := g8
  have tt : sWh bs n m6 23 (ga7 bs n P τ) = ga8 bs n P τ := by
    by_cases zz : (ga6 bs n P τ) 4 = 0
    · rw [v6 zz]; rfl
    · have z7 : ¬ (ga7 bs n P τ) 4 = 0 := by unfold ga7; rw [sWd_1 zz]; exact zz
      rw [sWh_1 z7]; unfold ga8; rw [sWh_1 z7]
  have t8 : MKt h8 bs n (ga8 bs n P τ) := by rw [← tt]; exact t8
  have v8 : (ga8 bs n P τ) 4 = 0 → m8 = ga7 bs n P τ 3 := fun q => v8 (by rw [← tt] at q; exact q)
  have L8 := FG_Ly f8 L6
  have l8 := FG_ML f8 l6
  have B8 : hP h8 124 4 = some B := by rw [FG_P f8]; exact B6
  have c8 := MN_FG f8 h134 c6
  have rd : RM B h h8 := RM_T (RM_T (RM_T (RM_T (RM_T (RM_rfl B h) f1) f2) f4) f6) f8
  have fr : ∀ a j, B ≤ a → hI h8 a j = hI h a j := by
    intro a j ha
    rw [MB_T (P := P) f8 h134 ha, MB_T (P := P) f6 h134 ha, MB_T (P := P) f4 h134 ha, MB_T (P := P) f2 h134 ha, MB_T (P := P) f1 h134 ha]
  by_cases e : (ga8 bs n P τ) 4 = 0
  · have zz8 : (ga8 bs n P τ) 4 = 0 := e
    have zz7 : (ga7 bs n P τ) 4 = 0 := z_wh zz8
    have zz6 : (ga6 bs n P τ) 4 = 0 := z_wd zz7
    have zz5 : (ga5 bs n P τ) 4 = 0 := z_wh zz6
    have zz4 : (ga4 bs n P τ) 4 = 0 := z_wd zz5
    have zz3 : (ga3 bs n P τ) 4 = 0 := z_wh zz4
    have zz2 : (ga2 bs n P τ) 4 = 0 := z_wd zz3
    have zz1 : (ga1 bs n P τ) 4 = 0 := z_nw zz2
    obtain ⟨-, cm⟩ := rm_b zz1
    have hv := rm_tok zz1 (t.2.1 e0).2.2.2.2.2.2.2.2.1
    have hv := hv.2.2.2.1 (nw_b zz2).1
    have u2 := u2 zz2
    subst u2
    have s9 : decide (hI h8 124 9 = 5) = false := by rw [(t8.2.1 e).1]; exact mk_ne5
    have hk : hI h8 B 4 = nI (P 0 4) := (fr _ _ (Nat.le_refl _)).trans (b_s4 b)
    obtain ⟨hN, gN, fN, cN, tN⟩ := d178 L8 t8 B8 l8 c8 (by omega) (v := ga1 bs n P τ 3) (s := 3) (k := P 0 4) hv (by decide)
    have gN : C 178 [.ref 124, .long (nL (ga1 bs n P τ 3)), .int 2, .int (nI (P 0 4))] h8 = some (some none, hN) := gN
    have LN := FG_Ly fN L8
    have lN := FG_ML fN l8
    have BN : hP hN 124 4 = some B := by rw [FG_P fN]; exact B8
    have frN : ∀ a j, B ≤ a → a < B + 22 → ¬ (a = B ∧ j = 10) → hI hN a j = hI h a j := fun a j i1 i2 i3 => (FG_I fN (by unfold nmP; omega)).trans (fr a j i1)
    have hk0 : hI hN B 4 = nI (P 0 4) := (frN _ _ (Nat.le_refl _) (by omega) (by omega)).trans (b_s4 b)
    have hk1 : hI (wI hN (B + 7) (P 0 4) (nI m4)) B 4 = nI (P 0 4) := by rw [hI_wI, if_neg (by omega)]; exact hk0
    have hk2 : hI (wI (wI hN (B + 7) (P 0 4) (nI m4)) (B + 8) (P 0 4) (nI m6)) B 4 = nI (P 0 4) := by rw [hI_wI, if_neg (by omega)]; exact hk1
    have hk3 : hI (wI (wI (wI hN (B + 7) (P 0 4) (nI m4)) (B + 8) (P 0 4) (nI m6)) (B + 9) (P 0 4) (nI m8)) B 4 = nI (P 0 4) := by rw [hI_wI, if_neg (by omega)]; exact hk2
    refine ⟨(wI (wI (wI (wI hN (B + 7) (P 0 4) (nI m4)) (B + 8) (P 0 4) (nI m6)) (B + 9) (P 0 4) (nI m8)) B 4 (nI (P 0 4 + 1))), ?_, RM_w (RM_w (RM_w (RM_w (RM_N rd fN) _ (by omega)) _ (by omega)) _ (by omega)) _ (by omega), MKt_w (MKt_w (MKt_w (MKt_w (tN) _ (by omega)) _ (by omega)) _ (by omega)) _ (by omega), fun _ => ⟨?_, MN_eq (MN_w (MN_w (MN_w (MN_w (cN) _ (by omega) (by omega)) _ (by omega) (by omega)) _ (by omega) (by omega)) _ (by omega) (by omega)) pGa_n⟩⟩
    · rw [e186]
      simp only [b186_0, b186_6, b186_8, b186_14, b186_20, b186_26, b186_39, b186_47, b186_55, b186_63, b186_70, cond_true, cond_false, decide_true, Bool.and_true, Bool.true_and, Bool.and_self, Bool.and_false, Bool.false_and, Bool.not_true, Bool.not_false, Bool.or_true, Bool.true_or, Bool.or_false, Bool.false_or, is_some, gd_some, bk_v, bk_u, isO_wI, hP_wI, isA_wI, y_124 L, y_124 L1, y_124 L2, y_124 L4, y_124 L6, y_124 L8, hB, B1, B2, B8, mB_O l, mB_O l8, b_s4 b, g1, g2, g4, g6, g8, s9, hk, gN, y_124 LN, BN, mB_O lN, hk0, hk1, hk2, hk3, m_p17 lN, m_p18 lN, m_p19 lN, w_cl (show P 0 4 < 2147483648 by omega), mA_7 lN (show P 0 4 < 3 by omega), mA_8 lN (show P 0 4 < 3 by omega), mA_9 lN (show P 0 4 < 3 by omega), w_s]
    · refine MB_a4 w b cm pGa_0 pGa_1 pGa_r ?_ (by rw [hI_wI, if_pos ⟨rfl, rfl⟩]) (by rw [pGa_9v, hI_wI, if_neg (by omega), hI_wI, if_neg (by omega), hI_wI, if_neg (by omega), hI_wI, if_pos ⟨rfl, rfl⟩, v4 zz4]) (by rw [pGa_10v, hI_wI, if_neg (by omega), hI_wI, if_neg (by omega), hI_wI, if_pos ⟨rfl, rfl⟩, v6 zz6]) (by rw [pGa_11v, hI_wI, if_neg (by omega), hI_wI, if_pos ⟨rfl, rfl⟩, v8 zz8])
      intro a j i1 i2 i3 i4
      rw [hI_wI, if_neg (by omega), hI_wI, if_neg (by omega), hI_wI, if_neg (by omega), hI_wI, if_neg (by omega), frN a j i1 i2 (by omega)]
  · have s9 : hI h8 124 9 = 5 := (t8.2.2 e).1
    refine ⟨h8, ?_, rd, t8, fun q => absurd q e⟩
    rw [e186]
    simp only [b186_0, b186_6, b186_8, b186_14, b186_20, b186_26, b186_39, b186_47, b186_55, b186_63, b186_70, cond_true, cond_false, decide_true, Bool.and_true, Bool.true_and, Bool.and_self, Bool.and_false, Bool.false_and, Bool.not_true, Bool.not_false, Bool.or_true, Bool.true_or, Bool.or_false, Bool.false_or, is_some, gd_some, bk_v, bk_u, y_124 L, y_124 L1, y_124 L2, y_124 L4, y_124 L6, y_124 L8, hB, B1, B2, B8, mB_O l, mB_O l8, b_s4 b, g1, g2, g4, g6, g8, s9]
set_option maxRecDepth 16384 in
theorem fsm_last (p : Nat → Bool) : ∀ f k, fsm p (f + 1) k = (match fsm p f k with | some i => some i | none => bif p (k + f) then some (k + f) else none)
  | 0, k => by rw [fsm_s]; rfl
  | f + 1, k => by
    rw [fsm_s, fsm_last p f (k + 1), fsm_s p f k]
    cases h : p k with
    | true => rfl
    | false => rw [show k + 1 + f = k + (f + 1) by omega]; rfl
set_option maxRecDepth 16384 in
theorem fd_ad {P : Gh} {v s k x : Nat} : fd (adN P v s k) x = (match fd P x with | some i => some i | none => bif decide (v = x) then some (P 30 0) else none) := by
  unfold fd
  rw [adN_30, fsm_last, Nat.zero_add]
  rw [show fsm (fun i => decide (adN P v s k 33 i = x)) (P 30 0) 0 = fsm (fun i => decide (P 33 i = x)) (P 30 0) 0 from fsm_congr (fun j _ hj => by show decide (adN P v s k 33 j = x) = _; rw [adN_33, if_neg (by omega)])]
  show _ = (match fsm (fun i => decide (P 33 i = x)) (P 30 0) 0 with | some i => some i | none => bif decide (v = x) then some (P 30 0) else none)
  rw [show adN P v s k 33 (P 30 0) = v by rw [adN_33, if_pos rfl]]
set_option maxRecDepth 16384 in
theorem sKn_ad {P : Gh} {v k s : Nat} (hs : ¬ s = 4) (τ : Nat → Nat) : sKn s (adN P v 4 k) τ = sKn s P τ ∧ ((sKn s P τ) 4 = 0 → knV (adN P v 4 k) τ = knV P τ) := by
  unfold sKn knV
  rw [fd_ad]
  cases h : inm τ with
  | false => exact ⟨rfl, fun e => by
      by_cases h4 : τ 4 = 0
      · exact absurd e (sFa_n h4 (by decide))
      · rw [cond_false, sFa_1 h4] at e; exact absurd e h4⟩
  | true =>
    cases hf : fd P (τ 3) with
    | none =>
      refine ⟨?_, fun e => ?_⟩
      · show (match (bif decide (v = τ 3) then some (P 30 0) else none) with | none => sFa 2 τ | some i => bif decide (adN P v 4 k 31 i = s) then τ else sFa 2 τ) = sFa 2 τ
        cases decide (v = τ 3) with
        | true =>
          show (bif decide (adN P v 4 k 31 (P 30 0) = s) then τ else sFa 2 τ) = _
          rw [adN_31, if_pos rfl, dF (fun q => hs q.symm)]; rfl
        | false => rfl
      · have e : (sFa 2 τ) 4 = 0 := e
        by_cases h4 : τ 4 = 0
        · exact absurd e (sFa_n h4 (by decide))
        · rw [sFa_1 h4] at e; exact absurd e h4
    | some i =>
      have hi := (fsm_lt hf).1
      refine ⟨?_, fun _ => ?_⟩
      · show (bif decide (adN P v 4 k 31 i = s) then τ else sFa 2 τ) = (bif decide (P 31 i = s) then τ else sFa 2 τ)
        rw [adN_31, if_neg (by omega)]
      · show adN P v 4 k 32 i = P 32 i
        rw [adN_32, if_neg (by omega)]
def CP (h : A_H) (P : Gh) (v k : Nat) : Prop := CN h P ∨ CN h (adN P v 4 k)
set_option maxRecDepth 16384 in
theorem CP_FB {h h' : A_H} {P : Gh} {v k : Nat} (f : FB TF h h') (c : CP h P v k) : CP h' P v k := c.elim (fun c => Or.inl (CN_FB f c)) (fun c => Or.inr (CN_FB f c))
set_option maxRecDepth 16384 in
theorem CP_w {h : A_H} {P : Gh} {v k : Nat} (c : CP h P v k) {a b : Nat} (x : Int32) (h2 : ¬ a = 2 ∧ ¬ a = 39 ∧ ¬ a = 40) : CP (wI h a b x) P v k := c.elim (fun c => Or.inl (CN_w c x h2)) (fun c => Or.inr (CN_w c x h2))
set_option maxRecDepth 16384 in
theorem c35g {h : A_H} {bs : Nat → Int32} {n : Nat} {τ : Nat → Nat} (L : Ly h) (t : CKt h bs n τ) (r : CRs h) {P : Gh} {v k : Nat} (c : CP h P v k) {s : Nat} (h4 : ¬ s = 4) (hs : s < 100) : ∃ m h', C 35 [.ref 2, .int (nI s)] h = some (some (some (.int (nI m))), h') ∧ FB TF h h' ∧ CKt h' bs n (sKn s P τ) ∧ m < bd s ∧ ((sKn s P τ) 4 = 0 → m = knV P τ) := by
  rcases c with c | c
  · exact c35 L t r c hs
  · obtain ⟨m, h', a1, a2, a3, a4, a5⟩ := c35 L t r c hs
    obtain ⟨e1, e2⟩ := sKn_ad (P := P) (v := v) (k := k) h4 τ
    rw [e1] at a3 a5
    exact ⟨m, h', a1, a2, a3, a4, fun q => (a5 q).trans (e2 q)⟩
set_option maxRecDepth 16384 in
theorem own_up {P P' : Gh} {o : Nat} (q1 : P' 0 5 = P 0 5 + 1) (q2 : ∀ g, g < P 0 5 → P' 14 g = P 14 g) (q3 : P' 14 (P 0 5) = o) (i : Nat) : own P' i = own P i + bif decide (o = i) then 2 ^ P 0 5 else 0 := by
  unfold own
  rw [q1]
  show itr _ (P 0 5) 0 + (bif decide (P' 14 (P 0 5) = i) then 2 ^ P 0 5 else 0) = _
  rw [q3]
  refine congrArg (· + _) (itr_congr (fun k a hk => ?_) 0)
  show a + (bif decide (P' 14 k = i) then 2 ^ k else 0) = a + (bif decide (P 14 k = i) then 2 ^ k else 0)
  rw [q2 k hk]
set_option maxRecDepth 16384 in
theorem or_up {m k : Nat} (hm : m < 2 ^ k) (hk : k < 31) : nI m ||| ((1 : Int32) <<< (nI k &&& 31)) = nI (m + 2 ^ k) := by
  refine i_ext (fun j hj => ?_)
  rw [bt_or, bt_1 (by omega), bt_nI _ hj, bt_nI _ hj]
  by_cases e : j = k
  · subst e
    rw [Nat.add_comm, Nat.testBit_two_pow_add_eq, Nat.testBit_lt_two_pow hm, dT rfl]; rfl
  · rw [dF e, Bool.or_false]
    by_cases l : j < k
    · rw [Nat.add_comm, Nat.testBit_two_pow_add_gt l]
    · rw [Nat.testBit_lt_two_pow (Nat.lt_of_lt_of_le hm (Nat.pow_le_pow_right (by decide) (by omega))), Nat.testBit_lt_two_pow (by
        have : m + 2 ^ k < 2 ^ (k + 1) := by rw [Nat.pow_succ]; omega
        exact Nat.lt_of_lt_of_le this (Nat.pow_le_pow_right (by decide) (by omega)))]
set_option maxRecDepth 16384 in
theorem c42t {h : A_H} {bs : Nat → Int32} {n : Nat} {σ : Nat → Nat} {T : Nat} {P : Gh} {v k ow : Nat} (L : Ly h) (t : CKt h bs n σ) (hT : isT T) (h22 : hP h 2 2 = some T) (r : CRs h) (c : CP h P v k) (hk : k < 8) (how : ow < 4) (e5 : hI h T 5 = nI k) (e2 : hI h (T + 21 + k) 2 = nI ow) : ∃ h', R 42 68 [some (.ref 2), some (.int (nI k)), some (.ref (T + 21 + k))] [] h = some (some none, h') ∧ RD T h h' ∧ CKt h' bs n (sWh bs n 0 99 (sWd bs n 28 (sWh bs n 1 9 (sWd bs n 27 (sWh bs n 0 300 σ))))) ∧ (∀ Q, CN h Q → CN h' Q) ∧ (∀ a b, T ≤ a → a < T + 35 → ¬ (a = T ∧ b = 5) → ¬ (a = T + 21 + k ∧ (b = 3 ∨ b = 5 ∨ b = 6)) → ¬ (a = T + 14 + ow ∧ b = 2) → hI h' a b = hI h a b) ∧ hI h' T 5 = nI (k + 1) ∧ hI h' (T + 14 + ow) 2 = hI h (T + 14 + ow) 2 ||| ((1 : Int32) <<< (nI k &&& 31)) ∧ ((sWh bs n 0 99 (sWd bs n 28 (sWh bs n 1 9 (sWd bs n 27 (sWh bs n 0 300 σ))))) 4 = 0 → hI h' (T + 21 + k) 3 = nI (σ 3) ∧ hI h' (T + 21 + k) 5 = nI ((sWd bs n 27 (sWh bs n 0 300 σ)) 3) ∧ hI h' (T + 21 + k) 6 = nI ((sWd bs n 28 (sWh bs n 1 9 (sWd bs n 27 (sWh bs n 0 300 σ)))) 3)) := by
  have q0 := nT hT (show 0 < 35 by decide)
  have qr := nT hT (show 21 + k < 35 by omega)
  rw [← Nat.add_assoc] at qr
  have qo := nT hT (show 14 + ow < 35 by omega)
  rw [← Nat.add_assoc] at qo
  obtain ⟨m1, h1, g1, f1, t1, b1, v1⟩ := c30 L t (lo := 0) (hi := 300) (by decide) (by decide)
  have g1 : C 30 [.ref 2, .int 0, .int 300] h = some (some (some (.int (nI m1))), h1) := g1
  have t1 : CKt h1 bs n (sWh bs n 0 300 σ) := t1
  have L1 := FB_Ly f1 L
  have p1 : hP h1 2 2 = some T := by rw [FB_P f1]; exact h22
  have r1 := CRs_FB f1 r
  have c1 := CP_FB f1 c
  have L2 : Ly (wI h1 (T + 21 + k) 3 (nI m1)) := L1
  have p2 : hP (wI h1 (T + 21 + k) 3 (nI m1)) 2 2 = some T := p1
  have r2 : CRs (wI h1 (T + 21 + k) 3 (nI m1)) := CRs_w r1 _
  have t2 := CKt_w t1 (a := T + 21 + k) (b := 3) (nI m1) (by omega) (by omega)
  have c2 : CP (wI h1 (T + 21 + k) 3 (nI m1)) P v k := CP_w c1 _ (by omega)
  obtain ⟨h3, g3, f3, t3⟩ := c29 L2 t2 (x := 27) (by decide) (by decide)
  have t3 : CKt h3 bs n (sWd bs n 27 (sWh bs n 0 300 σ)) := t3
  have L3 := FB_Ly f3 L2
  have p3 : hP h3 2 2 = some T := by rw [FB_P f3]; exact p2
  have r3 := CRs_FB f3 r2
  have c3 := CP_FB f3 c2
  obtain ⟨m4, h4, g4, f4, t4, b4, v4⟩ := c30 L3 t3 (lo := 1) (hi := 9) (by decide) (by decide)
  have g4 : C 30 [.ref 2, .int 1, .int 9] h3 = some (some (some (.int (nI m4))), h4) := g4
  have t4 : CKt h4 bs n (sWh bs n 1 9 (sWd bs n 27 (sWh bs n 0 300 σ))) := t4
  have L4 := FB_Ly f4 L3
  have p4 : hP h4 2 2 = some T := by rw [FB_P f4]; exact p3
  have r4 := CRs_FB f4 r3
  have c4 := CP_FB f4 c3
  have L5 : Ly (wI h4 (T + 21 + k) 5 (nI m4)) := L4
  have p5 : hP (wI h4 (T + 21 + k) 5 (nI m4)) 2 2 = some T := p4
  have r5 : CRs (wI h4 (T + 21 + k) 5 (nI m4)) := CRs_w r4 _
  have t5 := CKt_w t4 (a := T + 21 + k) (b := 5) (nI m4) (by omega) (by omega)
  have c5 : CP (wI h4 (T + 21 + k) 5 (nI m4)) P v k := CP_w c4 _ (by omega)
  obtain ⟨h6, g6, f6, t6⟩ := c29 L5 t5 (x := 28) (by decide) (by decide)
  have t6 : CKt h6 bs n (sWd bs n 28 (sWh bs n 1 9 (sWd bs n 27 (sWh bs n 0 300 σ)))) := t6
  have L6 := FB_Ly f6 L5
  have p6 : hP h6 2 2 = some T := by rw [FB_P f6]; exact p5
  have r6 := CRs_FB f6 r5
  have c6 := CP_FB f6 c5
  obtain ⟨m7, h7, g7, f7, t7, b7, v7⟩ := c30 L6 t6 (lo := 0) (hi := 99) (by decide) (by decide)
  have g7 : C 30 [.ref 2, .int 0, .int 99] h6 = some (some (some (.int (nI m7))), h7) := g7
  have t7 : CKt h7 bs n (sWh bs n 0 99 (sWd bs n 28 (sWh bs n 1 9 (sWd bs n 27 (sWh bs n 0 300 σ))))) := t7
  have L7 := FB_Ly f7 L6
  have p7 : hP h7 2 2 = some T := by rw [FB_P f7]; exact p6
  have r7 := CRs_FB f7 r6
  have c7 := CP_FB f7 c6
  have L8 : Ly (wI h7 (T + 21 + k) 6 (nI m7)) := L7
  have p8 : hP (wI h7 (T + 21 + k) 6 (nI m7)) 2 2 = some T := p7
  have r8 : CRs (wI h7 (T + 21 + k) 6 (nI m7)) := CRs_w r7 _
  have t8 := CKt_w t7 (a := T + 21 + k) (b := 6) (nI m7) (by omega) (by omega)
  have c8 : CP (wI h7 (T + 21 + k) 6 (nI m7)) P v k := CP_w c7 _ (by omega)
  have o2 : hI (wI h7 (T + 21 + k) 6 (nI m7)) (T + 21 + k) 2 = nI ow := by rw [hI_wI, if_neg (by omega), TR_B hT f7 (by omega) (by omega), TR_B hT f6 (by omega) (by omega), hI_wI, if_neg (by omega), TR_B hT f4 (by omega) (by omega), TR_B hT f3 (by omega) (by omega), hI_wI, if_neg (by omega), TR_B hT f1 (by omega) (by omega)]; exact e2
  have og : hI (wI h7 (T + 21 + k) 6 (nI m7)) (T + 14 + ow) 2 = hI h (T + 14 + ow) 2 := by rw [hI_wI, if_neg (by omega), TR_B hT f7 (by omega) (by omega), TR_B hT f6 (by omega) (by omega), hI_wI, if_neg (by omega), TR_B hT f4 (by omega) (by omega), TR_B hT f3 (by omega) (by omega), hI_wI, if_neg (by omega), TR_B hT f1 (by omega) (by omega)]
  have o5 : hI (wI (wI h7 (T + 21 + k) 6 (nI m7)) (T + 14 + ow) 2 (hI h (T + 14 + ow) 2 ||| (1 <<< (nI k &&& 31)))) T 5 = nI k := by rw [hI_wI, if_neg (by omega), hI_wI, if_neg (by omega), TR_B hT f7 (by omega) (by omega), TR_B hT f6 (by omega) (by omega), hI_wI, if_neg (by omega), TR_B hT f4 (by omega) (by omega), TR_B hT f3 (by omega) (by omega), hI_wI, if_neg (by omega), TR_B hT f1 (by omega) (by omega)]; exact e5
  have L9 : Ly (wI (wI h7 (T + 21 + k) 6 (nI m7)) (T + 14 + ow) 2 (hI h (T + 14 + ow) 2 ||| ((1 : Int32) <<< (nI k &&& 31)))) := L8
  have p9 : hP (wI (wI h7 (T + 21 + k) 6 (nI m7)) (T + 14 + ow) 2 (hI h (T + 14 + ow) 2 ||| ((1 : Int32) <<< (nI k &&& 31)))) 2 2 = some T := p8
  have r9 : CRs (wI (wI h7 (T + 21 + k) 6 (nI m7)) (T + 14 + ow) 2 (hI h (T + 14 + ow) 2 ||| ((1 : Int32) <<< (nI k &&& 31)))) := CRs_w r8 _
  have t9 := CKt_w t8 (a := T + 14 + ow) (b := 2) (hI h (T + 14 + ow) 2 ||| ((1 : Int32) <<< (nI k &&& 31))) (by omega) (by omega)
  have c9 : CP (wI (wI h7 (T + 21 + k) 6 (nI m7)) (T + 14 + ow) 2 (hI h (T + 14 + ow) 2 ||| ((1 : Int32) <<< (nI k &&& 31)))) P v k := CP_w c8 _ (by omega)
  have L10 : Ly (wI (wI (wI h7 (T + 21 + k) 6 (nI m7)) (T + 14 + ow) 2 (hI h (T + 14 + ow) 2 ||| ((1 : Int32) <<< (nI k &&& 31)))) (T) 5 (nI (k + 1))) := L9
  have p10 : hP (wI (wI (wI h7 (T + 21 + k) 6 (nI m7)) (T + 14 + ow) 2 (hI h (T + 14 + ow) 2 ||| ((1 : Int32) <<< (nI k &&& 31)))) (T) 5 (nI (k + 1))) 2 2 = some T := p9
  have r10 : CRs (wI (wI (wI h7 (T + 21 + k) 6 (nI m7)) (T + 14 + ow) 2 (hI h (T + 14 + ow) 2 ||| ((1 : Int32) <<< (nI k &&& 31)))) (T) 5 (nI (k + 1))) := CRs_w r9 _
  have t10 := CKt_w t9 (a := T) (b := 5) (nI (k + 1)) (by omega) (by omega)
  have c10 : CP (wI (wI (wI h7 (T + 21 + k) 6 (nI m7)) (T + 14 + ow) 2 (hI h (T + 14 + ow) 2 ||| ((1 : Int32) <<< (nI k &&& 31)))) (T) 5 (nI (k + 1))) P v k := CP_w c9 _ (by omega)
  refine ⟨(wI (wI (wI h7 (T + 21 + k) 6 (nI m7)) (T + 14 + ow) 2 (hI h (T + 14 + ow) 2 ||| ((1 : Int32) <<< (nI k &&& 31)))) (T) 5 (nI (k + 1))), ?_, RD_w (RD_w (RD_w (RD_B (RD_B (RD_w (RD_B (RD_B (RD_w (RD_B (RD_rfl T h) f1) _ (by omega)) f3) f4) _ (by omega)) f6) f7) _ (by omega)) _ (by omega)) _ (by omega), t10, fun Q q => ?_, ?_, ?_, ?_, fun e => ?_⟩
  · simp only [b42_68, b42_73, b42_74, b42_77, b42_82, b42_83, b42_86, b42_91, b42_92, b42_105, b42_112, cond_true, cond_false, decide_true, Bool.and_true, Bool.true_and, Bool.and_self, Bool.and_false, Bool.false_and, Bool.not_true, Bool.not_false, Bool.or_true, Bool.true_or, Bool.or_false, Bool.false_or, is_some, gd_some, bk_v, bk_u, isO_wI, hP_wI, isA_wI, g1, g3, g4, g6, g7, x_O2 L, x_O2 L1, x_O2 L3, x_O2 L4, x_O2 L6, x_O2 L7, h22, p1, p3, p4, p6, p7, t_OG L1 hT hk, t_OG L4 hT hk, t_OG L7 hT hk, o2, og, o5, t_O L7 hT, t_P10 L7 hT, w_cl (show ow < 2147483648 by omega), t_At L7 hT how, t_Et L7 hT how, t_Ot L7 hT how, w_s]
  · exact CN_w (CN_w (CN_w (CN_FB f7 (CN_FB f6 (CN_w (CN_FB f4 (CN_FB f3 (CN_w (CN_FB f1 (q)) _ (by omega)))) _ (by omega)))) _ (by omega)) _ (by omega)) _ (by omega)
  · intro a b i1 i2 i3 i4 i5
    rw [hI_wI, if_neg (by omega), hI_wI, if_neg (by omega), hI_wI, if_neg (by omega), TR_B hT f7 (by omega) (by omega), TR_B hT f6 (by omega) (by omega), hI_wI, if_neg (by omega), TR_B hT f4 (by omega) (by omega), TR_B hT f3 (by omega) (by omega), hI_wI, if_neg (by omega), TR_B hT f1 (by omega) (by omega)]
  · rw [hI_wI, if_pos ⟨rfl, rfl⟩]
  · rw [hI_wI, if_neg (by omega), hI_wI, if_pos ⟨rfl, rfl⟩]
  · have z5 := z_wd (z_wh e)
    have z3 := z_wd (z_wh z5)
    exact ⟨by rw [hI_wI, if_neg (by omega), hI_wI, if_neg (by omega), hI_wI, if_neg (by omega), TR_B hT f7 (by omega) (by omega), TR_B hT f6 (by omega) (by omega), hI_wI, if_neg (by omega), TR_B hT f4 (by omega) (by omega), TR_B hT f3 (by omega) (by omega), hI_wI, if_pos ⟨rfl, rfl⟩, v1 z3], by rw [hI_wI, if_neg (by omega), hI_wI, if_neg (by omega), hI_wI, if_neg (by omega), TR_B hT f7 (by omega) (by omega), TR_B hT f6 (by omega) (by omega), hI_wI, if_pos ⟨rfl, rfl⟩, v4 z5], by rw [hI_wI, if_neg (by omega), hI_wI, if_neg (by omega), hI_wI, if_pos ⟨rfl, rfl⟩, v7 e]⟩
