set_option maxRecDepth 16384 in
theorem d176u {h : A_H} {bs : Nat → Int32} {n : Nat} {τ : Nat → Nat} (L : Ly h) (b8 : B8 bs n) (t : MKt h bs n τ) {B : Nat} (hB : hP h 124 4 = some B) (l : ML h B) (hf : hI h B 0 = -1) {a m : Nat} (ha : a < m) (hm : m < 1000) (h4 : τ 4 = 0) : ∃ h', C 176 [.ref 124, .int (nI a), .int (nI m)] h = some (some none, h') ∧ FG mT ML14 h h' ∧ MKt h' bs n (sFa 6 τ) := by
  obtain ⟨h3, k1, k2, k3⟩ := d169 L b8 t (k := 6) (by decide) (by decide)
  have k1 : C 169 [.ref 124, .int 6] h = some (some none, h3) := k1
  have La := FG_Ly k2 L
  obtain ⟨h5, j1, j2, j3⟩ := g_on La b8 k3 (sFa_n h4 (by decide))
  refine ⟨h5, ?_, FG_tr k2 j2, j3⟩
  have d0 : decide (nI a = nI m) = false := dF (fun q => by have := (w_eq (show a < 2147483648 by omega) (show m < 2147483648 by omega)).mp q; omega)
  have d1 : decide (hI h B 0 = -1) = true := dT hf
  rw [e176]
  simp only [b176_0, b176_14, b176_16, cond_true, cond_false, decide_true, Bool.and_true, Bool.true_and, Bool.and_self, Bool.and_false, Bool.false_and, Bool.not_true, Bool.not_false, Bool.or_true, Bool.true_or, Bool.or_false, Bool.false_or, is_some, gd_some, bk_v, bk_u, y_124 L, y_124 La, hB, mB_O l, d0, d1, k1, j1]
set_option maxRecDepth 16384 in
theorem d183 {h : A_H} {bs : Nat → Int32} {n : Nat} {τ : Nat → Nat} {B : Nat} {P : Gh} (L : Ly h) (b8 : B8 bs n) (t : MKt h bs n τ) (e0 : τ 4 = 0) (k0 : ¬ τ 0 = 4) (hB : hP h 124 4 = some B) (l : ML h B) (c : MN h B P) (hf : hI h B 0 = -1) (b : MB (wI h B 0 (nI (P 0 0))) B P) (w : WF P) (nc : NC P) : ∃ h', C 183 [.ref 124] h = some (some none, h') ∧ RM B h h' ∧ MKt h' bs n (ba5 bs n P τ) ∧ ((ba5 bs n P τ) 4 = 0 → MB h' B (pBa bs n P τ) ∧ MN h' B (pBa bs n P τ)) := by
  have h134 := m_134 l
  obtain ⟨h1, g1, f1, t1⟩ := d168' L b8 t (fun _ => k0)
  have t1 : MKt h1 bs n (ba1 bs n P τ) := t1
  have L1 := FG_Ly f1 L
  have l1 := FG_ML f1 l
  have B1 : hP h1 124 4 = some B := by rw [FG_P f1]; exact hB
  have c1 := MN_FG f1 h134 c
  obtain ⟨m2, h2, g2, f2, t2, bb2, v2⟩ := d174 L1 b8 t1 (x := 12) (by decide) (by decide) (lo := 0) (hi := 9) (by decide) (by decide)
  have g2 : C 174 [.ref 124, .float 12, .int 0, .int 9] h1 = some (some (some (.int (nI m2))), h2) := g2
  have v2 : (ba3 bs n P τ) 4 = 0 → m2 = ba2 bs n P τ 3 := v2
  have t2 : MKt h2 bs n (ba3 bs n P τ) := t2
  have L2 := FG_Ly f2 L1
  have l2 := FG_ML f2 l1
  have B2 : hP h2 124 4 = some B := by rw [FG_P f2]; exact B1
  have c2 := MN_FG f2 h134 c1
  obtain ⟨m3, h3, g3, f3, t3, bb3, v3⟩ := d174 L2 b8 t2 (x := 13) (by decide) (by decide) (lo := 0) (hi := 50) (by decide) (by decide)
  have g3 : C 174 [.ref 124, .float 13, .int 0, .int 50] h2 = some (some (some (.int (nI m3))), h3) := g3
  have v3 : (ba5 bs n P τ) 4 = 0 → m3 = ba4 bs n P τ 3 := v3
  have t3 : MKt h3 bs n (ba5 bs n P τ) := t3
  have L3 := FG_Ly f3 L2
  have l3 := FG_ML f3 l2
  have B3 : hP h3 124 4 = some B := by rw [FG_P f3]; exact B2
  have c3 := MN_FG f3 h134 c2
  have fr : ∀ a j, B ≤ a → hI h3 a j = hI h a j := by
    intro a j ha
    rw [MB_T (P := P) f3 h134 ha, MB_T (P := P) f2 h134 ha, MB_T (P := P) f1 h134 ha]
  have d1 : decide (hI h B 0 = -1) = true := dT hf
  have rd : RM B h h3 := RM_T (RM_T (RM_T (RM_rfl B h) f1) f2) f3
  by_cases e : (ba5 bs n P τ) 4 = 0
  · have s9 : decide (hI h3 124 9 = 5) = false := by rw [(t3.2.1 e).1]; exact mk_ne5
    have ww1 := v2 (z_wd (z_wh e))
    have ww2 := v3 e
    subst ww1 ww2
    obtain ⟨j0, j1, jr, jz⟩ := pBa_f (bs := bs) (n := n) (P := P) (τ := τ)
    refine ⟨(wI (wI h3 B 0 (nI (ba2 bs n P τ 3))) B 1 (nI (ba4 bs n P τ 3))), ?_, RM_w (RM_w rd _ (by omega)) _ (by omega), MKt_w (MKt_w t3 _ (by omega)) _ (by omega), fun _ => ⟨?_, MN_eq (MN_w (MN_w c3 _ (by omega) (by omega)) _ (by omega) (by omega)) (fun a b ha => jr a b (by omega))⟩⟩
    · rw [e183]
      simp only [b183_0, b183_8, b183_10, b183_15, b183_21, b183_31, b183_35, cond_true, cond_false, decide_true, Bool.and_true, Bool.true_and, Bool.and_self, Bool.and_false, Bool.false_and, Bool.not_true, Bool.not_false, Bool.or_true, Bool.true_or, Bool.or_false, Bool.false_or, is_some, gd_some, bk_v, bk_u, isO_wI, hP_wI, isA_wI, y_124 L, y_124 L1, y_124 L2, y_124 L3, hB, B1, B2, B3, mB_O l, mB_O l1, mB_O l2, mB_O l3, g1, g2, g3, d1, s9]
    · refine MB_b w b jz (fun c i h1 h2 => jr c i h1) (fun a j ha i2 i3 i4 i5 => ?_) ?_ ?_
      · rw [hI_wI, if_neg (by omega), hI_wI, if_neg (by omega), hI_wI, if_neg (by omega), fr a j ha]
      · rw [j0, hI_wI, if_neg (by omega), hI_wI, if_pos ⟨rfl, rfl⟩]
      · rw [j1, hI_wI, if_pos ⟨rfl, rfl⟩]
  · have s9 : hI h3 124 9 = 5 := (t3.2.2 e).1
    refine ⟨h3, ?_, rd, t3, fun q => absurd q e⟩
    rw [e183]
    simp only [b183_0, b183_8, b183_10, b183_15, b183_21, b183_31, b183_35, cond_true, cond_false, decide_true, Bool.and_true, Bool.true_and, Bool.and_self, Bool.and_false, Bool.false_and, Bool.not_true, Bool.not_false, Bool.or_true, Bool.true_or, Bool.or_false, Bool.false_or, is_some, gd_some, bk_v, bk_u, y_124 L, y_124 L1, y_124 L2, y_124 L3, hB, B1, B2, B3, mB_O l, mB_O l1, mB_O l2, mB_O l3, g1, g2, g3, d1, s9]
set_option maxRecDepth 16384 in
theorem d183t {h : A_H} {bs : Nat → Int32} {n : Nat} {τ : Nat → Nat} {B : Nat} {P : Gh} (L : Ly h) (b8 : B8 bs n) (t : MKt h bs n τ) (e0 : τ 4 = 0) (hB : hP h 124 4 = some B) (l : ML h B) (c : MN h B P) (hf : decide (hI h B 0 = -1) = false) : ∃ h', C 183 [.ref 124] h = some (some none, h') ∧ RM B h h' ∧ MKt h' bs n (sFa 3 τ) := by
  have h134 := m_134 l
  have ne : ¬ (sFa 3 τ) 4 = 0 := sFa_n e0 (by decide)
  obtain ⟨h1, g1, f1, t1⟩ := d169 L b8 t (k := 3) (by decide) (by decide)
  have g1 : C 169 [.ref 124, .int 3] h = some (some none, h1) := g1
  have L1 := FG_Ly f1 L
  have l1 := FG_ML f1 l
  have B1 : hP h1 124 4 = some B := by rw [FG_P f1]; exact hB
  have c1 := MN_FG f1 h134 c
  obtain ⟨h2, g2, f2, t2⟩ := d168' L1 b8 t1 (fun q => absurd q ne)
  have L2 := FG_Ly f2 L1
  have l2 := FG_ML f2 l1
  have B2 : hP h2 124 4 = some B := by rw [FG_P f2]; exact B1
  have c2 := MN_FG f2 h134 c1
  rw [sSt_1 ne] at t2
  obtain ⟨m3, h3, g3, f3, t3, bb3, v3⟩ := d174 L2 b8 t2 (x := 12) (by decide) (by decide) (lo := 0) (hi := 9) (by decide) (by decide)
  have g3 : C 174 [.ref 124, .float 12, .int 0, .int 9] h2 = some (some (some (.int (nI m3))), h3) := g3
  have L3 := FG_Ly f3 L2
  have l3 := FG_ML f3 l2
  have B3 : hP h3 124 4 = some B := by rw [FG_P f3]; exact B2
  have c3 := MN_FG f3 h134 c2
  rw [sWd_1 ne, sWh_1 ne] at t3
  obtain ⟨m4, h4, g4, f4, t4, bb4, v4⟩ := d174 L3 b8 t3 (x := 13) (by decide) (by decide) (lo := 0) (hi := 50) (by decide) (by decide)
  have g4 : C 174 [.ref 124, .float 13, .int 0, .int 50] h3 = some (some (some (.int (nI m4))), h4) := g4
  have L4 := FG_Ly f4 L3
  have l4 := FG_ML f4 l3
  have B4 : hP h4 124 4 = some B := by rw [FG_P f4]; exact B3
  have c4 := MN_FG f4 h134 c3
  rw [sWd_1 ne, sWh_1 ne] at t4
  have s9 : hI h4 124 9 = 5 := (t4.2.2 ne).1
  refine ⟨h4, ?_, RM_T (RM_T (RM_T (RM_T (RM_rfl B h) f1) f2) f3) f4, t4⟩
  rw [e183]
  simp only [b183_0, b183_8, b183_10, b183_15, b183_21, b183_31, b183_35, cond_true, cond_false, decide_true, Bool.and_true, Bool.true_and, Bool.and_self, Bool.and_false, Bool.false_and, Bool.not_true, Bool.not_false, Bool.or_true, Bool.true_or, Bool.or_false, Bool.false_or, is_some, gd_some, bk_v, bk_u, y_124 L, y_124 L1, y_124 L2, y_124 L3, y_124 L4, hB, B1, B2, B3, B4, mB_O l, mB_O l1, mB_O l2, mB_O l3, mB_O l4, g1, g2, g3, g4, hf, s9]
set_option maxRecDepth 16384 in
theorem d184u {h : A_H} {bs : Nat → Int32} {n : Nat} {τ : Nat → Nat} {B : Nat} {P : Gh} (L : Ly h) (b8 : B8 bs n) (t : MKt h bs n τ) (e0 : τ 4 = 0) (hB : hP h 124 4 = some B) (l : ML h B) (c : MN h B P) (hf : hI h B 0 = -1) (hz : hI h B 2 = 0) : ∃ h', C 184 [.ref 124] h = some (some none, h') ∧ RM B h h' ∧ MKt h' bs n (sFa 6 τ) := by
  have h134 := m_134 l
  have ne : ¬ (sFa 6 τ) 4 = 0 := sFa_n e0 (by decide)
  obtain ⟨h1, g1, f1, t1⟩ := d176u L b8 t hB l hf (a := 0) (m := 4) (by decide) (by decide) e0
  have g1 : C 176 [.ref 124, .int 0, .int 4] h = some (some none, h1) := g1
  have L1 := FG_Ly f1 L
  have l1 := FG_ML f1 l
  have B1 : hP h1 124 4 = some B := by rw [FG_P f1]; exact hB
  have c1 := MN_FG f1 h134 c
  obtain ⟨v2, h2, g2, f2, t2, u2⟩ := d177 L1 b8 t1 B1 l1 c1
  have L2 := FG_Ly f2 L1
  have l2 := FG_ML f2 l1
  have B2 : hP h2 124 4 = some B := by rw [FG_P f2]; exact B1
  have c2 := MN_FG f2 h134 c1
  rw [sNw_1 ne] at t2
  obtain ⟨m3, h3, g3, f3, t3, bb3, v3⟩ := d174 L2 b8 t2 (x := 14) (by decide) (by decide) (lo := 0) (hi := 9) (by decide) (by decide)
  have g3 : C 174 [.ref 124, .float 14, .int 0, .int 9] h2 = some (some (some (.int (nI m3))), h3) := g3
  have L3 := FG_Ly f3 L2
  have l3 := FG_ML f3 l2
  have B3 : hP h3 124 4 = some B := by rw [FG_P f3]; exact B2
  have c3 := MN_FG f3 h134 c2
  rw [sWd_1 ne, sWh_1 ne] at t3
  obtain ⟨m4, h4, g4, f4, t4, bb4, v4⟩ := d174 L3 b8 t3 (x := 15) (by decide) (by decide) (lo := 0) (hi := 9) (by decide) (by decide)
  have g4 : C 174 [.ref 124, .float 15, .int 0, .int 9] h3 = some (some (some (.int (nI m4))), h4) := g4
  have L4 := FG_Ly f4 L3
  have l4 := FG_ML f4 l3
  have B4 : hP h4 124 4 = some B := by rw [FG_P f4]; exact B3
  have c4 := MN_FG f4 h134 c3
  rw [sWd_1 ne, sWh_1 ne] at t4
  obtain ⟨m5, h5, g5, f5, t5, bb5, v5⟩ := d174 L4 b8 t4 (x := 16) (by decide) (by decide) (lo := 1) (hi := 300) (by decide) (by decide)
  have g5 : C 174 [.ref 124, .float 16, .int 1, .int 300] h4 = some (some (some (.int (nI m5))), h5) := g5
  have L5 := FG_Ly f5 L4
  have l5 := FG_ML f5 l4
  have B5 : hP h5 124 4 = some B := by rw [FG_P f5]; exact B4
  have c5 := MN_FG f5 h134 c4
  rw [sWd_1 ne, sWh_1 ne] at t5
  have s9 : hI h5 124 9 = 5 := (t5.2.2 ne).1
  refine ⟨h5, ?_, RM_T (RM_T (RM_T (RM_T (RM_T (RM_rfl B h) f1) f2) f3) f4) f5, t5⟩
  rw [e184]
  simp only [b184_0, b184_6, b184_8, b184_14, b184_20, b184_26, b184_39, b184_47, b184_57, b184_65, b184_73, b184_80, cond_true, cond_false, decide_true, Bool.and_true, Bool.true_and, Bool.and_self, Bool.and_false, Bool.false_and, Bool.not_true, Bool.not_false, Bool.or_true, Bool.true_or, Bool.or_false, Bool.false_or, is_some, gd_some, bk_v, bk_u, y_124 L, y_124 L1, y_124 L2, y_124 L3, y_124 L4, y_124 L5, hB, B1, B2, B3, B4, B5, mB_O l, mB_O l1, mB_O l2, mB_O l3, mB_O l4, mB_O l5, g1, g2, g3, g4, g5, hz, s9]
set_option maxRecDepth 16384 in
theorem d185u {h : A_H} {bs : Nat → Int32} {n : Nat} {τ : Nat → Nat} {B : Nat} {P : Gh} (L : Ly h) (b8 : B8 bs n) (t : MKt h bs n τ) (e0 : τ 4 = 0) (hB : hP h 124 4 = some B) (l : ML h B) (c : MN h B P) (hf : hI h B 0 = -1) (hz : hI h B 3 = 0) : ∃ h', C 185 [.ref 124] h = some (some none, h') ∧ RM B h h' ∧ MKt h' bs n (sFa 6 τ) := by
  have h134 := m_134 l
  have ne : ¬ (sFa 6 τ) 4 = 0 := sFa_n e0 (by decide)
  obtain ⟨h1, g1, f1, t1⟩ := d176u L b8 t hB l hf (a := 0) (m := 4) (by decide) (by decide) e0
  have g1 : C 176 [.ref 124, .int 0, .int 4] h = some (some none, h1) := g1
  have L1 := FG_Ly f1 L
  have l1 := FG_ML f1 l
  have B1 : hP h1 124 4 = some B := by rw [FG_P f1]; exact hB
  have c1 := MN_FG f1 h134 c
  obtain ⟨v2, h2, g2, f2, t2, u2⟩ := d177 L1 b8 t1 B1 l1 c1
  have L2 := FG_Ly f2 L1
  have l2 := FG_ML f2 l1
  have B2 : hP h2 124 4 = some B := by rw [FG_P f2]; exact B1
  have c2 := MN_FG f2 h134 c1
  rw [sNw_1 ne] at t2
  obtain ⟨m3, h3, g3, f3, t3, bb3, v3⟩ := d174 L2 b8 t2 (x := 17) (by decide) (by decide) (lo := 0) (hi := 99) (by decide) (by decide)
  have g3 : C 174 [.ref 124, .float 17, .int 0, .int 99] h2 = some (some (some (.int (nI m3))), h3) := g3
  have L3 := FG_Ly f3 L2
  have l3 := FG_ML f3 l2
  have B3 : hP h3 124 4 = some B := by rw [FG_P f3]; exact B2
  have c3 := MN_FG f3 h134 c2
  rw [sWd_1 ne, sWh_1 ne] at t3
  obtain ⟨m4, h4, g4, f4, t4, bb4, v4⟩ := d174 L3 b8 t3 (x := 18) (by decide) (by decide) (lo := 0) (hi := 3) (by decide) (by decide)
  have g4 : C 174 [.ref 124, .float 18, .int 0, .int 3] h3 = some (some (some (.int (nI m4))), h4) := g4
  have L4 := FG_Ly f4 L3
  have l4 := FG_ML f4 l3
  have B4 : hP h4 124 4 = some B := by rw [FG_P f4]; exact B3
  have c4 := MN_FG f4 h134 c3
  rw [sWd_1 ne, sWh_1 ne] at t4
  have s9 : hI h4 124 9 = 5 := (t4.2.2 ne).1
  refine ⟨h4, ?_, RM_T (RM_T (RM_T (RM_T (RM_rfl B h) f1) f2) f3) f4, t4⟩
  rw [e185]
  simp only [b185_0, b185_6, b185_8, b185_14, b185_20, b185_33, b185_41, b185_49, b185_56, cond_true, cond_false, decide_true, Bool.and_true, Bool.true_and, Bool.and_self, Bool.and_false, Bool.false_and, Bool.not_true, Bool.not_false, Bool.or_true, Bool.true_or, Bool.or_false, Bool.false_or, is_some, gd_some, bk_v, bk_u, y_124 L, y_124 L1, y_124 L2, y_124 L3, y_124 L4, hB, B1, B2, B3, B4, mB_O l, mB_O l1, mB_O l2, mB_O l3, mB_O l4, g1, g2, g3, g4, hz, s9]
set_option maxRecDepth 16384 in
theorem d186u {h : A_H} {bs : Nat → Int32} {n : Nat} {τ : Nat → Nat} {B : Nat} {P : Gh} (L : Ly h) (b8 : B8 bs n) (t : MKt h bs n τ) (e0 : τ 4 = 0) (hB : hP h 124 4 = some B) (l : ML h B) (c : MN h B P) (hf : hI h B 0 = -1) (hz : hI h B 4 = 0) : ∃ h', C 186 [.ref 124] h = some (some none, h') ∧ RM B h h' ∧ MKt h' bs n (sFa 6 τ) := by
  have h134 := m_134 l
  have ne : ¬ (sFa 6 τ) 4 = 0 := sFa_n e0 (by decide)
  obtain ⟨h1, g1, f1, t1⟩ := d176u L b8 t hB l hf (a := 0) (m := 3) (by decide) (by decide) e0
  have g1 : C 176 [.ref 124, .int 0, .int 3] h = some (some none, h1) := g1
  have L1 := FG_Ly f1 L
  have l1 := FG_ML f1 l
  have B1 : hP h1 124 4 = some B := by rw [FG_P f1]; exact hB
  have c1 := MN_FG f1 h134 c
  obtain ⟨v2, h2, g2, f2, t2, u2⟩ := d177 L1 b8 t1 B1 l1 c1
  have L2 := FG_Ly f2 L1
  have l2 := FG_ML f2 l1
  have B2 : hP h2 124 4 = some B := by rw [FG_P f2]; exact B1
  have c2 := MN_FG f2 h134 c1
  rw [sNw_1 ne] at t2
  obtain ⟨m3, h3, g3, f3, t3, bb3, v3⟩ := d174 L2 b8 t2 (x := 19) (by decide) (by decide) (lo := 1) (hi := 99) (by decide) (by decide)
  have g3 : C 174 [.ref 124, .float 19, .int 1, .int 99] h2 = some (some (some (.int (nI m3))), h3) := g3
  have L3 := FG_Ly f3 L2
  have l3 := FG_ML f3 l2
  have B3 : hP h3 124 4 = some B := by rw [FG_P f3]; exact B2
  have c3 := MN_FG f3 h134 c2
  rw [sWd_1 ne, sWh_1 ne] at t3
  obtain ⟨m4, h4, g4, f4, t4, bb4, v4⟩ := d174 L3 b8 t3 (x := 20) (by decide) (by decide) (lo := 0) (hi := 23) (by decide) (by decide)
  have g4 : C 174 [.ref 124, .float 20, .int 0, .int 23] h3 = some (some (some (.int (nI m4))), h4) := g4
  have L4 := FG_Ly f4 L3
  have l4 := FG_ML f4 l3
  have B4 : hP h4 124 4 = some B := by rw [FG_P f4]; exact B3
  have c4 := MN_FG f4 h134 c3
  rw [sWd_1 ne, sWh_1 ne] at t4
  obtain ⟨m5, h5, g5, f5, t5, bb5, v5⟩ := d174 L4 b8 t4 (x := 21) (by decide) (by decide) (lo := m4) (hi := 23) bb4 (by decide)
  have g5 : C 174 [.ref 124, .float 21, .int (nI m4), .int 23] h4 = some (some (some (.int (nI m5))), h5) := g5
  have L5 := FG_Ly f5 L4
  have l5 := FG_ML f5 l4
  have B5 : hP h5 124 4 = some B := by rw [FG_P f5]; exact B4
  have c5 := MN_FG f5 h134 c4
  rw [sWd_1 ne, sWh_1 ne] at t5
  have s9 : hI h5 124 9 = 5 := (t5.2.2 ne).1
  refine ⟨h5, ?_, RM_T (RM_T (RM_T (RM_T (RM_T (RM_rfl B h) f1) f2) f3) f4) f5, t5⟩
  rw [e186]
  simp only [b186_0, b186_6, b186_8, b186_14, b186_20, b186_26, b186_39, b186_47, b186_55, b186_63, b186_70, cond_true, cond_false, decide_true, Bool.and_true, Bool.true_and, Bool.and_self, Bool.and_false, Bool.false_and, Bool.not_true, Bool.not_false, Bool.or_true, Bool.true_or, Bool.or_false, Bool.false_or, is_some, gd_some, bk_v, bk_u, y_124 L, y_124 L1, y_124 L2, y_124 L3, y_124 L4, y_124 L5, hB, B1, B2, B3, B4, B5, mB_O l, mB_O l1, mB_O l2, mB_O l3, mB_O l4, mB_O l5, g1, g2, g3, g4, g5, hz, s9]
set_option maxRecDepth 16384 in
theorem d188u {h : A_H} {bs : Nat → Int32} {n : Nat} {τ : Nat → Nat} {B : Nat} {P : Gh} (L : Ly h) (b8 : B8 bs n) (t : MKt h bs n τ) (e0 : τ 4 = 0) (hB : hP h 124 4 = some B) (l : ML h B) (c : MN h B P) (hf : hI h B 0 = -1) (hz : hI h B 5 = 0) : ∃ h', C 188 [.ref 124] h = some (some none, h') ∧ RM B h h' ∧ MKt h' bs n (sFa 6 τ) := by
  have h134 := m_134 l
  have ne : ¬ (sFa 6 τ) 4 = 0 := sFa_n e0 (by decide)
  obtain ⟨h1, g1, f1, t1⟩ := d176u L b8 t hB l hf (a := 0) (m := 8) (by decide) (by decide) e0
  have g1 : C 176 [.ref 124, .int 0, .int 8] h = some (some none, h1) := g1
  have L1 := FG_Ly f1 L
  have l1 := FG_ML f1 l
  have B1 : hP h1 124 4 = some B := by rw [FG_P f1]; exact hB
  have c1 := MN_FG f1 h134 c
  obtain ⟨v2, h2, g2, f2, t2, u2⟩ := d177 L1 b8 t1 B1 l1 c1
  have L2 := FG_Ly f2 L1
  have l2 := FG_ML f2 l1
  have B2 : hP h2 124 4 = some B := by rw [FG_P f2]; exact B1
  have c2 := MN_FG f2 h134 c1
  rw [sNw_1 ne] at t2
  have gk := d187 L2 b8 t2
  rw [dF ne, cond_false] at gk
  obtain ⟨h3, g3, f3, t3⟩ := d169 L2 b8 t2 (k := 1) (by decide) (by decide)
  have g3 : C 169 [.ref 124, .int 1] h2 = some (some none, h3) := g3
  have L3 := FG_Ly f3 L2
  have l3 := FG_ML f3 l2
  have B3 : hP h3 124 4 = some B := by rw [FG_P f3]; exact B2
  have c3 := MN_FG f3 h134 c2
  rw [sFa_1 ne] at t3
  obtain ⟨h4, g4, f4, t4⟩ := d168' L3 b8 t3 (fun q => absurd q ne)
  have L4 := FG_Ly f4 L3
  have l4 := FG_ML f4 l3
  have B4 : hP h4 124 4 = some B := by rw [FG_P f4]; exact B3
  have c4 := MN_FG f4 h134 c3
  rw [sSt_1 ne] at t4
  obtain ⟨v5, h5, g5, f5, t5, u5⟩ := d180 L4 b8 t4 B4 l4 c4 (s := 2) (by decide)
  have g5 : C 180 [.ref 124, .int 1] h4 = some (some (some (.int v5)), h5) := g5
  have L5 := FG_Ly f5 L4
  have l5 := FG_ML f5 l4
  have B5 : hP h5 124 4 = some B := by rw [FG_P f5]; exact B4
  have c5 := MN_FG f5 h134 c4
  rw [sKn_1 ne, sSt_1 ne] at t5
  obtain ⟨h6, g6, f6, t6⟩ := d172 L5 b8 t5 (x := 11) (by decide) (by decide)
  have L6 := FG_Ly f6 L5
  have l6 := FG_ML f6 l5
  have B6 : hP h6 124 4 = some B := by rw [FG_P f6]; exact B5
  have c6 := MN_FG f6 h134 c5
  rw [sWd_1 ne] at t6
  obtain ⟨v7, h7, g7, f7, t7, u7⟩ := d180 L6 b8 t6 B6 l6 c6 (s := 1) (by decide)
  have g7 : C 180 [.ref 124, .int 0] h6 = some (some (some (.int v7)), h7) := g7
  have L7 := FG_Ly f7 L6
  have l7 := FG_ML f7 l6
  have B7 : hP h7 124 4 = some B := by rw [FG_P f7]; exact B6
  have c7 := MN_FG f7 h134 c6
  rw [sKn_1 ne, sSt_1 ne] at t7
  obtain ⟨m8, h8, g8, f8, t8, bb8, v8⟩ := d174 L7 b8 t7 (x := 26) (by decide) (by decide) (lo := 0) (hi := 300) (by decide) (by decide)
  have g8 : C 174 [.ref 124, .float 26, .int 0, .int 300] h7 = some (some (some (.int (nI m8))), h8) := g8
  have L8 := FG_Ly f8 L7
  have l8 := FG_ML f8 l7
  have B8 : hP h8 124 4 = some B := by rw [FG_P f8]; exact B7
  have c8 := MN_FG f8 h134 c7
  rw [sWd_1 ne, sWh_1 ne] at t8
  obtain ⟨m9, h9, g9, f9, t9, bb9, v9⟩ := d174 L8 b8 t8 (x := 27) (by decide) (by decide) (lo := 1) (hi := 9) (by decide) (by decide)
  have g9 : C 174 [.ref 124, .float 27, .int 1, .int 9] h8 = some (some (some (.int (nI m9))), h9) := g9
  have L9 := FG_Ly f9 L8
  have l9 := FG_ML f9 l8
  have B9 : hP h9 124 4 = some B := by rw [FG_P f9]; exact B8
  have c9 := MN_FG f9 h134 c8
  rw [sWd_1 ne, sWh_1 ne] at t9
  obtain ⟨m10, h10, g10, f10, t10, bb10, v10⟩ := d174 L9 b8 t9 (x := 28) (by decide) (by decide) (lo := 0) (hi := 99) (by decide) (by decide)
  have g10 : C 174 [.ref 124, .float 28, .int 0, .int 99] h9 = some (some (some (.int (nI m10))), h10) := g10
  have L10 := FG_Ly f10 L9
  have l10 := FG_ML f10 l9
  have B10 : hP h10 124 4 = some B := by rw [FG_P f10]; exact B9
  have c10 := MN_FG f10 h134 c9
  rw [sWd_1 ne, sWh_1 ne] at t10
  have s9 : hI h10 124 9 = 5 := (t10.2.2 ne).1
  refine ⟨h10, ?_, RM_T (RM_T (RM_T (RM_T (RM_T (RM_T (RM_T (RM_T (RM_T (RM_T (RM_rfl B h) f1) f2) f3) f4) f5) f6) f7) f8) f9) f10, t10⟩
  rw [e188]
  simp only [b188_0, b188_6, b188_8, b188_11, b188_18, b188_20, b188_23, b188_31, b188_34, b188_40, b188_46, b188_52, b188_67, b188_73, b188_79, b188_85, b188_91, b188_97, b188_103, b188_110, cond_true, cond_false, decide_true, Bool.and_true, Bool.true_and, Bool.and_self, Bool.and_false, Bool.false_and, Bool.not_true, Bool.not_false, Bool.or_true, Bool.true_or, Bool.or_false, Bool.false_or, is_some, gd_some, bk_v, bk_u, y_124 L, y_124 L1, y_124 L2, y_124 L3, y_124 L4, y_124 L5, y_124 L6, y_124 L7, y_124 L8, y_124 L9, y_124 L10, hB, B1, B2, B3, B4, B5, B6, B7, B8, B9, B10, mB_O l, mB_O l1, mB_O l2, mB_O l3, mB_O l4, mB_O l5, mB_O l6, mB_O l7, mB_O l8, mB_O l9, mB_O l10, g1, g2, g3, g4, g5, g6, g7, g8, g9, g10, hz, s9, gk, show decide ((-1 : Int32) = -1) = true from rfl, show decide ((-1 : Int32) = 0) = false from rfl]
set_option maxRecDepth 16384 in
theorem d189u {h : A_H} {bs : Nat → Int32} {n : Nat} {τ : Nat → Nat} {B : Nat} {P : Gh} (L : Ly h) (b8 : B8 bs n) (t : MKt h bs n τ) (e0 : τ 4 = 0) (hB : hP h 124 4 = some B) (l : ML h B) (c : MN h B P) (hf : hI h B 0 = -1) : ∃ h', C 189 [.ref 124] h = some (some none, h') ∧ RM B h h' ∧ MKt h' bs n (sFa 6 τ) := by
  have h134 := m_134 l
  have ne : ¬ (sFa 6 τ) 4 = 0 := sFa_n e0 (by decide)
  obtain ⟨h1, g1, f1, t1⟩ := d176u L b8 t hB l hf (a := 0) (m := 1) (by decide) (by decide) e0
  have g1 : C 176 [.ref 124, .int 0, .int 1] h = some (some none, h1) := g1
  have L1 := FG_Ly f1 L
  have l1 := FG_ML f1 l
  have B1 : hP h1 124 4 = some B := by rw [FG_P f1]; exact hB
  have c1 := MN_FG f1 h134 c
  obtain ⟨v2, h2, g2, f2, t2, u2⟩ := d179 L1 b8 t1 B1 l1 c1 (s := 4) (by decide)
  have g2 : C 179 [.ref 124, .int 3] h1 = some (some (some (.int v2)), h2) := g2
  have L2 := FG_Ly f2 L1
  have l2 := FG_ML f2 l1
  have B2 : hP h2 124 4 = some B := by rw [FG_P f2]; exact B1
  have c2 := MN_FG f2 h134 c1
  rw [sKn_1 ne] at t2
  have s9a : hI h2 124 9 = 5 := (t2.2.2 ne).1
  obtain ⟨h3, g3, f3, t3⟩ := d168' L2 b8 t2 (fun q => absurd q ne)
  have L3 := FG_Ly f3 L2
  have l3 := FG_ML f3 l2
  have B3 : hP h3 124 4 = some B := by rw [FG_P f3]; exact B2
  have c3 := MN_FG f3 h134 c2
  rw [sSt_1 ne] at t3
  have s9 : hI h3 124 9 = 5 := (t3.2.2 ne).1
  refine ⟨h3, ?_, RM_T (RM_T (RM_T (RM_rfl B h) f1) f2) f3, t3⟩
  rw [e189]
  simp only [b189_0, b189_4, b189_7, b189_17, b189_21, b189_23, b189_36, cond_true, cond_false, decide_true, Bool.and_true, Bool.true_and, Bool.and_self, Bool.and_false, Bool.false_and, Bool.not_true, Bool.not_false, Bool.or_true, Bool.true_or, Bool.or_false, Bool.false_or, is_some, gd_some, bk_v, bk_u, y_124 L, y_124 L1, y_124 L2, y_124 L3, hB, B1, B2, B3, mB_O l, mB_O l1, mB_O l2, mB_O l3, g1, g2, g3, s9, s9a]
set_option maxRecDepth 16384 in
theorem d190u {h : A_H} {bs : Nat → Int32} {n : Nat} {τ : Nat → Nat} {B : Nat} {P : Gh} (L : Ly h) (b8 : B8 bs n) (t : MKt h bs n τ) (e0 : τ 4 = 0) (hB : hP h 124 4 = some B) (l : ML h B) (c : MN h B P) (hf : hI h B 0 = -1) (hz : hI h B 6 = 0) : ∃ h', C 190 [.ref 124] h = some (some none, h') ∧ RM B h h' ∧ MKt h' bs n (sFa 6 τ) := by
  have h134 := m_134 l
  have ne : ¬ (sFa 6 τ) 4 = 0 := sFa_n e0 (by decide)
  obtain ⟨h1, g1, f1, t1⟩ := d176u L b8 t hB l hf (a := 0) (m := 6) (by decide) (by decide) e0
  have g1 : C 176 [.ref 124, .int 0, .int 6] h = some (some none, h1) := g1
  have L1 := FG_Ly f1 L
  have l1 := FG_ML f1 l
  have B1 : hP h1 124 4 = some B := by rw [FG_P f1]; exact hB
  have c1 := MN_FG f1 h134 c
  obtain ⟨v2, h2, g2, f2, t2, u2⟩ := d180 L1 b8 t1 B1 l1 c1 (s := 2) (by decide)
  have g2 : C 180 [.ref 124, .int 1] h1 = some (some (some (.int v2)), h2) := g2
  have L2 := FG_Ly f2 L1
  have l2 := FG_ML f2 l1
  have B2 : hP h2 124 4 = some B := by rw [FG_P f2]; exact B1
  have c2 := MN_FG f2 h134 c1
  rw [sKn_1 ne, sSt_1 ne] at t2
  obtain ⟨v3, h3, g3, f3, t3, u3⟩ := d180 L2 b8 t2 B2 l2 c2 (s := 3) (by decide)
  have g3 : C 180 [.ref 124, .int 2] h2 = some (some (some (.int v3)), h3) := g3
  have L3 := FG_Ly f3 L2
  have l3 := FG_ML f3 l2
  have B3 : hP h3 124 4 = some B := by rw [FG_P f3]; exact B2
  have c3 := MN_FG f3 h134 c2
  rw [sKn_1 ne, sSt_1 ne] at t3
  have z6 : hI h3 B 6 = 0 := by
    have ha : B ≤ B := Nat.le_refl _
    have P := P
    rw [MB_T (P := P) f3 h134 ha, MB_T (P := P) f2 h134 ha, MB_T (P := P) f1 h134 ha]; exact hz
  obtain ⟨m4, h4, g4, f4, t4, bb4, v4⟩ := d174 L3 b8 t3 (x := 29) (by decide) (by decide) (lo := 0) (hi := 60) (by decide) (by decide)
  have g4 : C 174 [.ref 124, .float 29, .int 0, .int 60] h3 = some (some (some (.int (nI m4))), h4) := g4
  have L4 := FG_Ly f4 L3
  have l4 := FG_ML f4 l3
  have B4 : hP h4 124 4 = some B := by rw [FG_P f4]; exact B3
  have c4 := MN_FG f4 h134 c3
  rw [sWd_1 ne, sWh_1 ne] at t4
  obtain ⟨m5, h5, g5, f5, t5, bb5, v5⟩ := d174 L4 b8 t4 (x := 30) (by decide) (by decide) (lo := 0) (hi := 23) (by decide) (by decide)
  have g5 : C 174 [.ref 124, .float 30, .int 0, .int 23] h4 = some (some (some (.int (nI m5))), h5) := g5
  have L5 := FG_Ly f5 L4
  have l5 := FG_ML f5 l4
  have B5 : hP h5 124 4 = some B := by rw [FG_P f5]; exact B4
  have c5 := MN_FG f5 h134 c4
  rw [sWd_1 ne, sWh_1 ne] at t5
  have s9 : hI h5 124 9 = 5 := (t5.2.2 ne).1
  refine ⟨h5, ?_, RM_T (RM_T (RM_T (RM_T (RM_T (RM_rfl B h) f1) f2) f3) f4) f5, t5⟩
  rw [e190]
  simp only [b190_0, b190_6, b190_9, b190_13, b190_37, b190_43, b190_57, b190_65, b190_73, b190_81, b190_88, cond_true, cond_false, decide_true, Bool.and_true, Bool.true_and, Bool.and_self, Bool.and_false, Bool.false_and, Bool.not_true, Bool.not_false, Bool.or_true, Bool.true_or, Bool.or_false, Bool.false_or, is_some, gd_some, bk_v, bk_u, y_124 L, y_124 L1, y_124 L2, y_124 L3, y_124 L4, y_124 L5, hB, B1, B2, B3, B4, B5, mB_O l, mB_O l1, mB_O l2, mB_O l3, mB_O l4, mB_O l5, g1, g2, g3, g4, g5, hz, s9, z6]
set_option maxRecDepth 16384 in
theorem d191u {h : A_H} {bs : Nat → Int32} {n : Nat} {τ : Nat → Nat} {B : Nat} {P : Gh} (L : Ly h) (b8 : B8 bs n) (t : MKt h bs n τ) (e0 : τ 4 = 0) (hB : hP h 124 4 = some B) (l : ML h B) (c : MN h B P) (hf : hI h B 0 = -1) : ∃ h', C 191 [.ref 124] h = some (some none, h') ∧ RM B h h' ∧ MKt h' bs n (sFa 6 τ) := by
  have h134 := m_134 l
  have ne : ¬ (sFa 6 τ) 4 = 0 := sFa_n e0 (by decide)
  obtain ⟨h1, g1, f1, t1⟩ := d176u L b8 t hB l hf (a := 0) (m := 1) (by decide) (by decide) e0
  have g1 : C 176 [.ref 124, .int 0, .int 1] h = some (some none, h1) := g1
  have L1 := FG_Ly f1 L
  have l1 := FG_ML f1 l
  have B1 : hP h1 124 4 = some B := by rw [FG_P f1]; exact hB
  have c1 := MN_FG f1 h134 c
  obtain ⟨v2, h2, g2, f2, t2, u2⟩ := d179 L1 b8 t1 B1 l1 c1 (s := 1) (by decide)
  have g2 : C 179 [.ref 124, .int 0] h1 = some (some (some (.int v2)), h2) := g2
  have L2 := FG_Ly f2 L1
  have l2 := FG_ML f2 l1
  have B2 : hP h2 124 4 = some B := by rw [FG_P f2]; exact B1
  have c2 := MN_FG f2 h134 c1
  rw [sKn_1 ne] at t2
  have s9a : hI h2 124 9 = 5 := (t2.2.2 ne).1
  obtain ⟨h3, g3, f3, t3⟩ := d168' L2 b8 t2 (fun q => absurd q ne)
  have L3 := FG_Ly f3 L2
  have l3 := FG_ML f3 l2
  have B3 : hP h3 124 4 = some B := by rw [FG_P f3]; exact B2
  have c3 := MN_FG f3 h134 c2
  rw [sSt_1 ne] at t3
  obtain ⟨m4, h4, g4, f4, t4, bb4, v4⟩ := d174 L3 b8 t3 (x := 31) (by decide) (by decide) (lo := 0) (hi := 99) (by decide) (by decide)
  have g4 : C 174 [.ref 124, .float 31, .int 0, .int 99] h3 = some (some (some (.int (nI m4))), h4) := g4
  have L4 := FG_Ly f4 L3
  have l4 := FG_ML f4 l3
  have B4 : hP h4 124 4 = some B := by rw [FG_P f4]; exact B3
  have c4 := MN_FG f4 h134 c3
  rw [sWd_1 ne, sWh_1 ne] at t4
  obtain ⟨m5, h5, g5, f5, t5, bb5, v5⟩ := d174 L4 b8 t4 (x := 32) (by decide) (by decide) (lo := 0) (hi := 99) (by decide) (by decide)
  have g5 : C 174 [.ref 124, .float 32, .int 0, .int 99] h4 = some (some (some (.int (nI m5))), h5) := g5
  have L5 := FG_Ly f5 L4
  have l5 := FG_ML f5 l4
  have B5 : hP h5 124 4 = some B := by rw [FG_P f5]; exact B4
  have c5 := MN_FG f5 h134 c4
  rw [sWd_1 ne, sWh_1 ne] at t5
  have s9 : hI h5 124 9 = 5 := (t5.2.2 ne).1
  refine ⟨h5, ?_, RM_T (RM_T (RM_T (RM_T (RM_T (RM_rfl B h) f1) f2) f3) f4) f5, t5⟩
  rw [e191]
  simp only [b191_0, b191_4, b191_7, b191_16, b191_20, b191_22, b191_27, b191_33, b191_45, b191_51, b191_58, cond_true, cond_false, decide_true, Bool.and_true, Bool.true_and, Bool.and_self, Bool.and_false, Bool.false_and, Bool.not_true, Bool.not_false, Bool.or_true, Bool.true_or, Bool.or_false, Bool.false_or, is_some, gd_some, bk_v, bk_u, y_124 L, y_124 L1, y_124 L2, y_124 L3, y_124 L4, y_124 L5, hB, B1, B2, B3, B4, B5, mB_O l, mB_O l1, mB_O l2, mB_O l3, mB_O l4, mB_O l5, g1, g2, g3, g4, g5, s9, s9a]
set_option maxRecDepth 16384 in
theorem d192u {h : A_H} {bs : Nat → Int32} {n : Nat} {τ : Nat → Nat} {B : Nat} {P : Gh} (L : Ly h) (b8 : B8 bs n) (t : MKt h bs n τ) (e0 : τ 4 = 0) (hB : hP h 124 4 = some B) (l : ML h B) (c : MN h B P) (hf : hI h B 0 = -1) (hz : hI h B 8 = 0) : ∃ h', C 192 [.ref 124] h = some (some none, h') ∧ RM B h h' ∧ MKt h' bs n (sFa 6 τ) := by
  have h134 := m_134 l
  have ne : ¬ (sFa 6 τ) 4 = 0 := sFa_n e0 (by decide)
  obtain ⟨h1, g1, f1, t1⟩ := d176u L b8 t hB l hf (a := 0) (m := 5) (by decide) (by decide) e0
  have g1 : C 176 [.ref 124, .int 0, .int 5] h = some (some none, h1) := g1
  have L1 := FG_Ly f1 L
  have l1 := FG_ML f1 l
  have B1 : hP h1 124 4 = some B := by rw [FG_P f1]; exact hB
  have c1 := MN_FG f1 h134 c
  obtain ⟨v2, h2, g2, f2, t2, u2⟩ := d180 L1 b8 t1 B1 l1 c1 (s := 1) (by decide)
  have g2 : C 180 [.ref 124, .int 0] h1 = some (some (some (.int v2)), h2) := g2
  have L2 := FG_Ly f2 L1
  have l2 := FG_ML f2 l1
  have B2 : hP h2 124 4 = some B := by rw [FG_P f2]; exact B1
  have c2 := MN_FG f2 h134 c1
  rw [sKn_1 ne, sSt_1 ne] at t2
  obtain ⟨m3, h3, g3, f3, t3, bb3, v3⟩ := d174 L2 b8 t2 (x := 29) (by decide) (by decide) (lo := 0) (hi := 60) (by decide) (by decide)
  have g3 : C 174 [.ref 124, .float 29, .int 0, .int 60] h2 = some (some (some (.int (nI m3))), h3) := g3
  have L3 := FG_Ly f3 L2
  have l3 := FG_ML f3 l2
  have B3 : hP h3 124 4 = some B := by rw [FG_P f3]; exact B2
  have c3 := MN_FG f3 h134 c2
  rw [sWd_1 ne, sWh_1 ne] at t3
  have s9 : hI h3 124 9 = 5 := (t3.2.2 ne).1
  refine ⟨h3, ?_, RM_T (RM_T (RM_T (RM_rfl B h) f1) f2) f3, t3⟩
  rw [e192]
  simp only [b192_0, b192_6, b192_9, b192_15, b192_29, b192_37, b192_44, cond_true, cond_false, decide_true, Bool.and_true, Bool.true_and, Bool.and_self, Bool.and_false, Bool.false_and, Bool.not_true, Bool.not_false, Bool.or_true, Bool.true_or, Bool.or_false, Bool.false_or, is_some, gd_some, bk_v, bk_u, y_124 L, y_124 L1, y_124 L2, y_124 L3, hB, B1, B2, B3, mB_O l, mB_O l1, mB_O l2, mB_O l3, g1, g2, g3, hz, s9]
def MO (n a : Nat) (τ : Nat → Nat) : Prop := τ 4 = 0 → tok' n τ ∧ a ≤ τ 1 ∧ (τ 0 = 3 → τ 1 < τ 2)
set_option maxRecDepth 16384 in
theorem tk_3 {bs : Nat → Int32} {n p : Nat} (h : tK bs n p = 3) : tS bs n p < tE bs n p := by
  unfold tK at h
  unfold tE
  by_cases c : n ≤ tS bs n p
  · rw [if_pos c] at h; exact absurd h (by decide)
  · rw [if_neg c] at h ⊢
    cases c1 : lt' (bs (tS bs n p)) with
    | true => rw [c1, cond_true] at h; split at h <;> exact absurd h (by decide)
    | false =>
      rw [c1, cond_false] at h
      cases c2 : dt' (bs (tS bs n p)) with
      | true => rw [c2, cond_true] at h; split at h <;> exact absurd h (by decide)
      | false => rw [cond_false, cond_false]; omega
set_option maxRecDepth 16384 in
theorem tS_le (bs : Nat → Int32) {n p : Nat} (h : p ≤ n) : p ≤ tS bs n p := (tS_b bs h).1
set_option maxRecDepth 16384 in
theorem mo_st {bs : Nat → Int32} {n a : Nat} {τ : Nat → Nat} (h : MO n a τ) : MO n a (sSt bs n τ) := by
  intro e
  have e0 := z_st e
  obtain ⟨t, l, -⟩ := h e0
  refine ⟨tok_st t.2.2.1 e0, ?_, ?_⟩
  · rw [sSt_0 e0]
    show a ≤ tS bs n (τ 2)
    have := tS_le bs t.2.2.1
    have := t.2.1
    omega
  · rw [sSt_0 e0]; exact tk_3
set_option maxRecDepth 16384 in
theorem mo_st2 {bs : Nat → Int32} {n : Nat} {τ : Nat → Nat} (h2 : τ 2 ≤ n) : MO n (τ 2) (sSt bs n τ) := by
  intro e
  have e0 := z_st e
  refine ⟨tok_st h2 e0, ?_, ?_⟩
  · rw [sSt_0 e0]
    exact tS_le bs h2
  · rw [sSt_0 e0]; exact tk_3
set_option maxRecDepth 16384 in
theorem mo_fa {n a k : Nat} {τ : Nat → Nat} (hk : ¬ k = 0) : MO n a τ → MO n a (sFa k τ) := by
  intro h e
  by_cases e0 : τ 4 = 0
  · exact absurd e (sFa_n e0 hk)
  · rw [sFa_1 e0] at e; exact absurd e e0
set_option maxRecDepth 16384 in
theorem mo_wd {bs : Nat → Int32} {n a : Nat} {x : UInt32} {τ : Nat → Nat} (h : MO n a τ) : MO n a (sWd bs n x τ) := by
  unfold sWd
  cases isW x τ with
  | true => exact mo_st h
  | false => exact mo_fa (by decide) h
set_option maxRecDepth 16384 in
theorem mo_wh {bs : Nat → Int32} {n a lo hi : Nat} {τ : Nat → Nat} (h : MO n a τ) : MO n a (sWh bs n lo hi τ) := by
  unfold sWh
  split
  · split
    · exact mo_st h
    · exact mo_fa (by decide) h
  · exact mo_fa (by decide) h
set_option maxRecDepth 16384 in
theorem mo_kn {n a s : Nat} {P : Gh} {τ : Nat → Nat} (h : MO n a τ) : MO n a (sKn s P τ) := by
  intro e
  have := (sKn_k e).1
  rw [this] at e ⊢
  exact h e
set_option maxRecDepth 16384 in
theorem mo_nw {bs : Nat → Int32} {n a : Nat} {P : Gh} {τ : Nat → Nat} (h : MO n a τ) : MO n a (sNw bs n P τ) := by
  unfold sNw
  cases inm τ with
  | true =>
    cases (fd P (τ 3)).isSome with
    | true => exact mo_fa (by decide) h
    | false => exact mo_st h
  | false => exact mo_fa (by decide) h
set_option maxRecDepth 16384 in
theorem mo_ki {bs : Nat → Int32} {n a : Nat} {τ : Nat → Nat} (h : MO n a τ) : MO n a (sKi bs n τ) := by
  unfold sKi
  cases isW 22 τ || isW 23 τ || isW 24 τ || isW 25 τ || isW 10 τ with
  | true => exact mo_st h
  | false => exact mo_fa (by decide) h
set_option maxRecDepth 16384 in
theorem mo_rm {bs : Nat → Int32} {n x m : Nat} {τ : Nat → Nat} (h2 : τ 2 ≤ n) (e0 : τ 4 = 0) : MO n (τ 2) (sRm bs n x m τ) := by
  unfold sRm
  split
  · exact mo_st2 h2
  · intro e; exact absurd e (sFa_n e0 (by decide))
def sL1 (bs : Nat → Int32) (n : Nat) (told : Bool) (P : Gh) (τ : Nat → Nat) : Nat → Nat := match rv τ with
  | some 0 => bif told then sFa 3 τ else ba5 bs n P τ
  | some 1 => bif told then me8 bs n P τ else sFa 6 τ
  | some 2 => bif told then tr6 bs n P τ else sFa 6 τ
  | some 3 => bif told then ga8 bs n P τ else sFa 6 τ
  | some 4 => bif told then go13 bs n P τ else sFa 6 τ
  | some 5 => bif told then hi4 bs n P τ else sFa 6 τ
  | some 6 => bif told then cr9 bs n P τ else sFa 6 τ
  | some 7 => bif told then pr8 bs n P τ else sFa 6 τ
  | some 8 => bif told then cu5 bs n P τ else sFa 6 τ
  | _ => sFa 1 τ
def sLP (bs : Nat → Int32) (n : Nat) (P : Gh) (τ : Nat → Nat) : Gh := match rv τ with
  | some 0 => pBa bs n P τ
  | some 1 => pMe bs n P τ
  | some 2 => pTr bs n P τ
  | some 3 => pGa bs n P τ
  | some 4 => pGo bs n P τ
  | some 5 => pHi bs n P τ
  | some 6 => pCr bs n P τ
  | some 7 => pPr bs n P τ
  | some 8 => pCu bs n P τ
  | _ => P
def UT (told : Bool) (P : Gh) : Prop := told = false → (∀ j, 2 ≤ j → j ≤ 9 → P 0 j = 0)
set_option maxRecDepth 16384 in
theorem rv_9 {τ : Nat → Nat} {k : Nat} (h : rv τ = some k) : k < 11 ∧ τ 0 = 1 := by
  unfold rv at h
  by_cases e : τ 0 = 1
  · rw [if_pos e] at h; exact ⟨by have := (fsm_lt h).1; omega, e⟩
  · rw [if_neg e] at h; exact absurd h (by simp)
set_option maxRecDepth 16384 in
theorem ln_cases {bs : Nat → Int32} {n : Nat} {told : Bool} {P : Gh} {τ : Nat → Nat} (e0 : τ 4 = 0) (Q : (Nat → Nat) → Gh → Prop) (e : (sL1 bs n told P τ) 4 = 0) (b0 : told = false → rv τ = some 0 → (ba5 bs n P τ) 4 = 0 → Q (ba5 bs n P τ) (pBa bs n P τ)) (b1 : told = true → rv τ = some 1 → (me8 bs n P τ) 4 = 0 → Q (me8 bs n P τ) (pMe bs n P τ)) (b2 : told = true → rv τ = some 2 → (tr6 bs n P τ) 4 = 0 → Q (tr6 bs n P τ) (pTr bs n P τ)) (b3 : told = true → rv τ = some 3 → (ga8 bs n P τ) 4 = 0 → Q (ga8 bs n P τ) (pGa bs n P τ)) (b4 : told = true → rv τ = some 4 → (go13 bs n P τ) 4 = 0 → Q (go13 bs n P τ) (pGo bs n P τ)) (b5 : told = true → rv τ = some 5 → (hi4 bs n P τ) 4 = 0 → Q (hi4 bs n P τ) (pHi bs n P τ)) (b6 : told = true → rv τ = some 6 → (cr9 bs n P τ) 4 = 0 → Q (cr9 bs n P τ) (pCr bs n P τ)) (b7 : told = true → rv τ = some 7 → (pr8 bs n P τ) 4 = 0 → Q (pr8 bs n P τ) (pPr bs n P τ)) (b8 : told = true → rv τ = some 8 → (cu5 bs n P τ) 4 = 0 → Q (cu5 bs n P τ) (pCu bs n P τ)) : Q (sL1 bs n told P τ) (sLP bs n P τ) := by
  have f1 : ¬ (sFa 1 τ) 4 = 0 := sFa_n e0 (by decide)
  have f3 : ¬ (sFa 3 τ) 4 = 0 := sFa_n e0 (by decide)
  have f6 : ¬ (sFa 6 τ) 4 = 0 := sFa_n e0 (by decide)
  unfold sL1 sLP
  unfold sL1 at e
  match h : rv τ with
  | none => rw [h] at e; exact absurd e f1
  | some 0 => rw [h] at e; cases told with
    | true => exact absurd e f3
    | false => exact b0 rfl h e
  | some 1 => rw [h] at e; cases told with
    | false => exact absurd e f6
    | true => exact b1 rfl h e
  | some 2 => rw [h] at e; cases told with
    | false => exact absurd e f6
    | true => exact b2 rfl h e
  | some 3 => rw [h] at e; cases told with
    | false => exact absurd e f6
    | true => exact b3 rfl h e
  | some 4 => rw [h] at e; cases told with
    | false => exact absurd e f6
    | true => exact b4 rfl h e
  | some 5 => rw [h] at e; cases told with
    | false => exact absurd e f6
    | true => exact b5 rfl h e
  | some 6 => rw [h] at e; cases told with
    | false => exact absurd e f6
    | true => exact b6 rfl h e
  | some 7 => rw [h] at e; cases told with
    | false => exact absurd e f6
    | true => exact b7 rfl h e
  | some 8 => rw [h] at e; cases told with
    | false => exact absurd e f6
    | true => exact b8 rfl h e
  | some (k + 9) => rw [h] at e; exact absurd e f1
set_option maxRecDepth 16384 in
theorem sL_W {bs : Nat → Int32} {n : Nat} {told : Bool} {P : Gh} {τ : Nat → Nat} (e0 : τ 4 = 0) (w : WF P) (nc : NC P) (h2 : τ 2 ≤ n) (e : (sL1 bs n told P τ) 4 = 0) : WF (sLP bs n P τ) ∧ NC (sLP bs n P τ) :=
  ln_cases e0 (fun _ P' => WF P' ∧ NC P') e (fun _ _ z => pBa_W w nc z) (fun _ _ z => pMe_W w nc h2 z) (fun _ _ z => pTr_W w nc h2 z) (fun _ _ z => pGa_W w nc h2 z) (fun _ _ z => pGo_W w nc h2 z) (fun _ _ z => pHi_W w nc z) (fun _ _ z => pCr_W w nc z) (fun _ _ z => pPr_W w nc z) (fun _ _ z => pCu_W w nc z)
set_option maxRecDepth 16384 in
theorem sL_k {bs : Nat → Int32} {n : Nat} {told : Bool} {P : Gh} {τ : Nat → Nat} (e0 : τ 4 = 0) (e : (sL1 bs n told P τ) 4 = 0) : τ 0 = 1 :=
  ln_cases (bs := bs) (n := n) (told := told) (P := P) e0 (fun _ _ => τ 0 = 1) e (fun _ r _ => (rv_9 r).2) (fun _ r _ => (rv_9 r).2) (fun _ r _ => (rv_9 r).2) (fun _ r _ => (rv_9 r).2) (fun _ r _ => (rv_9 r).2) (fun _ r _ => (rv_9 r).2) (fun _ r _ => (rv_9 r).2) (fun _ r _ => (rv_9 r).2) (fun _ r _ => (rv_9 r).2)
set_option maxRecDepth 16384 in
theorem mo_hi {bs : Nat → Int32} {n : Nat} {P : Gh} {τ : Nat → Nat} (h2 : τ 2 ≤ n) : MO n (τ 2) (hi4 bs n P τ) := by
  unfold hi4 hi3
  refine mo_st ?_
  cases (P 0 8).testBit (knV P (hi1 bs n P τ)) with
  | true => exact mo_fa (by decide) (mo_kn (mo_st2 h2))
  | false => exact mo_kn (mo_st2 h2)
set_option maxRecDepth 16384 in
theorem mo_pr {bs : Nat → Int32} {n : Nat} {P : Gh} {τ : Nat → Nat} (h2 : τ 2 ≤ n) : MO n (τ 2) (pr8 bs n P τ) := by
  unfold pr8 pr7 pr6 pr5 pr4 pr3
  refine mo_wh (mo_wd (mo_wh (mo_wd (mo_st ?_))))
  cases decide (P 4 (knV P (pr1 bs n P τ)) = 1) with
  | true => exact mo_fa (by decide) (mo_kn (mo_st2 h2))
  | false => exact mo_kn (mo_st2 h2)
set_option maxRecDepth 16384 in
theorem mo_go {bs : Nat → Int32} {n : Nat} {P : Gh} {τ : Nat → Nat} (h2 : τ 2 ≤ n) (e0 : τ 4 = 0) : MO n (τ 2) (go13 bs n P τ) := by
  have h4 : MO n (τ 2) (go4 bs n P τ) := mo_st (mo_kn (mo_ki (mo_nw (mo_rm h2 e0))))
  unfold go13 go12 go11 go10 go9 go8 go7
  refine mo_wh (mo_wd (mo_wh (mo_wd (mo_wh (mo_wd ?_)))))
  split
  · exact h4
  · exact mo_st (mo_kn (mo_wd h4))
set_option maxRecDepth 16384 in
theorem sL_M {bs : Nat → Int32} {n : Nat} {told : Bool} {P : Gh} {τ : Nat → Nat} (e0 : τ 4 = 0) (h2 : τ 2 ≤ n) : MO n (τ 2) (sL1 bs n told P τ) := by
  intro e
  exact ln_cases (bs := bs) (n := n) (told := told) (P := P) e0 (fun σ _ => tok' n σ ∧ τ 2 ≤ σ 1 ∧ (σ 0 = 3 → σ 1 < σ 2)) e (fun _ _ z => (mo_wh (mo_wd (mo_wh (mo_wd (mo_st2 h2))))) z) (fun _ _ z => (mo_wh (mo_wd (mo_wh (mo_wd (mo_wh (mo_wd (mo_nw (mo_rm h2 e0)))))))) z) (fun _ _ z => (mo_wh (mo_wd (mo_wh (mo_wd (mo_nw (mo_rm h2 e0)))))) z) (fun _ _ z => (mo_wh (mo_wd (mo_wh (mo_wd (mo_wh (mo_wd (mo_nw (mo_rm h2 e0)))))))) z) (fun _ _ z => mo_go h2 e0 z) (fun _ _ z => mo_hi h2 z) (fun _ _ z => (mo_wh (mo_wd (mo_wh (mo_wd (mo_st (mo_kn (mo_st (mo_kn (mo_rm h2 e0))))))))) z) (fun _ _ z => mo_pr h2 z) (fun _ _ z => (mo_wh (mo_wd (mo_st (mo_kn (mo_rm h2 e0))))) z)
set_option maxRecDepth 16384 in
theorem sL_t {bs : Nat → Int32} {n : Nat} {told : Bool} {P : Gh} {τ : Nat → Nat} (e0 : τ 4 = 0) (e : (sL1 bs n told P τ) 4 = 0) : told = true ∨ rv τ = some 0 :=
  ln_cases (bs := bs) (n := n) (told := told) (P := P) e0 (fun _ _ => told = true ∨ rv τ = some 0) e (fun _ r _ => Or.inr r) (fun t _ _ => Or.inl t) (fun t _ _ => Or.inl t) (fun t _ _ => Or.inl t) (fun t _ _ => Or.inl t) (fun t _ _ => Or.inl t) (fun t _ _ => Or.inl t) (fun t _ _ => Or.inl t) (fun t _ _ => Or.inl t)
