set_option maxRecDepth 16384 in
theorem d188f {h0 h : A_H} {bs : Nat → Int32} {n : Nat} {τ : Nat → Nat} {B : Nat} {P : Gh} {v : Int64} {x3 x4 x5 : Int32} {m6 m7 m8 : Nat} (L : Ly h) (t : MKt h bs n (go13 bs n P τ)) (hB : hP h 124 4 = some B) (l : ML h B) (c : MN h B P) (b : MB h0 B P) (w : WF P) (nc : NC P) (h2 : τ 2 ≤ n) (rd : RM B h0 h) (fr : ∀ a j, B ≤ a → hI h a j = hI h0 a j) (q1 : (go2 bs n P τ) 4 = 0 → v = nL (go1 bs n P τ 3)) (q3 : (go3 bs n P τ) 4 = 0 → x3 = nI (kd (go2 bs n P τ))) (q4 : (sKn 2 P (go3 bs n P τ)) 4 = 0 → x4 = nI (knV P (go3 bs n P τ))) (q5 : (go13 bs n P τ) 4 = 0 → x5 = bif decide (kd (go2 bs n P τ) = 0) then -2 else nI (knV P (go5 bs n P τ))) (q6 : (go9 bs n P τ) 4 = 0 → m6 = go8 bs n P τ 3) (q7 : (go11 bs n P τ) 4 = 0 → m7 = go10 bs n P τ 3) (q8 : (go13 bs n P τ) 4 = 0 → m8 = go12 bs n P τ 3) : ∃ h', R 188 52 [some (.ref 124), some (.long v), none, some (.int x3), some (.int x4), some (.int x5), some (.int (nI m6)), some (.int (nI m7)), none, none] [.int (nI m8)] h = some (some none, h') ∧ RM B h0 h' ∧ MKt h' bs n (go13 bs n P τ) ∧ ((go13 bs n P τ) 4 = 0 → MB h' B (pGo bs n P τ) ∧ MN h' B (pGo bs n P τ)) := by
  have k2 := f_nm w
  have k3 := f_nt w
  have k4 := f_ng w
  have k5 := f_nG w
  have k6 := f_nx w
  have k9 := f_nc w
  have hn1 := nc.1
  have h134 := m_134 l
  by_cases e : (go13 bs n P τ) 4 = 0
  · obtain ⟨⟨z12, z11, z10, z9, z8, z7⟩, z4, zk, z3, z2, z1, zn⟩ := go_z e
    obtain ⟨-, cm⟩ := rm_b z1
    have hv := rm_tok z1 h2
    have hv := hv.2.2.2.1 (nw_b z2).1
    have q1 := q1 z2
    have q3 := q3 z3
    have q4 := q4 zk
    have q5 := q5 e
    have q6 := q6 z9
    have q7 := q7 z11
    have q8 := q8 e
    subst q1 q3 q4 q5 q6 q7 q8
    have s9 : decide (hI h 124 9 = 5) = false := by rw [(t.2.1 e).1]; exact mk_ne5
    have hk : hI h B 5 = nI (P 0 5) := (fr _ _ (Nat.le_refl _)).trans (b_s5 b)
    obtain ⟨hN, gN, fN, cN, tN⟩ := d178 L t hB l c (by omega) (v := go1 bs n P τ 3) (s := 4) (k := P 0 5) hv (by decide)
    have gN : C 178 [.ref 124, .long (nL (go1 bs n P τ 3)), .int 3, .int (nI (P 0 5))] h = some (some none, hN) := gN
    have LN := FG_Ly fN L
    have lN := FG_ML fN l
    have BN : hP hN 124 4 = some B := by rw [FG_P fN]; exact hB
    have frN : ∀ a j, B ≤ a → a < B + 22 → ¬ (a = B ∧ j = 10) → hI hN a j = hI h0 a j := fun a j i1 i2 i3 => (FG_I fN (by unfold nmP; omega)).trans (fr a j i1)
    have hk0 : hI hN B 5 = nI (P 0 5) := (frN _ _ (Nat.le_refl _) (by omega) (by omega)).trans (b_s5 b)
    have hk1 : hI (wI hN (B + 10) (P 0 5) (nI (kd (go2 bs n P τ)))) B 5 = nI (P 0 5) := by rw [hI_wI, if_neg (by omega)]; exact hk0
    have hk2 : hI (wI (wI hN (B + 10) (P 0 5) (nI (kd (go2 bs n P τ)))) (B + 12) (P 0 5) (nI (knV P (go3 bs n P τ)))) B 5 = nI (P 0 5) := by rw [hI_wI, if_neg (by omega)]; exact hk1
    have hk3 : hI (wI (wI (wI hN (B + 10) (P 0 5) (nI (kd (go2 bs n P τ)))) (B + 12) (P 0 5) (nI (knV P (go3 bs n P τ)))) (B + 11) (P 0 5) (bif decide (kd (go2 bs n P τ) = 0) then -2 else nI (knV P (go5 bs n P τ)))) B 5 = nI (P 0 5) := by rw [hI_wI, if_neg (by omega)]; exact hk2
    have hk4 : hI (wI (wI (wI (wI hN (B + 10) (P 0 5) (nI (kd (go2 bs n P τ)))) (B + 12) (P 0 5) (nI (knV P (go3 bs n P τ)))) (B + 11) (P 0 5) (bif decide (kd (go2 bs n P τ) = 0) then -2 else nI (knV P (go5 bs n P τ)))) (B + 13) (P 0 5) (nI (go8 bs n P τ 3))) B 5 = nI (P 0 5) := by rw [hI_wI, if_neg (by omega)]; exact hk3
    have hk5 : hI (wI (wI (wI (wI (wI hN (B + 10) (P 0 5) (nI (kd (go2 bs n P τ)))) (B + 12) (P 0 5) (nI (knV P (go3 bs n P τ)))) (B + 11) (P 0 5) (bif decide (kd (go2 bs n P τ) = 0) then -2 else nI (knV P (go5 bs n P τ)))) (B + 13) (P 0 5) (nI (go8 bs n P τ 3))) (B + 14) (P 0 5) (nI (go10 bs n P τ 3))) B 5 = nI (P 0 5) := by rw [hI_wI, if_neg (by omega)]; exact hk4
    have hk6 : hI (wI (wI (wI (wI (wI (wI hN (B + 10) (P 0 5) (nI (kd (go2 bs n P τ)))) (B + 12) (P 0 5) (nI (knV P (go3 bs n P τ)))) (B + 11) (P 0 5) (bif decide (kd (go2 bs n P τ) = 0) then -2 else nI (knV P (go5 bs n P τ)))) (B + 13) (P 0 5) (nI (go8 bs n P τ 3))) (B + 14) (P 0 5) (nI (go10 bs n P τ 3))) (B + 15) (P 0 5) (nI (go12 bs n P τ 3))) B 5 = nI (P 0 5) := by rw [hI_wI, if_neg (by omega)]; exact hk5
    refine ⟨(wI (wI (wI (wI (wI (wI (wI hN (B + 10) (P 0 5) (nI (kd (go2 bs n P τ)))) (B + 12) (P 0 5) (nI (knV P (go3 bs n P τ)))) (B + 11) (P 0 5) (bif decide (kd (go2 bs n P τ) = 0) then -2 else nI (knV P (go5 bs n P τ)))) (B + 13) (P 0 5) (nI (go8 bs n P τ 3))) (B + 14) (P 0 5) (nI (go10 bs n P τ 3))) (B + 15) (P 0 5) (nI (go12 bs n P τ 3))) B 5 (nI (P 0 5 + 1))), ?_, RM_w (RM_w (RM_w (RM_w (RM_w (RM_w (RM_w (RM_N rd fN) _ (by omega)) _ (by omega)) _ (by omega)) _ (by omega)) _ (by omega)) _ (by omega)) _ (by omega), MKt_w (MKt_w (MKt_w (MKt_w (MKt_w (MKt_w (MKt_w (tN) _ (by omega)) _ (by omega)) _ (by omega)) _ (by omega)) _ (by omega)) _ (by omega)) _ (by omega), fun _ => ⟨?_, MN_eq (MN_w (MN_w (MN_w (MN_w (MN_w (MN_w (MN_w (cN) _ (by omega) (by omega)) _ (by omega) (by omega)) _ (by omega) (by omega)) _ (by omega) (by omega)) _ (by omega) (by omega)) _ (by omega) (by omega)) _ (by omega) (by omega)) pGo_n⟩⟩
    · simp only [b188_52, b188_67, b188_73, b188_79, b188_85, b188_91, b188_97, b188_103, b188_110, cond_true, cond_false, decide_true, Bool.and_true, Bool.true_and, Bool.and_self, Bool.and_false, Bool.false_and, Bool.not_true, Bool.not_false, Bool.or_true, Bool.true_or, Bool.or_false, Bool.false_or, is_some, gd_some, bk_v, bk_u, isO_wI, hP_wI, isA_wI, y_124 L, hB, mB_O l, s9, hk, gN, y_124 LN, BN, mB_O lN, hk0, hk1, hk2, hk3, hk4, hk5, hk6, m_p20 lN, m_p21 lN, m_p22 lN, m_p23 lN, m_p24 lN, m_p25 lN, w_cl (show P 0 5 < 2147483648 by omega), mA_10 lN cm, mA_11 lN cm, mA_12 lN cm, mA_13 lN cm, mA_14 lN cm, mA_15 lN cm, w_s]
    · refine MB_a5 w b cm pGo_0 pGo_1 pGo_r ?_ (by rw [hI_wI, if_pos ⟨rfl, rfl⟩]) (by rw [pGo_12v, hI_wI, if_neg (by omega), hI_wI, if_neg (by omega), hI_wI, if_neg (by omega), hI_wI, if_neg (by omega), hI_wI, if_neg (by omega), hI_wI, if_neg (by omega), hI_wI, if_pos ⟨rfl, rfl⟩]) (by unfold byI; rw [pGo_12v, pGo_13v, hI_wI, if_neg (by omega), hI_wI, if_neg (by omega), hI_wI, if_neg (by omega), hI_wI, if_neg (by omega), hI_wI, if_pos ⟨rfl, rfl⟩]) (by rw [pGo_14v, hI_wI, if_neg (by omega), hI_wI, if_neg (by omega), hI_wI, if_neg (by omega), hI_wI, if_neg (by omega), hI_wI, if_neg (by omega), hI_wI, if_pos ⟨rfl, rfl⟩]) (by rw [pGo_15v, hI_wI, if_neg (by omega), hI_wI, if_neg (by omega), hI_wI, if_neg (by omega), hI_wI, if_pos ⟨rfl, rfl⟩]) (by rw [pGo_16v, hI_wI, if_neg (by omega), hI_wI, if_neg (by omega), hI_wI, if_pos ⟨rfl, rfl⟩]) (by rw [pGo_17v, hI_wI, if_neg (by omega), hI_wI, if_pos ⟨rfl, rfl⟩])
      intro a j i1 i2 i3 i4
      rw [hI_wI, if_neg (by omega), hI_wI, if_neg (by omega), hI_wI, if_neg (by omega), hI_wI, if_neg (by omega), hI_wI, if_neg (by omega), hI_wI, if_neg (by omega), hI_wI, if_neg (by omega), frN a j i1 i2 (by omega)]
  · have s9 : hI h 124 9 = 5 := (t.2.2 e).1
    refine ⟨h, ?_, rd, t, fun q => absurd q e⟩
    simp only [b188_52, cond_true, cond_false, decide_true, Bool.and_true, Bool.true_and, Bool.and_self, Bool.and_false, Bool.false_and, Bool.not_true, Bool.not_false, Bool.or_true, Bool.true_or, Bool.or_false, Bool.false_or, is_some, gd_some, bk_v, bk_u, y_124 L, s9]
set_option maxRecDepth 16384 in
theorem d188 {h : A_H} {bs : Nat → Int32} {n : Nat} {τ : Nat → Nat} {B : Nat} {P : Gh} (L : Ly h) (b8 : B8 bs n) (t : MKt h bs n τ) (e0 : τ 4 = 0) (k0 : ¬ τ 0 = 4) (hB : hP h 124 4 = some B) (l : ML h B) (c : MN h B P) (b : MB h B P) (w : WF P) (nc : NC P) : ∃ h', C 188 [.ref 124] h = some (some none, h') ∧ RM B h h' ∧ MKt h' bs n (go13 bs n P τ) ∧ ((go13 bs n P τ) 4 = 0 → MB h' B (pGo bs n P τ) ∧ MN h' B (pGo bs n P τ)) := by
  have k2 := f_nm w
  have k3 := f_nt w
  have k4 := f_ng w
  have k5 := f_nG w
  have k6 := f_nx w
  have k9 := f_nc w
  have hn1 := nc.1
  have h134 := m_134 l
  have h2n := (t.2.1 e0).2.2.2.2.2.2.2.2.1
  obtain ⟨h1, g1, f1, t1⟩ := d176 L b8 t hB l (tld w b) (a := P 0 5) (m := 8) (by omega) (by decide) e0 k0
  have g1 : C 176 [.ref 124, .int (nI (P 0 5)), .int 8] h = some (some none, h1) := g1
  have t1 : MKt h1 bs n (go1 bs n P τ) := t1
  have L1 := FG_Ly f1 L
  have l1 := FG_ML f1 l
  have B1 : hP h1 124 4 = some B := by rw [FG_P f1]; exact hB
  have c1 := MN_FG f1 h134 c
  obtain ⟨v2, h2, g2, f2, t2, u2⟩ := d177 L1 b8 t1 B1 l1 c1
  have t2 : MKt h2 bs n (go2 bs n P τ) := t2
  have L2 := FG_Ly f2 L1
  have l2 := FG_ML f2 l1
  have B2 : hP h2 124 4 = some B := by rw [FG_P f2]; exact B1
  have c2 := MN_FG f2 h134 c1
  have gk := d187 L2 b8 t2
  by_cases z3 : (go3 bs n P τ) 4 = 0
  · have z2 : (go2 bs n P τ) 4 = 0 := z_ki z3
    have kk : kdM (go2 bs n P τ) = nI (kd (go2 bs n P τ)) := by
      unfold kdM
      cases hq : isW 22 (go2 bs n P τ) || isW 23 (go2 bs n P τ) || isW 24 (go2 bs n P τ) || isW 25 (go2 bs n P τ) || isW 10 (go2 bs n P τ) with
      | true => rfl
      | false =>
        have : (sKi bs n (go2 bs n P τ)) 4 = 0 := z3
        unfold sKi at this
        rw [hq, cond_false] at this
        exact absurd this (sFa_n z2 (by decide))
    have k4 : ¬ (go2 bs n P τ) 0 = 4 := by
      intro q
      have : (sKi bs n (go2 bs n P τ)) 4 = 0 := z3
      unfold sKi isW at this
      rw [q] at this
      exact absurd this (sFa_n z2 (by decide))
    have st : sSt bs n (go2 bs n P τ) = go3 bs n P τ := by
      have : (sKi bs n (go2 bs n P τ)) 4 = 0 := z3
      unfold go3 sKi
      unfold sKi at this
      cases hq : isW 22 (go2 bs n P τ) || isW 23 (go2 bs n P τ) || isW 24 (go2 bs n P τ) || isW 25 (go2 bs n P τ) || isW 10 (go2 bs n P τ) with
      | true => rfl
      | false =>
        rw [hq, cond_false] at this
        exact absurd this (sFa_n z2 (by decide))
    rw [dT z2, cond_true, kk] at gk
    have km : decide (nI (kd (go2 bs n P τ)) = -1) = false := n_m1 (by have := kd_le (go2 bs n P τ); omega)
    obtain ⟨h3, g3, f3, t3⟩ := d168' L2 b8 t2 (fun _ => k4)
    have L3 := FG_Ly f3 L2
    have l3 := FG_ML f3 l2
    have B3 : hP h3 124 4 = some B := by rw [FG_P f3]; exact B2
    have c3 := MN_FG f3 h134 c2
    rw [st] at t3
    obtain ⟨v4, h4, g4, f4, t4, u4⟩ := d180 L3 b8 t3 B3 l3 c3 (s := 2) (by decide)
    have g4 : C 180 [.ref 124, .int 1] h3 = some (some (some (.int v4)), h4) := g4
    have t4 : MKt h4 bs n (go4 bs n P τ) := t4
    have L4 := FG_Ly f4 L3
    have l4 := FG_ML f4 l3
    have B4 : hP h4 124 4 = some B := by rw [FG_P f4]; exact B3
    have c4 := MN_FG f4 h134 c3
    by_cases k0' : kd (go2 bs n P τ) = 0
    · have e7 : go7 bs n P τ = go4 bs n P τ := by unfold go7; rw [if_pos k0']
      have kz : decide (nI (kd (go2 bs n P τ)) = 0) = true := by rw [k0']; rfl
      have t4 : MKt h4 bs n (go7 bs n P τ) := by rw [e7]; exact t4
      obtain ⟨m5, h5, g5, f5, t5, bb5, v5⟩ := d174 L4 b8 t4 (x := 26) (by decide) (by decide) (lo := 0) (hi := 300) (by decide) (by decide)
      have g5 : C 174 [.ref 124, .float 26, .int 0, .int 300] h4 = some (some (some (.int (nI m5))), h5) := g5
      have v5 : (go9 bs n P τ) 4 = 0 → m5 = go8 bs n P τ 3 := v5
      have t5 : MKt h5 bs n (go9 bs n P τ) := t5
      have L5 := FG_Ly f5 L4
      have l5 := FG_ML f5 l4
      have B5 : hP h5 124 4 = some B := by rw [FG_P f5]; exact B4
      have c5 := MN_FG f5 h134 c4
      obtain ⟨m6, h6, g6, f6, t6, bb6, v6⟩ := d174 L5 b8 t5 (x := 27) (by decide) (by decide) (lo := 1) (hi := 9) (by decide) (by decide)
      have g6 : C 174 [.ref 124, .float 27, .int 1, .int 9] h5 = some (some (some (.int (nI m6))), h6) := g6
      have v6 : (go11 bs n P τ) 4 = 0 → m6 = go10 bs n P τ 3 := v6
      have t6 : MKt h6 bs n (go11 bs n P τ) := t6
      have L6 := FG_Ly f6 L5
      have l6 := FG_ML f6 l5
      have B6 : hP h6 124 4 = some B := by rw [FG_P f6]; exact B5
      have c6 := MN_FG f6 h134 c5
      obtain ⟨m7, h7, g7, f7, t7, bb7, v7⟩ := d174 L6 b8 t6 (x := 28) (by decide) (by decide) (lo := 0) (hi := 99) (by decide) (by decide)
      have g7 : C 174 [.ref 124, .float 28, .int 0, .int 99] h6 = some (some (some (.int (nI m7))), h7) := g7
      have v7 : (go13 bs n P τ) 4 = 0 → m7 = go12 bs n P τ 3 := v7
      have t7 : MKt h7 bs n (go13 bs n P τ) := t7
      have L7 := FG_Ly f7 L6
      have l7 := FG_ML f7 l6
      have B7 : hP h7 124 4 = some B := by rw [FG_P f7]; exact B6
      have c7 := MN_FG f7 h134 c6
      obtain ⟨h', g', r', t', m'⟩ := d188f (h0 := h) (v := v2) (x3 := nI (kd (go2 bs n P τ))) (x4 := v4) (x5 := -2) (m6 := m5) (m7 := m6) (m8 := m7) L7 t7 B7 l7 c7 b w nc h2n (RM_T (RM_T (RM_T (RM_T (RM_T (RM_T (RM_T (RM_rfl B h) f1) f2) f3) f4) f5) f6) f7) (fun a j ha => by rw [MB_T (P := P) f7 h134 ha, MB_T (P := P) f6 h134 ha, MB_T (P := P) f5 h134 ha, MB_T (P := P) f4 h134 ha, MB_T (P := P) f3 h134 ha, MB_T (P := P) f2 h134 ha, MB_T (P := P) f1 h134 ha]) u2 (fun _ => rfl) u4 (fun _ => by rw [dT k0', cond_true]) v5 v6 v7
      refine ⟨h', ?_, r', t', m'⟩
      rw [e188]
      simp only [b188_0, b188_6, b188_8, b188_11, b188_18, b188_20, b188_23, b188_31, b188_34, b188_40, b188_46, cond_true, cond_false, decide_true, Bool.and_true, Bool.true_and, Bool.and_self, Bool.and_false, Bool.false_and, Bool.not_true, Bool.not_false, Bool.or_true, Bool.true_or, Bool.or_false, Bool.false_or, is_some, gd_some, bk_v, bk_u, y_124 L, y_124 L1, y_124 L2, y_124 L3, y_124 L4, y_124 L5, y_124 L6, y_124 L7, hB, B1, B2, B3, B4, B5, B6, B7, mB_O l, mB_O l1, mB_O l2, mB_O l3, mB_O l4, mB_O l5, mB_O l6, mB_O l7, b_s5 b, gk, g1, g2, g3, g4, g5, g6, g7, km, kz, g']
    · have e7 : go7 bs n P τ = go6 bs n P τ := by unfold go7; rw [if_neg k0']
      have kz : decide (nI (kd (go2 bs n P τ)) = 0) = false := nz k0' (by have := kd_le (go2 bs n P τ); omega)
      obtain ⟨h5, g5, f5, t5⟩ := d172 L4 b8 t4 (x := 11) (by decide) (by decide)
      have t5 : MKt h5 bs n (go5 bs n P τ) := t5
      have L5 := FG_Ly f5 L4
      have l5 := FG_ML f5 l4
      have B5 : hP h5 124 4 = some B := by rw [FG_P f5]; exact B4
      have c5 := MN_FG f5 h134 c4
      obtain ⟨v6, h6, g6, f6, t6, u6⟩ := d180 L5 b8 t5 B5 l5 c5 (s := 1) (by decide)
      have g6 : C 180 [.ref 124, .int 0] h5 = some (some (some (.int v6)), h6) := g6
      have t6 : MKt h6 bs n (go6 bs n P τ) := t6
      have L6 := FG_Ly f6 L5
      have l6 := FG_ML f6 l5
      have B6 : hP h6 124 4 = some B := by rw [FG_P f6]; exact B5
      have c6 := MN_FG f6 h134 c5
      have t6 : MKt h6 bs n (go7 bs n P τ) := by rw [e7]; exact t6
      obtain ⟨m7, h7, g7, f7, t7, bb7, v7⟩ := d174 L6 b8 t6 (x := 26) (by decide) (by decide) (lo := 0) (hi := 300) (by decide) (by decide)
      have g7 : C 174 [.ref 124, .float 26, .int 0, .int 300] h6 = some (some (some (.int (nI m7))), h7) := g7
      have v7 : (go9 bs n P τ) 4 = 0 → m7 = go8 bs n P τ 3 := v7
      have t7 : MKt h7 bs n (go9 bs n P τ) := t7
      have L7 := FG_Ly f7 L6
      have l7 := FG_ML f7 l6
      have B7 : hP h7 124 4 = some B := by rw [FG_P f7]; exact B6
      have c7 := MN_FG f7 h134 c6
      obtain ⟨m8, h8, g8, f8, t8, bb8, v8⟩ := d174 L7 b8 t7 (x := 27) (by decide) (by decide) (lo := 1) (hi := 9) (by decide) (by decide)
      have g8 : C 174 [.ref 124, .float 27, .int 1, .int 9] h7 = some (some (some (.int (nI m8))), h8) := g8
      have v8 : (go11 bs n P τ) 4 = 0 → m8 = go10 bs n P τ 3 := v8
      have t8 : MKt h8 bs n (go11 bs n P τ) := t8
      have L8 := FG_Ly f8 L7
      have l8 := FG_ML f8 l7
      have B8 : hP h8 124 4 = some B := by rw [FG_P f8]; exact B7
      have c8 := MN_FG f8 h134 c7
      obtain ⟨m9, h9, g9, f9, t9, bb9, v9⟩ := d174 L8 b8 t8 (x := 28) (by decide) (by decide) (lo := 0) (hi := 99) (by decide) (by decide)
      have g9 : C 174 [.ref 124, .float 28, .int 0, .int 99] h8 = some (some (some (.int (nI m9))), h9) := g9
      have v9 : (go13 bs n P τ) 4 = 0 → m9 = go12 bs n P τ 3 := v9
      have t9 : MKt h9 bs n (go13 bs n P τ) := t9
      have L9 := FG_Ly f9 L8
      have l9 := FG_ML f9 l8
      have B9 : hP h9 124 4 = some B := by rw [FG_P f9]; exact B8
      have c9 := MN_FG f9 h134 c8
      obtain ⟨h', g', r', t', m'⟩ := d188f (h0 := h) (v := v2) (x3 := nI (kd (go2 bs n P τ))) (x4 := v4) (x5 := v6) (m6 := m7) (m7 := m8) (m8 := m9) L9 t9 B9 l9 c9 b w nc h2n (RM_T (RM_T (RM_T (RM_T (RM_T (RM_T (RM_T (RM_T (RM_T (RM_rfl B h) f1) f2) f3) f4) f5) f6) f7) f8) f9) (fun a j ha => by rw [MB_T (P := P) f9 h134 ha, MB_T (P := P) f8 h134 ha, MB_T (P := P) f7 h134 ha, MB_T (P := P) f6 h134 ha, MB_T (P := P) f5 h134 ha, MB_T (P := P) f4 h134 ha, MB_T (P := P) f3 h134 ha, MB_T (P := P) f2 h134 ha, MB_T (P := P) f1 h134 ha]) u2 (fun _ => rfl) u4 (fun e => by rw [dF k0', cond_false]; exact u6 ((go_z e).2.2.2.2.2.2 k0')) v7 v8 v9
      refine ⟨h', ?_, r', t', m'⟩
      rw [e188]
      simp only [b188_0, b188_6, b188_8, b188_11, b188_18, b188_20, b188_23, b188_31, b188_34, b188_40, b188_46, cond_true, cond_false, decide_true, Bool.and_true, Bool.true_and, Bool.and_self, Bool.and_false, Bool.false_and, Bool.not_true, Bool.not_false, Bool.or_true, Bool.true_or, Bool.or_false, Bool.false_or, is_some, gd_some, bk_v, bk_u, y_124 L, y_124 L1, y_124 L2, y_124 L3, y_124 L4, y_124 L5, y_124 L6, y_124 L7, y_124 L8, y_124 L9, hB, B1, B2, B3, B4, B5, B6, B7, B8, B9, mB_O l, mB_O l1, mB_O l2, mB_O l3, mB_O l4, mB_O l5, mB_O l6, mB_O l7, mB_O l8, mB_O l9, b_s5 b, gk, g1, g2, g3, g4, g5, g6, g7, g8, g9, km, kz, g']
  · have gm : C 187 [.ref 124] h2 = some (some (some (.int (-1))), h2) := by
      rw [gk]
      by_cases z2 : (go2 bs n P τ) 4 = 0
      · rw [dT z2, cond_true]
        have : kdM (go2 bs n P τ) = -1 := by
          unfold kdM
          cases hq : isW 22 (go2 bs n P τ) || isW 23 (go2 bs n P τ) || isW 24 (go2 bs n P τ) || isW 25 (go2 bs n P τ) || isW 10 (go2 bs n P τ) with
          | false => rfl
          | true =>
            exfalso
            refine z3 ?_
            unfold go3 sKi
            rw [hq, cond_true]
            exact sSt_z z2
        rw [this]
      · rw [dF z2, cond_false]
    have e3 : sFa 1 (go2 bs n P τ) = go3 bs n P τ := by
      unfold go3 sKi
      cases hq : isW 22 (go2 bs n P τ) || isW 23 (go2 bs n P τ) || isW 24 (go2 bs n P τ) || isW 25 (go2 bs n P τ) || isW 10 (go2 bs n P τ) with
      | false => rfl
      | true =>
        by_cases z2 : (go2 bs n P τ) 4 = 0
        · exfalso
          refine z3 ?_
          unfold go3 sKi
          rw [hq, cond_true]
          exact sSt_z z2
        · rw [sFa_1 z2, cond_true, sSt_1 z2]
    have gk := gm
    obtain ⟨h3, g3, f3, t3⟩ := d169 L2 b8 t2 (k := 1) (by decide) (by decide)
    have g3 : C 169 [.ref 124, .int 1] h2 = some (some none, h3) := g3
    have L3 := FG_Ly f3 L2
    have l3 := FG_ML f3 l2
    have B3 : hP h3 124 4 = some B := by rw [FG_P f3]; exact B2
    have c3 := MN_FG f3 h134 c2
    rw [e3] at t3
    obtain ⟨h4, g4, f4, t4⟩ := d168' L3 b8 t3 (fun q => absurd q z3)
    have t4 : MKt h4 bs n (sSt bs n (go3 bs n P τ)) := t4
    have L4 := FG_Ly f4 L3
    have l4 := FG_ML f4 l3
    have B4 : hP h4 124 4 = some B := by rw [FG_P f4]; exact B3
    have c4 := MN_FG f4 h134 c3
    rw [sSt_1 z3] at t4
    obtain ⟨v5, h5, g5, f5, t5, u5⟩ := d180 L4 b8 t4 B4 l4 c4 (s := 2) (by decide)
    have g5 : C 180 [.ref 124, .int 1] h4 = some (some (some (.int v5)), h5) := g5
    have t5 : MKt h5 bs n (go4 bs n P τ) := t5
    have L5 := FG_Ly f5 L4
    have l5 := FG_ML f5 l4
    have B5 : hP h5 124 4 = some B := by rw [FG_P f5]; exact B4
    have c5 := MN_FG f5 h134 c4
    obtain ⟨h6, g6, f6, t6⟩ := d172 L5 b8 t5 (x := 11) (by decide) (by decide)
    have t6 : MKt h6 bs n (go5 bs n P τ) := t6
    have L6 := FG_Ly f6 L5
    have l6 := FG_ML f6 l5
    have B6 : hP h6 124 4 = some B := by rw [FG_P f6]; exact B5
    have c6 := MN_FG f6 h134 c5
    obtain ⟨v7, h7, g7, f7, t7, u7⟩ := d180 L6 b8 t6 B6 l6 c6 (s := 1) (by decide)
    have g7 : C 180 [.ref 124, .int 0] h6 = some (some (some (.int v7)), h7) := g7
    have t7 : MKt h7 bs n (go6 bs n P τ) := t7
    have L7 := FG_Ly f7 L6
    have l7 := FG_ML f7 l6
    have B7 : hP h7 124 4 = some B := by rw [FG_P f7]; exact B6
    have c7 := MN_FG f7 h134 c6
    have e4 : go4 bs n P τ = go3 bs n P τ := by unfold go4; rw [sKn_1 z3, sSt_1 z3]
    have e6 : go6 bs n P τ = go3 bs n P τ := by unfold go6 go5; rw [e4, sWd_1 z3, sKn_1 z3, sSt_1 z3]
    have e7 : go7 bs n P τ = go6 bs n P τ := by unfold go7; rw [e4, e6]; split <;> rfl
    have t7 : MKt h7 bs n (go7 bs n P τ) := by rw [e7]; exact t7
    obtain ⟨m8, h8, g8, f8, t8, bb8, v8⟩ := d174 L7 b8 t7 (x := 26) (by decide) (by decide) (lo := 0) (hi := 300) (by decide) (by decide)
    have g8 : C 174 [.ref 124, .float 26, .int 0, .int 300] h7 = some (some (some (.int (nI m8))), h8) := g8
    have v8 : (go9 bs n P τ) 4 = 0 → m8 = go8 bs n P τ 3 := v8
    have t8 : MKt h8 bs n (go9 bs n P τ) := t8
    have L8 := FG_Ly f8 L7
    have l8 := FG_ML f8 l7
    have B8 : hP h8 124 4 = some B := by rw [FG_P f8]; exact B7
    have c8 := MN_FG f8 h134 c7
    obtain ⟨m9, h9, g9, f9, t9, bb9, v9⟩ := d174 L8 b8 t8 (x := 27) (by decide) (by decide) (lo := 1) (hi := 9) (by decide) (by decide)
    have g9 : C 174 [.ref 124, .float 27, .int 1, .int 9] h8 = some (some (some (.int (nI m9))), h9) := g9
    have v9 : (go11 bs n P τ) 4 = 0 → m9 = go10 bs n P τ 3 := v9
    have t9 : MKt h9 bs n (go11 bs n P τ) := t9
    have L9 := FG_Ly f9 L8
    have l9 := FG_ML f9 l8
    have B9 : hP h9 124 4 = some B := by rw [FG_P f9]; exact B8
    have c9 := MN_FG f9 h134 c8
    obtain ⟨m10, h10, g10, f10, t10, bb10, v10⟩ := d174 L9 b8 t9 (x := 28) (by decide) (by decide) (lo := 0) (hi := 99) (by decide) (by decide)
    have g10 : C 174 [.ref 124, .float 28, .int 0, .int 99] h9 = some (some (some (.int (nI m10))), h10) := g10
    have v10 : (go13 bs n P τ) 4 = 0 → m10 = go12 bs n P τ 3 := v10
    have t10 : MKt h10 bs n (go13 bs n P τ) := t10
    have L10 := FG_Ly f10 L9
    have l10 := FG_ML f10 l9
    have B10 : hP h10 124 4 = some B := by rw [FG_P f10]; exact B9
    have c10 := MN_FG f10 h134 c9
    obtain ⟨h', g', r', t', m'⟩ := d188f (h0 := h) (v := v2) (x3 := -1) (x4 := v5) (x5 := v7) (m6 := m8) (m7 := m9) (m8 := m10) L10 t10 B10 l10 c10 b w nc h2n (RM_T (RM_T (RM_T (RM_T (RM_T (RM_T (RM_T (RM_T (RM_T (RM_T (RM_rfl B h) f1) f2) f3) f4) f5) f6) f7) f8) f9) f10) (fun a j ha => by rw [MB_T (P := P) f10 h134 ha, MB_T (P := P) f9 h134 ha, MB_T (P := P) f8 h134 ha, MB_T (P := P) f7 h134 ha, MB_T (P := P) f6 h134 ha, MB_T (P := P) f5 h134 ha, MB_T (P := P) f4 h134 ha, MB_T (P := P) f3 h134 ha, MB_T (P := P) f2 h134 ha, MB_T (P := P) f1 h134 ha]) u2 (fun q => absurd q z3) u5 (fun e => absurd (go_z e).2.2.2.1 z3) v8 v9 v10
    refine ⟨h', ?_, r', t', m'⟩
    rw [e188]
    simp only [b188_0, b188_6, b188_8, b188_11, b188_18, b188_20, b188_23, b188_31, b188_34, b188_40, b188_46, cond_true, cond_false, decide_true, Bool.and_true, Bool.true_and, Bool.and_self, Bool.and_false, Bool.false_and, Bool.not_true, Bool.not_false, Bool.or_true, Bool.true_or, Bool.or_false, Bool.false_or, is_some, gd_some, bk_v, bk_u, y_124 L, y_124 L1, y_124 L2, y_124 L3, y_124 L4, y_124 L5, y_124 L6, y_124 L7, y_124 L8, y_124 L9, y_124 L10, hB, B1, B2, B3, B4, B5, B6, B7, B8, B9, B10, mB_O l, mB_O l1, mB_O l2, mB_O l3, mB_O l4, mB_O l5, mB_O l6, mB_O l7, mB_O l8, mB_O l9, mB_O l10, b_s5 b, gk, g1, g2, g3, g4, g5, g6, g7, g8, g9, g10, show decide ((-1 : Int32) = -1) = true from rfl, show decide ((-1 : Int32) = 0) = false from rfl, g']
set_option maxRecDepth 16384 in
theorem rm_01 {bs : Nat → Int32} {n : Nat} {τ : Nat → Nat} : sRm bs n 0 1 τ = sSt bs n τ := by unfold sRm; rw [if_pos (by decide)]
set_option maxRecDepth 16384 in
theorem d189 {h : A_H} {bs : Nat → Int32} {n : Nat} {τ : Nat → Nat} {B : Nat} {P : Gh} (L : Ly h) (b8 : B8 bs n) (t : MKt h bs n τ) (e0 : τ 4 = 0) (k0 : ¬ τ 0 = 4) (hB : hP h 124 4 = some B) (l : ML h B) (c : MN h B P) (b : MB h B P) (w : WF P) (nc : NC P) : ∃ h', C 189 [.ref 124] h = some (some none, h') ∧ RM B h h' ∧ MKt h' bs n (hi4 bs n P τ) ∧ ((hi4 bs n P τ) 4 = 0 → MB h' B (pHi bs n P τ) ∧ MN h' B (pHi bs n P τ)) := by
  have k2 := f_nm w
  have k3 := f_nt w
  have k4 := f_ng w
  have k5 := f_nG w
  have k6 := f_nx w
  have k9 := f_nc w
  have hn1 := nc.1
  have h134 := m_134 l
  obtain ⟨h1, g1, f1, t1⟩ := d176 L b8 t hB l (tld w b) (a := 0) (m := 1) (by omega) (by decide) e0 k0
  have g1 : C 176 [.ref 124, .int 0, .int 1] h = some (some none, h1) := g1
  have L1 := FG_Ly f1 L
  have l1 := FG_ML f1 l
  have B1 : hP h1 124 4 = some B := by rw [FG_P f1]; exact hB
  have c1 := MN_FG f1 h134 c
  rw [rm_01] at t1
  have t1 : MKt h1 bs n (hi1 bs n P τ) := t1
  obtain ⟨v2, h2, g2, f2, t2, u2⟩ := d179 L1 b8 t1 B1 l1 c1 (s := 4) (by decide)
  have g2 : C 179 [.ref 124, .int 3] h1 = some (some (some (.int v2)), h2) := g2
  have t2 : MKt h2 bs n (hi2 bs n P τ) := t2
  have L2 := FG_Ly f2 L1
  have l2 := FG_ML f2 l1
  have B2 : hP h2 124 4 = some B := by rw [FG_P f2]; exact B1
  have c2 := MN_FG f2 h134 c1
  by_cases z2 : (hi2 bs n P τ) 4 = 0
  · obtain ⟨e21, e20, -⟩ := sKn_k z2
    have k20 : ¬ (hi2 bs n P τ) 0 = 4 := by show ¬ (sKn 4 P (hi1 bs n P τ)) 0 = 4; rw [e21, e20]; decide
    have kb := (kn_b nc z2).2.2.2 rfl
    have u2 := u2 z2
    subst u2
    have hq : knV P (hi1 bs n P τ) < 31 := by omega
    have s9 : decide (hI h2 124 9 = 5) = false := by rw [(t2.2.1 z2).1]; exact mk_ne5
    have h9 : hI h2 B 9 = nI (P 0 8) := by rw [MB_T (P := P) f2 h134 (Nat.le_refl _), MB_T (P := P) f1 h134 (Nat.le_refl _)]; exact b_hid b
    have gb := d161 (nI (P 0 8)) (show knV P (hi1 bs n P τ) < 32 by omega) h2
    rw [bt_nI _ (show knV P (hi1 bs n P τ) < 32 by omega)] at gb
    cases hb : (P 0 8).testBit (knV P (hi1 bs n P τ)) with
    | false =>
      rw [hb, bI_F] at gb
      have e3 : hi3 bs n P τ = hi2 bs n P τ := by unfold hi3; rw [hb]; rfl
      obtain ⟨h3, g3, f3, t3⟩ := d168' L2 b8 t2 (fun _ => k20)
      have L3 := FG_Ly f3 L2
      have l3 := FG_ML f3 l2
      have B3 : hP h3 124 4 = some B := by rw [FG_P f3]; exact B2
      have c3 := MN_FG f3 h134 c2
      have t3 : MKt h3 bs n (hi4 bs n P τ) := by unfold hi4; rw [e3]; exact t3
      have e : (hi4 bs n P τ) 4 = 0 := by unfold hi4; rw [e3]; exact sSt_z z2
      have s9' : decide (hI h3 124 9 = 5) = false := by rw [(t3.2.1 e).1]; exact mk_ne5
      have h9' : hI h3 B 9 = nI (P 0 8) := by rw [MB_T (P := P) f3 h134 (Nat.le_refl _)]; exact h9
      refine ⟨wI h3 B 9 (nI (P 0 8 ||| 2 ^ knV P (hi1 bs n P τ))), ?_, RM_w (RM_T (RM_T (RM_T (RM_rfl B h) f1) f2) f3) _ (by omega), MKt_w t3 _ (by omega), fun _ => ⟨?_, MN_eq (MN_w c3 _ (by omega) (by omega)) (fun a b ha => ug_n (by omega))⟩⟩
      · rw [e189]
        simp only [b189_0, b189_4, b189_7, b189_17, b189_21, b189_23, b189_36, cond_true, cond_false, decide_true, Bool.and_true, Bool.true_and, Bool.and_self, Bool.and_false, Bool.false_and, Bool.not_true, Bool.not_false, Bool.or_true, Bool.true_or, Bool.or_false, Bool.false_or, is_some, gd_some, bk_v, bk_u, y_124 L, y_124 L1, y_124 L2, y_124 L3, hB, B1, B2, B3, mB_O l, mB_O l1, mB_O l2, mB_O l3, g1, g2, g3, s9, s9', h9, h9', gb, orb hq]
      · refine MB_h w b (fun j hj => ug_n (by omega)) (fun c i h1 h2 => ug_n (by omega)) (fun a j ha i2 i3 i4 => ?_) ?_
        · rw [hI_wI, if_neg (by omega), MB_T (P := P) f3 h134 ha, MB_T (P := P) f2 h134 ha, MB_T (P := P) f1 h134 ha]
        · rw [hI_wI, if_pos ⟨rfl, rfl⟩]
          unfold pHi
          rw [ug_e]
    | true =>
      rw [hb, bI_T] at gb
      have e3 : hi3 bs n P τ = sFa 3 (hi2 bs n P τ) := by unfold hi3; rw [hb]; rfl
      have n3 : ¬ (hi3 bs n P τ) 4 = 0 := by rw [e3]; exact sFa_n z2 (by decide)
      obtain ⟨h3, g3, f3, t3⟩ := d169 L2 b8 t2 (k := 3) (by decide) (by decide)
      have g3 : C 169 [.ref 124, .int 3] h2 = some (some none, h3) := g3
      have L3 := FG_Ly f3 L2
      have l3 := FG_ML f3 l2
      have B3 : hP h3 124 4 = some B := by rw [FG_P f3]; exact B2
      have c3 := MN_FG f3 h134 c2
      rw [← e3] at t3
      obtain ⟨h4, g4, f4, t4⟩ := d168' L3 b8 t3 (fun q => absurd q n3)
      have t4 : MKt h4 bs n (hi4 bs n P τ) := t4
      have L4 := FG_Ly f4 L3
      have l4 := FG_ML f4 l3
      have B4 : hP h4 124 4 = some B := by rw [FG_P f4]; exact B3
      have c4 := MN_FG f4 h134 c3
      have n4 : ¬ (hi4 bs n P τ) 4 = 0 := by unfold hi4; rw [sSt_1 n3]; exact n3
      have s9' : hI h4 124 9 = 5 := (t4.2.2 n4).1
      refine ⟨h4, ?_, RM_T (RM_T (RM_T (RM_T (RM_rfl B h) f1) f2) f3) f4, t4, fun q => absurd q n4⟩
      rw [e189]
      simp only [b189_0, b189_4, b189_7, b189_17, b189_21, b189_23, b189_36, cond_true, cond_false, decide_true, Bool.and_true, Bool.true_and, Bool.and_self, Bool.and_false, Bool.false_and, Bool.not_true, Bool.not_false, Bool.or_true, Bool.true_or, Bool.or_false, Bool.false_or, is_some, gd_some, bk_v, bk_u, y_124 L, y_124 L1, y_124 L2, y_124 L3, y_124 L4, hB, B1, B2, B3, B4, mB_O l, mB_O l1, mB_O l2, mB_O l3, mB_O l4, g1, g2, g3, g4, s9, s9', h9, gb, i1_0]
  · have s9 : hI h2 124 9 = 5 := (t2.2.2 z2).1
    have e3 : hi3 bs n P τ = hi2 bs n P τ := by unfold hi3; rw [sFa_1 z2]; cases (P 0 8).testBit (knV P (hi1 bs n P τ)) <;> rfl
    obtain ⟨h3, g3, f3, t3⟩ := d168' L2 b8 t2 (fun q => absurd q z2)
    have L3 := FG_Ly f3 L2
    have l3 := FG_ML f3 l2
    have B3 : hP h3 124 4 = some B := by rw [FG_P f3]; exact B2
    have c3 := MN_FG f3 h134 c2
    have t3 : MKt h3 bs n (hi4 bs n P τ) := by unfold hi4; rw [e3]; exact t3
    have n4 : ¬ (hi4 bs n P τ) 4 = 0 := by unfold hi4; rw [e3, sSt_1 z2]; exact z2
    have s9' : hI h3 124 9 = 5 := (t3.2.2 n4).1
    refine ⟨h3, ?_, RM_T (RM_T (RM_T (RM_rfl B h) f1) f2) f3, t3, fun q => absurd q n4⟩
    rw [e189]
    simp only [b189_0, b189_4, b189_7, b189_17, b189_21, b189_23, b189_36, cond_true, cond_false, decide_true, Bool.and_true, Bool.true_and, Bool.and_self, Bool.and_false, Bool.false_and, Bool.not_true, Bool.not_false, Bool.or_true, Bool.true_or, Bool.or_false, Bool.false_or, is_some, gd_some, bk_v, bk_u, y_124 L, y_124 L1, y_124 L2, y_124 L3, hB, B1, B2, B3, mB_O l, mB_O l1, mB_O l2, mB_O l3, g1, g2, g3, s9, s9']
set_option maxRecDepth 16384 in
theorem d190 {h : A_H} {bs : Nat → Int32} {n : Nat} {τ : Nat → Nat} {B : Nat} {P : Gh} (L : Ly h) (b8 : B8 bs n) (t : MKt h bs n τ) (e0 : τ 4 = 0) (k0 : ¬ τ 0 = 4) (hB : hP h 124 4 = some B) (l : ML h B) (c : MN h B P) (b : MB h B P) (w : WF P) (nc : NC P) : ∃ h', C 190 [.ref 124] h = some (some none, h') ∧ RM B h h' ∧ MKt h' bs n (cr9 bs n P τ) ∧ ((cr9 bs n P τ) 4 = 0 → MB h' B (pCr bs n P τ) ∧ MN h' B (pCr bs n P τ)) := by
  have k2 := f_nm w
  have k3 := f_nt w
  have k4 := f_ng w
  have k5 := f_nG w
  have k6 := f_nx w
  have k9 := f_nc w
  have hn1 := nc.1
  have h134 := m_134 l
  obtain ⟨h1, g1, f1, t1⟩ := d176 L b8 t hB l (tld w b) (a := P 0 6) (m := 6) (by omega) (by decide) e0 k0
  have g1 : C 176 [.ref 124, .int (nI (P 0 6)), .int 6] h = some (some none, h1) := g1
  have t1 : MKt h1 bs n (cr1 bs n P τ) := t1
  have L1 := FG_Ly f1 L
  have l1 := FG_ML f1 l
  have B1 : hP h1 124 4 = some B := by rw [FG_P f1]; exact hB
  have c1 := MN_FG f1 h134 c
  obtain ⟨v2, h2, g2, f2, t2, u2⟩ := d180 L1 b8 t1 B1 l1 c1 (s := 2) (by decide)
  have g2 : C 180 [.ref 124, .int 1] h1 = some (some (some (.int v2)), h2) := g2
  have t2 : MKt h2 bs n (cr3 bs n P τ) := t2
  have L2 := FG_Ly f2 L1
  have l2 := FG_ML f2 l1
  have B2 : hP h2 124 4 = some B := by rw [FG_P f2]; exact B1
  have c2 := MN_FG f2 h134 c1
  obtain ⟨v3, h3, g3, f3, t3, u3⟩ := d180 L2 b8 t2 B2 l2 c2 (s := 3) (by decide)
  have g3 : C 180 [.ref 124, .int 2] h2 = some (some (some (.int v3)), h3) := g3
  have t3 : MKt h3 bs n (cr5 bs n P τ) := t3
  have L3 := FG_Ly f3 L2
  have l3 := FG_ML f3 l2
  have B3 : hP h3 124 4 = some B := by rw [FG_P f3]; exact B2
  have c3 := MN_FG f3 h134 c2
  have lo9 : (if P 0 6 = 0 then 0 else P 20 (P 0 6 - 1)) < 1000 := by
    by_cases z : P 0 6 = 0
    · rw [if_pos z]; decide
    · rw [if_neg z]; have := f_day w (show P 0 6 - 1 < P 0 6 by omega); omega
  have j6 : hI h B 6 = nI (P 0 6) := b_s6 b
  have j6' : hI h3 B 6 = nI (P 0 6) := by
    have ha : B ≤ B := Nat.le_refl _
    rw [MB_T (P := P) f3 h134 ha, MB_T (P := P) f2 h134 ha, MB_T (P := P) f1 h134 ha]; exact j6
  have rdy : ¬ P 0 6 = 0 → hI h3 (B + 18) (P 0 6 - 1) = nI (P 20 (P 0 6 - 1)) := fun z => by
    have ha : B ≤ B + 18 := by omega
    rw [MB_T (P := P) f3 h134 ha, MB_T (P := P) f2 h134 ha, MB_T (P := P) f1 h134 ha]; exact b_day b (by omega)
  obtain ⟨m4, h4, f4, t4, v4, eq⟩ : ∃ m4 h4, FG mT ML14 h3 h4 ∧ MKt h4 bs n (cr7 bs n P τ) ∧ ((cr7 bs n P τ) 4 = 0 → m4 = cr6 bs n P τ 3) ∧ C 190 [.ref 124] h = R 190 37 [some (.ref 124), some (.int v2), some (.int v3), none, none] [.int (nI m4)] h4 := by
    by_cases z : P 0 6 = 0
    · have d0 : decide (nI (P 0 6) = 0) = true := by rw [z]; rfl
      obtain ⟨m4, h4, g4, f4, t4, bb4, v4⟩ := d174 L3 b8 t3 (x := 29) (by decide) (by decide) (lo := 0) (hi := 60) (by decide) (by decide)
      have g4 : C 174 [.ref 124, .float 29, .int 0, .int 60] h3 = some (some (some (.int (nI m4))), h4) := g4
      have L4 := FG_Ly f4 L3
      have l4 := FG_ML f4 l3
      have B4 : hP h4 124 4 = some B := by rw [FG_P f4]; exact B3
      have c4 := MN_FG f4 h134 c3
      have e7 : cr7 bs n P τ = sWh bs n 0 60 (cr6 bs n P τ) := by unfold cr7; rw [if_pos z]
      refine ⟨m4, h4, f4, by rw [e7]; exact t4, by rw [e7]; exact v4, ?_⟩
      rw [e190]
      simp only [b190_0, b190_6, b190_9, b190_13, cond_true, cond_false, decide_true, Bool.and_true, Bool.true_and, Bool.and_self, Bool.and_false, Bool.false_and, Bool.not_true, Bool.not_false, Bool.or_true, Bool.true_or, Bool.or_false, Bool.false_or, is_some, gd_some, bk_v, bk_u, y_124 L, y_124 L1, y_124 L2, y_124 L3, y_124 L4, hB, B1, B2, B3, B4, mB_O l, mB_O l1, mB_O l2, mB_O l3, mB_O l4, g1, g2, g3, g4, j6, j6', d0]
    · have d0 : decide (nI (P 0 6) = 0) = false := nz z (by omega)
      have e7 : cr7 bs n P τ = sWh bs n (P 20 (P 0 6 - 1)) 60 (cr6 bs n P τ) := by unfold cr7; rw [if_neg z]
      rw [if_neg z] at lo9
      by_cases q : (cr5 bs n P τ) 4 = 0
      · have s9 : decide (hI h3 124 9 = 5) = false := by rw [(t3.2.1 q).1]; exact mk_ne5
        obtain ⟨m4, h4, g4, f4, t4, bb4, v4⟩ := d174 L3 b8 t3 (x := 29) (by decide) (by decide) (lo := (P 20 (P 0 6 - 1))) (hi := 60) lo9 (by decide)
        have g4 : C 174 [.ref 124, .float 29, .int (nI (P 20 (P 0 6 - 1))), .int 60] h3 = some (some (some (.int (nI m4))), h4) := g4
        have L4 := FG_Ly f4 L3
        have l4 := FG_ML f4 l3
        have B4 : hP h4 124 4 = some B := by rw [FG_P f4]; exact B3
        have c4 := MN_FG f4 h134 c3
        refine ⟨m4, h4, f4, by rw [e7]; exact t4, by rw [e7]; exact v4, ?_⟩
        rw [e190]
        simp only [b190_0, b190_6, b190_9, b190_13, cond_true, cond_false, decide_true, Bool.and_true, Bool.true_and, Bool.and_self, Bool.and_false, Bool.false_and, Bool.not_true, Bool.not_false, Bool.or_true, Bool.true_or, Bool.or_false, Bool.false_or, is_some, gd_some, bk_v, bk_u, y_124 L, y_124 L1, y_124 L2, y_124 L3, y_124 L4, hB, B1, B2, B3, B4, mB_O l, mB_O l1, mB_O l2, mB_O l3, mB_O l4, g1, g2, g3, g4, j6, j6', d0, s9, m_p28 l3, lo_e (show 0 < P 0 6 by omega), mA_18 l3 (show P 0 6 - 1 < 6 by omega), w_cl (show P 0 6 - 1 < 2147483648 by omega), rdy z]
      · have s9 : hI h3 124 9 = 5 := (t3.2.2 q).1
        obtain ⟨m4, h4, g4, f4, t4, bb4, v4⟩ := d174 L3 b8 t3 (x := 29) (by decide) (by decide) (lo := 0) (hi := 60) (by decide) (by decide)
        have g4 : C 174 [.ref 124, .float 29, .int 0, .int 60] h3 = some (some (some (.int (nI m4))), h4) := g4
        have L4 := FG_Ly f4 L3
        have l4 := FG_ML f4 l3
        have B4 : hP h4 124 4 = some B := by rw [FG_P f4]; exact B3
        have c4 := MN_FG f4 h134 c3
        have q6 : ¬ (cr6 bs n P τ) 4 = 0 := by unfold cr6; rw [sWd_1 q]; exact q
        have e8 : cr7 bs n P τ = sWh bs n 0 60 (cr6 bs n P τ) := by rw [e7, sWh_1 q6, sWh_1 q6]
        refine ⟨m4, h4, f4, by rw [e8]; exact t4, by rw [e8]; exact v4, ?_⟩
        rw [e190]
        simp only [b190_0, b190_6, b190_9, b190_13, cond_true, cond_false, decide_true, Bool.and_true, Bool.true_and, Bool.and_self, Bool.and_false, Bool.false_and, Bool.not_true, Bool.not_false, Bool.or_true, Bool.true_or, Bool.or_false, Bool.false_or, is_some, gd_some, bk_v, bk_u, y_124 L, y_124 L1, y_124 L2, y_124 L3, y_124 L4, hB, B1, B2, B3, B4, mB_O l, mB_O l1, mB_O l2, mB_O l3, mB_O l4, g1, g2, g3, g4, j6, j6', d0, s9]
  have g4 := eq
  have t4 : MKt h4 bs n (cr7 bs n P τ) := t4
  have L4 := FG_Ly f4 L3
  have l4 := FG_ML f4 l3
  have B4 : hP h4 124 4 = some B := by rw [FG_P f4]; exact B3
  have c4 := MN_FG f4 h134 c3
  obtain ⟨m5, h5, g5, f5, t5, bb5, v5⟩ := d174 L4 b8 t4 (x := 30) (by decide) (by decide) (lo := 0) (hi := 23) (by decide) (by decide)
  have g5 : C 174 [.ref 124, .float 30, .int 0, .int 23] h4 = some (some (some (.int (nI m5))), h5) := g5
  have v5 : (cr9 bs n P τ) 4 = 0 → m5 = cr8 bs n P τ 3 := v5
  have t5 : MKt h5 bs n (cr9 bs n P τ) := t5
  have L5 := FG_Ly f5 L4
  have l5 := FG_ML f5 l4
  have B5 : hP h5 124 4 = some B := by rw [FG_P f5]; exact B4
  have c5 := MN_FG f5 h134 c4
  have fr : ∀ a j, B ≤ a → hI h5 a j = hI h a j := by
    intro a j ha
    rw [MB_T (P := P) f5 h134 ha, MB_T (P := P) f4 h134 ha, MB_T (P := P) f3 h134 ha, MB_T (P := P) f2 h134 ha, MB_T (P := P) f1 h134 ha]
  have rd : RM B h h5 := RM_T (RM_T (RM_T (RM_T (RM_T (RM_rfl B h) f1) f2) f3) f4) f5
  by_cases e : (cr9 bs n P τ) 4 = 0
  · obtain ⟨z8, z7, z6, z5, z4, z3, z2, z1⟩ := cr_z e
    have s9 : decide (hI h5 124 9 = 5) = false := by rw [(t5.2.1 e).1]; exact mk_ne5
    obtain ⟨-, cm⟩ := rm_b z1
    have u2 := u2 z2
    have u3 := u3 z4
    have v4 := v4 z7
    have v5 := v5 e
    subst u2 u3 v4 v5
    have hk0 : hI h5 B 6 = nI (P 0 6) := (fr _ _ (Nat.le_refl _)).trans (b_s6 b)
    have hk1 : hI (wI h5 (B + 16) (P 0 6) (nI (knV P (cr1 bs n P τ)))) B 6 = nI (P 0 6) := by rw [hI_wI, if_neg (by omega)]; exact hk0
    have hk2 : hI (wI (wI h5 (B + 16) (P 0 6) (nI (knV P (cr1 bs n P τ)))) (B + 17) (P 0 6) (nI (knV P (cr3 bs n P τ)))) B 6 = nI (P 0 6) := by rw [hI_wI, if_neg (by omega)]; exact hk1
    have hk3 : hI (wI (wI (wI h5 (B + 16) (P 0 6) (nI (knV P (cr1 bs n P τ)))) (B + 17) (P 0 6) (nI (knV P (cr3 bs n P τ)))) (B + 18) (P 0 6) (nI (cr6 bs n P τ 3))) B 6 = nI (P 0 6) := by rw [hI_wI, if_neg (by omega)]; exact hk2
    have hk4 : hI (wI (wI (wI (wI h5 (B + 16) (P 0 6) (nI (knV P (cr1 bs n P τ)))) (B + 17) (P 0 6) (nI (knV P (cr3 bs n P τ)))) (B + 18) (P 0 6) (nI (cr6 bs n P τ 3))) (B + 19) (P 0 6) (nI (cr8 bs n P τ 3))) B 6 = nI (P 0 6) := by rw [hI_wI, if_neg (by omega)]; exact hk3
    refine ⟨(wI (wI (wI (wI (wI h5 (B + 16) (P 0 6) (nI (knV P (cr1 bs n P τ)))) (B + 17) (P 0 6) (nI (knV P (cr3 bs n P τ)))) (B + 18) (P 0 6) (nI (cr6 bs n P τ 3))) (B + 19) (P 0 6) (nI (cr8 bs n P τ 3))) B 6 (nI (P 0 6 + 1))), ?_, RM_w (RM_w (RM_w (RM_w (RM_w (rd) _ (by omega)) _ (by omega)) _ (by omega)) _ (by omega)) _ (by omega), MKt_w (MKt_w (MKt_w (MKt_w (MKt_w (t5) _ (by omega)) _ (by omega)) _ (by omega)) _ (by omega)) _ (by omega), fun _ => ⟨?_, MN_eq (MN_w (MN_w (MN_w (MN_w (MN_w (c5) _ (by omega) (by omega)) _ (by omega) (by omega)) _ (by omega) (by omega)) _ (by omega) (by omega)) _ (by omega) (by omega)) pCr_n⟩⟩
    · rw [eq]
      simp only [b190_37, b190_43, b190_57, b190_65, b190_73, b190_81, b190_88, cond_true, cond_false, decide_true, Bool.and_true, Bool.true_and, Bool.and_self, Bool.and_false, Bool.false_and, Bool.not_true, Bool.not_false, Bool.or_true, Bool.true_or, Bool.or_false, Bool.false_or, is_some, gd_some, bk_v, bk_u, isO_wI, hP_wI, isA_wI, y_124 L, y_124 L1, y_124 L2, y_124 L3, y_124 L4, y_124 L5, hB, B1, B2, B3, B4, B5, mB_O l, mB_O l1, mB_O l2, mB_O l3, mB_O l4, mB_O l5, g1, g2, g3, g5, s9, hk0, hk1, hk2, hk3, hk4, m_p26 l5, m_p27 l5, m_p28 l5, m_p29 l5, w_cl (show P 0 6 < 2147483648 by omega), mA_16 l5 cm, mA_17 l5 cm, mA_18 l5 cm, mA_19 l5 cm, w_s]
    · refine MB_a6 w b cm pCr_0 pCr_1 pCr_r ?_ (by rw [hI_wI, if_pos ⟨rfl, rfl⟩]) (by rw [pCr_18v, hI_wI, if_neg (by omega), hI_wI, if_neg (by omega), hI_wI, if_neg (by omega), hI_wI, if_neg (by omega), hI_wI, if_pos ⟨rfl, rfl⟩]) (by rw [pCr_19v, hI_wI, if_neg (by omega), hI_wI, if_neg (by omega), hI_wI, if_neg (by omega), hI_wI, if_pos ⟨rfl, rfl⟩]) (by rw [pCr_20v, hI_wI, if_neg (by omega), hI_wI, if_neg (by omega), hI_wI, if_pos ⟨rfl, rfl⟩]) (by rw [pCr_21v, hI_wI, if_neg (by omega), hI_wI, if_pos ⟨rfl, rfl⟩])
      intro a j i1 i2 i3 i4
      rw [hI_wI, if_neg (by omega), hI_wI, if_neg (by omega), hI_wI, if_neg (by omega), hI_wI, if_neg (by omega), hI_wI, if_neg (by omega), fr a j i1]
  · have s9 : hI h5 124 9 = 5 := (t5.2.2 e).1
    refine ⟨h5, ?_, rd, t5, fun q => absurd q e⟩
    rw [eq]
    simp only [b190_37, b190_43, cond_true, cond_false, decide_true, Bool.and_true, Bool.true_and, Bool.and_self, Bool.and_false, Bool.false_and, Bool.not_true, Bool.not_false, Bool.or_true, Bool.true_or, Bool.or_false, Bool.false_or, is_some, gd_some, bk_v, bk_u, y_124 L, y_124 L1, y_124 L2, y_124 L3, y_124 L4, y_124 L5, hB, B1, B2, B3, B4, B5, mB_O l, mB_O l1, mB_O l2, mB_O l3, mB_O l4, mB_O l5, g1, g2, g3, g5, s9]
set_option maxRecDepth 16384 in
theorem d192 {h : A_H} {bs : Nat → Int32} {n : Nat} {τ : Nat → Nat} {B : Nat} {P : Gh} (L : Ly h) (b8 : B8 bs n) (t : MKt h bs n τ) (e0 : τ 4 = 0) (k0 : ¬ τ 0 = 4) (hB : hP h 124 4 = some B) (l : ML h B) (c : MN h B P) (b : MB h B P) (w : WF P) (nc : NC P) : ∃ h', C 192 [.ref 124] h = some (some none, h') ∧ RM B h h' ∧ MKt h' bs n (cu5 bs n P τ) ∧ ((cu5 bs n P τ) 4 = 0 → MB h' B (pCu bs n P τ) ∧ MN h' B (pCu bs n P τ)) := by
  have k2 := f_nm w
  have k3 := f_nt w
  have k4 := f_ng w
  have k5 := f_nG w
  have k6 := f_nx w
  have k9 := f_nc w
  have hn1 := nc.1
  have h134 := m_134 l
  have j8 := b_nc b
  obtain ⟨h1, g1, f1, t1⟩ := d176 L b8 t hB l (tld w b) (a := P 0 9) (m := 5) (by omega) (by decide) e0 k0
  have g1 : C 176 [.ref 124, .int (nI (P 0 9)), .int 5] h = some (some none, h1) := g1
  have t1 : MKt h1 bs n (cu1 bs n P τ) := t1
  have L1 := FG_Ly f1 L
  have l1 := FG_ML f1 l
  have B1 : hP h1 124 4 = some B := by rw [FG_P f1]; exact hB
  have c1 := MN_FG f1 h134 c
  obtain ⟨v2, h2, g2, f2, t2, u2⟩ := d180 L1 b8 t1 B1 l1 c1 (s := 1) (by decide)
  have g2 : C 180 [.ref 124, .int 0] h1 = some (some (some (.int v2)), h2) := g2
  have t2 : MKt h2 bs n (cu3 bs n P τ) := t2
  have L2 := FG_Ly f2 L1
  have l2 := FG_ML f2 l1
  have B2 : hP h2 124 4 = some B := by rw [FG_P f2]; exact B1
  have c2 := MN_FG f2 h134 c1
  obtain ⟨m3, h3, g3, f3, t3, bb3, v3⟩ := d174 L2 b8 t2 (x := 29) (by decide) (by decide) (lo := 0) (hi := 60) (by decide) (by decide)
  have g3 : C 174 [.ref 124, .float 29, .int 0, .int 60] h2 = some (some (some (.int (nI m3))), h3) := g3
  have v3 : (cu5 bs n P τ) 4 = 0 → m3 = cu4 bs n P τ 3 := v3
  have t3 : MKt h3 bs n (cu5 bs n P τ) := t3
  have L3 := FG_Ly f3 L2
  have l3 := FG_ML f3 l2
  have B3 : hP h3 124 4 = some B := by rw [FG_P f3]; exact B2
  have c3 := MN_FG f3 h134 c2
  have fr : ∀ a j, B ≤ a → hI h3 a j = hI h a j := by
    intro a j ha
    rw [MB_T (P := P) f3 h134 ha, MB_T (P := P) f2 h134 ha, MB_T (P := P) f1 h134 ha]
  have rd : RM B h h3 := RM_T (RM_T (RM_T (RM_rfl B h) f1) f2) f3
  by_cases e : (cu5 bs n P τ) 4 = 0
  · obtain ⟨z4, z3, z2, z1⟩ := cu_z e
    have s9 : decide (hI h3 124 9 = 5) = false := by rw [(t3.2.1 e).1]; exact mk_ne5
    obtain ⟨-, cm⟩ := rm_b z1
    have u2 := u2 z2
    have v5 := v3 e
    subst u2 v5
    have hk0 : hI h3 B 8 = nI (P 0 9) := (fr _ _ (Nat.le_refl _)).trans (b_nc b)
    have hk1 : hI (wI h3 (B + 20) (P 0 9) (nI (knV P (cu1 bs n P τ)))) B 8 = nI (P 0 9) := by rw [hI_wI, if_neg (by omega)]; exact hk0
    have hk2 : hI (wI (wI h3 (B + 20) (P 0 9) (nI (knV P (cu1 bs n P τ)))) (B + 21) (P 0 9) (nI (cu4 bs n P τ 3))) B 8 = nI (P 0 9) := by rw [hI_wI, if_neg (by omega)]; exact hk1
    refine ⟨(wI (wI (wI h3 (B + 20) (P 0 9) (nI (knV P (cu1 bs n P τ)))) (B + 21) (P 0 9) (nI (cu4 bs n P τ 3))) B 8 (nI (P 0 9 + 1))), ?_, RM_w (RM_w (RM_w (rd) _ (by omega)) _ (by omega)) _ (by omega), MKt_w (MKt_w (MKt_w (t3) _ (by omega)) _ (by omega)) _ (by omega), fun _ => ⟨?_, MN_eq (MN_w (MN_w (MN_w (c3) _ (by omega) (by omega)) _ (by omega) (by omega)) _ (by omega) (by omega)) pCu_n⟩⟩
    · rw [e192]
      simp only [b192_0, b192_6, b192_9, b192_15, b192_29, b192_37, b192_44, cond_true, cond_false, decide_true, Bool.and_true, Bool.true_and, Bool.and_self, Bool.and_false, Bool.false_and, Bool.not_true, Bool.not_false, Bool.or_true, Bool.true_or, Bool.or_false, Bool.false_or, is_some, gd_some, bk_v, bk_u, isO_wI, hP_wI, isA_wI, y_124 L, y_124 L1, y_124 L2, y_124 L3, hB, B1, B2, B3, mB_O l, mB_O l1, mB_O l2, mB_O l3, g1, g2, g3, j8, s9, hk0, hk1, hk2, m_p30 l3, m_p31 l3, w_cl (show P 0 9 < 2147483648 by omega), mA_20 l3 cm, mA_21 l3 cm, w_s]
    · refine MB_a9 w b cm pCu_0 pCu_1 pCu_r ?_ (by rw [hI_wI, if_pos ⟨rfl, rfl⟩]) (by rw [pCu_22v, hI_wI, if_neg (by omega), hI_wI, if_neg (by omega), hI_wI, if_pos ⟨rfl, rfl⟩]) (by rw [pCu_23v, hI_wI, if_neg (by omega), hI_wI, if_pos ⟨rfl, rfl⟩])
      intro a j i1 i2 i3 i4
      rw [hI_wI, if_neg (by omega), hI_wI, if_neg (by omega), hI_wI, if_neg (by omega), fr a j i1]
  · have s9 : hI h3 124 9 = 5 := (t3.2.2 e).1
    refine ⟨h3, ?_, rd, t3, fun q => absurd q e⟩
    rw [e192]
    simp only [b192_0, b192_6, b192_9, b192_15, b192_29, b192_37, b192_44, cond_true, cond_false, decide_true, Bool.and_true, Bool.true_and, Bool.and_self, Bool.and_false, Bool.false_and, Bool.not_true, Bool.not_false, Bool.or_true, Bool.true_or, Bool.or_false, Bool.false_or, is_some, gd_some, bk_v, bk_u, y_124 L, y_124 L1, y_124 L2, y_124 L3, hB, B1, B2, B3, mB_O l, mB_O l1, mB_O l2, mB_O l3, g1, g2, g3, j8, s9]
set_option maxRecDepth 16384 in
theorem d151r {h : A_H} {B m : Nat} (l : ML h B) (hm : m < 4) : C 151 [.ref B, .int (nI m)] h = some (some (some (.int (bI (!decide (hI h (B + 3) m = -1))))), h) := by
  rw [e151]
  simp only [b151_0, cond_true, cond_false, decide_true, Bool.and_true, Bool.true_and, Bool.and_self, Bool.and_false, Bool.false_and, Bool.not_true, Bool.not_false, Bool.or_true, Bool.true_or, Bool.or_false, Bool.false_or, is_some, gd_some, bk_v, bk_u, mB_O l, m_p13 l, mA_3 l hm, w_cl (show m < 2147483648 by omega)]
  cases decide (hI h (B + 3) m = -1) <;> rfl
set_option maxRecDepth 16384 in
theorem d191 {h : A_H} {bs : Nat → Int32} {n : Nat} {τ : Nat → Nat} {B : Nat} {P : Gh} (L : Ly h) (b8 : B8 bs n) (t : MKt h bs n τ) (e0 : τ 4 = 0) (k0 : ¬ τ 0 = 4) (hB : hP h 124 4 = some B) (l : ML h B) (c : MN h B P) (b : MB h B P) (w : WF P) (nc : NC P) : ∃ h', C 191 [.ref 124] h = some (some none, h') ∧ RM B h h' ∧ MKt h' bs n (pr8 bs n P τ) ∧ ((pr8 bs n P τ) 4 = 0 → MB h' B (pPr bs n P τ) ∧ MN h' B (pPr bs n P τ)) := by
  have k2 := f_nm w
  have k3 := f_nt w
  have k4 := f_ng w
  have k5 := f_nG w
  have k6 := f_nx w
  have k9 := f_nc w
  have hn1 := nc.1
  have h134 := m_134 l
  obtain ⟨h1, g1, f1, t1⟩ := d176 L b8 t hB l (tld w b) (a := 0) (m := 1) (by omega) (by decide) e0 k0
  have g1 : C 176 [.ref 124, .int 0, .int 1] h = some (some none, h1) := g1
  have L1 := FG_Ly f1 L
  have l1 := FG_ML f1 l
  have B1 : hP h1 124 4 = some B := by rw [FG_P f1]; exact hB
  have c1 := MN_FG f1 h134 c
  rw [rm_01] at t1
  have t1 : MKt h1 bs n (pr1 bs n P τ) := t1
  obtain ⟨v2, h2, g2, f2, t2, u2⟩ := d179 L1 b8 t1 B1 l1 c1 (s := 1) (by decide)
  have g2 : C 179 [.ref 124, .int 0] h1 = some (some (some (.int v2)), h2) := g2
  have t2 : MKt h2 bs n (pr2 bs n P τ) := t2
  have L2 := FG_Ly f2 L1
  have l2 := FG_ML f2 l1
  have B2 : hP h2 124 4 = some B := by rw [FG_P f2]; exact B1
  have c2 := MN_FG f2 h134 c1
  obtain ⟨h4, f4, t4, eq⟩ : ∃ h4, FG mT ML14 h2 h4 ∧ MKt h4 bs n (pr4 bs n P τ) ∧ C 191 [.ref 124] h = R 191 22 [some (.ref 124), some (.int v2), none, none] [] h4 := by
    by_cases z2 : (pr2 bs n P τ) 4 = 0
    · obtain ⟨e21, e20, -⟩ := sKn_k z2
      have k20 : ¬ (pr2 bs n P τ) 0 = 4 := by show ¬ (sKn 1 P (pr1 bs n P τ)) 0 = 4; rw [e21, e20]; decide
      have kb := (kn_b nc z2).1 rfl
      have hp := f_pri w kb
      have u2 := u2 z2
      subst u2
      have s9 : decide (hI h2 124 9 = 5) = false := by rw [(t2.2.1 z2).1]; exact mk_ne5
      have ha : B ≤ B + 3 := by omega
      have h3 : hI h2 (B + 3) (knV P (pr1 bs n P τ)) = bif decide (P 4 (knV P (pr1 bs n P τ)) = 1) then nI (P 5 (knV P (pr1 bs n P τ))) else -1 := by rw [MB_T (P := P) f2 h134 ha, MB_T (P := P) f1 h134 ha]; exact b_here b kb
      have gb := d151r (m := knV P (pr1 bs n P τ)) l2 (by omega)
      rw [h3] at gb
      by_cases hb : P 4 (knV P (pr1 bs n P τ)) = 1
      · rw [dT hb, cond_true, show decide (nI (P 5 (knV P (pr1 bs n P τ))) = -1) = false from n_m1 (by have := f_here w kb; omega), Bool.not_false, bI_T] at gb
        have e3 : pr3 bs n P τ = sFa 3 (pr2 bs n P τ) := by unfold pr3; rw [dT hb]; rfl
        have n3 : ¬ (pr3 bs n P τ) 4 = 0 := by rw [e3]; exact sFa_n z2 (by decide)
        obtain ⟨h3, g3, f3, t3⟩ := d169 L2 b8 t2 (k := 3) (by decide) (by decide)
        have g3 : C 169 [.ref 124, .int 3] h2 = some (some none, h3) := g3
        have L3 := FG_Ly f3 L2
        have l3 := FG_ML f3 l2
        have B3 : hP h3 124 4 = some B := by rw [FG_P f3]; exact B2
        have c3 := MN_FG f3 h134 c2
        rw [← e3] at t3
        obtain ⟨h4, g4, f4, t4⟩ := d168' L3 b8 t3 (fun q => absurd q n3)
        have t4 : MKt h4 bs n (pr4 bs n P τ) := t4
        have L4 := FG_Ly f4 L3
        have l4 := FG_ML f4 l3
        have B4 : hP h4 124 4 = some B := by rw [FG_P f4]; exact B3
        have c4 := MN_FG f4 h134 c3
        refine ⟨h4, FG_tr f3 f4, t4, ?_⟩
        rw [e191]
        simp only [b191_0, b191_4, b191_7, b191_16, b191_20, cond_true, cond_false, decide_true, Bool.and_true, Bool.true_and, Bool.and_self, Bool.and_false, Bool.false_and, Bool.not_true, Bool.not_false, Bool.or_true, Bool.true_or, Bool.or_false, Bool.false_or, is_some, gd_some, bk_v, bk_u, y_124 L, y_124 L1, y_124 L2, y_124 L3, y_124 L4, hB, B1, B2, B3, B4, mB_O l, mB_O l1, mB_O l2, mB_O l3, mB_O l4, g1, g2, g3, g4, s9, gb, i1_0]
      · rw [dF hb, cond_false, show decide ((-1 : Int32) = -1) = true from rfl, Bool.not_true, bI_F] at gb
        have e3 : pr3 bs n P τ = pr2 bs n P τ := by unfold pr3; rw [dF hb]; rfl
        obtain ⟨h3, g3, f3, t3⟩ := d168' L2 b8 t2 (fun _ => k20)
        have L3 := FG_Ly f3 L2
        have l3 := FG_ML f3 l2
        have B3 : hP h3 124 4 = some B := by rw [FG_P f3]; exact B2
        have c3 := MN_FG f3 h134 c2
        refine ⟨h3, f3, by unfold pr4; rw [e3]; exact t3, ?_⟩
        rw [e191]
        simp only [b191_0, b191_4, b191_7, b191_16, b191_20, cond_true, cond_false, decide_true, Bool.and_true, Bool.true_and, Bool.and_self, Bool.and_false, Bool.false_and, Bool.not_true, Bool.not_false, Bool.or_true, Bool.true_or, Bool.or_false, Bool.false_or, is_some, gd_some, bk_v, bk_u, y_124 L, y_124 L1, y_124 L2, y_124 L3, hB, B1, B2, B3, mB_O l, mB_O l1, mB_O l2, mB_O l3, g1, g2, g3, s9, gb]
    · have s9 : hI h2 124 9 = 5 := (t2.2.2 z2).1
      have e3 : pr3 bs n P τ = pr2 bs n P τ := by unfold pr3; rw [sFa_1 z2]; cases decide (P 4 (knV P (pr1 bs n P τ)) = 1) <;> rfl
      obtain ⟨h3, g3, f3, t3⟩ := d168' L2 b8 t2 (fun q => absurd q z2)
      have L3 := FG_Ly f3 L2
      have l3 := FG_ML f3 l2
      have B3 : hP h3 124 4 = some B := by rw [FG_P f3]; exact B2
      have c3 := MN_FG f3 h134 c2
      refine ⟨h3, f3, by unfold pr4; rw [e3]; exact t3, ?_⟩
      rw [e191]
      simp only [b191_0, b191_4, b191_7, b191_16, b191_20, cond_true, cond_false, decide_true, Bool.and_true, Bool.true_and, Bool.and_self, Bool.and_false, Bool.false_and, Bool.not_true, Bool.not_false, Bool.or_true, Bool.true_or, Bool.or_false, Bool.false_or, is_some, gd_some, bk_v, bk_u, y_124 L, y_124 L1, y_124 L2, y_124 L3, hB, B1, B2, B3, mB_O l, mB_O l1, mB_O l2, mB_O l3, g1, g2, g3, s9]
  have g4 := eq
  have t4 : MKt h4 bs n (pr4 bs n P τ) := t4
  have L4 := FG_Ly f4 L2
  have l4 := FG_ML f4 l2
  have B4 : hP h4 124 4 = some B := by rw [FG_P f4]; exact B2
  have c4 := MN_FG f4 h134 c2
  obtain ⟨m5, h5, g5, f5, t5, bb5, v5⟩ := d174 L4 b8 t4 (x := 31) (by decide) (by decide) (lo := 0) (hi := 99) (by decide) (by decide)
  have g5 : C 174 [.ref 124, .float 31, .int 0, .int 99] h4 = some (some (some (.int (nI m5))), h5) := g5
  have v5 : (pr6 bs n P τ) 4 = 0 → m5 = pr5 bs n P τ 3 := v5
  have t5 : MKt h5 bs n (pr6 bs n P τ) := t5
  have L5 := FG_Ly f5 L4
  have l5 := FG_ML f5 l4
  have B5 : hP h5 124 4 = some B := by rw [FG_P f5]; exact B4
  have c5 := MN_FG f5 h134 c4
  obtain ⟨m6, h6, g6, f6, t6, bb6, v6⟩ := d174 L5 b8 t5 (x := 32) (by decide) (by decide) (lo := 0) (hi := 99) (by decide) (by decide)
  have g6 : C 174 [.ref 124, .float 32, .int 0, .int 99] h5 = some (some (some (.int (nI m6))), h6) := g6
  have v6 : (pr8 bs n P τ) 4 = 0 → m6 = pr7 bs n P τ 3 := v6
  have t6 : MKt h6 bs n (pr8 bs n P τ) := t6
  have L6 := FG_Ly f6 L5
  have l6 := FG_ML f6 l5
  have B6 : hP h6 124 4 = some B := by rw [FG_P f6]; exact B5
  have c6 := MN_FG f6 h134 c5
  have fr : ∀ a j, B ≤ a → hI h6 a j = hI h a j := by
    intro a j ha
    rw [MB_T (P := P) f6 h134 ha, MB_T (P := P) f5 h134 ha, MB_T (P := P) f4 h134 ha, MB_T (P := P) f2 h134 ha, MB_T (P := P) f1 h134 ha]
  have rd : RM B h h6 := RM_T (RM_T (RM_T (RM_T (RM_T (RM_rfl B h) f1) f2) f4) f5) f6
  by_cases e : (pr8 bs n P τ) 4 = 0
  · obtain ⟨z7, z6, z5, z4, z2, zb⟩ := pr_z e
    have s9 : decide (hI h6 124 9 = 5) = false := by rw [(t6.2.1 e).1]; exact mk_ne5
    have cm := (kn_b nc z2).1 rfl
    have u2 := u2 z2
    have v5 := v5 z6
    have v6 := v6 e
    subst u2 v5 v6
    obtain ⟨j7, j4, j5, j6, jr, jz, jn⟩ := pPr_f (bs := bs) (n := n) (P := P) (τ := τ)
    have hk0 : hI h6 B 7 = nI (P 0 7) := (fr _ _ (Nat.le_refl _)).trans (b_s7 b)
    have hk1 : hI (wI h6 (B + 3) (knV P (pr1 bs n P τ)) (nI (pr5 bs n P τ 3))) B 7 = nI (P 0 7) := by rw [hI_wI, if_neg (by omega)]; exact hk0
    have hk2 : hI (wI (wI h6 (B + 3) (knV P (pr1 bs n P τ)) (nI (pr5 bs n P τ 3))) (B + 4) (knV P (pr1 bs n P τ)) (nI (pr7 bs n P τ 3))) B 7 = nI (P 0 7) := by rw [hI_wI, if_neg (by omega)]; exact hk1
    refine ⟨(wI (wI (wI h6 (B + 3) (knV P (pr1 bs n P τ)) (nI (pr5 bs n P τ 3))) (B + 4) (knV P (pr1 bs n P τ)) (nI (pr7 bs n P τ 3))) B 7 (nI (P 0 7 + 1))), ?_, RM_w (RM_w (RM_w (rd) _ (by omega)) _ (by omega)) _ (by omega), MKt_w (MKt_w (MKt_w (t6) _ (by omega)) _ (by omega)) _ (by omega), fun _ => ⟨?_, MN_eq (MN_w (MN_w (MN_w (c6) _ (by omega) (by omega)) _ (by omega) (by omega)) _ (by omega) (by omega)) jn⟩⟩
    · rw [eq]
      simp only [b191_22, b191_27, b191_33, b191_45, b191_51, b191_58, cond_true, cond_false, decide_true, Bool.and_true, Bool.true_and, Bool.and_self, Bool.and_false, Bool.false_and, Bool.not_true, Bool.not_false, Bool.or_true, Bool.true_or, Bool.or_false, Bool.false_or, is_some, gd_some, bk_v, bk_u, isO_wI, hP_wI, isA_wI, y_124 L4, y_124 L5, y_124 L6, B4, B5, B6, mB_O l4, mB_O l5, mB_O l6, g5, g6, s9, hk0, hk1, hk2, m_p13 l6, m_p14 l6, w_cl (show knV P (pr1 bs n P τ) < 2147483648 by omega), mA_3 l6 (show knV P (pr1 bs n P τ) < 4 by omega), mA_4 l6 (show knV P (pr1 bs n P τ) < 4 by omega), w_s]
    · refine MB_p w b cm j4 jz jr ?_ (by rw [j7, hI_wI, if_pos ⟨rfl, rfl⟩]) (by rw [j5, hI_wI, if_neg (by omega), hI_wI, if_neg (by omega), hI_wI, if_pos ⟨rfl, rfl⟩]) (by rw [j6, hI_wI, if_neg (by omega), hI_wI, if_pos ⟨rfl, rfl⟩])
      intro a j i1 i2 i3 i4 i5
      rw [hI_wI, if_neg (by omega), hI_wI, if_neg (by omega), hI_wI, if_neg (by omega), fr a j i1]
  · have s9 : hI h6 124 9 = 5 := (t6.2.2 e).1
    refine ⟨h6, ?_, rd, t6, fun q => absurd q e⟩
    rw [eq]
    simp only [b191_22, b191_27, b191_33, cond_true, cond_false, decide_true, Bool.and_true, Bool.true_and, Bool.and_self, Bool.and_false, Bool.false_and, Bool.not_true, Bool.not_false, Bool.or_true, Bool.true_or, Bool.or_false, Bool.false_or, is_some, gd_some, bk_v, bk_u, y_124 L4, y_124 L5, y_124 L6, B4, B5, B6, mB_O l4, mB_O l5, mB_O l6, g5, g6, s9]
