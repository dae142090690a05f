set_option maxRecDepth 16384 in
theorem c42a {h : A_H} {bs : Nat → Int32} {n : Nat} {σ : Nat → Nat} {T : Nat} {P : Gh} {v k ow kn : Nat} (L : Ly h) (t : CKt h bs n σ) (hT : isT T) (h22 : hP h 2 2 = some T) (r : CRs h) (c : CP h P v k) (hk : k < 8) (how : ow < 4) (e5 : hI h T 5 = nI k) (e2 : hI h (T + 21 + k) 2 = nI ow) (e1 : hI h (T + 21 + k) 1 = -2) (e4 : hI h (T + 21 + k) 4 = 3) (e0 : hI h (T + 21 + k) 0 = nI kn) (hkn : kn ≤ 4) (h0 : kn = 0) : ∃ h', R 42 37 [some (.ref 2), some (.int (nI k)), some (.ref (T + 21 + k))] [] h = some (some none, h') ∧ RD T h h' ∧ CKt h' bs n (sWh bs n 0 99 (sWd bs n 28 (sWh bs n 1 9 (sWd bs n 27 (sWh bs n 0 300 (sWd bs n 26 (σ))))))) ∧ (∀ Q, CN h Q → CN h' Q) ∧ (∀ a b, T ≤ a → a < T + 35 → ¬ (a = T ∧ b = 5) → ¬ (a = T + 21 + k ∧ ¬ b = 0 ∧ ¬ b = 2) → ¬ (a = T + 14 + ow ∧ b = 2) → hI h' a b = hI h a b) ∧ hI h' T 5 = nI (k + 1) ∧ hI h' (T + 14 + ow) 2 = hI h (T + 14 + ow) 2 ||| ((1 : Int32) <<< (nI k &&& 31)) ∧ ((sWh bs n 0 99 (sWd bs n 28 (sWh bs n 1 9 (sWd bs n 27 (sWh bs n 0 300 (sWd bs n 26 (σ))))))) 4 = 0 → (hI h' (T + 21 + k) 3 = nI ((sWd bs n 26 (σ)) 3) ∧ hI h' (T + 21 + k) 5 = nI ((sWd bs n 27 (sWh bs n 0 300 (sWd bs n 26 (σ)))) 3) ∧ hI h' (T + 21 + k) 6 = nI ((sWd bs n 28 (sWh bs n 1 9 (sWd bs n 27 (sWh bs n 0 300 (sWd bs n 26 (σ)))))) 3)) ∧  hI h' (T + 21 + k) 1 = -2 ∧ hI h' (T + 21 + k) 4 = 3) := by
  have q0 := nT hT (show 0 < 35 by decide)
  have qr := nT hT (show 21 + k < 35 by omega)
  rw [← Nat.add_assoc] at qr
  have qo := nT hT (show 14 + ow < 35 by omega)
  rw [← Nat.add_assoc] at qo
  subst h0
  obtain ⟨h1, g1, f1, t1⟩ := c29 L t (x := 26) (by decide) (by decide)
  have t1 : CKt h1 bs n (sWd bs n 26 (σ)) := t1
  have L1 := FB_Ly f1 L
  have p1 : hP h1 2 2 = some T := by rw [FB_P f1]; exact h22
  have r1 := CRs_FB f1 r
  have c1 := CP_FB f1 c
  obtain ⟨hF, gF, fF, tF, cF, rF, xF, yF, zF⟩ := c42t L1 t1 hT p1 r1 c1 hk how (by rw [TR_B hT f1 (by omega) (by omega)]; exact e5) (by rw [TR_B hT f1 (by omega) (by omega)]; exact e2)
  refine ⟨hF, ?_, FG_tr (RD_B (RD_rfl T h) f1) fF, tF, fun Q q => cF Q (CN_FB f1 q), ?_, xF, ?_, fun e => ⟨zF e, ?_, ?_⟩⟩
  · simp only [b42_37, cond_true, cond_false, decide_true, Bool.and_true, Bool.true_and, Bool.and_self, Bool.and_false, Bool.false_and, Bool.not_true, Bool.not_false, Bool.or_true, Bool.true_or, Bool.or_false, Bool.false_or, is_some, gd_some, bk_v, bk_u, t_OG L hT hk, e0, x_O2 L, g1, show decide (nI 0 = 0) = true from rfl, gF]
  · intro a b i1 i2 i3 i4 i5
    rw [rF a b i1 i2 i3 (by omega) i5, TR_B hT f1 (by omega) (by omega)]
  · rw [yF, TR_B hT f1 (by omega) (by omega)]
  · rw [rF _ _ (by omega) (by omega) (by omega) (by omega) (by omega), TR_B hT f1 (by omega) (by omega)]; exact e1
  · rw [rF _ _ (by omega) (by omega) (by omega) (by omega) (by omega), TR_B hT f1 (by omega) (by omega)]; exact e4
set_option maxRecDepth 16384 in
theorem c42b {h : A_H} {bs : Nat → Int32} {n : Nat} {σ : Nat → Nat} {T : Nat} {P : Gh} {v k ow kn : Nat} (L : Ly h) (t : CKt h bs n σ) (hT : isT T) (h22 : hP h 2 2 = some T) (r : CRs h) (c : CP h P v k) (hk : k < 8) (how : ow < 4) (e5 : hI h T 5 = nI k) (e2 : hI h (T + 21 + k) 2 = nI ow) (e1 : hI h (T + 21 + k) 1 = -2) (e4 : hI h (T + 21 + k) 4 = 3) (e0 : hI h (T + 21 + k) 0 = nI kn) (hkn : kn ≤ 4) (h0 : ¬ kn = 0) : ∃ h', R 42 37 [some (.ref 2), some (.int (nI k)), some (.ref (T + 21 + k))] [] h = some (some none, h') ∧ RD T h h' ∧ CKt h' bs n (sWh bs n 0 99 (sWd bs n 28 (sWh bs n 1 9 (sWd bs n 27 (sWh bs n 0 300 (sWd bs n 26 (sSt bs n (sKn 1 P (sWd bs n 11 σ))))))))) ∧ (∀ Q, CN h Q → CN h' Q) ∧ (∀ a b, T ≤ a → a < T + 35 → ¬ (a = T ∧ b = 5) → ¬ (a = T + 21 + k ∧ ¬ b = 0 ∧ ¬ b = 2) → ¬ (a = T + 14 + ow ∧ b = 2) → hI h' a b = hI h a b) ∧ hI h' T 5 = nI (k + 1) ∧ hI h' (T + 14 + ow) 2 = hI h (T + 14 + ow) 2 ||| ((1 : Int32) <<< (nI k &&& 31)) ∧ ((sWh bs n 0 99 (sWd bs n 28 (sWh bs n 1 9 (sWd bs n 27 (sWh bs n 0 300 (sWd bs n 26 (sSt bs n (sKn 1 P (sWd bs n 11 σ))))))))) 4 = 0 → (hI h' (T + 21 + k) 3 = nI ((sWd bs n 26 (sSt bs n (sKn 1 P (sWd bs n 11 σ)))) 3) ∧ hI h' (T + 21 + k) 5 = nI ((sWd bs n 27 (sWh bs n 0 300 (sWd bs n 26 (sSt bs n (sKn 1 P (sWd bs n 11 σ)))))) 3) ∧ hI h' (T + 21 + k) 6 = nI ((sWd bs n 28 (sWh bs n 1 9 (sWd bs n 27 (sWh bs n 0 300 (sWd bs n 26 (sSt bs n (sKn 1 P (sWd bs n 11 σ)))))))) 3)) ∧  hI h' (T + 21 + k) 1 = nI (knV P (sWd bs n 11 σ)) ∧ hI h' (T + 21 + k) 4 = bif decide (kn = 4) then -2 else hI h (T + 10 + knV P (sWd bs n 11 σ)) 2) := by
  have q0 := nT hT (show 0 < 35 by decide)
  have qr := nT hT (show 21 + k < 35 by omega)
  rw [← Nat.add_assoc] at qr
  have qo := nT hT (show 14 + ow < 35 by omega)
  rw [← Nat.add_assoc] at qo
  obtain ⟨h1, g1, f1, t1⟩ := c29 L t (x := 11) (by decide) (by decide)
  have t1 : CKt h1 bs n (sWd bs n 11 σ) := t1
  have L1 := FB_Ly f1 L
  have p1 : hP h1 2 2 = some T := by rw [FB_P f1]; exact h22
  have r1 := CRs_FB f1 r
  have c1 := CP_FB f1 c
  obtain ⟨m2, h2, g2, f2, t2, b2, v2⟩ := c35g L1 t1 r1 c1 (s := 1) (by decide) (by decide)
  have g2 : C 35 [.ref 2, .int 1] h1 = some (some (some (.int (nI m2))), h2) := g2
  have b2 : m2 < 4 := b2
  have t2 : CKt h2 bs n (sKn 1 P (sWd bs n 11 σ)) := t2
  have L2 := FB_Ly f2 L1
  have p2 : hP h2 2 2 = some T := by rw [FB_P f2]; exact p1
  have r2 := CRs_FB f2 r1
  have c2 := CP_FB f2 c1
  have L3 : Ly (wI h2 (T + 21 + k) 1 (nI m2)) := L2
  have p3 : hP (wI h2 (T + 21 + k) 1 (nI m2)) 2 2 = some T := p2
  have r3 : CRs (wI h2 (T + 21 + k) 1 (nI m2)) := CRs_w r2 _
  have t3 := CKt_w t2 (a := T + 21 + k) (b := 1) (nI m2) (by omega) (by omega)
  have c3 : CP (wI h2 (T + 21 + k) 1 (nI m2)) P v k := CP_w c2 _ (by omega)
  obtain ⟨h4, g4, f4, t4⟩ := c25' L3 t3
  have t4 : CKt h4 bs n (sSt bs n (sKn 1 P (sWd bs n 11 σ))) := t4
  have L4 := FB_Ly f4 L3
  have p4 : hP h4 2 2 = some T := by rw [FB_P f4]; exact p3
  have r4 := CRs_FB f4 r3
  have c4 := CP_FB f4 c3
  have d0 : decide (nI kn = 0) = false := nz h0 (by omega)
  have k0 : hI h4 (T + 21 + k) 0 = nI kn := by rw [TR_B hT f4 (by omega) (by omega), hI_wI, if_neg (by omega), TR_B hT f2 (by omega) (by omega), TR_B hT f1 (by omega) (by omega)]; exact e0
  have k1 : hI h4 (T + 21 + k) 1 = nI m2 := by rw [TR_B hT f4 (by omega) (by omega), hI_wI, if_pos ⟨rfl, rfl⟩]
  have qm := nT hT (show 10 + m2 < 35 by omega)
  rw [← Nat.add_assoc] at qm
  have km : hI h4 (T + 10 + m2) 2 = hI h (T + 10 + m2) 2 := by rw [TR_B hT f4 (by omega) (by omega), hI_wI, if_neg (by omega), TR_B hT f2 (by omega) (by omega), TR_B hT f1 (by omega) (by omega)]
  have d4 : decide (nI kn = 4) = decide (kn = 4) := nk hkn (by decide)
  have L5 : Ly (wI h4 (T + 21 + k) 4 (bif decide (kn = 4) then -2 else hI h (T + 10 + m2) 2)) := L4
  have p5 : hP (wI h4 (T + 21 + k) 4 (bif decide (kn = 4) then -2 else hI h (T + 10 + m2) 2)) 2 2 = some T := p4
  have r5 : CRs (wI h4 (T + 21 + k) 4 (bif decide (kn = 4) then -2 else hI h (T + 10 + m2) 2)) := CRs_w r4 _
  have t5 := CKt_w t4 (a := T + 21 + k) (b := 4) (bif decide (kn = 4) then -2 else hI h (T + 10 + m2) 2) (by omega) (by omega)
  have c5 : CP (wI h4 (T + 21 + k) 4 (bif decide (kn = 4) then -2 else hI h (T + 10 + m2) 2)) P v k := CP_w c4 _ (by omega)
  obtain ⟨h6, g6, f6, t6⟩ := c29 L5 t5 (x := 26) (by decide) (by decide)
  have t6 : CKt h6 bs n (sWd bs n 26 (sSt bs n (sKn 1 P (sWd bs n 11 σ)))) := t6
  have L6 := FB_Ly f6 L5
  have p6 : hP h6 2 2 = some T := by rw [FB_P f6]; exact p5
  have r6 := CRs_FB f6 r5
  have c6 := CP_FB f6 c5
  obtain ⟨hF, gF, fF, tF, cF, rF, xF, yF, zF⟩ := c42t L6 t6 hT p6 r6 c6 hk how (by rw [TR_B hT f6 (by omega) (by omega), hI_wI, if_neg (by omega), TR_B hT f4 (by omega) (by omega), hI_wI, if_neg (by omega), TR_B hT f2 (by omega) (by omega), TR_B hT f1 (by omega) (by omega)]; exact e5) (by rw [TR_B hT f6 (by omega) (by omega), hI_wI, if_neg (by omega), TR_B hT f4 (by omega) (by omega), hI_wI, if_neg (by omega), TR_B hT f2 (by omega) (by omega), TR_B hT f1 (by omega) (by omega)]; exact e2)
  refine ⟨hF, ?_, FG_tr (RD_B (RD_w (RD_B (RD_w (RD_B (RD_B (RD_rfl T h) f1) f2) _ (by omega)) f4) _ (by omega)) f6) fF, tF, fun Q q => cF Q (CN_FB f6 (CN_w (CN_FB f4 (CN_w (CN_FB f2 (CN_FB f1 (q))) _ (by omega))) _ (by omega))), ?_, xF, ?_, fun e => ?_⟩
  · cases d5 : decide (kn = 4) with
    | true =>
      rw [d5, cond_true] at g6
      rw [d5] at d4
      simp only [b42_37, b42_43, b42_47, b42_48, b42_50, b42_65, cond_true, cond_false, decide_true, Bool.and_true, Bool.true_and, Bool.and_self, Bool.and_false, Bool.false_and, Bool.not_true, Bool.not_false, Bool.or_true, Bool.true_or, Bool.or_false, Bool.false_or, is_some, gd_some, bk_v, bk_u, isO_wI, hP_wI, isA_wI, t_OG L hT hk, e0, d0, g1, g2, g4, g6, x_O2 L, x_O2 L1, x_O2 L2, x_O2 L4, x_O2 L6, h22, p1, p2, p4, p6, k0, d4, t_OG L2 hT hk, t_OG L4 hT hk, gF]
    | false =>
      rw [d5, cond_false] at g6
      rw [d5] at d4
      simp only [b42_37, b42_43, b42_47, b42_48, b42_50, b42_65, cond_true, cond_false, decide_true, Bool.and_true, Bool.true_and, Bool.and_self, Bool.and_false, Bool.false_and, Bool.not_true, Bool.not_false, Bool.or_true, Bool.true_or, Bool.or_false, Bool.false_or, is_some, gd_some, bk_v, bk_u, isO_wI, hP_wI, isA_wI, t_OG L hT hk, e0, d0, g1, g2, g4, g6, x_O2 L, x_O2 L1, x_O2 L2, x_O2 L4, x_O2 L6, h22, p1, p2, p4, p6, k0, k1, km, d4, t_OG L2 hT hk, t_OG L4 hT hk, t_O L4 hT, t_P9 L4 hT, w_cl (show m2 < 2147483648 by omega), t_Am L4 hT b2, t_Em L4 hT b2, t_Om L4 hT b2, gF]
  · intro a b i1 i2 i3 i4 i5
    rw [rF a b i1 i2 i3 (by omega) i5, TR_B hT f6 (by omega) (by omega), hI_wI, if_neg (by omega), TR_B hT f4 (by omega) (by omega), hI_wI, if_neg (by omega), TR_B hT f2 (by omega) (by omega), TR_B hT f1 (by omega) (by omega)]
  · rw [yF, TR_B hT f6 (by omega) (by omega), hI_wI, if_neg (by omega), TR_B hT f4 (by omega) (by omega), hI_wI, if_neg (by omega), TR_B hT f2 (by omega) (by omega), TR_B hT f1 (by omega) (by omega)]
  · have z6 := z_st (z_wd (z_wh (z_wd (z_wh (z_wd (z_wh e))))))
    refine ⟨zF e, ?_, ?_⟩
    · rw [rF _ _ (by omega) (by omega) (by omega) (by omega) (by omega), TR_B hT f6 (by omega) (by omega), hI_wI, if_neg (by omega), TR_B hT f4 (by omega) (by omega), hI_wI, if_pos ⟨rfl, rfl⟩, v2 z6]
    · rw [rF _ _ (by omega) (by omega) (by omega) (by omega) (by omega), TR_B hT f6 (by omega) (by omega), hI_wI, if_pos ⟨rfl, rfl⟩, v2 z6]
set_option maxRecDepth 16384 in
theorem go7_0 {bs : Nat → Int32} {n : Nat} {P : Gh} {τ : Nat → Nat} {m : Nat} (v : (go3 bs n P τ) 4 = 0 → m = kd (go2 bs n P τ)) : (m = 0 → go7 bs n P τ = go4 bs n P τ) ∧ (¬ m = 0 → go7 bs n P τ = go6 bs n P τ) := by
  by_cases e : (go3 bs n P τ) 4 = 0
  · rw [v e]
    exact ⟨fun q => by unfold go7; rw [if_pos q], fun q => by unfold go7; rw [if_neg q]⟩
  · have e4 : go4 bs n P τ = go3 bs n P τ := by unfold go4; rw [sKn_1 e, sSt_1 e]
    have e6 : go6 bs n P τ = go4 bs n P τ := by
      unfold go6 go5
      rw [e4, sWd_1 e, sKn_1 e, sSt_1 e]
    refine ⟨fun _ => ?_, fun _ => ?_⟩
    · unfold go7; rw [e6]; split <;> rfl
    · unfold go7; rw [e6]; split <;> rfl
set_option maxRecDepth 16384 in
theorem c42 {h : A_H} {bs : Nat → Int32} {n : Nat} {τ : Nat → Nat} {T : Nat} {P : Gh} (L : Ly h) (t : CKt h bs n τ) (e0 : τ 4 = 0) (hT : isT T) (h22 : hP h 2 2 = some T) (r : CRs h) (c : CN h P) (ct : CT h T P) (w : WF P) (cl : CL h T P) (nc : NC P) : ∃ h', C 42 [.ref 2] h = some (some none, h') ∧ RD T h h' ∧ CKt h' bs n (go13 bs n P τ) ∧ ((go13 bs n P τ) 4 = 0 → CT h' T (pGo bs n P τ) ∧ CN h' (pGo bs n P τ) ∧ CL h' T (pGo bs n P τ)) := by
  have k2 := f_nm w
  have k3 := f_nt w
  have k4 := f_ng w
  have k5 := f_nG w
  have hn1 := nc.1
  have q0 := nT hT (show 0 < 35 by decide)
  obtain ⟨h1, g1, f1, t1⟩ := c37 L t (a := P 0 5) (m := 8) (by omega) (by decide)
  have g1 : C 37 [.ref 2, .int (nI (P 0 5)), .int 8] h = some (some (some (.int (bI (decide (P 0 5 < 8))))), h1) := g1
  have t1 : CKt h1 bs n (go1 bs n P τ) := t1
  have L1 := FB_Ly f1 L
  have p1 : hP h1 2 2 = some T := by rw [FB_P f1]; exact h22
  have r1 := CRs_FB f1 r
  have c1 := CN_FB f1 c
  by_cases cm : P 0 5 < 8
  · rw [dT cm, bI_T] at g1
    have qr := nT hT (show 21 + P 0 5 < 35 by omega)
    rw [← Nat.add_assoc] at qr
    have z1 : (go1 bs n P τ) 4 = 0 := by unfold go1 sRm; rw [if_pos cm]; exact sSt_z e0
    obtain ⟨h2, g2, f2, t2, C2, c2⟩ := c34 L1 t1 r1 c1 (by omega) z1 (s := 4) (k := P 0 5) (by decide) (by show _ < 8; exact cm)
    have g2 : C 34 [.ref 2, .int 4, .int (nI (P 0 5))] h1 = some (some none, h2) := g2
    have t2 : CKt h2 bs n (go2 bs n P τ) := t2
    have C2 : CP h2 P (go1 bs n P τ 3) (P 0 5) := C2
    have L2 := FG_Ly f2 L1
    have p2 : hP h2 2 2 = some T := by rw [FG_P f2]; exact p1
    have r2 := CRs_G f2 r1
    obtain ⟨m3, h3, g3, f3, t3, b3, v3⟩ := c43 L2 t2
    have t3 : CKt h3 bs n (go3 bs n P τ) := t3
    have L3 := FB_Ly f3 L2
    have p3 : hP h3 2 2 = some T := by rw [FB_P f3]; exact p2
    have r3 := CRs_FB f3 r2
    have c3 := CP_FB f3 C2
    have L4 : Ly (wI h3 (T + 21 + P 0 5) 0 (nI m3)) := L3
    have p4 : hP (wI h3 (T + 21 + P 0 5) 0 (nI m3)) 2 2 = some T := p3
    have r4 : CRs (wI h3 (T + 21 + P 0 5) 0 (nI m3)) := CRs_w r3 _
    have t4 := CKt_w t3 (a := T + 21 + P 0 5) (b := 0) (nI m3) (by omega) (by omega)
    have c4 : CP (wI h3 (T + 21 + P 0 5) 0 (nI m3)) P (go1 bs n P τ 3) (P 0 5) := CP_w c3 _ (by omega)
    obtain ⟨m5, h5, g5, f5, t5, b5, v5⟩ := c35g L4 t4 r4 c4 (s := 2) (by decide) (by decide)
    have g5 : C 35 [.ref 2, .int 2] (wI h3 (T + 21 + P 0 5) 0 (nI m3)) = some (some (some (.int (nI m5))), h5) := g5
    have b5 : m5 < 4 := b5
    have t5 : CKt h5 bs n (sKn 2 P (go3 bs n P τ)) := t5
    have L5 := FB_Ly f5 L4
    have p5 : hP h5 2 2 = some T := by rw [FB_P f5]; exact p4
    have r5 := CRs_FB f5 r4
    have c5 := CP_FB f5 c4
    have L6 : Ly (wI h5 (T + 21 + P 0 5) 2 (nI m5)) := L5
    have p6 : hP (wI h5 (T + 21 + P 0 5) 2 (nI m5)) 2 2 = some T := p5
    have r6 : CRs (wI h5 (T + 21 + P 0 5) 2 (nI m5)) := CRs_w r5 _
    have t6 := CKt_w t5 (a := T + 21 + P 0 5) (b := 2) (nI m5) (by omega) (by omega)
    have c6 : CP (wI h5 (T + 21 + P 0 5) 2 (nI m5)) P (go1 bs n P τ 3) (P 0 5) := CP_w c5 _ (by omega)
    obtain ⟨h7, g7, f7, t7⟩ := c25' L6 t6
    have t7 : CKt h7 bs n (go4 bs n P τ) := t7
    have L7 := FB_Ly f7 L6
    have p7 : hP h7 2 2 = some T := by rw [FB_P f7]; exact p6
    have r7 := CRs_FB f7 r6
    have c7 := CP_FB f7 c6
    have L8 : Ly (wI h7 (T + 21 + P 0 5) 1 (-2)) := L7
    have p8 : hP (wI h7 (T + 21 + P 0 5) 1 (-2)) 2 2 = some T := p7
    have r8 : CRs (wI h7 (T + 21 + P 0 5) 1 (-2)) := CRs_w r7 _
    have t8 := CKt_w t7 (a := T + 21 + P 0 5) (b := 1) (-2) (by omega) (by omega)
    have c8 : CP (wI h7 (T + 21 + P 0 5) 1 (-2)) P (go1 bs n P τ 3) (P 0 5) := CP_w c7 _ (by omega)
    have L9 : Ly (wI (wI h7 (T + 21 + P 0 5) 1 (-2)) (T + 21 + P 0 5) 4 (3)) := L8
    have p9 : hP (wI (wI h7 (T + 21 + P 0 5) 1 (-2)) (T + 21 + P 0 5) 4 (3)) 2 2 = some T := p8
    have r9 : CRs (wI (wI h7 (T + 21 + P 0 5) 1 (-2)) (T + 21 + P 0 5) 4 (3)) := CRs_w r8 _
    have t9 := CKt_w t8 (a := T + 21 + P 0 5) (b := 4) (3) (by omega) (by omega)
    have c9 : CP (wI (wI h7 (T + 21 + P 0 5) 1 (-2)) (T + 21 + P 0 5) 4 (3)) P (go1 bs n P τ 3) (P 0 5) := CP_w c8 _ (by omega)
    have rd0 : RD T h (wI (wI h7 (T + 21 + P 0 5) 1 (-2)) (T + 21 + P 0 5) 4 (3)) := RD_w (RD_w (RD_B (RD_w (RD_B (RD_w (RD_B (RD_G (RD_B (RD_rfl T h) f1) f2) f3) _ (by omega)) f5) _ (by omega)) f7) _ (by omega)) _ (by omega)
    have eq : C 42 [.ref 2] h = R 42 37 [some (.ref 2), some (.int (nI (P 0 5))), some (.ref (T + 21 + P 0 5))] [] (wI (wI h7 (T + 21 + P 0 5) 1 (-2)) (T + 21 + P 0 5) 4 (3)) := by
      rw [e42]
      simp only [b42_0, b42_8, b42_20, b42_23, b42_24, b42_28, b42_29, b42_31, b42_34, cond_true, cond_false, decide_true, Bool.and_true, Bool.true_and, Bool.and_self, Bool.and_false, Bool.false_and, Bool.not_true, Bool.not_false, Bool.or_true, Bool.true_or, Bool.or_false, Bool.false_or, is_some, gd_some, bk_v, bk_u, isO_wI, hP_wI, isA_wI, x_O2 L, h22, t_O L hT, c_s5 ct, i1_0, g1, g2, g3, g5, g7, x_O2 L, x_O2 L1, x_O2 L2, x_O2 L3, x_O2 L5, x_O2 L7, h22, p1, p2, p3, p5, p7, t_O L1 hT, t_P12 L1 hT, t_AG L1 hT cm, w_cl (show P 0 5 < 2147483648 by omega), t_EG L1 hT cm, t_OG L3 hT cm, t_OG L5 hT cm, t_OG L7 hT cm]
    have fr0 : ∀ a b, T ≤ a → a < T + 35 → ¬ a = T + 21 + P 0 5 → hI (wI (wI h7 (T + 21 + P 0 5) 1 (-2)) (T + 21 + P 0 5) 4 (3)) a b = hI h a b := by
      intro a b i1 i2 i3
      rw [hI_wI, if_neg (by omega), hI_wI, if_neg (by omega), TR_B hT f7 (by omega) (by omega), hI_wI, if_neg (by omega), TR_B hT f5 (by omega) (by omega), hI_wI, if_neg (by omega), TR_B hT f3 (by omega) (by omega), TR_G hT f2 (by omega) (by omega), TR_B hT f1 (by omega) (by omega)]
    have x0 : hI (wI (wI h7 (T + 21 + P 0 5) 1 (-2)) (T + 21 + P 0 5) 4 (3)) (T + 21 + P 0 5) 0 = nI m3 := by rw [hI_wI, if_neg (by omega), hI_wI, if_neg (by omega), TR_B hT f7 (by omega) (by omega), hI_wI, if_neg (by omega), TR_B hT f5 (by omega) (by omega), hI_wI, if_pos ⟨rfl, rfl⟩]
    have x2 : hI (wI (wI h7 (T + 21 + P 0 5) 1 (-2)) (T + 21 + P 0 5) 4 (3)) (T + 21 + P 0 5) 2 = nI m5 := by rw [hI_wI, if_neg (by omega), hI_wI, if_neg (by omega), TR_B hT f7 (by omega) (by omega), hI_wI, if_pos ⟨rfl, rfl⟩]
    have cN0 : ∀ z2 : (go2 bs n P τ) 4 = 0, CN (wI (wI h7 (T + 21 + P 0 5) 1 (-2)) (T + 21 + P 0 5) 4 (3)) (adN P (go1 bs n P τ 3) 4 (P 0 5)) := fun z2 => CN_w (CN_w (CN_FB f7 (CN_w (CN_FB f5 (CN_w (CN_FB f3 (c2 z2)) _ (by omega))) _ (by omega))) _ (by omega)) _ (by omega)
    have x1 : hI (wI (wI h7 (T + 21 + P 0 5) 1 (-2)) (T + 21 + P 0 5) 4 (3)) (T + 21 + P 0 5) 1 = -2 := by rw [hI_wI, if_neg (by omega), hI_wI, if_pos ⟨rfl, rfl⟩]
    have x4 : hI (wI (wI h7 (T + 21 + P 0 5) 1 (-2)) (T + 21 + P 0 5) 4 (3)) (T + 21 + P 0 5) 4 = 3 := by rw [hI_wI, if_pos ⟨rfl, rfl⟩]
    have x5 : hI (wI (wI h7 (T + 21 + P 0 5) 1 (-2)) (T + 21 + P 0 5) 4 (3)) T 5 = nI (P 0 5) := by rw [hI_wI, if_neg (by omega), hI_wI, if_neg (by omega), TR_B hT f7 (by omega) (by omega), hI_wI, if_neg (by omega), TR_B hT f5 (by omega) (by omega), hI_wI, if_neg (by omega), TR_B hT f3 (by omega) (by omega), TR_G hT f2 (by omega) (by omega), TR_B hT f1 (by omega) (by omega)]; exact c_s5 ct
    obtain ⟨hM, eM⟩ : ∃ hM, hM = (wI (wI h7 (T + 21 + P 0 5) 1 (-2)) (T + 21 + P 0 5) 4 (3)) := ⟨_, rfl⟩
    rw [← eM] at eq rd0 fr0 x0 x1 x2 x4 x5 cN0 L9 t9 p9 r9 c9
    clear eM
    rw [eq]
    obtain ⟨s7a, s7b⟩ := go7_0 v3
    have fin : ∀ h', (∀ a b, T ≤ a → a < T + 35 → ¬ (a = T ∧ b = 5) → ¬ (a = T + 21 + P 0 5 ∧ ¬ b = 0 ∧ ¬ b = 2) → ¬ (a = T + 14 + m5 ∧ b = 2) → hI h' a b = hI hM a b) → hI h' T 5 = nI (P 0 5 + 1) → hI h' (T + 14 + m5) 2 = hI hM (T + 14 + m5) 2 ||| ((1 : Int32) <<< (nI (P 0 5) &&& 31)) → (∀ Q, CN hM Q → CN h' Q) → (go13 bs n P τ) 4 = 0 → (hI h' (T + 21 + P 0 5) 3 = nI (go8 bs n P τ 3) ∧ hI h' (T + 21 + P 0 5) 5 = nI (go10 bs n P τ 3) ∧ hI h' (T + 21 + P 0 5) 6 = nI (go12 bs n P τ 3)) → hI h' (T + 21 + P 0 5) 1 = byI (pGo bs n P τ) (P 0 5) → hI h' (T + 21 + P 0 5) 4 = kpI (pGo bs n P τ) (P 0 5) → CT h' T (pGo bs n P τ) ∧ CN h' (pGo bs n P τ) ∧ CL h' T (pGo bs n P τ) := by
      intro h' rF xF yF cF e q3 q1 q4
      obtain ⟨-, -, zk, z3, z2, -, -⟩ := go_z e
      have u14 := v5 zk
      have u12 := v3 z3
      refine ⟨CT_a5 w ct cm pGo_0 pGo_1 pGo_r ?_ xF ?_ ?_ q1 ?_ ?_ q4 ?_ ?_, CN_eq (cF _ (cN0 z2)) pGo_n, ?_⟩
      · intro a b i1 i2 i3 i4 i5 i6
        rw [rF a b i1 i2 i4 (by omega) (by omega), fr0 a b i1 i2 i5]
      · intro i hi
        rw [own_up pGo_1 (fun g hg => pGo_r 14 g (by decide) (by decide) (by omega)) (o := m5) (by rw [pGo_14v, u14]) i]
        by_cases ei : m5 = i
        · subst ei
          rw [dT rfl, cond_true, yF, fr0 _ _ (by omega) (by omega) (by omega), c_own ct b5]
          exact or_up (msk_lt _ _) (by omega)
        · rw [dF ei, cond_false, rF _ _ (by omega) (by omega) (by omega) (by omega) (by omega), fr0 _ _ (by omega) (by omega) (by omega), c_own ct hi, Nat.add_zero]
      · rw [rF _ _ (by omega) (by omega) (by omega) (by omega) (by omega), x0, pGo_12v, u12]
      · rw [rF _ _ (by omega) (by omega) (by omega) (by omega) (by omega), x2, pGo_14v, u14]
      · rw [q3.1, pGo_15v]
      · rw [q3.2.1, pGo_16v]
      · rw [q3.2.2, pGo_17v]
      · intro i hi h4
        rw [pGo_0 2 (by decide)] at hi
        rw [rF _ _ (by omega) (by omega) (by omega) (by omega) (by omega), fr0 _ _ (by omega) (by omega) (by omega)]
        exact cl i hi h4
    by_cases k0 : m3 = 0
    · have s7 := s7a k0
      obtain ⟨h', g', f', t', c', r', x', y', z'⟩ := c42a L9 t9 hT p9 r9 c9 cm b5 x5 x2 x1 x4 x0 b3 k0
      rw [← s7] at t' z'
      refine ⟨h', g', FG_tr rd0 f', t', fun e => ?_⟩
      obtain ⟨y1, y2, y3⟩ := z' e
      have z3 := (go_z e).2.2.2.1
      have kk : kd (go2 bs n P τ) = 0 := by rw [← v3 z3]; exact k0
      refine fin h' r' x' y' c' e y1 ?_ ?_
      · unfold byI; rw [pGo_12v, kk]; exact y2
      · unfold kpI tks; rw [pGo_12v, kk]; exact y3
    · have s7 := s7b k0
      obtain ⟨h', g', f', t', c', r', x', y', z'⟩ := c42b L9 t9 hT p9 r9 c9 cm b5 x5 x2 x1 x4 x0 b3 k0
      have t' : CKt h' bs n (sWh bs n 0 99 (sWd bs n 28 (sWh bs n 1 9 (sWd bs n 27 (sWh bs n 0 300 (sWd bs n 26 (go6 bs n P τ))))))) := t'
      have s7' : sSt bs n (sKn 1 P (sWd bs n 11 (go4 bs n P τ))) = go7 bs n P τ := s7.symm
      rw [← s7] at t'
      rw [s7'] at z'
      refine ⟨h', g', FG_tr rd0 f', t', fun e => ?_⟩
      obtain ⟨y1, y2, y3⟩ := z' e
      obtain ⟨-, -, -, z3, -, -, zn⟩ := go_z e
      have kk : kd (go2 bs n P τ) = m3 := (v3 z3).symm
      have kb := (kn_b nc (zn (by rw [kk]; exact k0))).1 rfl
      refine fin h' r' x' y' c' e y1 ?_ ?_
      · unfold byI; rw [pGo_12v, kk, dF k0, pGo_13v]; exact y2
      · unfold kpI tks
        rw [pGo_12v, kk, dF k0, cond_false, pGo_13v, y3]
        cases decide (m3 = 4) with
        | true => rfl
        | false =>
          rw [cond_false, cond_false, pGo_r 3 _ (by decide) (by decide) (by omega)]
          rw [fr0 _ _ (by omega) (by have : knV P (sWd bs n 11 (go4 bs n P τ)) < P 0 2 := kb; omega) (by have : knV P (sWd bs n 11 (go4 bs n P τ)) < P 0 2 := kb; omega)]
          exact c_keeps ct kb
  · rw [dF cm, bI_F] at g1
    have ne : ¬ (go1 bs n P τ) 4 = 0 := by unfold go1 sRm; rw [if_neg cm]; exact sFa_n e0 (by decide)
    have l2 : go2 bs n P τ = go1 bs n P τ := by unfold go2; rw [sNw_1 ne]
    have l3 : go3 bs n P τ = go1 bs n P τ := by unfold go3; rw [l2, sKi_1 ne]
    have l4 : go4 bs n P τ = go1 bs n P τ := by unfold go4; rw [l3, sKn_1 ne, sSt_1 ne]
    have l6 : go6 bs n P τ = go1 bs n P τ := by unfold go6 go5; rw [l4, sWd_1 ne, sKn_1 ne, sSt_1 ne]
    have l7 : go7 bs n P τ = go1 bs n P τ := by unfold go7; rw [l4, l6]; split <;> rfl
    have le : go13 bs n P τ = go1 bs n P τ := by
      unfold go13 go12 go11 go10 go9 go8
      rw [l7, sWd_1 ne, sWh_1 ne, sWd_1 ne, sWh_1 ne, sWd_1 ne, sWh_1 ne]
    refine ⟨h1, ?_, RD_B (RD_rfl T h) f1, by rw [le]; exact t1, fun e => absurd (le ▸ e) ne⟩
    rw [e42]
    simp only [b42_0, b42_8, cond_true, cond_false, decide_true, Bool.and_true, Bool.true_and, Bool.and_self, Bool.and_false, Bool.false_and, Bool.not_true, Bool.not_false, Bool.or_true, Bool.true_or, Bool.or_false, Bool.false_or, is_some, gd_some, bk_v, bk_u, x_O2 L, h22, t_O L hT, c_s5 ct, g1]
set_option maxRecDepth 16384 in
theorem CT_h {h h' : A_H} {T : Nat} {P P' : Gh} (w : WF P) (c : CT h T P) (q0 : ∀ j, ¬ j = 8 → P' 0 j = P 0 j) (qr : ∀ c i, 1 ≤ c → c ≤ 23 → P' c i = P c i) (e : ∀ a b, T ≤ a → a < T + 35 → ¬ a = T + 9 → ¬ (a = T ∧ b = 8) → hI h' a b = hI h a b) (s8 : hI h' T 8 = nI (P' 0 8)) : CT h' T P' := by
  have z0 : P' 0 0 = P 0 0 := q0 0 (by omega)
  have z1 : P' 0 1 = P 0 1 := q0 1 (by omega)
  have z2 : P' 0 2 = P 0 2 := q0 2 (by omega)
  have z3 : P' 0 3 = P 0 3 := q0 3 (by omega)
  have z4 : P' 0 4 = P 0 4 := q0 4 (by omega)
  have z5 : P' 0 5 = P 0 5 := q0 5 (by omega)
  have z6 : P' 0 6 = P 0 6 := q0 6 (by omega)
  have z7 : P' 0 7 = P 0 7 := q0 7 (by omega)
  have z9 : P' 0 9 = P 0 9 := q0 9 (by omega)
  have k1 := f_nm w
  have k2 := f_nt w
  have k3 := f_ng w
  have k4 := f_nG w
  have k5 := f_nx w
  have k6 := f_nc w
  exact ⟨(e _ _ (by omega) (by omega) (by omega) (by omega)).trans (by rw [z0]; exact c_s0 c), (e _ _ (by omega) (by omega) (by omega) (by omega)).trans (by rw [z1]; exact c_s1 c), (e _ _ (by omega) (by omega) (by omega) (by omega)).trans (by rw [z2]; exact c_s2 c), (e _ _ (by omega) (by omega) (by omega) (by omega)).trans (by rw [z3]; exact c_s3 c), (e _ _ (by omega) (by omega) (by omega) (by omega)).trans (by rw [z4]; exact c_s4 c), (e _ _ (by omega) (by omega) (by omega) (by omega)).trans (by rw [z5]; exact c_s5 c), (e _ _ (by omega) (by omega) (by omega) (by omega)).trans (by rw [z6]; exact c_s6 c), (e _ _ (by omega) (by omega) (by omega) (by omega)).trans (by rw [z7]; exact c_s7 c), s8, (e _ _ (by omega) (by omega) (by omega) (by omega)).trans (by rw [z9]; exact c_nc c), fun {i} h0 => (e _ _ (by omega) (by omega) (by omega) (by omega)).trans (by rw [qr 1 i (by omega) (by omega)]; exact c_rate c (by omega)), fun {i} h0 => (e _ _ (by omega) (by omega) (by omega) (by omega)).trans (by rw [qr 2 i (by omega) (by omega)]; exact c_oth c (by omega)), fun {i} h0 => (e _ _ (by omega) (by omega) (by omega) (by omega)).trans (by rw [qr 3 i (by omega) (by omega)]; exact c_keeps c (by omega)), fun {i} h0 => (e _ _ (by omega) (by omega) (by omega) (by omega)).trans (by rw [qr 4 i (by omega) (by omega)]; exact c_pri c (by omega)), fun {i} h0 h1 => (e _ _ (by omega) (by omega) (by omega) (by omega)).trans (by rw [qr 5 i (by omega) (by omega)]; exact c_here c (by omega) (by have := qr 4 i (by omega) (by omega); omega)), fun {i} h0 h1 => (e _ _ (by omega) (by omega) (by omega) (by omega)).trans (by rw [qr 6 i (by omega) (by omega)]; exact c_there c (by omega) (by have := qr 4 i (by omega) (by omega); omega)), fun {i} h0 => (e _ _ (by omega) (by omega) (by omega) (by omega)).trans (by rw [qr 7 i (by omega) (by omega)]; exact c_all c (by omega)), fun {i} h0 => (e _ _ (by omega) (by omega) (by omega) (by omega)).trans (by rw [qr 8 i (by omega) (by omega)]; exact c_hun c (by omega)), fun {i} h0 => (e _ _ (by omega) (by omega) (by omega) (by omega)).trans (by rw [own_c z5 (fun g hg => qr 14 g (by omega) (by omega))]; exact c_own c h0), fun {i} h0 => (e _ _ (by omega) (by omega) (by omega) (by omega)).trans (by rw [qr 9 i (by omega) (by omega)]; exact c_nose c (by omega)), fun {i} h0 => (e _ _ (by omega) (by omega) (by omega) (by omega)).trans (by rw [qr 10 i (by omega) (by omega)]; exact c_op c (by omega)), fun {i} h0 => (e _ _ (by omega) (by omega) (by omega) (by omega)).trans (by rw [qr 11 i (by omega) (by omega)]; exact c_sh c (by omega)), fun {i} h0 => (e _ _ (by omega) (by omega) (by omega) (by omega)).trans (by rw [qr 12 i (by omega) (by omega)]; exact c_kind c (by omega)), fun {i} h0 => (e _ _ (by omega) (by omega) (by omega) (by omega)).trans (by rw [byI_c (qr 12 i (by omega) (by omega)) (qr 13 i (by omega) (by omega))]; exact c_by c (by omega)), fun {i} h0 => (e _ _ (by omega) (by omega) (by omega) (by omega)).trans (by rw [qr 14 i (by omega) (by omega)]; exact c_owner c (by omega)), fun {i} h0 => (e _ _ (by omega) (by omega) (by omega) (by omega)).trans (by rw [qr 15 i (by omega) (by omega)]; exact c_age c (by omega)), fun {i} h0 => (e _ _ (by omega) (by omega) (by omega) (by omega)).trans (by rw [kpI_c (qr 12 i (by omega) (by omega)) (qr 13 i (by omega) (by omega)) (fun c0 => qr 3 _ (by omega) (by omega))]; exact c_kp c (by omega)), fun {i} h0 => (e _ _ (by omega) (by omega) (by omega) (by omega)).trans (by rw [qr 16 i (by omega) (by omega)]; exact c_wei c (by omega)), fun {i} h0 => (e _ _ (by omega) (by omega) (by omega) (by omega)).trans (by rw [qr 17 i (by omega) (by omega)]; exact c_wor c (by omega)), fun {i} h0 => (e _ _ (by omega) (by omega) (by omega) (by omega)).trans (by rw [qr 18 i (by omega) (by omega)]; exact c_cro c (by omega)), fun {i} h0 => (e _ _ (by omega) (by omega) (by omega) (by omega)).trans (by rw [qr 19 i (by omega) (by omega)]; exact c_gat c (by omega)), fun {i} h0 => (e _ _ (by omega) (by omega) (by omega) (by omega)).trans (by rw [qr 20 i (by omega) (by omega)]; exact c_day c (by omega)), fun {i} h0 => (e _ _ (by omega) (by omega) (by omega) (by omega)).trans (by rw [qr 21 i (by omega) (by omega)]; exact c_hour c (by omega)), fun {i} h0 => (e _ _ (by omega) (by omega) (by omega) (by omega)).trans (by rw [qr 22 i (by omega) (by omega)]; exact c_cm c (by omega)), fun {i} h0 => (e _ _ (by omega) (by omega) (by omega) (by omega)).trans (by rw [qr 23 i (by omega) (by omega)]; exact c_cd c (by omega))⟩
set_option maxRecDepth 16384 in
theorem MB_h {h h' : A_H} {B : Nat} {P P' : Gh} (w : WF P) (b : MB h B P) (q0 : ∀ j, ¬ j = 8 → P' 0 j = P 0 j) (qr : ∀ c i, 1 ≤ c → c ≤ 23 → P' c i = P c i) (e : ∀ a j, B ≤ a → a < B + 22 → ¬ (a = B ∧ j = 10) → ¬ (a = B ∧ j = 9) → hI h' a j = hI h a j) (s8 : hI h' B 9 = nI (P' 0 8)) : MB h' B P' := by
  have z0 : P' 0 0 = P 0 0 := q0 0 (by omega)
  have z1 : P' 0 1 = P 0 1 := q0 1 (by omega)
  have z2 : P' 0 2 = P 0 2 := q0 2 (by omega)
  have z3 : P' 0 3 = P 0 3 := q0 3 (by omega)
  have z4 : P' 0 4 = P 0 4 := q0 4 (by omega)
  have z5 : P' 0 5 = P 0 5 := q0 5 (by omega)
  have z6 : P' 0 6 = P 0 6 := q0 6 (by omega)
  have z7 : P' 0 7 = P 0 7 := q0 7 (by omega)
  have z9 : P' 0 9 = P 0 9 := q0 9 (by omega)
  have k1 := f_nm w
  have k2 := f_nt w
  have k3 := f_ng w
  have k4 := f_nG w
  have k5 := f_nx w
  have k6 := f_nc w
  exact ⟨(e _ _ (by omega) (by omega) (by omega) (by omega)).trans (by rw [z0]; exact b_s0 b), (e _ _ (by omega) (by omega) (by omega) (by omega)).trans (by rw [z1]; exact b_s1 b), (e _ _ (by omega) (by omega) (by omega) (by omega)).trans (by rw [z2]; exact b_s2 b), (e _ _ (by omega) (by omega) (by omega) (by omega)).trans (by rw [z3]; exact b_s3 b), (e _ _ (by omega) (by omega) (by omega) (by omega)).trans (by rw [z4]; exact b_s4 b), (e _ _ (by omega) (by omega) (by omega) (by omega)).trans (by rw [z5]; exact b_s5 b), (e _ _ (by omega) (by omega) (by omega) (by omega)).trans (by rw [z6]; exact b_s6 b), (e _ _ (by omega) (by omega) (by omega) (by omega)).trans (by rw [z7]; exact b_s7 b), (e _ _ (by omega) (by omega) (by omega) (by omega)).trans (by rw [z9]; exact b_nc b), s8, fun {i} h0 => (e _ _ (by omega) (by omega) (by omega) (by omega)).trans (by rw [qr 1 i (by omega) (by omega)]; exact b_rate b (by omega)), fun {i} h0 => (e _ _ (by omega) (by omega) (by omega) (by omega)).trans (by rw [qr 2 i (by omega) (by omega)]; exact b_oth b (by omega)), fun {i} h0 => (e _ _ (by omega) (by omega) (by omega) (by omega)).trans (by rw [qr 3 i (by omega) (by omega)]; exact b_keeps b (by omega)), fun {i} h0 => (e _ _ (by omega) (by omega) (by omega) (by omega)).trans (by rw [qr 4 i (by omega) (by omega), qr 5 i (by omega) (by omega)]; exact b_here b (by omega)), fun {i} h0 h1 => (e _ _ (by omega) (by omega) (by omega) (by omega)).trans (by rw [qr 6 i (by omega) (by omega)]; exact b_there b (by omega) (by have := qr 4 i (by omega) (by omega); omega)), fun {i} h0 => (e _ _ (by omega) (by omega) (by omega) (by omega)).trans (by rw [qr 7 i (by omega) (by omega)]; exact b_all b (by omega)), fun {i} h0 => (e _ _ (by omega) (by omega) (by omega) (by omega)).trans (by rw [qr 8 i (by omega) (by omega)]; exact b_hun b (by omega)), fun {i} h0 => (e _ _ (by omega) (by omega) (by omega) (by omega)).trans (by rw [qr 9 i (by omega) (by omega)]; exact b_nose b (by omega)), fun {i} h0 => (e _ _ (by omega) (by omega) (by omega) (by omega)).trans (by rw [qr 10 i (by omega) (by omega)]; exact b_op b (by omega)), fun {i} h0 => (e _ _ (by omega) (by omega) (by omega) (by omega)).trans (by rw [qr 11 i (by omega) (by omega)]; exact b_sh b (by omega)), fun {i} h0 => (e _ _ (by omega) (by omega) (by omega) (by omega)).trans (by rw [qr 12 i (by omega) (by omega)]; exact b_kind b (by omega)), fun {i} h0 => (e _ _ (by omega) (by omega) (by omega) (by omega)).trans (by rw [byI_c (qr 12 i (by omega) (by omega)) (qr 13 i (by omega) (by omega))]; exact b_by b (by omega)), fun {i} h0 => (e _ _ (by omega) (by omega) (by omega) (by omega)).trans (by rw [qr 14 i (by omega) (by omega)]; exact b_owner b (by omega)), fun {i} h0 => (e _ _ (by omega) (by omega) (by omega) (by omega)).trans (by rw [qr 15 i (by omega) (by omega)]; exact b_age b (by omega)), fun {i} h0 => (e _ _ (by omega) (by omega) (by omega) (by omega)).trans (by rw [qr 16 i (by omega) (by omega)]; exact b_wei b (by omega)), fun {i} h0 => (e _ _ (by omega) (by omega) (by omega) (by omega)).trans (by rw [qr 17 i (by omega) (by omega)]; exact b_wor b (by omega)), fun {i} h0 => (e _ _ (by omega) (by omega) (by omega) (by omega)).trans (by rw [qr 18 i (by omega) (by omega)]; exact b_cro b (by omega)), fun {i} h0 => (e _ _ (by omega) (by omega) (by omega) (by omega)).trans (by rw [qr 19 i (by omega) (by omega)]; exact b_gat b (by omega)), fun {i} h0 => (e _ _ (by omega) (by omega) (by omega) (by omega)).trans (by rw [qr 20 i (by omega) (by omega)]; exact b_day b (by omega)), fun {i} h0 => (e _ _ (by omega) (by omega) (by omega) (by omega)).trans (by rw [qr 21 i (by omega) (by omega)]; exact b_hour b (by omega)), fun {i} h0 => (e _ _ (by omega) (by omega) (by omega) (by omega)).trans (by rw [qr 22 i (by omega) (by omega)]; exact b_cm b (by omega)), fun {i} h0 => (e _ _ (by omega) (by omega) (by omega) (by omega)).trans (by rw [qr 23 i (by omega) (by omega)]; exact b_cd b (by omega))⟩
set_option maxRecDepth 16384 in
theorem WF_h {P P' : Gh} (w : WF P) (q0 : ∀ j, ¬ j = 8 → P' 0 j = P 0 j) (qr : ∀ c i, 1 ≤ c → c ≤ 23 → P' c i = P c i)  (n8 : P' 0 8 < 2 ^ P 0 5) : WF P' := by
  have z0 : P' 0 0 = P 0 0 := q0 0 (by omega)
  have z1 : P' 0 1 = P 0 1 := q0 1 (by omega)
  have z2 : P' 0 2 = P 0 2 := q0 2 (by omega)
  have z3 : P' 0 3 = P 0 3 := q0 3 (by omega)
  have z4 : P' 0 4 = P 0 4 := q0 4 (by omega)
  have z5 : P' 0 5 = P 0 5 := q0 5 (by omega)
  have z6 : P' 0 6 = P 0 6 := q0 6 (by omega)
  have z7 : P' 0 7 = P 0 7 := q0 7 (by omega)
  have z9 : P' 0 9 = P 0 9 := q0 9 (by omega)
  have k1 := f_nm w
  have k2 := f_nt w
  have k3 := f_ng w
  have k4 := f_nG w
  have k5 := f_nx w
  have k6 := f_nc w
  exact ⟨by rw [z0]; exact f_fee w, by rw [z1]; exact f_int w, by rw [z2]; exact f_nm w, by rw [z3]; exact f_nt w, by rw [z4]; exact f_ng w, by rw [z5]; exact f_nG w, by rw [z6]; exact f_nx w, by rw [z7]; exact f_np w, by rw [z5]; exact n8, by rw [z9]; exact f_nc w, fun {i} h0 => by
      have r1 := qr 1 i (by omega) (by omega)
      have o0 := f_rate w (show i < P 0 2 by omega)
      omega, fun {i} h0 => by
      have r2 := qr 2 i (by omega) (by omega)
      have o0 := f_oth w (show i < P 0 2 by omega)
      omega, fun {i} h0 => by
      have r3 := qr 3 i (by omega) (by omega)
      have o0 := f_keeps w (show i < P 0 2 by omega)
      omega, fun {i} h0 => by
      have r4 := qr 4 i (by omega) (by omega)
      have o0 := f_pri w (show i < P 0 2 by omega)
      omega, fun {i} h0 => by
      have r5 := qr 5 i (by omega) (by omega)
      have o0 := f_here w (show i < P 0 2 by omega)
      omega, fun {i} h0 => by
      have r6 := qr 6 i (by omega) (by omega)
      have o0 := f_there w (show i < P 0 2 by omega)
      omega, fun {i} h0 => by
      have r7 := qr 7 i (by omega) (by omega)
      have o0 := f_all w (show i < P 0 3 by omega)
      omega, fun {i} h0 => by
      have r8 := qr 8 i (by omega) (by omega)
      have o0 := f_hun w (show i < P 0 3 by omega)
      omega, fun {i} h0 => by
      have r9 := qr 9 i (by omega) (by omega)
      have o0 := f_nose w (show i < P 0 4 by omega)
      omega, fun {i} h0 => by
      have r10 := qr 10 i (by omega) (by omega)
      have o0 := f_op w (show i < P 0 4 by omega)
      omega, fun {i} h0 => by
      have r11 := qr 11 i (by omega) (by omega)
      have o0 := f_sh w (show i < P 0 4 by omega)
      omega, fun {i} h0 => by
      have r12 := qr 12 i (by omega) (by omega)
      have o0 := f_kind w (show i < P 0 5 by omega)
      omega, fun {i} h0 h1 => by
      have r13 := qr 13 i (by omega) (by omega)
      have r12 := qr 12 i (by omega) (by omega)
      have o0 := f_by w (show i < P 0 5 by omega) (fun c0 => h1 (r12.trans c0))
      omega, fun {i} h0 => by
      have r14 := qr 14 i (by omega) (by omega)
      have o0 := f_own w (show i < P 0 5 by omega)
      omega, fun {i} h0 => by
      have r15 := qr 15 i (by omega) (by omega)
      have o0 := f_age w (show i < P 0 5 by omega)
      omega, fun {i} h0 => by
      have r16 := qr 16 i (by omega) (by omega)
      have o0 := f_wei w (show i < P 0 5 by omega)
      omega, fun {i} h0 => by
      have r17 := qr 17 i (by omega) (by omega)
      have o0 := f_wor w (show i < P 0 5 by omega)
      omega, fun {i} h0 => by
      have r18 := qr 18 i (by omega) (by omega)
      have o0 := f_cro w (show i < P 0 6 by omega)
      omega, fun {i} h0 => by
      have r19 := qr 19 i (by omega) (by omega)
      have o0 := f_gat w (show i < P 0 6 by omega)
      omega, fun {i} h0 => by
      have r20 := qr 20 i (by omega) (by omega)
      have o0 := f_day w (show i < P 0 6 by omega)
      omega, fun {i} h0 => by
      have r21 := qr 21 i (by omega) (by omega)
      have o0 := f_hour w (show i < P 0 6 by omega)
      omega, fun {i} h0 => by
      have r22 := qr 22 i (by omega) (by omega)
      have o0 := f_cm w (show i < P 0 9 by omega)
      omega, fun {i} h0 => by
      have r23 := qr 23 i (by omega) (by omega)
      have o0 := f_cd w (show i < P 0 9 by omega)
      omega⟩
set_option maxRecDepth 16384 in
theorem CT_b {h h' : A_H} {T : Nat} {P P' : Gh} (w : WF P) (c : CT h T P) (q0 : ∀ j, ¬ j = 0 → ¬ j = 1 → P' 0 j = P 0 j) (qr : ∀ c i, 1 ≤ c → c ≤ 23 → P' c i = P c i) (e : ∀ a b, T ≤ a → a < T + 35 → ¬ a = T + 9 → ¬ (a = T ∧ b = 0) → ¬ (a = T ∧ b = 1) → hI h' a b = hI h a b) (s0 : hI h' T 0 = nI (P' 0 0)) (s1 : hI h' T 1 = nI (P' 0 1)) : CT h' T P' := by
  have z2 : P' 0 2 = P 0 2 := q0 2 (by omega) (by omega)
  have z3 : P' 0 3 = P 0 3 := q0 3 (by omega) (by omega)
  have z4 : P' 0 4 = P 0 4 := q0 4 (by omega) (by omega)
  have z5 : P' 0 5 = P 0 5 := q0 5 (by omega) (by omega)
  have z6 : P' 0 6 = P 0 6 := q0 6 (by omega) (by omega)
  have z7 : P' 0 7 = P 0 7 := q0 7 (by omega) (by omega)
  have z8 : P' 0 8 = P 0 8 := q0 8 (by omega) (by omega)
  have z9 : P' 0 9 = P 0 9 := q0 9 (by omega) (by omega)
  have k1 := f_nm w
  have k2 := f_nt w
  have k3 := f_ng w
  have k4 := f_nG w
  have k5 := f_nx w
  have k6 := f_nc w
  exact ⟨s0, s1, (e _ _ (by omega) (by omega) (by omega) (by omega) (by omega)).trans (by rw [z2]; exact c_s2 c), (e _ _ (by omega) (by omega) (by omega) (by omega) (by omega)).trans (by rw [z3]; exact c_s3 c), (e _ _ (by omega) (by omega) (by omega) (by omega) (by omega)).trans (by rw [z4]; exact c_s4 c), (e _ _ (by omega) (by omega) (by omega) (by omega) (by omega)).trans (by rw [z5]; exact c_s5 c), (e _ _ (by omega) (by omega) (by omega) (by omega) (by omega)).trans (by rw [z6]; exact c_s6 c), (e _ _ (by omega) (by omega) (by omega) (by omega) (by omega)).trans (by rw [z7]; exact c_s7 c), (e _ _ (by omega) (by omega) (by omega) (by omega) (by omega)).trans (by rw [z8]; exact c_s8 c), (e _ _ (by omega) (by omega) (by omega) (by omega) (by omega)).trans (by rw [z9]; exact c_nc c), fun {i} h0 => (e _ _ (by omega) (by omega) (by omega) (by omega) (by omega)).trans (by rw [qr 1 i (by omega) (by omega)]; exact c_rate c (by omega)), fun {i} h0 => (e _ _ (by omega) (by omega) (by omega) (by omega) (by omega)).trans (by rw [qr 2 i (by omega) (by omega)]; exact c_oth c (by omega)), fun {i} h0 => (e _ _ (by omega) (by omega) (by omega) (by omega) (by omega)).trans (by rw [qr 3 i (by omega) (by omega)]; exact c_keeps c (by omega)), fun {i} h0 => (e _ _ (by omega) (by omega) (by omega) (by omega) (by omega)).trans (by rw [qr 4 i (by omega) (by omega)]; exact c_pri c (by omega)), fun {i} h0 h1 => (e _ _ (by omega) (by omega) (by omega) (by omega) (by omega)).trans (by rw [qr 5 i (by omega) (by omega)]; exact c_here c (by omega) (by have := qr 4 i (by omega) (by omega); omega)), fun {i} h0 h1 => (e _ _ (by omega) (by omega) (by omega) (by omega) (by omega)).trans (by rw [qr 6 i (by omega) (by omega)]; exact c_there c (by omega) (by have := qr 4 i (by omega) (by omega); omega)), fun {i} h0 => (e _ _ (by omega) (by omega) (by omega) (by omega) (by omega)).trans (by rw [qr 7 i (by omega) (by omega)]; exact c_all c (by omega)), fun {i} h0 => (e _ _ (by omega) (by omega) (by omega) (by omega) (by omega)).trans (by rw [qr 8 i (by omega) (by omega)]; exact c_hun c (by omega)), fun {i} h0 => (e _ _ (by omega) (by omega) (by omega) (by omega) (by omega)).trans (by rw [own_c z5 (fun g hg => qr 14 g (by omega) (by omega))]; exact c_own c h0), fun {i} h0 => (e _ _ (by omega) (by omega) (by omega) (by omega) (by omega)).trans (by rw [qr 9 i (by omega) (by omega)]; exact c_nose c (by omega)), fun {i} h0 => (e _ _ (by omega) (by omega) (by omega) (by omega) (by omega)).trans (by rw [qr 10 i (by omega) (by omega)]; exact c_op c (by omega)), fun {i} h0 => (e _ _ (by omega) (by omega) (by omega) (by omega) (by omega)).trans (by rw [qr 11 i (by omega) (by omega)]; exact c_sh c (by omega)), fun {i} h0 => (e _ _ (by omega) (by omega) (by omega) (by omega) (by omega)).trans (by rw [qr 12 i (by omega) (by omega)]; exact c_kind c (by omega)), fun {i} h0 => (e _ _ (by omega) (by omega) (by omega) (by omega) (by omega)).trans (by rw [byI_c (qr 12 i (by omega) (by omega)) (qr 13 i (by omega) (by omega))]; exact c_by c (by omega)), fun {i} h0 => (e _ _ (by omega) (by omega) (by omega) (by omega) (by omega)).trans (by rw [qr 14 i (by omega) (by omega)]; exact c_owner c (by omega)), fun {i} h0 => (e _ _ (by omega) (by omega) (by omega) (by omega) (by omega)).trans (by rw [qr 15 i (by omega) (by omega)]; exact c_age c (by omega)), fun {i} h0 => (e _ _ (by omega) (by omega) (by omega) (by omega) (by omega)).trans (by rw [kpI_c (qr 12 i (by omega) (by omega)) (qr 13 i (by omega) (by omega)) (fun c0 => qr 3 _ (by omega) (by omega))]; exact c_kp c (by omega)), fun {i} h0 => (e _ _ (by omega) (by omega) (by omega) (by omega) (by omega)).trans (by rw [qr 16 i (by omega) (by omega)]; exact c_wei c (by omega)), fun {i} h0 => (e _ _ (by omega) (by omega) (by omega) (by omega) (by omega)).trans (by rw [qr 17 i (by omega) (by omega)]; exact c_wor c (by omega)), fun {i} h0 => (e _ _ (by omega) (by omega) (by omega) (by omega) (by omega)).trans (by rw [qr 18 i (by omega) (by omega)]; exact c_cro c (by omega)), fun {i} h0 => (e _ _ (by omega) (by omega) (by omega) (by omega) (by omega)).trans (by rw [qr 19 i (by omega) (by omega)]; exact c_gat c (by omega)), fun {i} h0 => (e _ _ (by omega) (by omega) (by omega) (by omega) (by omega)).trans (by rw [qr 20 i (by omega) (by omega)]; exact c_day c (by omega)), fun {i} h0 => (e _ _ (by omega) (by omega) (by omega) (by omega) (by omega)).trans (by rw [qr 21 i (by omega) (by omega)]; exact c_hour c (by omega)), fun {i} h0 => (e _ _ (by omega) (by omega) (by omega) (by omega) (by omega)).trans (by rw [qr 22 i (by omega) (by omega)]; exact c_cm c (by omega)), fun {i} h0 => (e _ _ (by omega) (by omega) (by omega) (by omega) (by omega)).trans (by rw [qr 23 i (by omega) (by omega)]; exact c_cd c (by omega))⟩
set_option maxRecDepth 16384 in
theorem MB_b {h h' : A_H} {B : Nat} {P P' : Gh} (w : WF P) (b : MB h B P) (q0 : ∀ j, ¬ j = 0 → ¬ j = 1 → P' 0 j = P 0 j) (qr : ∀ c i, 1 ≤ c → c ≤ 23 → P' c i = P c i) (e : ∀ a j, B ≤ a → a < B + 22 → ¬ (a = B ∧ j = 10) → ¬ (a = B ∧ j = 0) → ¬ (a = B ∧ j = 1) → hI h' a j = hI h a j) (s0 : hI h' B 0 = nI (P' 0 0)) (s1 : hI h' B 1 = nI (P' 0 1)) : MB h' B P' := by
  have z2 : P' 0 2 = P 0 2 := q0 2 (by omega) (by omega)
  have z3 : P' 0 3 = P 0 3 := q0 3 (by omega) (by omega)
  have z4 : P' 0 4 = P 0 4 := q0 4 (by omega) (by omega)
  have z5 : P' 0 5 = P 0 5 := q0 5 (by omega) (by omega)
  have z6 : P' 0 6 = P 0 6 := q0 6 (by omega) (by omega)
  have z7 : P' 0 7 = P 0 7 := q0 7 (by omega) (by omega)
  have z8 : P' 0 8 = P 0 8 := q0 8 (by omega) (by omega)
  have z9 : P' 0 9 = P 0 9 := q0 9 (by omega) (by omega)
  have k1 := f_nm w
  have k2 := f_nt w
  have k3 := f_ng w
  have k4 := f_nG w
  have k5 := f_nx w
  have k6 := f_nc w
  exact ⟨s0, s1, (e _ _ (by omega) (by omega) (by omega) (by omega) (by omega)).trans (by rw [z2]; exact b_s2 b), (e _ _ (by omega) (by omega) (by omega) (by omega) (by omega)).trans (by rw [z3]; exact b_s3 b), (e _ _ (by omega) (by omega) (by omega) (by omega) (by omega)).trans (by rw [z4]; exact b_s4 b), (e _ _ (by omega) (by omega) (by omega) (by omega) (by omega)).trans (by rw [z5]; exact b_s5 b), (e _ _ (by omega) (by omega) (by omega) (by omega) (by omega)).trans (by rw [z6]; exact b_s6 b), (e _ _ (by omega) (by omega) (by omega) (by omega) (by omega)).trans (by rw [z7]; exact b_s7 b), (e _ _ (by omega) (by omega) (by omega) (by omega) (by omega)).trans (by rw [z9]; exact b_nc b), (e _ _ (by omega) (by omega) (by omega) (by omega) (by omega)).trans (by rw [z8]; exact b_hid b), fun {i} h0 => (e _ _ (by omega) (by omega) (by omega) (by omega) (by omega)).trans (by rw [qr 1 i (by omega) (by omega)]; exact b_rate b (by omega)), fun {i} h0 => (e _ _ (by omega) (by omega) (by omega) (by omega) (by omega)).trans (by rw [qr 2 i (by omega) (by omega)]; exact b_oth b (by omega)), fun {i} h0 => (e _ _ (by omega) (by omega) (by omega) (by omega) (by omega)).trans (by rw [qr 3 i (by omega) (by omega)]; exact b_keeps b (by omega)), fun {i} h0 => (e _ _ (by omega) (by omega) (by omega) (by omega) (by omega)).trans (by rw [qr 4 i (by omega) (by omega), qr 5 i (by omega) (by omega)]; exact b_here b (by omega)), fun {i} h0 h1 => (e _ _ (by omega) (by omega) (by omega) (by omega) (by omega)).trans (by rw [qr 6 i (by omega) (by omega)]; exact b_there b (by omega) (by have := qr 4 i (by omega) (by omega); omega)), fun {i} h0 => (e _ _ (by omega) (by omega) (by omega) (by omega) (by omega)).trans (by rw [qr 7 i (by omega) (by omega)]; exact b_all b (by omega)), fun {i} h0 => (e _ _ (by omega) (by omega) (by omega) (by omega) (by omega)).trans (by rw [qr 8 i (by omega) (by omega)]; exact b_hun b (by omega)), fun {i} h0 => (e _ _ (by omega) (by omega) (by omega) (by omega) (by omega)).trans (by rw [qr 9 i (by omega) (by omega)]; exact b_nose b (by omega)), fun {i} h0 => (e _ _ (by omega) (by omega) (by omega) (by omega) (by omega)).trans (by rw [qr 10 i (by omega) (by omega)]; exact b_op b (by omega)), fun {i} h0 => (e _ _ (by omega) (by omega) (by omega) (by omega) (by omega)).trans (by rw [qr 11 i (by omega) (by omega)]; exact b_sh b (by omega)), fun {i} h0 => (e _ _ (by omega) (by omega) (by omega) (by omega) (by omega)).trans (by rw [qr 12 i (by omega) (by omega)]; exact b_kind b (by omega)), fun {i} h0 => (e _ _ (by omega) (by omega) (by omega) (by omega) (by omega)).trans (by rw [byI_c (qr 12 i (by omega) (by omega)) (qr 13 i (by omega) (by omega))]; exact b_by b (by omega)), fun {i} h0 => (e _ _ (by omega) (by omega) (by omega) (by omega) (by omega)).trans (by rw [qr 14 i (by omega) (by omega)]; exact b_owner b (by omega)), fun {i} h0 => (e _ _ (by omega) (by omega) (by omega) (by omega) (by omega)).trans (by rw [qr 15 i (by omega) (by omega)]; exact b_age b (by omega)), fun {i} h0 => (e _ _ (by omega) (by omega) (by omega) (by omega) (by omega)).trans (by rw [qr 16 i (by omega) (by omega)]; exact b_wei b (by omega)), fun {i} h0 => (e _ _ (by omega) (by omega) (by omega) (by omega) (by omega)).trans (by rw [qr 17 i (by omega) (by omega)]; exact b_wor b (by omega)), fun {i} h0 => (e _ _ (by omega) (by omega) (by omega) (by omega) (by omega)).trans (by rw [qr 18 i (by omega) (by omega)]; exact b_cro b (by omega)), fun {i} h0 => (e _ _ (by omega) (by omega) (by omega) (by omega) (by omega)).trans (by rw [qr 19 i (by omega) (by omega)]; exact b_gat b (by omega)), fun {i} h0 => (e _ _ (by omega) (by omega) (by omega) (by omega) (by omega)).trans (by rw [qr 20 i (by omega) (by omega)]; exact b_day b (by omega)), fun {i} h0 => (e _ _ (by omega) (by omega) (by omega) (by omega) (by omega)).trans (by rw [qr 21 i (by omega) (by omega)]; exact b_hour b (by omega)), fun {i} h0 => (e _ _ (by omega) (by omega) (by omega) (by omega) (by omega)).trans (by rw [qr 22 i (by omega) (by omega)]; exact b_cm b (by omega)), fun {i} h0 => (e _ _ (by omega) (by omega) (by omega) (by omega) (by omega)).trans (by rw [qr 23 i (by omega) (by omega)]; exact b_cd b (by omega))⟩
set_option maxRecDepth 16384 in
theorem WF_b {P P' : Gh} (w : WF P) (q0 : ∀ j, ¬ j = 0 → ¬ j = 1 → P' 0 j = P 0 j) (qr : ∀ c i, 1 ≤ c → c ≤ 23 → P' c i = P c i)  (n0 : P' 0 0 ≤ 9) (n1 : P' 0 1 ≤ 50) : WF P' := by
  have z2 : P' 0 2 = P 0 2 := q0 2 (by omega) (by omega)
  have z3 : P' 0 3 = P 0 3 := q0 3 (by omega) (by omega)
  have z4 : P' 0 4 = P 0 4 := q0 4 (by omega) (by omega)
  have z5 : P' 0 5 = P 0 5 := q0 5 (by omega) (by omega)
  have z6 : P' 0 6 = P 0 6 := q0 6 (by omega) (by omega)
  have z7 : P' 0 7 = P 0 7 := q0 7 (by omega) (by omega)
  have z8 : P' 0 8 = P 0 8 := q0 8 (by omega) (by omega)
  have z9 : P' 0 9 = P 0 9 := q0 9 (by omega) (by omega)
  have k1 := f_nm w
  have k2 := f_nt w
  have k3 := f_ng w
  have k4 := f_nG w
  have k5 := f_nx w
  have k6 := f_nc w
  exact ⟨n0, n1, by rw [z2]; exact f_nm w, by rw [z3]; exact f_nt w, by rw [z4]; exact f_ng w, by rw [z5]; exact f_nG w, by rw [z6]; exact f_nx w, by rw [z7]; exact f_np w, by rw [z8, z5]; exact f_hid w, by rw [z9]; exact f_nc w, fun {i} h0 => by
      have r1 := qr 1 i (by omega) (by omega)
      have o0 := f_rate w (show i < P 0 2 by omega)
      omega, fun {i} h0 => by
      have r2 := qr 2 i (by omega) (by omega)
      have o0 := f_oth w (show i < P 0 2 by omega)
      omega, fun {i} h0 => by
      have r3 := qr 3 i (by omega) (by omega)
      have o0 := f_keeps w (show i < P 0 2 by omega)
      omega, fun {i} h0 => by
      have r4 := qr 4 i (by omega) (by omega)
      have o0 := f_pri w (show i < P 0 2 by omega)
      omega, fun {i} h0 => by
      have r5 := qr 5 i (by omega) (by omega)
      have o0 := f_here w (show i < P 0 2 by omega)
      omega, fun {i} h0 => by
      have r6 := qr 6 i (by omega) (by omega)
      have o0 := f_there w (show i < P 0 2 by omega)
      omega, fun {i} h0 => by
      have r7 := qr 7 i (by omega) (by omega)
      have o0 := f_all w (show i < P 0 3 by omega)
      omega, fun {i} h0 => by
      have r8 := qr 8 i (by omega) (by omega)
      have o0 := f_hun w (show i < P 0 3 by omega)
      omega, fun {i} h0 => by
      have r9 := qr 9 i (by omega) (by omega)
      have o0 := f_nose w (show i < P 0 4 by omega)
      omega, fun {i} h0 => by
      have r10 := qr 10 i (by omega) (by omega)
      have o0 := f_op w (show i < P 0 4 by omega)
      omega, fun {i} h0 => by
      have r11 := qr 11 i (by omega) (by omega)
      have o0 := f_sh w (show i < P 0 4 by omega)
      omega, fun {i} h0 => by
      have r12 := qr 12 i (by omega) (by omega)
      have o0 := f_kind w (show i < P 0 5 by omega)
      omega, fun {i} h0 h1 => by
      have r13 := qr 13 i (by omega) (by omega)
      have r12 := qr 12 i (by omega) (by omega)
      have o0 := f_by w (show i < P 0 5 by omega) (fun c0 => h1 (r12.trans c0))
      omega, fun {i} h0 => by
      have r14 := qr 14 i (by omega) (by omega)
      have o0 := f_own w (show i < P 0 5 by omega)
      omega, fun {i} h0 => by
      have r15 := qr 15 i (by omega) (by omega)
      have o0 := f_age w (show i < P 0 5 by omega)
      omega, fun {i} h0 => by
      have r16 := qr 16 i (by omega) (by omega)
      have o0 := f_wei w (show i < P 0 5 by omega)
      omega, fun {i} h0 => by
      have r17 := qr 17 i (by omega) (by omega)
      have o0 := f_wor w (show i < P 0 5 by omega)
      omega, fun {i} h0 => by
      have r18 := qr 18 i (by omega) (by omega)
      have o0 := f_cro w (show i < P 0 6 by omega)
      omega, fun {i} h0 => by
      have r19 := qr 19 i (by omega) (by omega)
      have o0 := f_gat w (show i < P 0 6 by omega)
      omega, fun {i} h0 => by
      have r20 := qr 20 i (by omega) (by omega)
      have o0 := f_day w (show i < P 0 6 by omega)
      omega, fun {i} h0 => by
      have r21 := qr 21 i (by omega) (by omega)
      have o0 := f_hour w (show i < P 0 6 by omega)
      omega, fun {i} h0 => by
      have r22 := qr 22 i (by omega) (by omega)
      have o0 := f_cm w (show i < P 0 9 by omega)
      omega, fun {i} h0 => by
      have r23 := qr 23 i (by omega) (by omega)
      have o0 := f_cd w (show i < P 0 9 by omega)
      omega⟩
set_option maxRecDepth 16384 in
theorem CT_p {h h' : A_H} {T : Nat} {P P' : Gh} {m : Nat} (w : WF P) (c : CT h T P) (hm : m < P 0 2) (q4 : P' 4 m = 1) (q0 : ∀ j, ¬ j = 7 → P' 0 j = P 0 j) (qr : ∀ c i, 1 ≤ c → c ≤ 23 → ¬ ((4 ≤ c ∧ c ≤ 6) ∧ i = m) → P' c i = P c i) (e : ∀ a b, T ≤ a → a < T + 35 → ¬ a = T + 9 → ¬ (a = T ∧ b = 7) → ¬ (a = T + 10 + m ∧ (b = 3 ∨ b = 4 ∨ b = 5)) → hI h' a b = hI h a b) (s7 : hI h' T 7 = nI (P' 0 7)) (n3 : hI h' (T + 10 + m) 3 = 1) (n4 : hI h' (T + 10 + m) 4 = nI (P' 5 m)) (n5 : hI h' (T + 10 + m) 5 = nI (P' 6 m)) : CT h' T P' := by
  have z0 : P' 0 0 = P 0 0 := q0 0 (by omega)
  have z1 : P' 0 1 = P 0 1 := q0 1 (by omega)
  have z2 : P' 0 2 = P 0 2 := q0 2 (by omega)
  have z3 : P' 0 3 = P 0 3 := q0 3 (by omega)
  have z4 : P' 0 4 = P 0 4 := q0 4 (by omega)
  have z5 : P' 0 5 = P 0 5 := q0 5 (by omega)
  have z6 : P' 0 6 = P 0 6 := q0 6 (by omega)
  have z8 : P' 0 8 = P 0 8 := q0 8 (by omega)
  have z9 : P' 0 9 = P 0 9 := q0 9 (by omega)
  have k1 := f_nm w
  have k2 := f_nt w
  have k3 := f_ng w
  have k4 := f_nG w
  have k5 := f_nx w
  have k6 := f_nc w
  exact ⟨(e _ _ (by omega) (by omega) (by omega) (by omega) (by omega)).trans (by rw [z0]; exact c_s0 c), (e _ _ (by omega) (by omega) (by omega) (by omega) (by omega)).trans (by rw [z1]; exact c_s1 c), (e _ _ (by omega) (by omega) (by omega) (by omega) (by omega)).trans (by rw [z2]; exact c_s2 c), (e _ _ (by omega) (by omega) (by omega) (by omega) (by omega)).trans (by rw [z3]; exact c_s3 c), (e _ _ (by omega) (by omega) (by omega) (by omega) (by omega)).trans (by rw [z4]; exact c_s4 c), (e _ _ (by omega) (by omega) (by omega) (by omega) (by omega)).trans (by rw [z5]; exact c_s5 c), (e _ _ (by omega) (by omega) (by omega) (by omega) (by omega)).trans (by rw [z6]; exact c_s6 c), s7, (e _ _ (by omega) (by omega) (by omega) (by omega) (by omega)).trans (by rw [z8]; exact c_s8 c), (e _ _ (by omega) (by omega) (by omega) (by omega) (by omega)).trans (by rw [z9]; exact c_nc c), fun {i} h0 => (e _ _ (by omega) (by omega) (by omega) (by omega) (by omega)).trans (by rw [qr 1 i (by omega) (by omega) (by omega)]; exact c_rate c (by omega)), fun {i} h0 => (e _ _ (by omega) (by omega) (by omega) (by omega) (by omega)).trans (by rw [qr 2 i (by omega) (by omega) (by omega)]; exact c_oth c (by omega)), fun {i} h0 => (e _ _ (by omega) (by omega) (by omega) (by omega) (by omega)).trans (by rw [qr 3 i (by omega) (by omega) (by omega)]; exact c_keeps c (by omega)), fun {i} h0 => by
    by_cases ei : i = m
    · rw [ei, q4]; exact n3
    · rw [e _ _ (by omega) (by omega) (by omega) (by omega) (by omega), qr 4 i (by omega) (by omega) (by omega)]; exact c_pri c (by omega), fun {i} h0 h1 => by
    by_cases ei : i = m
    · rw [ei]; exact n4
    · rw [e _ _ (by omega) (by omega) (by omega) (by omega) (by omega), qr 5 i (by omega) (by omega) (by omega)]; exact c_here c (by omega) (by have := qr 4 i (by omega) (by omega) (by omega); omega), fun {i} h0 h1 => by
    by_cases ei : i = m
    · rw [ei]; exact n5
    · rw [e _ _ (by omega) (by omega) (by omega) (by omega) (by omega), qr 6 i (by omega) (by omega) (by omega)]; exact c_there c (by omega) (by have := qr 4 i (by omega) (by omega) (by omega); omega), fun {i} h0 => (e _ _ (by omega) (by omega) (by omega) (by omega) (by omega)).trans (by rw [qr 7 i (by omega) (by omega) (by omega)]; exact c_all c (by omega)), fun {i} h0 => (e _ _ (by omega) (by omega) (by omega) (by omega) (by omega)).trans (by rw [qr 8 i (by omega) (by omega) (by omega)]; exact c_hun c (by omega)), fun {i} h0 => (e _ _ (by omega) (by omega) (by omega) (by omega) (by omega)).trans (by rw [own_c z5 (fun g hg => qr 14 g (by omega) (by omega) (by omega))]; exact c_own c h0), fun {i} h0 => (e _ _ (by omega) (by omega) (by omega) (by omega) (by omega)).trans (by rw [qr 9 i (by omega) (by omega) (by omega)]; exact c_nose c (by omega)), fun {i} h0 => (e _ _ (by omega) (by omega) (by omega) (by omega) (by omega)).trans (by rw [qr 10 i (by omega) (by omega) (by omega)]; exact c_op c (by omega)), fun {i} h0 => (e _ _ (by omega) (by omega) (by omega) (by omega) (by omega)).trans (by rw [qr 11 i (by omega) (by omega) (by omega)]; exact c_sh c (by omega)), fun {i} h0 => (e _ _ (by omega) (by omega) (by omega) (by omega) (by omega)).trans (by rw [qr 12 i (by omega) (by omega) (by omega)]; exact c_kind c (by omega)), fun {i} h0 => (e _ _ (by omega) (by omega) (by omega) (by omega) (by omega)).trans (by rw [byI_c (qr 12 i (by omega) (by omega) (by omega)) (qr 13 i (by omega) (by omega) (by omega))]; exact c_by c (by omega)), fun {i} h0 => (e _ _ (by omega) (by omega) (by omega) (by omega) (by omega)).trans (by rw [qr 14 i (by omega) (by omega) (by omega)]; exact c_owner c (by omega)), fun {i} h0 => (e _ _ (by omega) (by omega) (by omega) (by omega) (by omega)).trans (by rw [qr 15 i (by omega) (by omega) (by omega)]; exact c_age c (by omega)), fun {i} h0 => (e _ _ (by omega) (by omega) (by omega) (by omega) (by omega)).trans (by rw [kpI_c (qr 12 i (by omega) (by omega) (by omega)) (qr 13 i (by omega) (by omega) (by omega)) (fun c0 => qr 3 _ (by omega) (by omega) (by omega))]; exact c_kp c (by omega)), fun {i} h0 => (e _ _ (by omega) (by omega) (by omega) (by omega) (by omega)).trans (by rw [qr 16 i (by omega) (by omega) (by omega)]; exact c_wei c (by omega)), fun {i} h0 => (e _ _ (by omega) (by omega) (by omega) (by omega) (by omega)).trans (by rw [qr 17 i (by omega) (by omega) (by omega)]; exact c_wor c (by omega)), fun {i} h0 => (e _ _ (by omega) (by omega) (by omega) (by omega) (by omega)).trans (by rw [qr 18 i (by omega) (by omega) (by omega)]; exact c_cro c (by omega)), fun {i} h0 => (e _ _ (by omega) (by omega) (by omega) (by omega) (by omega)).trans (by rw [qr 19 i (by omega) (by omega) (by omega)]; exact c_gat c (by omega)), fun {i} h0 => (e _ _ (by omega) (by omega) (by omega) (by omega) (by omega)).trans (by rw [qr 20 i (by omega) (by omega) (by omega)]; exact c_day c (by omega)), fun {i} h0 => (e _ _ (by omega) (by omega) (by omega) (by omega) (by omega)).trans (by rw [qr 21 i (by omega) (by omega) (by omega)]; exact c_hour c (by omega)), fun {i} h0 => (e _ _ (by omega) (by omega) (by omega) (by omega) (by omega)).trans (by rw [qr 22 i (by omega) (by omega) (by omega)]; exact c_cm c (by omega)), fun {i} h0 => (e _ _ (by omega) (by omega) (by omega) (by omega) (by omega)).trans (by rw [qr 23 i (by omega) (by omega) (by omega)]; exact c_cd c (by omega))⟩
set_option maxRecDepth 16384 in
theorem MB_p {h h' : A_H} {B : Nat} {P P' : Gh} {m : Nat} (w : WF P) (b : MB h B P) (hm : m < P 0 2) (q4 : P' 4 m = 1) (q0 : ∀ j, ¬ j = 7 → P' 0 j = P 0 j) (qr : ∀ c i, 1 ≤ c → c ≤ 23 → ¬ ((4 ≤ c ∧ c ≤ 6) ∧ i = m) → P' c i = P c i) (e : ∀ a j, B ≤ a → a < B + 22 → ¬ (a = B ∧ j = 10) → ¬ (a = B ∧ j = 7) → ¬ ((a = B + 3 ∨ a = B + 4) ∧ j = m) → hI h' a j = hI h a j) (s7 : hI h' B 7 = nI (P' 0 7)) (n4 : hI h' (B + 3) m = nI (P' 5 m)) (n5 : hI h' (B + 4) m = nI (P' 6 m)) : MB h' B P' := by
  have z0 : P' 0 0 = P 0 0 := q0 0 (by omega)
  have z1 : P' 0 1 = P 0 1 := q0 1 (by omega)
  have z2 : P' 0 2 = P 0 2 := q0 2 (by omega)
  have z3 : P' 0 3 = P 0 3 := q0 3 (by omega)
  have z4 : P' 0 4 = P 0 4 := q0 4 (by omega)
  have z5 : P' 0 5 = P 0 5 := q0 5 (by omega)
  have z6 : P' 0 6 = P 0 6 := q0 6 (by omega)
  have z8 : P' 0 8 = P 0 8 := q0 8 (by omega)
  have z9 : P' 0 9 = P 0 9 := q0 9 (by omega)
  have k1 := f_nm w
  have k2 := f_nt w
  have k3 := f_ng w
  have k4 := f_nG w
  have k5 := f_nx w
  have k6 := f_nc w
  exact ⟨(e _ _ (by omega) (by omega) (by omega) (by omega) (by omega)).trans (by rw [z0]; exact b_s0 b), (e _ _ (by omega) (by omega) (by omega) (by omega) (by omega)).trans (by rw [z1]; exact b_s1 b), (e _ _ (by omega) (by omega) (by omega) (by omega) (by omega)).trans (by rw [z2]; exact b_s2 b), (e _ _ (by omega) (by omega) (by omega) (by omega) (by omega)).trans (by rw [z3]; exact b_s3 b), (e _ _ (by omega) (by omega) (by omega) (by omega) (by omega)).trans (by rw [z4]; exact b_s4 b), (e _ _ (by omega) (by omega) (by omega) (by omega) (by omega)).trans (by rw [z5]; exact b_s5 b), (e _ _ (by omega) (by omega) (by omega) (by omega) (by omega)).trans (by rw [z6]; exact b_s6 b), s7, (e _ _ (by omega) (by omega) (by omega) (by omega) (by omega)).trans (by rw [z9]; exact b_nc b), (e _ _ (by omega) (by omega) (by omega) (by omega) (by omega)).trans (by rw [z8]; exact b_hid b), fun {i} h0 => (e _ _ (by omega) (by omega) (by omega) (by omega) (by omega)).trans (by rw [qr 1 i (by omega) (by omega) (by omega)]; exact b_rate b (by omega)), fun {i} h0 => (e _ _ (by omega) (by omega) (by omega) (by omega) (by omega)).trans (by rw [qr 2 i (by omega) (by omega) (by omega)]; exact b_oth b (by omega)), fun {i} h0 => (e _ _ (by omega) (by omega) (by omega) (by omega) (by omega)).trans (by rw [qr 3 i (by omega) (by omega) (by omega)]; exact b_keeps b (by omega)), fun {i} h0 => by
    by_cases ei : i = m
    · rw [ei, q4]; exact n4
    · rw [e _ _ (by omega) (by omega) (by omega) (by omega) (by omega), qr 4 i (by omega) (by omega) (by omega), qr 5 i (by omega) (by omega) (by omega)]; exact b_here b (by omega), fun {i} h0 h1 => by
    by_cases ei : i = m
    · rw [ei]; exact n5
    · rw [e _ _ (by omega) (by omega) (by omega) (by omega) (by omega), qr 6 i (by omega) (by omega) (by omega)]; exact b_there b (by omega) (by have := qr 4 i (by omega) (by omega) (by omega); omega), fun {i} h0 => (e _ _ (by omega) (by omega) (by omega) (by omega) (by omega)).trans (by rw [qr 7 i (by omega) (by omega) (by omega)]; exact b_all b (by omega)), fun {i} h0 => (e _ _ (by omega) (by omega) (by omega) (by omega) (by omega)).trans (by rw [qr 8 i (by omega) (by omega) (by omega)]; exact b_hun b (by omega)), fun {i} h0 => (e _ _ (by omega) (by omega) (by omega) (by omega) (by omega)).trans (by rw [qr 9 i (by omega) (by omega) (by omega)]; exact b_nose b (by omega)), fun {i} h0 => (e _ _ (by omega) (by omega) (by omega) (by omega) (by omega)).trans (by rw [qr 10 i (by omega) (by omega) (by omega)]; exact b_op b (by omega)), fun {i} h0 => (e _ _ (by omega) (by omega) (by omega) (by omega) (by omega)).trans (by rw [qr 11 i (by omega) (by omega) (by omega)]; exact b_sh b (by omega)), fun {i} h0 => (e _ _ (by omega) (by omega) (by omega) (by omega) (by omega)).trans (by rw [qr 12 i (by omega) (by omega) (by omega)]; exact b_kind b (by omega)), fun {i} h0 => (e _ _ (by omega) (by omega) (by omega) (by omega) (by omega)).trans (by rw [byI_c (qr 12 i (by omega) (by omega) (by omega)) (qr 13 i (by omega) (by omega) (by omega))]; exact b_by b (by omega)), fun {i} h0 => (e _ _ (by omega) (by omega) (by omega) (by omega) (by omega)).trans (by rw [qr 14 i (by omega) (by omega) (by omega)]; exact b_owner b (by omega)), fun {i} h0 => (e _ _ (by omega) (by omega) (by omega) (by omega) (by omega)).trans (by rw [qr 15 i (by omega) (by omega) (by omega)]; exact b_age b (by omega)), fun {i} h0 => (e _ _ (by omega) (by omega) (by omega) (by omega) (by omega)).trans (by rw [qr 16 i (by omega) (by omega) (by omega)]; exact b_wei b (by omega)), fun {i} h0 => (e _ _ (by omega) (by omega) (by omega) (by omega) (by omega)).trans (by rw [qr 17 i (by omega) (by omega) (by omega)]; exact b_wor b (by omega)), fun {i} h0 => (e _ _ (by omega) (by omega) (by omega) (by omega) (by omega)).trans (by rw [qr 18 i (by omega) (by omega) (by omega)]; exact b_cro b (by omega)), fun {i} h0 => (e _ _ (by omega) (by omega) (by omega) (by omega) (by omega)).trans (by rw [qr 19 i (by omega) (by omega) (by omega)]; exact b_gat b (by omega)), fun {i} h0 => (e _ _ (by omega) (by omega) (by omega) (by omega) (by omega)).trans (by rw [qr 20 i (by omega) (by omega) (by omega)]; exact b_day b (by omega)), fun {i} h0 => (e _ _ (by omega) (by omega) (by omega) (by omega) (by omega)).trans (by rw [qr 21 i (by omega) (by omega) (by omega)]; exact b_hour b (by omega)), fun {i} h0 => (e _ _ (by omega) (by omega) (by omega) (by omega) (by omega)).trans (by rw [qr 22 i (by omega) (by omega) (by omega)]; exact b_cm b (by omega)), fun {i} h0 => (e _ _ (by omega) (by omega) (by omega) (by omega) (by omega)).trans (by rw [qr 23 i (by omega) (by omega) (by omega)]; exact b_cd b (by omega))⟩
set_option maxRecDepth 16384 in
theorem WF_p {P P' : Gh} {m : Nat} (w : WF P) (hm : m < P 0 2) (q4 : P' 4 m = 1) (q0 : ∀ j, ¬ j = 7 → P' 0 j = P 0 j) (qr : ∀ c i, 1 ≤ c → c ≤ 23 → ¬ ((4 ≤ c ∧ c ≤ 6) ∧ i = m) → P' c i = P c i)  (n7 : P' 0 7 ≤ 4) (n5 : P' 5 m ≤ 99) (n6 : P' 6 m ≤ 99) : WF P' := by
  have z0 : P' 0 0 = P 0 0 := q0 0 (by omega)
  have z1 : P' 0 1 = P 0 1 := q0 1 (by omega)
  have z2 : P' 0 2 = P 0 2 := q0 2 (by omega)
  have z3 : P' 0 3 = P 0 3 := q0 3 (by omega)
  have z4 : P' 0 4 = P 0 4 := q0 4 (by omega)
  have z5 : P' 0 5 = P 0 5 := q0 5 (by omega)
  have z6 : P' 0 6 = P 0 6 := q0 6 (by omega)
  have z8 : P' 0 8 = P 0 8 := q0 8 (by omega)
  have z9 : P' 0 9 = P 0 9 := q0 9 (by omega)
  have k1 := f_nm w
  have k2 := f_nt w
  have k3 := f_ng w
  have k4 := f_nG w
  have k5 := f_nx w
  have k6 := f_nc w
  exact ⟨by rw [z0]; exact f_fee w, by rw [z1]; exact f_int w, by rw [z2]; exact f_nm w, by rw [z3]; exact f_nt w, by rw [z4]; exact f_ng w, by rw [z5]; exact f_nG w, by rw [z6]; exact f_nx w, n7, by rw [z8, z5]; exact f_hid w, by rw [z9]; exact f_nc w, fun {i} h0 => by
      have r1 := qr 1 i (by omega) (by omega) (by omega)
      have o0 := f_rate w (show i < P 0 2 by omega)
      omega, fun {i} h0 => by
      have r2 := qr 2 i (by omega) (by omega) (by omega)
      have o0 := f_oth w (show i < P 0 2 by omega)
      omega, fun {i} h0 => by
      have r3 := qr 3 i (by omega) (by omega) (by omega)
      have o0 := f_keeps w (show i < P 0 2 by omega)
      omega, fun {i} h0 => by
    by_cases ei : i = m
    · rw [ei, q4]; decide
    · have r4 := qr 4 i (by omega) (by omega) (by omega)
      have o0 := f_pri w (show i < P 0 2 by omega)
      omega, fun {i} h0 => by
    by_cases ei : i = m
    · rw [ei]; exact n5
    · have r5 := qr 5 i (by omega) (by omega) (by omega)
      have o0 := f_here w (show i < P 0 2 by omega)
      omega, fun {i} h0 => by
    by_cases ei : i = m
    · rw [ei]; exact n6
    · have r6 := qr 6 i (by omega) (by omega) (by omega)
      have o0 := f_there w (show i < P 0 2 by omega)
      omega, fun {i} h0 => by
      have r7 := qr 7 i (by omega) (by omega) (by omega)
      have o0 := f_all w (show i < P 0 3 by omega)
      omega, fun {i} h0 => by
      have r8 := qr 8 i (by omega) (by omega) (by omega)
      have o0 := f_hun w (show i < P 0 3 by omega)
      omega, fun {i} h0 => by
      have r9 := qr 9 i (by omega) (by omega) (by omega)
      have o0 := f_nose w (show i < P 0 4 by omega)
      omega, fun {i} h0 => by
      have r10 := qr 10 i (by omega) (by omega) (by omega)
      have o0 := f_op w (show i < P 0 4 by omega)
      omega, fun {i} h0 => by
      have r11 := qr 11 i (by omega) (by omega) (by omega)
      have o0 := f_sh w (show i < P 0 4 by omega)
      omega, fun {i} h0 => by
      have r12 := qr 12 i (by omega) (by omega) (by omega)
      have o0 := f_kind w (show i < P 0 5 by omega)
      omega, fun {i} h0 h1 => by
      have r13 := qr 13 i (by omega) (by omega) (by omega)
      have r12 := qr 12 i (by omega) (by omega) (by omega)
      have o0 := f_by w (show i < P 0 5 by omega) (fun c0 => h1 (r12.trans c0))
      omega, fun {i} h0 => by
      have r14 := qr 14 i (by omega) (by omega) (by omega)
      have o0 := f_own w (show i < P 0 5 by omega)
      omega, fun {i} h0 => by
      have r15 := qr 15 i (by omega) (by omega) (by omega)
      have o0 := f_age w (show i < P 0 5 by omega)
      omega, fun {i} h0 => by
      have r16 := qr 16 i (by omega) (by omega) (by omega)
      have o0 := f_wei w (show i < P 0 5 by omega)
      omega, fun {i} h0 => by
      have r17 := qr 17 i (by omega) (by omega) (by omega)
      have o0 := f_wor w (show i < P 0 5 by omega)
      omega, fun {i} h0 => by
      have r18 := qr 18 i (by omega) (by omega) (by omega)
      have o0 := f_cro w (show i < P 0 6 by omega)
      omega, fun {i} h0 => by
      have r19 := qr 19 i (by omega) (by omega) (by omega)
      have o0 := f_gat w (show i < P 0 6 by omega)
      omega, fun {i} h0 => by
      have r20 := qr 20 i (by omega) (by omega) (by omega)
      have o0 := f_day w (show i < P 0 6 by omega)
      omega, fun {i} h0 => by
      have r21 := qr 21 i (by omega) (by omega) (by omega)
      have o0 := f_hour w (show i < P 0 6 by omega)
      omega, fun {i} h0 => by
      have r22 := qr 22 i (by omega) (by omega) (by omega)
      have o0 := f_cm w (show i < P 0 9 by omega)
      omega, fun {i} h0 => by
      have r23 := qr 23 i (by omega) (by omega) (by omega)
      have o0 := f_cd w (show i < P 0 9 by omega)
      omega⟩
