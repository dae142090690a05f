set_option maxRecDepth 16384 in
theorem rm_b {bs : Nat → Int32} {n a m : Nat} {τ : Nat → Nat} (h : (sRm bs n a m τ) 4 = 0) : τ 4 = 0 ∧ a < m := by
  unfold sRm at h
  by_cases c : a < m
  · rw [if_pos c] at h; exact ⟨z_st h, c⟩
  · rw [if_neg c] at h
    by_cases e : τ 4 = 0
    · exact absurd h (sFa_n e (by decide))
    · rw [sFa_1 e] at h; exact absurd h e
set_option maxRecDepth 16384 in
theorem rm_tok {bs : Nat → Int32} {n a m : Nat} {τ : Nat → Nat} (h : (sRm bs n a m τ) 4 = 0) (h2 : τ 2 ≤ n) : tok' n (sRm bs n a m τ) := by
  obtain ⟨e, c⟩ := rm_b h
  unfold sRm
  rw [if_pos c]
  exact tok_st h2 e
set_option maxRecDepth 16384 in
theorem NC_named {P P' : Gh} (nc : NC P) {s k v : Nat} (hs : (s = 1 ∧ k = 2) ∨ (s = 2 ∧ k = 3) ∨ (s = 3 ∧ k = 4) ∨ (s = 4 ∧ k = 5)) (q0 : ∀ j, ¬ j = k → P' 0 j = P 0 j) (q1 : P' 0 k = P 0 k + 1) (qn : ∀ a b, 30 ≤ a → P' a b = adN P v s (P 0 k) a b) (hv : v < 35184372088832) (qp : P' 0 7 = cnt (P' 0 2) (fun i => decide (P' 4 i = 1))) : NC P' := by
  obtain ⟨n1, n2, n3, n4⟩ := nc
  have e30 : P' 30 0 = P 30 0 + 1 := by rw [qn 30 0 (by decide), adN_30]
  refine ⟨?_, fun i hi => ?_, qp, fun i hi => ?_⟩
  · rw [e30, n1]
    rcases hs with ⟨-, rfl⟩ | ⟨-, rfl⟩ | ⟨-, rfl⟩ | ⟨-, rfl⟩
    · rw [q1, q0 3 (by decide), q0 4 (by decide), q0 5 (by decide)]; omega
    · rw [q1, q0 2 (by decide), q0 4 (by decide), q0 5 (by decide)]; omega
    · rw [q1, q0 2 (by decide), q0 3 (by decide), q0 5 (by decide)]; omega
    · rw [q1, q0 2 (by decide), q0 3 (by decide), q0 4 (by decide)]; omega
  · rw [e30] at hi
    rw [qn 31 i (by decide), qn 32 i (by decide), adN_31, adN_32]
    by_cases ei : i = P 30 0
    · rw [if_pos ei, if_pos ei]
      rcases hs with ⟨rfl, rfl⟩ | ⟨rfl, rfl⟩ | ⟨rfl, rfl⟩ | ⟨rfl, rfl⟩
      · exact Or.inl ⟨rfl, by rw [q1]; omega⟩
      · exact Or.inr (Or.inl ⟨rfl, by rw [q1]; omega⟩)
      · exact Or.inr (Or.inr (Or.inl ⟨rfl, by rw [q1]; omega⟩))
      · exact Or.inr (Or.inr (Or.inr ⟨rfl, by rw [q1]; omega⟩))
    · rw [if_neg ei, if_neg ei]
      have := n2 i (by omega)
      have g : ∀ j, P 0 j ≤ P' 0 j := fun j => by
        by_cases c : j = k
        · rw [c, q1]; omega
        · rw [q0 j c]; exact Nat.le_refl _
      have g2 := g 2
      have g3 := g 3
      have g4 := g 4
      have g5 := g 5
      omega
  · rw [e30] at hi
    rw [qn 33 i (by decide), adN_33]
    by_cases ei : i = P 30 0
    · rw [if_pos ei]; exact hv
    · rw [if_neg ei]; exact n4 i (by omega)
set_option maxRecDepth 16384 in
theorem NC_same {P P' : Gh} (nc : NC P) (q2 : P' 0 2 = P 0 2) (q3 : P' 0 3 = P 0 3) (q4 : P' 0 4 = P 0 4) (q5 : P' 0 5 = P 0 5) (q7 : P' 0 7 = P 0 7) (qn : ∀ a b, 30 ≤ a → P' a b = P a b) (qp : ∀ i, i < P 0 2 → P' 4 i = P 4 i) : NC P' := by
  obtain ⟨n1, n2, n3, n4⟩ := nc
  unfold NC
  rw [q2, q3, q4, q5, q7, qn 30 0 (by decide)]
  refine ⟨n1, fun i hi => ?_, ?_, fun i hi => ?_⟩
  · rw [qn 31 i (by decide), qn 32 i (by decide)]; exact n2 i hi
  · rw [n3]; exact cnt_congr (fun i hi => by rw [qp i hi])
  · rw [qn 33 i (by decide)]; exact n4 i hi
set_option maxRecDepth 16384 in
theorem kn_b {s : Nat} {P : Gh} {τ : Nat → Nat} (nc : NC P) (h : (sKn s P τ) 4 = 0) : (s = 1 → knV P τ < P 0 2) ∧ (s = 2 → knV P τ < P 0 3) ∧ (s = 3 → knV P τ < P 0 4) ∧ (s = 4 → knV P τ < P 0 5) := by
  obtain ⟨-, -, i, hf, hs⟩ := sKn_k h
  have hi := (fsm_lt hf).1
  have := nc.2.1 i (by omega)
  unfold knV
  rw [hf]
  show (s = 1 → P 32 i < P 0 2) ∧ (s = 2 → P 32 i < P 0 3) ∧ (s = 3 → P 32 i < P 0 4) ∧ (s = 4 → P 32 i < P 0 5)
  refine ⟨fun e => ?_, fun e => ?_, fun e => ?_, fun e => ?_⟩ <;> omega
set_option maxRecDepth 16384 in
theorem pMe_W {bs : Nat → Int32} {n : Nat} {P : Gh} {τ : Nat → Nat} (w : WF P) (nc : NC P) (h2 : τ 2 ≤ n) (e : (me8 bs n P τ) 4 = 0) : WF (pMe bs n P τ) ∧ NC (pMe bs n P τ) := by
  have z8 : (me8 bs n P τ) 4 = 0 := e
  have z7 : (me7 bs n P τ) 4 = 0 := z_wh z8
  have z6 : (me6 bs n P τ) 4 = 0 := z_wd z7
  have z5 : (me5 bs n P τ) 4 = 0 := z_wh z6
  have z4 : (me4 bs n P τ) 4 = 0 := z_wd z5
  have z3 : (me3 bs n P τ) 4 = 0 := z_wh z4
  have z2 : (me2 bs n P τ) 4 = 0 := z_wd z3
  have z1 : (me1 bs n P τ) 4 = 0 := z_nw z2
  obtain ⟨e0, hk⟩ := rm_b z1
  have tk := rm_tok z1 h2
  refine ⟨WF_a2 w hk pMe_0 pMe_1 pMe_r (by rw [pMe_1v]; exact (wh_b z4).2) (by rw [pMe_2v]; exact (wh_b z6).2) (by rw [pMe_3v]; exact wh_b z8) (by rw [pMe_4v]; decide) (by rw [pMe_5v]; decide) (by rw [pMe_6v]; decide), NC_named nc (s := 1) (k := 2) (by omega) pMe_0 pMe_1 pMe_n (tk.2.2.2.1 (nw_b z2).1) ?_⟩
  rw [pMe_0 7 (by decide), pMe_1, nc.2.2.1, cnt_s, pMe_4v, cnt_congr (p := fun i => decide (pMe bs n P τ 4 i = 1)) (q := fun i => decide (P 4 i = 1)) (fun i hi => by rw [pMe_r 4 i (by decide) (by decide) (by omega)])]
  rfl
set_option maxRecDepth 16384 in
theorem pTr_W {bs : Nat → Int32} {n : Nat} {P : Gh} {τ : Nat → Nat} (w : WF P) (nc : NC P) (h2 : τ 2 ≤ n) (e : (tr6 bs n P τ) 4 = 0) : WF (pTr bs n P τ) ∧ NC (pTr bs n P τ) := by
  have z6 : (tr6 bs n P τ) 4 = 0 := e
  have z5 : (tr5 bs n P τ) 4 = 0 := z_wh z6
  have z4 : (tr4 bs n P τ) 4 = 0 := z_wd z5
  have z3 : (tr3 bs n P τ) 4 = 0 := z_wh z4
  have z2 : (tr2 bs n P τ) 4 = 0 := z_wd z3
  have z1 : (tr1 bs n P τ) 4 = 0 := z_nw z2
  obtain ⟨e0, hk⟩ := rm_b z1
  have tk := rm_tok z1 h2
  refine ⟨WF_a3 w hk pTr_0 pTr_1 pTr_r (by rw [pTr_7v]; exact (wh_b z4).2) (by rw [pTr_8v]; exact (wh_b z6).2), NC_named nc (s := 2) (k := 3) (by omega) pTr_0 pTr_1 pTr_n (tk.2.2.2.1 (nw_b z2).1) ?_⟩
  rw [pTr_0 7 (by decide), pTr_0 2 (by decide), nc.2.2.1]
  exact cnt_congr (fun i hi => by rw [pTr_r 4 i (by decide) (by decide) (by omega)])
set_option maxRecDepth 16384 in
theorem pGa_W {bs : Nat → Int32} {n : Nat} {P : Gh} {τ : Nat → Nat} (w : WF P) (nc : NC P) (h2 : τ 2 ≤ n) (e : (ga8 bs n P τ) 4 = 0) : WF (pGa bs n P τ) ∧ NC (pGa bs n P τ) := by
  have z8 : (ga8 bs n P τ) 4 = 0 := e
  have z7 : (ga7 bs n P τ) 4 = 0 := z_wh z8
  have z6 : (ga6 bs n P τ) 4 = 0 := z_wd z7
  have z5 : (ga5 bs n P τ) 4 = 0 := z_wh z6
  have z4 : (ga4 bs n P τ) 4 = 0 := z_wd z5
  have z3 : (ga3 bs n P τ) 4 = 0 := z_wh z4
  have z2 : (ga2 bs n P τ) 4 = 0 := z_wd z3
  have z1 : (ga1 bs n P τ) 4 = 0 := z_nw z2
  obtain ⟨e0, hk⟩ := rm_b z1
  have tk := rm_tok z1 h2
  refine ⟨WF_a4 w hk pGa_0 pGa_1 pGa_r (by rw [pGa_9v]; exact wh_b z4) (by rw [pGa_10v]; exact (wh_b z6).2) (by rw [pGa_11v]; exact (wh_b z8).2), NC_named nc (s := 3) (k := 4) (by omega) pGa_0 pGa_1 pGa_n (tk.2.2.2.1 (nw_b z2).1) ?_⟩
  rw [pGa_0 7 (by decide), pGa_0 2 (by decide), nc.2.2.1]
  exact cnt_congr (fun i hi => by rw [pGa_r 4 i (by decide) (by decide) (by omega)])
set_option maxRecDepth 16384 in
theorem go_z {bs : Nat → Int32} {n : Nat} {P : Gh} {τ : Nat → Nat} (e : (go13 bs n P τ) 4 = 0) : ((go12 bs n P τ) 4 = 0 ∧ (go11 bs n P τ) 4 = 0 ∧ (go10 bs n P τ) 4 = 0 ∧ (go9 bs n P τ) 4 = 0 ∧ (go8 bs n P τ) 4 = 0 ∧ (go7 bs n P τ) 4 = 0) ∧ (go4 bs n P τ) 4 = 0 ∧ (sKn 2 P (go3 bs n P τ)) 4 = 0 ∧ (go3 bs n P τ) 4 = 0 ∧ (go2 bs n P τ) 4 = 0 ∧ (go1 bs n P τ) 4 = 0 ∧ (¬ kd (go2 bs n P τ) = 0 → (sKn 1 P (go5 bs n P τ)) 4 = 0) := by
  have z13 : (go13 bs n P τ) 4 = 0 := e
  have z12 : (go12 bs n P τ) 4 = 0 := z_wh z13
  have z11 : (go11 bs n P τ) 4 = 0 := z_wd z12
  have z10 : (go10 bs n P τ) 4 = 0 := z_wh z11
  have z9 : (go9 bs n P τ) 4 = 0 := z_wd z10
  have z8 : (go8 bs n P τ) 4 = 0 := z_wh z9
  have z7 : (go7 bs n P τ) 4 = 0 := z_wd z8
  have z4 : (go4 bs n P τ) 4 = 0 := by
    have q := z7
    unfold go7 at q
    by_cases c : kd (go2 bs n P τ) = 0
    · rw [if_pos c] at q; exact q
    · rw [if_neg c] at q
      have z5 : (go5 bs n P τ) 4 = 0 := z_kn (z_st q)
      exact z_wd z5
  refine ⟨⟨z12, z11, z10, z9, z8, z7⟩, z4, z_st z4, z_kn (z_st z4), z_ki (z_kn (z_st z4)), z_nw (z_ki (z_kn (z_st z4))), fun c => ?_⟩
  have q := z7
  unfold go7 at q
  rw [if_neg c] at q
  exact z_st q
set_option maxRecDepth 16384 in
theorem kd_le (τ : Nat → Nat) : kd τ ≤ 4 := by
  unfold kd
  cases isW 22 τ
  · cases isW 23 τ
    · cases isW 24 τ
      · cases isW 25 τ <;> decide
      · simp only [cond_false, cond_true]; decide
    · simp only [cond_false, cond_true]; decide
  · simp only [cond_true]; decide
set_option maxRecDepth 16384 in
theorem pGo_W {bs : Nat → Int32} {n : Nat} {P : Gh} {τ : Nat → Nat} (w : WF P) (nc : NC P) (h2 : τ 2 ≤ n) (e : (go13 bs n P τ) 4 = 0) : WF (pGo bs n P τ) ∧ NC (pGo bs n P τ) := by
  obtain ⟨⟨z12, z11, z10, z9, z8, z7⟩, z4, zk, z3, z2, z1, zb⟩ := go_z e
  obtain ⟨e0, hk⟩ := rm_b z1
  have tk := rm_tok z1 h2
  refine ⟨WF_a5 w hk pGo_0 pGo_1 pGo_r (by rw [pGo_12v]; exact kd_le _) (by rw [pGo_12v, pGo_13v]; intro c; exact (kn_b nc (zb c)).1 rfl) (by rw [pGo_14v]; exact (kn_b nc zk).2.1 rfl) (by rw [pGo_15v]; exact (wh_b z9).2) (by rw [pGo_16v]; exact wh_b z11) (by rw [pGo_17v]; exact (wh_b e).2), NC_named nc (s := 4) (k := 5) (by omega) pGo_0 pGo_1 pGo_n (tk.2.2.2.1 (nw_b z2).1) ?_⟩
  rw [pGo_0 7 (by decide), pGo_0 2 (by decide), nc.2.2.1]
  exact cnt_congr (fun i hi => by rw [pGo_r 4 i (by decide) (by decide) (by omega)])
set_option maxRecDepth 16384 in
theorem cr_z {bs : Nat → Int32} {n : Nat} {P : Gh} {τ : Nat → Nat} (e : (cr9 bs n P τ) 4 = 0) : (cr8 bs n P τ) 4 = 0 ∧ (cr7 bs n P τ) 4 = 0 ∧ (cr6 bs n P τ) 4 = 0 ∧ (cr5 bs n P τ) 4 = 0 ∧ (cr4 bs n P τ) 4 = 0 ∧ (cr3 bs n P τ) 4 = 0 ∧ (cr2 bs n P τ) 4 = 0 ∧ (cr1 bs n P τ) 4 = 0 := by
  have z8 : (cr8 bs n P τ) 4 = 0 := z_wh e
  have z7 : (cr7 bs n P τ) 4 = 0 := z_wd z8
  have z6 : (cr6 bs n P τ) 4 = 0 := z_wh z7
  have z5 : (cr5 bs n P τ) 4 = 0 := z_wd z6
  have z4 : (cr4 bs n P τ) 4 = 0 := z_st z5
  have z3 : (cr3 bs n P τ) 4 = 0 := z_kn z4
  have z2 : (cr2 bs n P τ) 4 = 0 := z_st z3
  exact ⟨z8, z7, z6, z5, z4, z3, z2, z_kn z2⟩
set_option maxRecDepth 16384 in
theorem pCr_W {bs : Nat → Int32} {n : Nat} {P : Gh} {τ : Nat → Nat} (w : WF P) (nc : NC P) (e : (cr9 bs n P τ) 4 = 0) : WF (pCr bs n P τ) ∧ NC (pCr bs n P τ) := by
  obtain ⟨z8, z7, z6, z5, z4, z3, z2, z1⟩ := cr_z e
  obtain ⟨e0, hk⟩ := rm_b z1
  exact ⟨WF_a6 w hk pCr_0 pCr_1 pCr_r (by rw [pCr_18v]; exact (kn_b nc z2).2.1 rfl) (by rw [pCr_19v]; exact (kn_b nc z4).2.2.1 rfl) (by rw [pCr_20v]; exact (wh_b z7).2) (by rw [pCr_21v]; exact (wh_b e).2), NC_same nc (pCr_0 2 (by decide)) (pCr_0 3 (by decide)) (pCr_0 4 (by decide)) (pCr_0 5 (by decide)) (pCr_0 7 (by decide)) pCr_n (fun i _ => pCr_r 4 i (by decide) (by decide) (by omega))⟩
set_option maxRecDepth 16384 in
theorem cu_z {bs : Nat → Int32} {n : Nat} {P : Gh} {τ : Nat → Nat} (e : (cu5 bs n P τ) 4 = 0) : (cu4 bs n P τ) 4 = 0 ∧ (cu3 bs n P τ) 4 = 0 ∧ (cu2 bs n P τ) 4 = 0 ∧ (cu1 bs n P τ) 4 = 0 := by
  have z4 : (cu4 bs n P τ) 4 = 0 := z_wh e
  have z3 : (cu3 bs n P τ) 4 = 0 := z_wd z4
  have z2 : (cu2 bs n P τ) 4 = 0 := z_st z3
  exact ⟨z4, z3, z2, z_kn z2⟩
set_option maxRecDepth 16384 in
theorem pCu_W {bs : Nat → Int32} {n : Nat} {P : Gh} {τ : Nat → Nat} (w : WF P) (nc : NC P) (e : (cu5 bs n P τ) 4 = 0) : WF (pCu bs n P τ) ∧ NC (pCu bs n P τ) := by
  obtain ⟨z4, z3, z2, z1⟩ := cu_z e
  obtain ⟨e0, hk⟩ := rm_b z1
  exact ⟨WF_a9 w hk pCu_0 pCu_1 pCu_r (by rw [pCu_22v]; exact (kn_b nc z2).1 rfl) (by rw [pCu_23v]; exact (wh_b e).2), NC_same nc (pCu_0 2 (by decide)) (pCu_0 3 (by decide)) (pCu_0 4 (by decide)) (pCu_0 5 (by decide)) (pCu_0 7 (by decide)) pCu_n (fun i _ => pCu_r 4 i (by decide) (by decide) (by omega))⟩
set_option maxRecDepth 16384 in
theorem c39 {h : A_H} {bs : Nat → Int32} {n : Nat} {τ : Nat → Nat} {T : Nat} {P : Gh} (L : Ly h) (t : CKt h bs n τ) (e0 : τ 4 = 0) (hT : isT T) (h22 : hP h 2 2 = some T) (r : CRs h) (c : CN h P) (ct : CT h T P) (w : WF P) (cl : CL h T P) (nc : NC P) : ∃ h', C 39 [.ref 2] h = some (some none, h') ∧ RD T h h' ∧ CKt h' bs n (me8 bs n P τ) ∧ ((me8 bs n P τ) 4 = 0 → CT h' T (pMe bs n P τ) ∧ CN h' (pMe bs n P τ) ∧ CL h' T (pMe bs n P τ)) := by
  have k2 := f_nm w
  have k3 := f_nt w
  have k4 := f_ng w
  have k5 := f_nG w
  have hn1 := nc.1
  have q0 := nT hT (show 0 < 35 by decide)
  obtain ⟨h1, g1, f1, t1⟩ := c37 L t (a := P 0 2) (m := 4) (by omega) (by decide)
  have g1 : C 37 [.ref 2, .int (nI (P 0 2)), .int 4] h = some (some (some (.int (bI (decide (P 0 2 < 4))))), h1) := g1
  have t1 : CKt h1 bs n (me1 bs n P τ) := t1
  by_cases cm : P 0 2 < 4
  · rw [dT cm, bI_T] at g1
    have qr := nT hT (show 10 + P 0 2 < 35 by omega)
    rw [← Nat.add_assoc] at qr
    have z1 : (me1 bs n P τ) 4 = 0 := by unfold me1 sRm; rw [if_pos cm]; exact sSt_z e0
    have L1 := FB_Ly f1 L
    obtain ⟨h2, g2, f2, t2, -, c2⟩ := c34 L1 t1 (CRs_FB f1 r) (CN_FB f1 c) (by omega) z1 (s := 1) (k := P 0 2) (by decide) (by show _ < 4; exact cm)
    have g2 : C 34 [.ref 2, .int 1, .int (nI (P 0 2))] h1 = some (some none, h2) := g2
    have t2 : CKt h2 bs n (me2 bs n P τ) := t2
    have L2 := FG_Ly f2 L1
    obtain ⟨h3, g3, f3, t3⟩ := c29 L2 t2 (x := 14) (by decide) (by decide)
    have t3 : CKt h3 bs n (me3 bs n P τ) := t3
    have L3 := FB_Ly f3 L2
    obtain ⟨m4, h4, g4, f4, t4, b4, v4⟩ := c30 L3 t3 (lo := 0) (hi := 9) (by first | decide | exact b6) (by decide)
    have g4 : C 30 [.ref 2, .int 0, .int 9] h3 = some (some (some (.int (nI m4))), h4) := g4
    have L4 := FB_Ly f4 L3
    have L4' : Ly (wI h4 (T + 10 + P 0 2) 0 (nI m4)) := L4
    have t4 := CKt_w t4 (a := T + 10 + P 0 2) (b := 0) (nI m4) (by omega) (by omega)
    have t4 : CKt (wI h4 (T + 10 + P 0 2) 0 (nI m4)) bs n (me4 bs n P τ) := t4
    obtain ⟨h5, g5, f5, t5⟩ := c29 L4' t4 (x := 15) (by decide) (by decide)
    have t5 : CKt h5 bs n (me5 bs n P τ) := t5
    have L5 := FB_Ly f5 L4'
    obtain ⟨m6, h6, g6, f6, t6, b6, v6⟩ := c30 L5 t5 (lo := 0) (hi := 9) (by first | decide | exact b6) (by decide)
    have g6 : C 30 [.ref 2, .int 0, .int 9] h5 = some (some (some (.int (nI m6))), h6) := g6
    have L6 := FB_Ly f6 L5
    have L6' : Ly (wI h6 (T + 10 + P 0 2) 1 (nI m6)) := L6
    have t6 := CKt_w t6 (a := T + 10 + P 0 2) (b := 1) (nI m6) (by omega) (by omega)
    have t6 : CKt (wI h6 (T + 10 + P 0 2) 1 (nI m6)) bs n (me6 bs n P τ) := t6
    obtain ⟨h7, g7, f7, t7⟩ := c29 L6' t6 (x := 16) (by decide) (by decide)
    have t7 : CKt h7 bs n (me7 bs n P τ) := t7
    have L7 := FB_Ly f7 L6'
    obtain ⟨m8, h8, g8, f8, t8, b8, v8⟩ := c30 L7 t7 (lo := 1) (hi := 300) (by first | decide | exact b6) (by decide)
    have g8 : C 30 [.ref 2, .int 1, .int 300] h7 = some (some (some (.int (nI m8))), h8) := g8
    have L8 := FB_Ly f8 L7
    have L8' : Ly (wI h8 (T + 10 + P 0 2) 2 (nI m8)) := L8
    have t8 := CKt_w t8 (a := T + 10 + P 0 2) (b := 2) (nI m8) (by omega) (by omega)
    have t8 : CKt (wI h8 (T + 10 + P 0 2) 2 (nI m8)) bs n (me8 bs n P τ) := t8
    have hT2 : hI (wI h8 (T + 10 + P 0 2) 2 (nI m8)) T 2 = nI (P 0 2) := by rw [hI_wI, if_neg (by omega), TR_B hT f8 (by omega) (by omega), TR_B hT f7 (by omega) (by omega), hI_wI, if_neg (by omega), TR_B hT f6 (by omega) (by omega), TR_B hT f5 (by omega) (by omega), hI_wI, if_neg (by omega), TR_B hT f4 (by omega) (by omega), TR_B hT f3 (by omega) (by omega), TR_G hT f2 (by omega) (by omega), TR_B hT f1 (by omega) (by omega)]; exact c_s2 ct
    have rd : RD T h (wI (wI h8 (T + 10 + P 0 2) 2 (nI m8)) T 2 (nI (P 0 2 + 1))) := RD_w (RD_w (RD_B (RD_B (RD_w (RD_B (RD_B (RD_w (RD_B (RD_B (RD_G (RD_B (RD_rfl T h) f1) f2) f3) f4) _ (by omega)) f5) f6) _ (by omega)) f7) f8) _ (by omega)) _ (by omega)
    refine ⟨(wI (wI h8 (T + 10 + P 0 2) 2 (nI m8)) T 2 (nI (P 0 2 + 1))), ?_, rd, CKt_w t8 _ (by omega) (by omega), fun e => ?_⟩
    · rw [e39]
      have p1 : hP h1 2 2 = some T := by rw [FB_P f1]; exact h22
      have p2 : hP h2 2 2 = some T := by rw [FG_P f2]; exact p1
      have p3 : hP h3 2 2 = some T := by rw [FB_P f3]; exact p2
      have p4 : hP h4 2 2 = some T := by rw [FB_P f4]; exact p3
      have p5 : hP h5 2 2 = some T := by rw [FB_P f5]; exact p4
      have p6 : hP h6 2 2 = some T := by rw [FB_P f6]; exact p5
      have p7 : hP h7 2 2 = some T := by rw [FB_P f7]; exact p6
      have p8 : hP h8 2 2 = some T := by rw [FB_P f8]; exact p7
      simp only [b39_0, b39_8, b39_20, b39_23, b39_28, b39_29, b39_32, b39_37, b39_38, b39_41, b39_46, b39_47, b39_54, cond_true, cond_false, decide_true, Bool.and_true, Bool.true_and, Bool.and_self, Bool.and_false, Bool.false_and, Bool.not_true, Bool.not_false, Bool.or_true, Bool.true_or, Bool.or_false, Bool.false_or, is_some, gd_some, bk_v, bk_u, isO_wI, hP_wI, isA_wI, x_O2 L, h22, t_O L hT, c_s2 ct, g1, g2, g3, g4, g5, g6, g7, g8, i1_0, x_O2 L1, p1, x_O2 L2, p2, x_O2 L3, p3, x_O2 L4, p4, x_O2 L5, p5, x_O2 L6, p6, x_O2 L7, p7, x_O2 L8, p8, t_O L1 hT, t_P9 L1 hT, t_Am L1 hT cm, w_cl (show P 0 2 < 2147483648 by omega), t_Em L1 hT cm, t_Om L3 hT cm, t_Om L4 hT cm, t_Om L5 hT cm, t_Om L6 hT cm, t_Om L7 hT cm, t_Om L8 hT cm, t_O L8 hT, hT2, w_s]
    · have zz8 : (me8 bs n P τ) 4 = 0 := e
      have zz7 : (me7 bs n P τ) 4 = 0 := z_wh zz8
      have zz6 : (me6 bs n P τ) 4 = 0 := z_wd zz7
      have zz5 : (me5 bs n P τ) 4 = 0 := z_wh zz6
      have zz4 : (me4 bs n P τ) 4 = 0 := z_wd zz5
      have zz3 : (me3 bs n P τ) 4 = 0 := z_wh zz4
      have zz2 : (me2 bs n P τ) 4 = 0 := z_wd zz3
      have fr : ∀ a b, T ≤ a → a < T + 35 → ¬ a = T + 9 → ¬ (a = T ∧ b = 2) → ¬ (a = T + 10 + P 0 2) → hI (wI (wI h8 (T + 10 + P 0 2) 2 (nI m8)) T 2 (nI (P 0 2 + 1))) a b = hI h a b := by
        intro a b i1 i2 i3 i4 i5
        rw [hI_wI, if_neg (by omega), hI_wI, if_neg (by omega), TR_B hT f8 (by omega) (by omega), TR_B hT f7 (by omega) (by omega), hI_wI, if_neg (by omega), TR_B hT f6 (by omega) (by omega), TR_B hT f5 (by omega) (by omega), hI_wI, if_neg (by omega), TR_B hT f4 (by omega) (by omega), TR_B hT f3 (by omega) (by omega), TR_G hT f2 (by omega) (by omega), TR_B hT f1 (by omega) (by omega)]
      refine ⟨CT_a2 w ct cm pMe_0 pMe_1 pMe_r fr (by rw [hI_wI, if_pos ⟨rfl, rfl⟩]) (by rw [pMe_1v, hI_wI, if_neg (by omega), hI_wI, if_neg (by omega), TR_B hT f8 (by omega) (by omega), TR_B hT f7 (by omega) (by omega), hI_wI, if_neg (by omega), TR_B hT f6 (by omega) (by omega), TR_B hT f5 (by omega) (by omega), hI_wI, if_pos ⟨rfl, rfl⟩, v4 zz4]) (by rw [pMe_2v, hI_wI, if_neg (by omega), hI_wI, if_neg (by omega), TR_B hT f8 (by omega) (by omega), TR_B hT f7 (by omega) (by omega), hI_wI, if_pos ⟨rfl, rfl⟩, v6 zz6]) (by rw [pMe_3v, hI_wI, if_neg (by omega), hI_wI, if_pos ⟨rfl, rfl⟩, v8 zz8]) (by rw [pMe_4v, hI_wI, if_neg (by omega), hI_wI, if_neg (by omega), TR_B hT f8 (by omega) (by omega), TR_B hT f7 (by omega) (by omega), hI_wI, if_neg (by omega), TR_B hT f6 (by omega) (by omega), TR_B hT f5 (by omega) (by omega), hI_wI, if_neg (by omega), TR_B hT f4 (by omega) (by omega), TR_B hT f3 (by omega) (by omega), TR_G hT f2 (by omega) (by omega), TR_B hT f1 (by omega) (by omega)]; exact cl _ (Nat.le_refl _) cm) pMe_4v, ?_, ?_⟩
      · exact CN_eq (CN_w (CN_w (CN_FB f8 (CN_FB f7 (CN_w (CN_FB f6 (CN_FB f5 (CN_w (CN_FB f4 (CN_FB f3 (c2 zz2))) _ (by omega)))) _ (by omega)))) _ (by omega)) _ (by omega)) pMe_n
      · intro i hi h4
        rw [pMe_1] at hi
        rw [fr _ _ (by omega) (by omega) (by omega) (by omega) (by omega)]
        exact cl i (by omega) h4
  · rw [dF cm, bI_F] at g1
    have ne : ¬ (me1 bs n P τ) 4 = 0 := by unfold me1 sRm; rw [if_neg cm]; exact sFa_n e0 (by decide)
    have le : me8 bs n P τ = me1 bs n P τ := by
      unfold me8 me7 me6 me5 me4 me3 me2
      rw [sNw_1 ne, sWd_1 ne, sWh_1 ne, sWd_1 ne, sWh_1 ne, sWd_1 ne, sWh_1 ne]
    refine ⟨h1, ?_, RD_B (RD_rfl T h) f1, by rw [le]; exact t1, fun e => absurd (le ▸ e) ne⟩
    rw [e39]
    simp only [b39_0, b39_8, cond_true, cond_false, decide_true, Bool.and_true, Bool.true_and, Bool.and_self, Bool.and_false, Bool.false_and, Bool.not_true, Bool.not_false, Bool.or_true, Bool.true_or, Bool.or_false, Bool.false_or, is_some, gd_some, bk_v, bk_u, x_O2 L, h22, t_O L hT, c_s2 ct, g1]
set_option maxRecDepth 16384 in
theorem c40 {h : A_H} {bs : Nat → Int32} {n : Nat} {τ : Nat → Nat} {T : Nat} {P : Gh} (L : Ly h) (t : CKt h bs n τ) (e0 : τ 4 = 0) (hT : isT T) (h22 : hP h 2 2 = some T) (r : CRs h) (c : CN h P) (ct : CT h T P) (w : WF P) (cl : CL h T P) (nc : NC P) : ∃ h', C 40 [.ref 2] h = some (some none, h') ∧ RD T h h' ∧ CKt h' bs n (tr6 bs n P τ) ∧ ((tr6 bs n P τ) 4 = 0 → CT h' T (pTr bs n P τ) ∧ CN h' (pTr bs n P τ) ∧ CL h' T (pTr bs n P τ)) := by
  have k2 := f_nm w
  have k3 := f_nt w
  have k4 := f_ng w
  have k5 := f_nG w
  have hn1 := nc.1
  have q0 := nT hT (show 0 < 35 by decide)
  obtain ⟨h1, g1, f1, t1⟩ := c37 L t (a := P 0 3) (m := 4) (by omega) (by decide)
  have g1 : C 37 [.ref 2, .int (nI (P 0 3)), .int 4] h = some (some (some (.int (bI (decide (P 0 3 < 4))))), h1) := g1
  have t1 : CKt h1 bs n (tr1 bs n P τ) := t1
  by_cases cm : P 0 3 < 4
  · rw [dT cm, bI_T] at g1
    have qr := nT hT (show 14 + P 0 3 < 35 by omega)
    rw [← Nat.add_assoc] at qr
    have z1 : (tr1 bs n P τ) 4 = 0 := by unfold tr1 sRm; rw [if_pos cm]; exact sSt_z e0
    have L1 := FB_Ly f1 L
    obtain ⟨h2, g2, f2, t2, -, c2⟩ := c34 L1 t1 (CRs_FB f1 r) (CN_FB f1 c) (by omega) z1 (s := 2) (k := P 0 3) (by decide) (by show _ < 4; exact cm)
    have g2 : C 34 [.ref 2, .int 2, .int (nI (P 0 3))] h1 = some (some none, h2) := g2
    have t2 : CKt h2 bs n (tr2 bs n P τ) := t2
    have L2 := FG_Ly f2 L1
    obtain ⟨h3, g3, f3, t3⟩ := c29 L2 t2 (x := 17) (by decide) (by decide)
    have t3 : CKt h3 bs n (tr3 bs n P τ) := t3
    have L3 := FB_Ly f3 L2
    obtain ⟨m4, h4, g4, f4, t4, b4, v4⟩ := c30 L3 t3 (lo := 0) (hi := 99) (by first | decide | exact b6) (by decide)
    have g4 : C 30 [.ref 2, .int 0, .int 99] h3 = some (some (some (.int (nI m4))), h4) := g4
    have L4 := FB_Ly f4 L3
    have L4' : Ly (wI h4 (T + 14 + P 0 3) 0 (nI m4)) := L4
    have t4 := CKt_w t4 (a := T + 14 + P 0 3) (b := 0) (nI m4) (by omega) (by omega)
    have t4 : CKt (wI h4 (T + 14 + P 0 3) 0 (nI m4)) bs n (tr4 bs n P τ) := t4
    obtain ⟨h5, g5, f5, t5⟩ := c29 L4' t4 (x := 18) (by decide) (by decide)
    have t5 : CKt h5 bs n (tr5 bs n P τ) := t5
    have L5 := FB_Ly f5 L4'
    obtain ⟨m6, h6, g6, f6, t6, b6, v6⟩ := c30 L5 t5 (lo := 0) (hi := 3) (by first | decide | exact b6) (by decide)
    have g6 : C 30 [.ref 2, .int 0, .int 3] h5 = some (some (some (.int (nI m6))), h6) := g6
    have L6 := FB_Ly f6 L5
    have L6' : Ly (wI h6 (T + 14 + P 0 3) 1 (nI m6)) := L6
    have t6 := CKt_w t6 (a := T + 14 + P 0 3) (b := 1) (nI m6) (by omega) (by omega)
    have t6 : CKt (wI h6 (T + 14 + P 0 3) 1 (nI m6)) bs n (tr6 bs n P τ) := t6
    have hT2 : hI (wI h6 (T + 14 + P 0 3) 1 (nI m6)) T 3 = nI (P 0 3) := by rw [hI_wI, if_neg (by omega), TR_B hT f6 (by omega) (by omega), TR_B hT f5 (by omega) (by omega), hI_wI, if_neg (by omega), TR_B hT f4 (by omega) (by omega), TR_B hT f3 (by omega) (by omega), TR_G hT f2 (by omega) (by omega), TR_B hT f1 (by omega) (by omega)]; exact c_s3 ct
    have rd : RD T h (wI (wI h6 (T + 14 + P 0 3) 1 (nI m6)) T 3 (nI (P 0 3 + 1))) := RD_w (RD_w (RD_B (RD_B (RD_w (RD_B (RD_B (RD_G (RD_B (RD_rfl T h) f1) f2) f3) f4) _ (by omega)) f5) f6) _ (by omega)) _ (by omega)
    refine ⟨(wI (wI h6 (T + 14 + P 0 3) 1 (nI m6)) T 3 (nI (P 0 3 + 1))), ?_, rd, CKt_w t6 _ (by omega) (by omega), fun e => ?_⟩
    · rw [e40]
      have p1 : hP h1 2 2 = some T := by rw [FB_P f1]; exact h22
      have p2 : hP h2 2 2 = some T := by rw [FG_P f2]; exact p1
      have p3 : hP h3 2 2 = some T := by rw [FB_P f3]; exact p2
      have p4 : hP h4 2 2 = some T := by rw [FB_P f4]; exact p3
      have p5 : hP h5 2 2 = some T := by rw [FB_P f5]; exact p4
      have p6 : hP h6 2 2 = some T := by rw [FB_P f6]; exact p5
      simp only [b40_0, b40_8, b40_20, b40_23, b40_28, b40_29, b40_32, b40_37, b40_38, b40_45, cond_true, cond_false, decide_true, Bool.and_true, Bool.true_and, Bool.and_self, Bool.and_false, Bool.false_and, Bool.not_true, Bool.not_false, Bool.or_true, Bool.true_or, Bool.or_false, Bool.false_or, is_some, gd_some, bk_v, bk_u, isO_wI, hP_wI, isA_wI, x_O2 L, h22, t_O L hT, c_s3 ct, g1, g2, g3, g4, g5, g6, i1_0, x_O2 L1, p1, x_O2 L2, p2, x_O2 L3, p3, x_O2 L4, p4, x_O2 L5, p5, x_O2 L6, p6, t_O L1 hT, t_P10 L1 hT, t_At L1 hT cm, w_cl (show P 0 3 < 2147483648 by omega), t_Et L1 hT cm, t_Ot L3 hT cm, t_Ot L4 hT cm, t_Ot L5 hT cm, t_Ot L6 hT cm, t_O L6 hT, hT2, w_s]
    · have zz6 : (tr6 bs n P τ) 4 = 0 := e
      have zz5 : (tr5 bs n P τ) 4 = 0 := z_wh zz6
      have zz4 : (tr4 bs n P τ) 4 = 0 := z_wd zz5
      have zz3 : (tr3 bs n P τ) 4 = 0 := z_wh zz4
      have zz2 : (tr2 bs n P τ) 4 = 0 := z_wd zz3
      have fr : ∀ a b, T ≤ a → a < T + 35 → ¬ a = T + 9 → ¬ (a = T ∧ b = 3) → ¬ (a = T + 14 + P 0 3 ∧ ¬ b = 2) → hI (wI (wI h6 (T + 14 + P 0 3) 1 (nI m6)) T 3 (nI (P 0 3 + 1))) a b = hI h a b := by
        intro a b i1 i2 i3 i4 i5
        rw [hI_wI, if_neg (by omega), hI_wI, if_neg (by omega), TR_B hT f6 (by omega) (by omega), TR_B hT f5 (by omega) (by omega), hI_wI, if_neg (by omega), TR_B hT f4 (by omega) (by omega), TR_B hT f3 (by omega) (by omega), TR_G hT f2 (by omega) (by omega), TR_B hT f1 (by omega) (by omega)]
      refine ⟨CT_a3 w ct cm pTr_0 pTr_1 pTr_r fr (by rw [hI_wI, if_pos ⟨rfl, rfl⟩]) (by rw [pTr_7v, hI_wI, if_neg (by omega), hI_wI, if_neg (by omega), TR_B hT f6 (by omega) (by omega), TR_B hT f5 (by omega) (by omega), hI_wI, if_pos ⟨rfl, rfl⟩, v4 zz4]) (by rw [pTr_8v, hI_wI, if_neg (by omega), hI_wI, if_pos ⟨rfl, rfl⟩, v6 zz6]), ?_, ?_⟩
      · exact CN_eq (CN_w (CN_w (CN_FB f6 (CN_FB f5 (CN_w (CN_FB f4 (CN_FB f3 (c2 zz2))) _ (by omega)))) _ (by omega)) _ (by omega)) pTr_n
      · intro i hi h4
        rw [pTr_0 2 (by decide)] at hi
        rw [fr _ _ (by omega) (by omega) (by omega) (by omega) (by omega)]
        exact cl i hi h4
  · rw [dF cm, bI_F] at g1
    have ne : ¬ (tr1 bs n P τ) 4 = 0 := by unfold tr1 sRm; rw [if_neg cm]; exact sFa_n e0 (by decide)
    have le : tr6 bs n P τ = tr1 bs n P τ := by
      unfold tr6 tr5 tr4 tr3 tr2
      rw [sNw_1 ne, sWd_1 ne, sWh_1 ne, sWd_1 ne, sWh_1 ne]
    refine ⟨h1, ?_, RD_B (RD_rfl T h) f1, by rw [le]; exact t1, fun e => absurd (le ▸ e) ne⟩
    rw [e40]
    simp only [b40_0, b40_8, cond_true, cond_false, decide_true, Bool.and_true, Bool.true_and, Bool.and_self, Bool.and_false, Bool.false_and, Bool.not_true, Bool.not_false, Bool.or_true, Bool.true_or, Bool.or_false, Bool.false_or, is_some, gd_some, bk_v, bk_u, x_O2 L, h22, t_O L hT, c_s3 ct, g1]
set_option maxRecDepth 16384 in
theorem c41 {h : A_H} {bs : Nat → Int32} {n : Nat} {τ : Nat → Nat} {T : Nat} {P : Gh} (L : Ly h) (t : CKt h bs n τ) (e0 : τ 4 = 0) (hT : isT T) (h22 : hP h 2 2 = some T) (r : CRs h) (c : CN h P) (ct : CT h T P) (w : WF P) (cl : CL h T P) (nc : NC P) : ∃ h', C 41 [.ref 2] h = some (some none, h') ∧ RD T h h' ∧ CKt h' bs n (ga8 bs n P τ) ∧ ((ga8 bs n P τ) 4 = 0 → CT h' T (pGa bs n P τ) ∧ CN h' (pGa bs n P τ) ∧ CL h' T (pGa bs n P τ)) := by
  have k2 := f_nm w
  have k3 := f_nt w
  have k4 := f_ng w
  have k5 := f_nG w
  have hn1 := nc.1
  have q0 := nT hT (show 0 < 35 by decide)
  obtain ⟨h1, g1, f1, t1⟩ := c37 L t (a := P 0 4) (m := 3) (by omega) (by decide)
  have g1 : C 37 [.ref 2, .int (nI (P 0 4)), .int 3] h = some (some (some (.int (bI (decide (P 0 4 < 3))))), h1) := g1
  have t1 : CKt h1 bs n (ga1 bs n P τ) := t1
  by_cases cm : P 0 4 < 3
  · rw [dT cm, bI_T] at g1
    have qr := nT hT (show 18 + P 0 4 < 35 by omega)
    rw [← Nat.add_assoc] at qr
    have z1 : (ga1 bs n P τ) 4 = 0 := by unfold ga1 sRm; rw [if_pos cm]; exact sSt_z e0
    have L1 := FB_Ly f1 L
    obtain ⟨h2, g2, f2, t2, -, c2⟩ := c34 L1 t1 (CRs_FB f1 r) (CN_FB f1 c) (by omega) z1 (s := 3) (k := P 0 4) (by decide) (by show _ < 3; exact cm)
    have g2 : C 34 [.ref 2, .int 3, .int (nI (P 0 4))] h1 = some (some none, h2) := g2
    have t2 : CKt h2 bs n (ga2 bs n P τ) := t2
    have L2 := FG_Ly f2 L1
    obtain ⟨h3, g3, f3, t3⟩ := c29 L2 t2 (x := 19) (by decide) (by decide)
    have t3 : CKt h3 bs n (ga3 bs n P τ) := t3
    have L3 := FB_Ly f3 L2
    obtain ⟨m4, h4, g4, f4, t4, b4, v4⟩ := c30 L3 t3 (lo := 1) (hi := 99) (by first | decide | exact b6) (by decide)
    have g4 : C 30 [.ref 2, .int 1, .int 99] h3 = some (some (some (.int (nI m4))), h4) := g4
    have L4 := FB_Ly f4 L3
    have L4' : Ly (wI h4 (T + 18 + P 0 4) 0 (nI m4)) := L4
    have t4 := CKt_w t4 (a := T + 18 + P 0 4) (b := 0) (nI m4) (by omega) (by omega)
    have t4 : CKt (wI h4 (T + 18 + P 0 4) 0 (nI m4)) bs n (ga4 bs n P τ) := t4
    obtain ⟨h5, g5, f5, t5⟩ := c29 L4' t4 (x := 20) (by decide) (by decide)
    have t5 : CKt h5 bs n (ga5 bs n P τ) := t5
    have L5 := FB_Ly f5 L4'
    obtain ⟨m6, h6, g6, f6, t6, b6, v6⟩ := c30 L5 t5 (lo := 0) (hi := 23) (by first | decide | exact b6) (by decide)
    have g6 : C 30 [.ref 2, .int 0, .int 23] h5 = some (some (some (.int (nI m6))), h6) := g6
    have L6 := FB_Ly f6 L5
    have L6' : Ly (wI h6 (T + 18 + P 0 4) 1 (nI m6)) := L6
    have t6 := CKt_w t6 (a := T + 18 + P 0 4) (b := 1) (nI m6) (by omega) (by omega)
    have t6 : CKt (wI h6 (T + 18 + P 0 4) 1 (nI m6)) bs n (ga6 bs n P τ) := t6
    obtain ⟨h7, g7, f7, t7⟩ := c29 L6' t6 (x := 21) (by decide) (by decide)
    have t7 : CKt h7 bs n (ga7 bs n P τ) := t7
    have L7 := FB_Ly f7 L6'
    obtain ⟨m8, h8, g8, f8, t8, b8, v8⟩ := c30 L7 t7 (lo := m6) (hi := 23) (by first | decide | exact b6) (by decide)
    have g8 : C 30 [.ref 2, .int (nI m6), .int 23] h7 = some (some (some (.int (nI m8))), h8) := g8
    have L8 := FB_Ly f8 L7
    have L8' : Ly (wI h8 (T + 18 + P 0 4) 2 (nI m8)) := L8
    have t8 := CKt_w t8 (a := T + 18 + P 0 4) (b := 2) (nI m8) (by omega) (by omega)
    have t8 : CKt (wI h8 (T + 18 + P 0 4) 2 (nI m8)) bs n (sWh bs n m6 23 (ga7 bs n P τ)) := t8
    have hT2 : hI (wI h8 (T + 18 + P 0 4) 2 (nI m8)) T 4 = nI (P 0 4) := by rw [hI_wI, if_neg (by omega), TR_B hT f8 (by omega) (by omega), TR_B hT f7 (by omega) (by omega), hI_wI, if_neg (by omega), TR_B hT f6 (by omega) (by omega), TR_B hT f5 (by omega) (by omega), hI_wI, if_neg (by omega), TR_B hT f4 (by omega) (by omega), TR_B hT f3 (by omega) (by omega), TR_G hT f2 (by omega) (by omega), TR_B hT f1 (by omega) (by omega)]; exact c_s4 ct
    have rd : RD T h (wI (wI h8 (T + 18 + P 0 4) 2 (nI m8)) T 4 (nI (P 0 4 + 1))) := RD_w (RD_w (RD_B (RD_B (RD_w (RD_B (RD_B (RD_w (RD_B (RD_B (RD_G (RD_B (RD_rfl T h) f1) f2) f3) f4) _ (by omega)) f5) f6) _ (by omega)) f7) f8) _ (by omega)) _ (by omega)
    have tt : sWh bs n m6 23 (ga7 bs n P τ) = ga8 bs n P τ := by
      by_cases zz : (ga6 bs n P τ) 4 = 0
      · rw [v6 zz]; rfl
      · have z7 : ¬ (ga7 bs n P τ) 4 = 0 := by unfold ga7; rw [sWd_1 zz]; exact zz
        rw [sWh_1 z7]; unfold ga8; rw [sWh_1 z7]
    rw [tt] at t8 v8
    refine ⟨(wI (wI h8 (T + 18 + P 0 4) 2 (nI m8)) T 4 (nI (P 0 4 + 1))), ?_, rd, CKt_w t8 _ (by omega) (by omega), fun e => ?_⟩
    · have ho : hI h7 (T + 18 + P 0 4) 1 = nI m6 := by rw [TR_B hT f7 (by omega) (by omega), hI_wI, if_pos ⟨rfl, rfl⟩]
      rw [e41]
      have p1 : hP h1 2 2 = some T := by rw [FB_P f1]; exact h22
      have p2 : hP h2 2 2 = some T := by rw [FG_P f2]; exact p1
      have p3 : hP h3 2 2 = some T := by rw [FB_P f3]; exact p2
      have p4 : hP h4 2 2 = some T := by rw [FB_P f4]; exact p3
      have p5 : hP h5 2 2 = some T := by rw [FB_P f5]; exact p4
      have p6 : hP h6 2 2 = some T := by rw [FB_P f6]; exact p5
      have p7 : hP h7 2 2 = some T := by rw [FB_P f7]; exact p6
      have p8 : hP h8 2 2 = some T := by rw [FB_P f8]; exact p7
      simp only [b41_0, b41_8, b41_20, b41_23, b41_28, b41_29, b41_32, b41_37, b41_38, b41_41, b41_47, b41_48, b41_55, cond_true, cond_false, decide_true, Bool.and_true, Bool.true_and, Bool.and_self, Bool.and_false, Bool.false_and, Bool.not_true, Bool.not_false, Bool.or_true, Bool.true_or, Bool.or_false, Bool.false_or, is_some, gd_some, bk_v, bk_u, isO_wI, hP_wI, isA_wI, x_O2 L, h22, t_O L hT, c_s4 ct, g1, g2, g3, g4, g5, g6, g7, g8, ho, i1_0, x_O2 L1, p1, x_O2 L2, p2, x_O2 L3, p3, x_O2 L4, p4, x_O2 L5, p5, x_O2 L6, p6, x_O2 L7, p7, x_O2 L8, p8, t_O L1 hT, t_P11 L1 hT, t_Ag L1 hT cm, w_cl (show P 0 4 < 2147483648 by omega), t_Eg L1 hT cm, t_Og L3 hT cm, t_Og L4 hT cm, t_Og L5 hT cm, t_Og L6 hT cm, t_Og L7 hT cm, t_Og L8 hT cm, t_O L8 hT, hT2, w_s]
    · have zz8 : (ga8 bs n P τ) 4 = 0 := e
      have zz7 : (ga7 bs n P τ) 4 = 0 := z_wh zz8
      have zz6 : (ga6 bs n P τ) 4 = 0 := z_wd zz7
      have zz5 : (ga5 bs n P τ) 4 = 0 := z_wh zz6
      have zz4 : (ga4 bs n P τ) 4 = 0 := z_wd zz5
      have zz3 : (ga3 bs n P τ) 4 = 0 := z_wh zz4
      have zz2 : (ga2 bs n P τ) 4 = 0 := z_wd zz3
      have fr : ∀ a b, T ≤ a → a < T + 35 → ¬ a = T + 9 → ¬ (a = T ∧ b = 4) → ¬ (a = T + 18 + P 0 4) → hI (wI (wI h8 (T + 18 + P 0 4) 2 (nI m8)) T 4 (nI (P 0 4 + 1))) a b = hI h a b := by
        intro a b i1 i2 i3 i4 i5
        rw [hI_wI, if_neg (by omega), hI_wI, if_neg (by omega), TR_B hT f8 (by omega) (by omega), TR_B hT f7 (by omega) (by omega), hI_wI, if_neg (by omega), TR_B hT f6 (by omega) (by omega), TR_B hT f5 (by omega) (by omega), hI_wI, if_neg (by omega), TR_B hT f4 (by omega) (by omega), TR_B hT f3 (by omega) (by omega), TR_G hT f2 (by omega) (by omega), TR_B hT f1 (by omega) (by omega)]
      refine ⟨CT_a4 w ct cm pGa_0 pGa_1 pGa_r fr (by rw [hI_wI, if_pos ⟨rfl, rfl⟩]) (by rw [pGa_9v, hI_wI, if_neg (by omega), hI_wI, if_neg (by omega), TR_B hT f8 (by omega) (by omega), TR_B hT f7 (by omega) (by omega), hI_wI, if_neg (by omega), TR_B hT f6 (by omega) (by omega), TR_B hT f5 (by omega) (by omega), hI_wI, if_pos ⟨rfl, rfl⟩, v4 zz4]) (by rw [pGa_10v, hI_wI, if_neg (by omega), hI_wI, if_neg (by omega), TR_B hT f8 (by omega) (by omega), TR_B hT f7 (by omega) (by omega), hI_wI, if_pos ⟨rfl, rfl⟩, v6 zz6]) (by rw [pGa_11v, hI_wI, if_neg (by omega), hI_wI, if_pos ⟨rfl, rfl⟩, v8 zz8]), ?_, ?_⟩
      · exact CN_eq (CN_w (CN_w (CN_FB f8 (CN_FB f7 (CN_w (CN_FB f6 (CN_FB f5 (CN_w (CN_FB f4 (CN_FB f3 (c2 zz2))) _ (by omega)))) _ (by omega)))) _ (by omega)) _ (by omega)) pGa_n
      · intro i hi h4
        rw [pGa_0 2 (by decide)] at hi
        rw [fr _ _ (by omega) (by omega) (by omega) (by omega) (by omega)]
        exact cl i hi h4
  · rw [dF cm, bI_F] at g1
    have ne : ¬ (ga1 bs n P τ) 4 = 0 := by unfold ga1 sRm; rw [if_neg cm]; exact sFa_n e0 (by decide)
    have le : ga8 bs n P τ = ga1 bs n P τ := by
      unfold ga8 ga7 ga6 ga5 ga4 ga3 ga2
      rw [sNw_1 ne, sWd_1 ne, sWh_1 ne, sWd_1 ne, sWh_1 ne, sWd_1 ne, sWh_1 ne]
    refine ⟨h1, ?_, RD_B (RD_rfl T h) f1, by rw [le]; exact t1, fun e => absurd (le ▸ e) ne⟩
    rw [e41]
    simp only [b41_0, b41_8, cond_true, cond_false, decide_true, Bool.and_true, Bool.true_and, Bool.and_self, Bool.and_false, Bool.false_and, Bool.not_true, Bool.not_false, Bool.or_true, Bool.true_or, Bool.or_false, Bool.false_or, is_some, gd_some, bk_v, bk_u, x_O2 L, h22, t_O L hT, c_s4 ct, g1]
