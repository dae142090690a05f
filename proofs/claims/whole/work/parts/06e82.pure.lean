def CX (h : A_H) (T : Nat) (P : Gh) (told : Bool) : Prop := (told = true → CT h T P) ∧ (told = false → CT (wI (wI h T 0 (nI (P 0 0))) T 1 (nI (P 0 1))) T P)
set_option maxRecDepth 16384 in
theorem c36 {h : A_H} {bs : Nat → Int32} {n : Nat} {τ : Nat → Nat} {T : Nat} {P : Gh} (L : Ly h) (t : CKt h bs n τ) (e0 : τ 4 = 0) (hT : isT T) (h22 : hP h 2 2 = some T) (r : CRs h) (c : CN h P) {told : Bool} (cx : CX h T P told) (w : WF P) (cl : CL h T P) (nc : NC P) (ft : hI h 2 3 = bI told) : ∃ h', C 36 [.ref 2] h = some (some none, h') ∧ RB T h h' ∧ CKt h' bs n (sL1 bs n told P τ) ∧ ((sL1 bs n told P τ) 4 = 0 → CT h' T (sLP bs n P τ) ∧ CN h' (sLP bs n P τ) ∧ CL h' T (sLP bs n P τ) ∧ hI h' 2 3 = 1) := by
  obtain ⟨y, g, yb, yv⟩ := c31 L t r
  have yv := yv e0
  have f1 : ¬ (sFa 1 τ) 4 = 0 := sFa_n e0 (by decide)
  have f3 : ¬ (sFa 3 τ) 4 = 0 := sFa_n e0 (by decide)
  have f6 : ¬ (sFa 6 τ) 4 = 0 := sFa_n e0 (by decide)
  rw [e36]
  unfold sL1 sLP
  match hy : rv τ with
  | none =>
    rw [hy] at yv
    subst yv
    have g : C 31 [.ref 2] h = some (some (some (.int (-1))), h) := g
    obtain ⟨h1, g1, f1', t1⟩ := c24 L t (k := 1) (by decide) (by decide)
    have g1 : C 24 [.ref 2, .int 1] h = some (some none, h1) := g1
    refine ⟨h1, ?_, RB_of (RD_B (RD_rfl T h) f1'), t1, fun q => absurd q f1⟩
    simp only [b36_0, b36_2, b36_14, b36_19, b36_22, b36_25, b36_28, b36_31, b36_34, b36_37, b36_40, b36_43, b36_47, cond_true, cond_false, decide_true, Bool.and_true, Bool.true_and, Bool.and_self, Bool.and_false, Bool.false_and, Bool.not_true, Bool.not_false, Bool.or_true, Bool.true_or, Bool.or_false, Bool.false_or, is_some, gd_some, bk_v, bk_u, x_O2 L, g, g1, show decide ((-1 : Int32) ≤ 0) = true from rfl, show decide (8 < (-1 : Int32)) = false from rfl, show decide ((-1 : Int32) = 0) = false from rfl, show decide ((-1 : Int32) = 1) = false from rfl, show decide ((-1 : Int32) = 2) = false from rfl, show decide ((-1 : Int32) = 3) = false from rfl, show decide ((-1 : Int32) = 4) = false from rfl, show decide ((-1 : Int32) = 5) = false from rfl, show decide ((-1 : Int32) = 6) = false from rfl, show decide ((-1 : Int32) = 7) = false from rfl, show decide ((-1 : Int32) = 8) = false from rfl]
  | some 0 =>
    rw [hy] at yv
    subst yv
    have g : C 31 [.ref 2] h = some (some (some (.int 0)), h) := g
    cases told with
    | true =>
      obtain ⟨h1, g1, f1', t1⟩ := c38t L t (by rw [ft]; decide)
      refine ⟨h1, ?_, RB_of (RD_B (RD_rfl T h) f1'), t1, fun q => absurd q f3⟩
      simp only [b36_0, b36_2, b36_19, cond_true, cond_false, decide_true, Bool.and_true, Bool.true_and, Bool.and_self, Bool.and_false, Bool.false_and, Bool.not_true, Bool.not_false, Bool.or_true, Bool.true_or, Bool.or_false, Bool.false_or, is_some, gd_some, bk_v, bk_u, x_O2 L, g, g1, show decide ((0 : Int32) ≤ 0) = true from rfl, show decide (8 < (0 : Int32)) = false from rfl, show decide ((0 : Int32) = 0) = true from rfl, show decide ((0 : Int32) = 1) = false from rfl, show decide ((0 : Int32) = 2) = false from rfl, show decide ((0 : Int32) = 3) = false from rfl, show decide ((0 : Int32) = 4) = false from rfl, show decide ((0 : Int32) = 5) = false from rfl, show decide ((0 : Int32) = 6) = false from rfl, show decide ((0 : Int32) = 7) = false from rfl, show decide ((0 : Int32) = 8) = false from rfl]
    | false =>
      obtain ⟨h1, g1, f1', u1, t1, q1⟩ := c38 L t e0 hT h22 r c (cx.2 rfl) w cl nc ft
      refine ⟨h1, ?_, f1', t1, fun q => ⟨(q1 q).1, (q1 q).2.1, (q1 q).2.2, u1⟩⟩
      simp only [b36_0, b36_2, b36_19, cond_true, cond_false, decide_true, Bool.and_true, Bool.true_and, Bool.and_self, Bool.and_false, Bool.false_and, Bool.not_true, Bool.not_false, Bool.or_true, Bool.true_or, Bool.or_false, Bool.false_or, is_some, gd_some, bk_v, bk_u, x_O2 L, g, g1, show decide ((0 : Int32) ≤ 0) = true from rfl, show decide (8 < (0 : Int32)) = false from rfl, show decide ((0 : Int32) = 0) = true from rfl, show decide ((0 : Int32) = 1) = false from rfl, show decide ((0 : Int32) = 2) = false from rfl, show decide ((0 : Int32) = 3) = false from rfl, show decide ((0 : Int32) = 4) = false from rfl, show decide ((0 : Int32) = 5) = false from rfl, show decide ((0 : Int32) = 6) = false from rfl, show decide ((0 : Int32) = 7) = false from rfl, show decide ((0 : Int32) = 8) = false from rfl]
  | some 1 =>
    rw [hy] at yv
    subst yv
    have g : C 31 [.ref 2] h = some (some (some (.int 1)), h) := g
    cases told with
    | false =>
      have u3 : decide (hI h 2 3 = 0) = true := dT ft
      obtain ⟨h1, g1, f1', t1⟩ := c24 L t (k := 6) (by decide) (by decide)
      have g1 : C 24 [.ref 2, .int 6] h = some (some none, h1) := g1
      refine ⟨h1, ?_, RB_of (RD_B (RD_rfl T h) f1'), t1, fun q => absurd q f6⟩
      simp only [b36_0, b36_2, b36_14, b36_19, b36_22, b36_25, b36_28, b36_31, b36_34, b36_37, b36_40, b36_43, b36_47, cond_true, cond_false, decide_true, Bool.and_true, Bool.true_and, Bool.and_self, Bool.and_false, Bool.false_and, Bool.not_true, Bool.not_false, Bool.or_true, Bool.true_or, Bool.or_false, Bool.false_or, is_some, gd_some, bk_v, bk_u, x_O2 L, g, g1, show decide ((1 : Int32) ≤ 0) = false from rfl, show decide (8 < (1 : Int32)) = false from rfl, show decide ((1 : Int32) = 0) = false from rfl, show decide ((1 : Int32) = 1) = true from rfl, show decide ((1 : Int32) = 2) = false from rfl, show decide ((1 : Int32) = 3) = false from rfl, show decide ((1 : Int32) = 4) = false from rfl, show decide ((1 : Int32) = 5) = false from rfl, show decide ((1 : Int32) = 6) = false from rfl, show decide ((1 : Int32) = 7) = false from rfl, show decide ((1 : Int32) = 8) = false from rfl, u3]
    | true =>
      have u3 : decide (hI h 2 3 = 0) = false := by rw [ft]; rfl
      obtain ⟨h1, g1, f1', t1, q1⟩ := c39 L t e0 hT h22 r c (cx.1 rfl) w cl nc
      refine ⟨h1, ?_, RB_of f1', t1, fun q => ⟨(q1 q).1, (q1 q).2.1, (q1 q).2.2, by rw [RD_23 hT f1']; exact ft⟩⟩
      simp only [b36_0, b36_2, b36_22, cond_true, cond_false, decide_true, Bool.and_true, Bool.true_and, Bool.and_self, Bool.and_false, Bool.false_and, Bool.not_true, Bool.not_false, Bool.or_true, Bool.true_or, Bool.or_false, Bool.false_or, is_some, gd_some, bk_v, bk_u, x_O2 L, g, g1, u3, show decide ((1 : Int32) ≤ 0) = false from rfl, show decide (8 < (1 : Int32)) = false from rfl, show decide ((1 : Int32) = 0) = false from rfl, show decide ((1 : Int32) = 1) = true from rfl, show decide ((1 : Int32) = 2) = false from rfl, show decide ((1 : Int32) = 3) = false from rfl, show decide ((1 : Int32) = 4) = false from rfl, show decide ((1 : Int32) = 5) = false from rfl, show decide ((1 : Int32) = 6) = false from rfl, show decide ((1 : Int32) = 7) = false from rfl, show decide ((1 : Int32) = 8) = false from rfl]
  | some 2 =>
    rw [hy] at yv
    subst yv
    have g : C 31 [.ref 2] h = some (some (some (.int 2)), h) := g
    cases told with
    | false =>
      have u3 : decide (hI h 2 3 = 0) = true := dT ft
      obtain ⟨h1, g1, f1', t1⟩ := c24 L t (k := 6) (by decide) (by decide)
      have g1 : C 24 [.ref 2, .int 6] h = some (some none, h1) := g1
      refine ⟨h1, ?_, RB_of (RD_B (RD_rfl T h) f1'), t1, fun q => absurd q f6⟩
      simp only [b36_0, b36_2, b36_14, b36_19, b36_22, b36_25, b36_28, b36_31, b36_34, b36_37, b36_40, b36_43, b36_47, cond_true, cond_false, decide_true, Bool.and_true, Bool.true_and, Bool.and_self, Bool.and_false, Bool.false_and, Bool.not_true, Bool.not_false, Bool.or_true, Bool.true_or, Bool.or_false, Bool.false_or, is_some, gd_some, bk_v, bk_u, x_O2 L, g, g1, show decide ((2 : Int32) ≤ 0) = false from rfl, show decide (8 < (2 : Int32)) = false from rfl, show decide ((2 : Int32) = 0) = false from rfl, show decide ((2 : Int32) = 1) = false from rfl, show decide ((2 : Int32) = 2) = true from rfl, show decide ((2 : Int32) = 3) = false from rfl, show decide ((2 : Int32) = 4) = false from rfl, show decide ((2 : Int32) = 5) = false from rfl, show decide ((2 : Int32) = 6) = false from rfl, show decide ((2 : Int32) = 7) = false from rfl, show decide ((2 : Int32) = 8) = false from rfl, u3]
    | true =>
      have u3 : decide (hI h 2 3 = 0) = false := by rw [ft]; rfl
      obtain ⟨h1, g1, f1', t1, q1⟩ := c40 L t e0 hT h22 r c (cx.1 rfl) w cl nc
      refine ⟨h1, ?_, RB_of f1', t1, fun q => ⟨(q1 q).1, (q1 q).2.1, (q1 q).2.2, by rw [RD_23 hT f1']; exact ft⟩⟩
      simp only [b36_0, b36_2, b36_25, cond_true, cond_false, decide_true, Bool.and_true, Bool.true_and, Bool.and_self, Bool.and_false, Bool.false_and, Bool.not_true, Bool.not_false, Bool.or_true, Bool.true_or, Bool.or_false, Bool.false_or, is_some, gd_some, bk_v, bk_u, x_O2 L, g, g1, u3, show decide ((2 : Int32) ≤ 0) = false from rfl, show decide (8 < (2 : Int32)) = false from rfl, show decide ((2 : Int32) = 0) = false from rfl, show decide ((2 : Int32) = 1) = false from rfl, show decide ((2 : Int32) = 2) = true from rfl, show decide ((2 : Int32) = 3) = false from rfl, show decide ((2 : Int32) = 4) = false from rfl, show decide ((2 : Int32) = 5) = false from rfl, show decide ((2 : Int32) = 6) = false from rfl, show decide ((2 : Int32) = 7) = false from rfl, show decide ((2 : Int32) = 8) = false from rfl]
  | some 3 =>
    rw [hy] at yv
    subst yv
    have g : C 31 [.ref 2] h = some (some (some (.int 3)), h) := g
    cases told with
    | false =>
      have u3 : decide (hI h 2 3 = 0) = true := dT ft
      obtain ⟨h1, g1, f1', t1⟩ := c24 L t (k := 6) (by decide) (by decide)
      have g1 : C 24 [.ref 2, .int 6] h = some (some none, h1) := g1
      refine ⟨h1, ?_, RB_of (RD_B (RD_rfl T h) f1'), t1, fun q => absurd q f6⟩
      simp only [b36_0, b36_2, b36_14, b36_19, b36_22, b36_25, b36_28, b36_31, b36_34, b36_37, b36_40, b36_43, b36_47, cond_true, cond_false, decide_true, Bool.and_true, Bool.true_and, Bool.and_self, Bool.and_false, Bool.false_and, Bool.not_true, Bool.not_false, Bool.or_true, Bool.true_or, Bool.or_false, Bool.false_or, is_some, gd_some, bk_v, bk_u, x_O2 L, g, g1, show decide ((3 : Int32) ≤ 0) = false from rfl, show decide (8 < (3 : Int32)) = false from rfl, show decide ((3 : Int32) = 0) = false from rfl, show decide ((3 : Int32) = 1) = false from rfl, show decide ((3 : Int32) = 2) = false from rfl, show decide ((3 : Int32) = 3) = true from rfl, show decide ((3 : Int32) = 4) = false from rfl, show decide ((3 : Int32) = 5) = false from rfl, show decide ((3 : Int32) = 6) = false from rfl, show decide ((3 : Int32) = 7) = false from rfl, show decide ((3 : Int32) = 8) = false from rfl, u3]
    | true =>
      have u3 : decide (hI h 2 3 = 0) = false := by rw [ft]; rfl
      obtain ⟨h1, g1, f1', t1, q1⟩ := c41 L t e0 hT h22 r c (cx.1 rfl) w cl nc
      refine ⟨h1, ?_, RB_of f1', t1, fun q => ⟨(q1 q).1, (q1 q).2.1, (q1 q).2.2, by rw [RD_23 hT f1']; exact ft⟩⟩
      simp only [b36_0, b36_2, b36_28, cond_true, cond_false, decide_true, Bool.and_true, Bool.true_and, Bool.and_self, Bool.and_false, Bool.false_and, Bool.not_true, Bool.not_false, Bool.or_true, Bool.true_or, Bool.or_false, Bool.false_or, is_some, gd_some, bk_v, bk_u, x_O2 L, g, g1, u3, show decide ((3 : Int32) ≤ 0) = false from rfl, show decide (8 < (3 : Int32)) = false from rfl, show decide ((3 : Int32) = 0) = false from rfl, show decide ((3 : Int32) = 1) = false from rfl, show decide ((3 : Int32) = 2) = false from rfl, show decide ((3 : Int32) = 3) = true from rfl, show decide ((3 : Int32) = 4) = false from rfl, show decide ((3 : Int32) = 5) = false from rfl, show decide ((3 : Int32) = 6) = false from rfl, show decide ((3 : Int32) = 7) = false from rfl, show decide ((3 : Int32) = 8) = false from rfl]
  | some 4 =>
    rw [hy] at yv
    subst yv
    have g : C 31 [.ref 2] h = some (some (some (.int 4)), h) := g
    cases told with
    | false =>
      have u3 : decide (hI h 2 3 = 0) = true := dT ft
      obtain ⟨h1, g1, f1', t1⟩ := c24 L t (k := 6) (by decide) (by decide)
      have g1 : C 24 [.ref 2, .int 6] h = some (some none, h1) := g1
      refine ⟨h1, ?_, RB_of (RD_B (RD_rfl T h) f1'), t1, fun q => absurd q f6⟩
      simp only [b36_0, b36_2, b36_14, b36_19, b36_22, b36_25, b36_28, b36_31, b36_34, b36_37, b36_40, b36_43, b36_47, cond_true, cond_false, decide_true, Bool.and_true, Bool.true_and, Bool.and_self, Bool.and_false, Bool.false_and, Bool.not_true, Bool.not_false, Bool.or_true, Bool.true_or, Bool.or_false, Bool.false_or, is_some, gd_some, bk_v, bk_u, x_O2 L, g, g1, show decide ((4 : Int32) ≤ 0) = false from rfl, show decide (8 < (4 : Int32)) = false from rfl, show decide ((4 : Int32) = 0) = false from rfl, show decide ((4 : Int32) = 1) = false from rfl, show decide ((4 : Int32) = 2) = false from rfl, show decide ((4 : Int32) = 3) = false from rfl, show decide ((4 : Int32) = 4) = true from rfl, show decide ((4 : Int32) = 5) = false from rfl, show decide ((4 : Int32) = 6) = false from rfl, show decide ((4 : Int32) = 7) = false from rfl, show decide ((4 : Int32) = 8) = false from rfl, u3]
    | true =>
      have u3 : decide (hI h 2 3 = 0) = false := by rw [ft]; rfl
      obtain ⟨h1, g1, f1', t1, q1⟩ := c42 L t e0 hT h22 r c (cx.1 rfl) w cl nc
      refine ⟨h1, ?_, RB_of f1', t1, fun q => ⟨(q1 q).1, (q1 q).2.1, (q1 q).2.2, by rw [RD_23 hT f1']; exact ft⟩⟩
      simp only [b36_0, b36_2, b36_31, cond_true, cond_false, decide_true, Bool.and_true, Bool.true_and, Bool.and_self, Bool.and_false, Bool.false_and, Bool.not_true, Bool.not_false, Bool.or_true, Bool.true_or, Bool.or_false, Bool.false_or, is_some, gd_some, bk_v, bk_u, x_O2 L, g, g1, u3, show decide ((4 : Int32) ≤ 0) = false from rfl, show decide (8 < (4 : Int32)) = false from rfl, show decide ((4 : Int32) = 0) = false from rfl, show decide ((4 : Int32) = 1) = false from rfl, show decide ((4 : Int32) = 2) = false from rfl, show decide ((4 : Int32) = 3) = false from rfl, show decide ((4 : Int32) = 4) = true from rfl, show decide ((4 : Int32) = 5) = false from rfl, show decide ((4 : Int32) = 6) = false from rfl, show decide ((4 : Int32) = 7) = false from rfl, show decide ((4 : Int32) = 8) = false from rfl]
  | some 5 =>
    rw [hy] at yv
    subst yv
    have g : C 31 [.ref 2] h = some (some (some (.int 5)), h) := g
    cases told with
    | false =>
      have u3 : decide (hI h 2 3 = 0) = true := dT ft
      obtain ⟨h1, g1, f1', t1⟩ := c24 L t (k := 6) (by decide) (by decide)
      have g1 : C 24 [.ref 2, .int 6] h = some (some none, h1) := g1
      refine ⟨h1, ?_, RB_of (RD_B (RD_rfl T h) f1'), t1, fun q => absurd q f6⟩
      simp only [b36_0, b36_2, b36_14, b36_19, b36_22, b36_25, b36_28, b36_31, b36_34, b36_37, b36_40, b36_43, b36_47, cond_true, cond_false, decide_true, Bool.and_true, Bool.true_and, Bool.and_self, Bool.and_false, Bool.false_and, Bool.not_true, Bool.not_false, Bool.or_true, Bool.true_or, Bool.or_false, Bool.false_or, is_some, gd_some, bk_v, bk_u, x_O2 L, g, g1, show decide ((5 : Int32) ≤ 0) = false from rfl, show decide (8 < (5 : Int32)) = false from rfl, show decide ((5 : Int32) = 0) = false from rfl, show decide ((5 : Int32) = 1) = false from rfl, show decide ((5 : Int32) = 2) = false from rfl, show decide ((5 : Int32) = 3) = false from rfl, show decide ((5 : Int32) = 4) = false from rfl, show decide ((5 : Int32) = 5) = true from rfl, show decide ((5 : Int32) = 6) = false from rfl, show decide ((5 : Int32) = 7) = false from rfl, show decide ((5 : Int32) = 8) = false from rfl, u3]
    | true =>
      have u3 : decide (hI h 2 3 = 0) = false := by rw [ft]; rfl
      obtain ⟨h1, g1, f1', t1, q1⟩ := c44 L t e0 hT h22 r c (cx.1 rfl) w cl nc
      refine ⟨h1, ?_, RB_of f1', t1, fun q => ⟨(q1 q).1, (q1 q).2.1, (q1 q).2.2, by rw [RD_23 hT f1']; exact ft⟩⟩
      simp only [b36_0, b36_2, b36_34, cond_true, cond_false, decide_true, Bool.and_true, Bool.true_and, Bool.and_self, Bool.and_false, Bool.false_and, Bool.not_true, Bool.not_false, Bool.or_true, Bool.true_or, Bool.or_false, Bool.false_or, is_some, gd_some, bk_v, bk_u, x_O2 L, g, g1, u3, show decide ((5 : Int32) ≤ 0) = false from rfl, show decide (8 < (5 : Int32)) = false from rfl, show decide ((5 : Int32) = 0) = false from rfl, show decide ((5 : Int32) = 1) = false from rfl, show decide ((5 : Int32) = 2) = false from rfl, show decide ((5 : Int32) = 3) = false from rfl, show decide ((5 : Int32) = 4) = false from rfl, show decide ((5 : Int32) = 5) = true from rfl, show decide ((5 : Int32) = 6) = false from rfl, show decide ((5 : Int32) = 7) = false from rfl, show decide ((5 : Int32) = 8) = false from rfl]
  | some 6 =>
    rw [hy] at yv
    subst yv
    have g : C 31 [.ref 2] h = some (some (some (.int 6)), h) := g
    cases told with
    | false =>
      have u3 : decide (hI h 2 3 = 0) = true := dT ft
      obtain ⟨h1, g1, f1', t1⟩ := c24 L t (k := 6) (by decide) (by decide)
      have g1 : C 24 [.ref 2, .int 6] h = some (some none, h1) := g1
      refine ⟨h1, ?_, RB_of (RD_B (RD_rfl T h) f1'), t1, fun q => absurd q f6⟩
      simp only [b36_0, b36_2, b36_14, b36_19, b36_22, b36_25, b36_28, b36_31, b36_34, b36_37, b36_40, b36_43, b36_47, cond_true, cond_false, decide_true, Bool.and_true, Bool.true_and, Bool.and_self, Bool.and_false, Bool.false_and, Bool.not_true, Bool.not_false, Bool.or_true, Bool.true_or, Bool.or_false, Bool.false_or, is_some, gd_some, bk_v, bk_u, x_O2 L, g, g1, show decide ((6 : Int32) ≤ 0) = false from rfl, show decide (8 < (6 : Int32)) = false from rfl, show decide ((6 : Int32) = 0) = false from rfl, show decide ((6 : Int32) = 1) = false from rfl, show decide ((6 : Int32) = 2) = false from rfl, show decide ((6 : Int32) = 3) = false from rfl, show decide ((6 : Int32) = 4) = false from rfl, show decide ((6 : Int32) = 5) = false from rfl, show decide ((6 : Int32) = 6) = true from rfl, show decide ((6 : Int32) = 7) = false from rfl, show decide ((6 : Int32) = 8) = false from rfl, u3]
    | true =>
      have u3 : decide (hI h 2 3 = 0) = false := by rw [ft]; rfl
      obtain ⟨h1, g1, f1', t1, q1⟩ := c45 L t e0 hT h22 r c (cx.1 rfl) w cl nc
      refine ⟨h1, ?_, RB_of f1', t1, fun q => ⟨(q1 q).1, (q1 q).2.1, (q1 q).2.2, by rw [RD_23 hT f1']; exact ft⟩⟩
      simp only [b36_0, b36_2, b36_37, cond_true, cond_false, decide_true, Bool.and_true, Bool.true_and, Bool.and_self, Bool.and_false, Bool.false_and, Bool.not_true, Bool.not_false, Bool.or_true, Bool.true_or, Bool.or_false, Bool.false_or, is_some, gd_some, bk_v, bk_u, x_O2 L, g, g1, u3, show decide ((6 : Int32) ≤ 0) = false from rfl, show decide (8 < (6 : Int32)) = false from rfl, show decide ((6 : Int32) = 0) = false from rfl, show decide ((6 : Int32) = 1) = false from rfl, show decide ((6 : Int32) = 2) = false from rfl, show decide ((6 : Int32) = 3) = false from rfl, show decide ((6 : Int32) = 4) = false from rfl, show decide ((6 : Int32) = 5) = false from rfl, show decide ((6 : Int32) = 6) = true from rfl, show decide ((6 : Int32) = 7) = false from rfl, show decide ((6 : Int32) = 8) = false from rfl]
  | some 7 =>
    rw [hy] at yv
    subst yv
    have g : C 31 [.ref 2] h = some (some (some (.int 7)), h) := g
    cases told with
    | false =>
      have u3 : decide (hI h 2 3 = 0) = true := dT ft
      obtain ⟨h1, g1, f1', t1⟩ := c24 L t (k := 6) (by decide) (by decide)
      have g1 : C 24 [.ref 2, .int 6] h = some (some none, h1) := g1
      refine ⟨h1, ?_, RB_of (RD_B (RD_rfl T h) f1'), t1, fun q => absurd q f6⟩
      simp only [b36_0, b36_2, b36_14, b36_19, b36_22, b36_25, b36_28, b36_31, b36_34, b36_37, b36_40, b36_43, b36_47, cond_true, cond_false, decide_true, Bool.and_true, Bool.true_and, Bool.and_self, Bool.and_false, Bool.false_and, Bool.not_true, Bool.not_false, Bool.or_true, Bool.true_or, Bool.or_false, Bool.false_or, is_some, gd_some, bk_v, bk_u, x_O2 L, g, g1, show decide ((7 : Int32) ≤ 0) = false from rfl, show decide (8 < (7 : Int32)) = false from rfl, show decide ((7 : Int32) = 0) = false from rfl, show decide ((7 : Int32) = 1) = false from rfl, show decide ((7 : Int32) = 2) = false from rfl, show decide ((7 : Int32) = 3) = false from rfl, show decide ((7 : Int32) = 4) = false from rfl, show decide ((7 : Int32) = 5) = false from rfl, show decide ((7 : Int32) = 6) = false from rfl, show decide ((7 : Int32) = 7) = true from rfl, show decide ((7 : Int32) = 8) = false from rfl, u3]
    | true =>
      have u3 : decide (hI h 2 3 = 0) = false := by rw [ft]; rfl
      obtain ⟨h1, g1, f1', t1, q1⟩ := c46 L t e0 hT h22 r c (cx.1 rfl) w cl nc
      refine ⟨h1, ?_, RB_of f1', t1, fun q => ⟨(q1 q).1, (q1 q).2.1, (q1 q).2.2, by rw [RD_23 hT f1']; exact ft⟩⟩
      simp only [b36_0, b36_2, b36_40, cond_true, cond_false, decide_true, Bool.and_true, Bool.true_and, Bool.and_self, Bool.and_false, Bool.false_and, Bool.not_true, Bool.not_false, Bool.or_true, Bool.true_or, Bool.or_false, Bool.false_or, is_some, gd_some, bk_v, bk_u, x_O2 L, g, g1, u3, show decide ((7 : Int32) ≤ 0) = false from rfl, show decide (8 < (7 : Int32)) = false from rfl, show decide ((7 : Int32) = 0) = false from rfl, show decide ((7 : Int32) = 1) = false from rfl, show decide ((7 : Int32) = 2) = false from rfl, show decide ((7 : Int32) = 3) = false from rfl, show decide ((7 : Int32) = 4) = false from rfl, show decide ((7 : Int32) = 5) = false from rfl, show decide ((7 : Int32) = 6) = false from rfl, show decide ((7 : Int32) = 7) = true from rfl, show decide ((7 : Int32) = 8) = false from rfl]
  | some 8 =>
    rw [hy] at yv
    subst yv
    have g : C 31 [.ref 2] h = some (some (some (.int 8)), h) := g
    cases told with
    | false =>
      have u3 : decide (hI h 2 3 = 0) = true := dT ft
      obtain ⟨h1, g1, f1', t1⟩ := c24 L t (k := 6) (by decide) (by decide)
      have g1 : C 24 [.ref 2, .int 6] h = some (some none, h1) := g1
      refine ⟨h1, ?_, RB_of (RD_B (RD_rfl T h) f1'), t1, fun q => absurd q f6⟩
      simp only [b36_0, b36_2, b36_14, b36_19, b36_22, b36_25, b36_28, b36_31, b36_34, b36_37, b36_40, b36_43, b36_47, cond_true, cond_false, decide_true, Bool.and_true, Bool.true_and, Bool.and_self, Bool.and_false, Bool.false_and, Bool.not_true, Bool.not_false, Bool.or_true, Bool.true_or, Bool.or_false, Bool.false_or, is_some, gd_some, bk_v, bk_u, x_O2 L, g, g1, show decide ((8 : Int32) ≤ 0) = false from rfl, show decide (8 < (8 : Int32)) = false from rfl, show decide ((8 : Int32) = 0) = false from rfl, show decide ((8 : Int32) = 1) = false from rfl, show decide ((8 : Int32) = 2) = false from rfl, show decide ((8 : Int32) = 3) = false from rfl, show decide ((8 : Int32) = 4) = false from rfl, show decide ((8 : Int32) = 5) = false from rfl, show decide ((8 : Int32) = 6) = false from rfl, show decide ((8 : Int32) = 7) = false from rfl, show decide ((8 : Int32) = 8) = true from rfl, u3]
    | true =>
      have u3 : decide (hI h 2 3 = 0) = false := by rw [ft]; rfl
      obtain ⟨h1, g1, f1', t1, q1⟩ := c47 L t e0 hT h22 r c (cx.1 rfl) w cl nc
      refine ⟨h1, ?_, RB_of f1', t1, fun q => ⟨(q1 q).1, (q1 q).2.1, (q1 q).2.2, by rw [RD_23 hT f1']; exact ft⟩⟩
      simp only [b36_0, b36_2, b36_43, cond_true, cond_false, decide_true, Bool.and_true, Bool.true_and, Bool.and_self, Bool.and_false, Bool.false_and, Bool.not_true, Bool.not_false, Bool.or_true, Bool.true_or, Bool.or_false, Bool.false_or, is_some, gd_some, bk_v, bk_u, x_O2 L, g, g1, u3, show decide ((8 : Int32) ≤ 0) = false from rfl, show decide (8 < (8 : Int32)) = false from rfl, show decide ((8 : Int32) = 0) = false from rfl, show decide ((8 : Int32) = 1) = false from rfl, show decide ((8 : Int32) = 2) = false from rfl, show decide ((8 : Int32) = 3) = false from rfl, show decide ((8 : Int32) = 4) = false from rfl, show decide ((8 : Int32) = 5) = false from rfl, show decide ((8 : Int32) = 6) = false from rfl, show decide ((8 : Int32) = 7) = false from rfl, show decide ((8 : Int32) = 8) = true from rfl]
  | some (k + 9) =>
    have kk : k = 0 ∨ k = 1 := by have := (rv_9 hy).1; omega
    rcases kk with rfl | rfl
    · rw [hy] at yv
      subst yv
      have g : C 31 [.ref 2] h = some (some (some (.int 9)), h) := g
      obtain ⟨h1, g1, f1', t1⟩ := c24 L t (k := 1) (by decide) (by decide)
      have g1 : C 24 [.ref 2, .int 1] h = some (some none, h1) := g1
      refine ⟨h1, ?_, RB_of (RD_B (RD_rfl T h) f1'), t1, fun q => absurd q f1⟩
      simp only [b36_0, b36_2, b36_14, b36_19, b36_22, b36_25, b36_28, b36_31, b36_34, b36_37, b36_40, b36_43, b36_47, cond_true, cond_false, decide_true, Bool.and_true, Bool.true_and, Bool.and_self, Bool.and_false, Bool.false_and, Bool.not_true, Bool.not_false, Bool.or_true, Bool.true_or, Bool.or_false, Bool.false_or, is_some, gd_some, bk_v, bk_u, x_O2 L, g, g1, show decide ((9 : Int32) ≤ 0) = false from rfl, show decide (8 < (9 : Int32)) = true from rfl, show decide ((9 : Int32) = 0) = false from rfl, show decide ((9 : Int32) = 1) = false from rfl, show decide ((9 : Int32) = 2) = false from rfl, show decide ((9 : Int32) = 3) = false from rfl, show decide ((9 : Int32) = 4) = false from rfl, show decide ((9 : Int32) = 5) = false from rfl, show decide ((9 : Int32) = 6) = false from rfl, show decide ((9 : Int32) = 7) = false from rfl, show decide ((9 : Int32) = 8) = false from rfl]
    · rw [hy] at yv
      subst yv
      have g : C 31 [.ref 2] h = some (some (some (.int 10)), h) := g
      obtain ⟨h1, g1, f1', t1⟩ := c24 L t (k := 1) (by decide) (by decide)
      have g1 : C 24 [.ref 2, .int 1] h = some (some none, h1) := g1
      refine ⟨h1, ?_, RB_of (RD_B (RD_rfl T h) f1'), t1, fun q => absurd q f1⟩
      simp only [b36_0, b36_2, b36_14, b36_19, b36_22, b36_25, b36_28, b36_31, b36_34, b36_37, b36_40, b36_43, b36_47, cond_true, cond_false, decide_true, Bool.and_true, Bool.true_and, Bool.and_self, Bool.and_false, Bool.false_and, Bool.not_true, Bool.not_false, Bool.or_true, Bool.true_or, Bool.or_false, Bool.false_or, is_some, gd_some, bk_v, bk_u, x_O2 L, g, g1, show decide ((10 : Int32) ≤ 0) = false from rfl, show decide (8 < (10 : Int32)) = true from rfl, show decide ((10 : Int32) = 0) = false from rfl, show decide ((10 : Int32) = 1) = false from rfl, show decide ((10 : Int32) = 2) = false from rfl, show decide ((10 : Int32) = 3) = false from rfl, show decide ((10 : Int32) = 4) = false from rfl, show decide ((10 : Int32) = 5) = false from rfl, show decide ((10 : Int32) = 6) = false from rfl, show decide ((10 : Int32) = 7) = false from rfl, show decide ((10 : Int32) = 8) = false from rfl]
