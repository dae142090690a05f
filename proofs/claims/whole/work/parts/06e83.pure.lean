def MX (h : A_H) (B : Nat) (P : Gh) (told : Bool) : Prop := (told = true → MB h B P) ∧ (told = false → hI h B 0 = -1 ∧ MB (wI h B 0 (nI (P 0 0))) B P)
set_option maxRecDepth 16384 in
theorem rv_w {τ : Nat → Nat} {k : Nat} (h : rv τ = some k) : (∀ x : UInt32, 0 < x.toNat → x.toNat ≤ 32 → isW x τ = decide (τ 3 = wT x)) ∧ τ 3 = Wn k ∧ ∀ j, j < k → ¬ Wn j = τ 3 := by
  have h1 := (rv_9 h).2
  refine ⟨fun x _ _ => by unfold isW; rw [h1]; rfl, ?_⟩
  unfold rv at h
  rw [if_pos h1] at h
  have hp := (fsm_lt h).2.2
  refine ⟨(of_decide_eq_true hp).symm, fun j hj q => ?_⟩
  have : ∀ f s, fsm (fun i => decide (Wn i = τ 3)) f s = some k → s ≤ j → False := by
    intro f
    induction f with
    | zero => intro s hs _; exact absurd hs (by simp [fsm])
    | succ f ih =>
      intro s hs hj'
      rw [fsm_s] at hs
      by_cases e : s = j
      · subst e; rw [dT q, cond_true] at hs; injection hs with hs; omega
      · cases hq : decide (Wn s = τ 3) with
        | true => rw [hq, cond_true] at hs; injection hs with hs; omega
        | false => rw [hq, cond_false] at hs; exact ih (s + 1) hs (by omega)
  exact this 11 0 h (Nat.zero_le _)
set_option maxRecDepth 16384 in
theorem rv_no {τ : Nat → Nat} (h : rv τ = none) : isW 1 τ = false ∧ isW 2 τ = false ∧ isW 3 τ = false ∧ isW 4 τ = false ∧ isW 5 τ = false ∧ isW 6 τ = false ∧ isW 7 τ = false ∧ isW 8 τ = false ∧ isW 9 τ = false := by
  by_cases h1 : τ 0 = 1
  · have := rv_n h1
    rw [h] at this
    have this : (!isW 1 τ && !isW 2 τ && !isW 3 τ && !isW 4 τ && !isW 5 τ && !isW 6 τ && !isW 7 τ && !isW 8 τ && !isW 9 τ && !isW 10 τ && !isW 11 τ) = true := this.symm
    simp only [Bool.and_eq_true, Bool.not_eq_true'] at this
    exact ⟨this.1.1.1.1.1.1.1.1.1.1, this.1.1.1.1.1.1.1.1.1.2, this.1.1.1.1.1.1.1.1.2, this.1.1.1.1.1.1.1.2, this.1.1.1.1.1.1.2, this.1.1.1.1.1.2, this.1.1.1.1.2, this.1.1.1.2, this.1.1.2⟩
  · have z : ∀ x, isW x τ = false := fun x => by unfold isW; rw [dF h1]; rfl
    exact ⟨z _, z _, z _, z _, z _, z _, z _, z _, z _⟩
set_option maxRecDepth 16384 in
theorem d182 {h : A_H} {bs : Nat → Int32} {n : Nat} {τ : Nat → Nat} {B : Nat} {P : Gh} (L : Ly h) (b8 : B8 bs n) (t : MKt h bs n τ) (e0 : τ 4 = 0) (hB : hP h 124 4 = some B) (l : ML h B) (c : MN h B P) (w : WF P) (nc : NC P) {told : Bool} (mx : MX h B P told) (ut : UT told P) : ∃ h', C 182 [.ref 124] h = some (some none, h') ∧ RM B h h' ∧ MKt h' bs n (sL1 bs n told P τ) ∧ ((sL1 bs n told P τ) 4 = 0 → MN h' B (sLP bs n P τ) ∧ MB h' B (sLP bs n P τ)) := by
  have f1 : ¬ (sFa 1 τ) 4 = 0 := sFa_n e0 (by decide)
  have f3 : ¬ (sFa 3 τ) 4 = 0 := sFa_n e0 (by decide)
  have f6 : ¬ (sFa 6 τ) 4 = 0 := sFa_n e0 (by decide)
  have gw : ∀ x : UInt32, 0 < x.toNat → x.toNat ≤ 32 → C 170 [.ref 124, .float x] h = some (some (some (.int (bI (isW x τ)))), h) := fun x h1 h2 => by have := d170 L b8 t h1 h2; rw [dT e0, Bool.true_and] at this; exact this
  have g1 := gw 1 (by decide) (by decide)
  have g2 := gw 2 (by decide) (by decide)
  have g3 := gw 3 (by decide) (by decide)
  have g4 := gw 4 (by decide) (by decide)
  have g5 := gw 5 (by decide) (by decide)
  have g6 := gw 6 (by decide) (by decide)
  have g7 := gw 7 (by decide) (by decide)
  have g8 := gw 8 (by decide) (by decide)
  have g9 := gw 9 (by decide) (by decide)
  have i00 : decide ((0 : Int32) = 0) = true := rfl
  have i10 : decide ((1 : Int32) = 0) = false := rfl
  have k4 : ∀ k, rv τ = some k → ¬ τ 0 = 4 := fun k hk => by rw [(rv_9 hk).2]; decide
  have zz : told = false → ∀ j, 2 ≤ j → j ≤ 9 → P 0 j = 0 := ut
  rw [e182]
  unfold sL1 sLP
  match hy : rv τ with
  | none =>
    obtain ⟨w1, w2, w3, w4, w5, w6, w7, w8, w9⟩ := rv_no hy
    rw [w1, bI_F] at g1
    rw [w2, bI_F] at g2
    rw [w3, bI_F] at g3
    rw [w4, bI_F] at g4
    rw [w5, bI_F] at g5
    rw [w6, bI_F] at g6
    rw [w7, bI_F] at g7
    rw [w8, bI_F] at g8
    rw [w9, bI_F] at g9
    obtain ⟨h1, ga, fa, ta⟩ := d169 L b8 t (k := 1) (by decide) (by decide)
    have ga : C 169 [.ref 124, .int 1] h = some (some none, h1) := ga
    refine ⟨h1, ?_, RM_T (RM_rfl B h) fa, ta, fun q => absurd q f1⟩
    simp only [b182_0, b182_3, b182_6, b182_10, b182_13, b182_17, b182_20, b182_24, b182_27, b182_31, b182_34, b182_38, b182_41, b182_45, b182_48, b182_52, b182_55, b182_59, b182_62, b182_66, cond_true, cond_false, decide_true, Bool.and_true, Bool.true_and, Bool.and_self, Bool.and_false, Bool.false_and, Bool.not_true, Bool.not_false, Bool.or_true, Bool.true_or, Bool.or_false, Bool.false_or, is_some, gd_some, bk_v, bk_u, y_124 L, g1, g2, g3, g4, g5, g6, g7, g8, g9, ga, i00]
  | some 0 =>
    obtain ⟨wa, wk, wn⟩ := rv_w hy
    have w1 : isW 1 τ = true := by rw [wa 1 (by decide) (by decide), wk]; rfl
    rw [w1, bI_T] at g1
    cases told with
    | true =>
      obtain ⟨h1, ga, ra, ta⟩ := d183t L b8 t e0 hB l c (tld w (mx.1 rfl))
      refine ⟨h1, ?_, ra, ta, fun q => absurd q f3⟩
      simp only [b182_0, b182_3, b182_6, b182_10, b182_13, b182_17, b182_20, b182_24, b182_27, b182_31, b182_34, b182_38, b182_41, b182_45, b182_48, b182_52, b182_55, b182_59, b182_62, b182_66, cond_true, cond_false, decide_true, Bool.and_true, Bool.true_and, Bool.and_self, Bool.and_false, Bool.false_and, Bool.not_true, Bool.not_false, Bool.or_true, Bool.true_or, Bool.or_false, Bool.false_or, is_some, gd_some, bk_v, bk_u, y_124 L, g1, ga, i10]
    | false =>
      obtain ⟨h1, ga, ra, ta, qa⟩ := d183 L b8 t e0 (k4 _ hy) hB l c (mx.2 rfl).1 (mx.2 rfl).2 w nc
      refine ⟨h1, ?_, ra, ta, fun q => ⟨(qa q).2, (qa q).1⟩⟩
      simp only [b182_0, b182_3, b182_6, b182_10, b182_13, b182_17, b182_20, b182_24, b182_27, b182_31, b182_34, b182_38, b182_41, b182_45, b182_48, b182_52, b182_55, b182_59, b182_62, b182_66, cond_true, cond_false, decide_true, Bool.and_true, Bool.true_and, Bool.and_self, Bool.and_false, Bool.false_and, Bool.not_true, Bool.not_false, Bool.or_true, Bool.true_or, Bool.or_false, Bool.false_or, is_some, gd_some, bk_v, bk_u, y_124 L, g1, ga, i10]
  | some 1 =>
    obtain ⟨wa, wk, wn⟩ := rv_w hy
    have w1 : isW 1 τ = false := by rw [wa 1 (by decide) (by decide), wk]; rfl
    rw [w1, bI_F] at g1
    have w2 : isW 2 τ = true := by rw [wa 2 (by decide) (by decide), wk]; rfl
    rw [w2, bI_T] at g2
    cases told with
    | false =>
      obtain ⟨h1, ga, ra, ta⟩ := d184u L b8 t e0 hB l c (mx.2 rfl).1 (by have := b_s2 (mx.2 rfl).2; rw [hI_wI, if_neg (by omega), zz rfl 2 (by decide) (by decide)] at this; exact this)
      refine ⟨h1, ?_, ra, ta, fun q => absurd q f6⟩
      simp only [b182_0, b182_3, b182_6, b182_10, b182_13, b182_17, b182_20, b182_24, b182_27, b182_31, b182_34, b182_38, b182_41, b182_45, b182_48, b182_52, b182_55, b182_59, b182_62, b182_66, cond_true, cond_false, decide_true, Bool.and_true, Bool.true_and, Bool.and_self, Bool.and_false, Bool.false_and, Bool.not_true, Bool.not_false, Bool.or_true, Bool.true_or, Bool.or_false, Bool.false_or, is_some, gd_some, bk_v, bk_u, y_124 L, g1, g2, ga, i00, i10]
    | true =>
      obtain ⟨h1, ga, ra, ta, qa⟩ := d184 L b8 t e0 (k4 _ hy) hB l c (mx.1 rfl) w nc
      refine ⟨h1, ?_, ra, ta, fun q => ⟨(qa q).2, (qa q).1⟩⟩
      simp only [b182_0, b182_3, b182_6, b182_10, b182_13, b182_17, b182_20, b182_24, b182_27, b182_31, b182_34, b182_38, b182_41, b182_45, b182_48, b182_52, b182_55, b182_59, b182_62, b182_66, cond_true, cond_false, decide_true, Bool.and_true, Bool.true_and, Bool.and_self, Bool.and_false, Bool.false_and, Bool.not_true, Bool.not_false, Bool.or_true, Bool.true_or, Bool.or_false, Bool.false_or, is_some, gd_some, bk_v, bk_u, y_124 L, g1, g2, ga, i00, i10]
  | some 2 =>
    obtain ⟨wa, wk, wn⟩ := rv_w hy
    have w1 : isW 1 τ = false := by rw [wa 1 (by decide) (by decide), wk]; rfl
    rw [w1, bI_F] at g1
    have w2 : isW 2 τ = false := by rw [wa 2 (by decide) (by decide), wk]; rfl
    rw [w2, bI_F] at g2
    have w3 : isW 3 τ = true := by rw [wa 3 (by decide) (by decide), wk]; rfl
    rw [w3, bI_T] at g3
    cases told with
    | false =>
      obtain ⟨h1, ga, ra, ta⟩ := d185u L b8 t e0 hB l c (mx.2 rfl).1 (by have := b_s3 (mx.2 rfl).2; rw [hI_wI, if_neg (by omega), zz rfl 3 (by decide) (by decide)] at this; exact this)
      refine ⟨h1, ?_, ra, ta, fun q => absurd q f6⟩
      simp only [b182_0, b182_3, b182_6, b182_10, b182_13, b182_17, b182_20, b182_24, b182_27, b182_31, b182_34, b182_38, b182_41, b182_45, b182_48, b182_52, b182_55, b182_59, b182_62, b182_66, cond_true, cond_false, decide_true, Bool.and_true, Bool.true_and, Bool.and_self, Bool.and_false, Bool.false_and, Bool.not_true, Bool.not_false, Bool.or_true, Bool.true_or, Bool.or_false, Bool.false_or, is_some, gd_some, bk_v, bk_u, y_124 L, g1, g2, g3, ga, i00, i10]
    | true =>
      obtain ⟨h1, ga, ra, ta, qa⟩ := d185 L b8 t e0 (k4 _ hy) hB l c (mx.1 rfl) w nc
      refine ⟨h1, ?_, ra, ta, fun q => ⟨(qa q).2, (qa q).1⟩⟩
      simp only [b182_0, b182_3, b182_6, b182_10, b182_13, b182_17, b182_20, b182_24, b182_27, b182_31, b182_34, b182_38, b182_41, b182_45, b182_48, b182_52, b182_55, b182_59, b182_62, b182_66, cond_true, cond_false, decide_true, Bool.and_true, Bool.true_and, Bool.and_self, Bool.and_false, Bool.false_and, Bool.not_true, Bool.not_false, Bool.or_true, Bool.true_or, Bool.or_false, Bool.false_or, is_some, gd_some, bk_v, bk_u, y_124 L, g1, g2, g3, ga, i00, i10]
  | some 3 =>
    obtain ⟨wa, wk, wn⟩ := rv_w hy
    have w1 : isW 1 τ = false := by rw [wa 1 (by decide) (by decide), wk]; rfl
    rw [w1, bI_F] at g1
    have w2 : isW 2 τ = false := by rw [wa 2 (by decide) (by decide), wk]; rfl
    rw [w2, bI_F] at g2
    have w3 : isW 3 τ = false := by rw [wa 3 (by decide) (by decide), wk]; rfl
    rw [w3, bI_F] at g3
    have w4 : isW 4 τ = true := by rw [wa 4 (by decide) (by decide), wk]; rfl
    rw [w4, bI_T] at g4
    cases told with
    | false =>
      obtain ⟨h1, ga, ra, ta⟩ := d186u L b8 t e0 hB l c (mx.2 rfl).1 (by have := b_s4 (mx.2 rfl).2; rw [hI_wI, if_neg (by omega), zz rfl 4 (by decide) (by decide)] at this; exact this)
      refine ⟨h1, ?_, ra, ta, fun q => absurd q f6⟩
      simp only [b182_0, b182_3, b182_6, b182_10, b182_13, b182_17, b182_20, b182_24, b182_27, b182_31, b182_34, b182_38, b182_41, b182_45, b182_48, b182_52, b182_55, b182_59, b182_62, b182_66, cond_true, cond_false, decide_true, Bool.and_true, Bool.true_and, Bool.and_self, Bool.and_false, Bool.false_and, Bool.not_true, Bool.not_false, Bool.or_true, Bool.true_or, Bool.or_false, Bool.false_or, is_some, gd_some, bk_v, bk_u, y_124 L, g1, g2, g3, g4, ga, i00, i10]
    | true =>
      obtain ⟨h1, ga, ra, ta, qa⟩ := d186 L b8 t e0 (k4 _ hy) hB l c (mx.1 rfl) w nc
      refine ⟨h1, ?_, ra, ta, fun q => ⟨(qa q).2, (qa q).1⟩⟩
      simp only [b182_0, b182_3, b182_6, b182_10, b182_13, b182_17, b182_20, b182_24, b182_27, b182_31, b182_34, b182_38, b182_41, b182_45, b182_48, b182_52, b182_55, b182_59, b182_62, b182_66, cond_true, cond_false, decide_true, Bool.and_true, Bool.true_and, Bool.and_self, Bool.and_false, Bool.false_and, Bool.not_true, Bool.not_false, Bool.or_true, Bool.true_or, Bool.or_false, Bool.false_or, is_some, gd_some, bk_v, bk_u, y_124 L, g1, g2, g3, g4, ga, i00, i10]
  | some 4 =>
    obtain ⟨wa, wk, wn⟩ := rv_w hy
    have w1 : isW 1 τ = false := by rw [wa 1 (by decide) (by decide), wk]; rfl
    rw [w1, bI_F] at g1
    have w2 : isW 2 τ = false := by rw [wa 2 (by decide) (by decide), wk]; rfl
    rw [w2, bI_F] at g2
    have w3 : isW 3 τ = false := by rw [wa 3 (by decide) (by decide), wk]; rfl
    rw [w3, bI_F] at g3
    have w4 : isW 4 τ = false := by rw [wa 4 (by decide) (by decide), wk]; rfl
    rw [w4, bI_F] at g4
    have w5 : isW 5 τ = true := by rw [wa 5 (by decide) (by decide), wk]; rfl
    rw [w5, bI_T] at g5
    cases told with
    | false =>
      obtain ⟨h1, ga, ra, ta⟩ := d188u L b8 t e0 hB l c (mx.2 rfl).1 (by have := b_s5 (mx.2 rfl).2; rw [hI_wI, if_neg (by omega), zz rfl 5 (by decide) (by decide)] at this; exact this)
      refine ⟨h1, ?_, ra, ta, fun q => absurd q f6⟩
      simp only [b182_0, b182_3, b182_6, b182_10, b182_13, b182_17, b182_20, b182_24, b182_27, b182_31, b182_34, b182_38, b182_41, b182_45, b182_48, b182_52, b182_55, b182_59, b182_62, b182_66, cond_true, cond_false, decide_true, Bool.and_true, Bool.true_and, Bool.and_self, Bool.and_false, Bool.false_and, Bool.not_true, Bool.not_false, Bool.or_true, Bool.true_or, Bool.or_false, Bool.false_or, is_some, gd_some, bk_v, bk_u, y_124 L, g1, g2, g3, g4, g5, ga, i00, i10]
    | true =>
      obtain ⟨h1, ga, ra, ta, qa⟩ := d188 L b8 t e0 (k4 _ hy) hB l c (mx.1 rfl) w nc
      refine ⟨h1, ?_, ra, ta, fun q => ⟨(qa q).2, (qa q).1⟩⟩
      simp only [b182_0, b182_3, b182_6, b182_10, b182_13, b182_17, b182_20, b182_24, b182_27, b182_31, b182_34, b182_38, b182_41, b182_45, b182_48, b182_52, b182_55, b182_59, b182_62, b182_66, cond_true, cond_false, decide_true, Bool.and_true, Bool.true_and, Bool.and_self, Bool.and_false, Bool.false_and, Bool.not_true, Bool.not_false, Bool.or_true, Bool.true_or, Bool.or_false, Bool.false_or, is_some, gd_some, bk_v, bk_u, y_124 L, g1, g2, g3, g4, g5, ga, i00, i10]
  | some 5 =>
    obtain ⟨wa, wk, wn⟩ := rv_w hy
    have w1 : isW 1 τ = false := by rw [wa 1 (by decide) (by decide), wk]; rfl
    rw [w1, bI_F] at g1
    have w2 : isW 2 τ = false := by rw [wa 2 (by decide) (by decide), wk]; rfl
    rw [w2, bI_F] at g2
    have w3 : isW 3 τ = false := by rw [wa 3 (by decide) (by decide), wk]; rfl
    rw [w3, bI_F] at g3
    have w4 : isW 4 τ = false := by rw [wa 4 (by decide) (by decide), wk]; rfl
    rw [w4, bI_F] at g4
    have w5 : isW 5 τ = false := by rw [wa 5 (by decide) (by decide), wk]; rfl
    rw [w5, bI_F] at g5
    have w6 : isW 6 τ = true := by rw [wa 6 (by decide) (by decide), wk]; rfl
    rw [w6, bI_T] at g6
    cases told with
    | false =>
      obtain ⟨h1, ga, ra, ta⟩ := d189u L b8 t e0 hB l c (mx.2 rfl).1
      refine ⟨h1, ?_, ra, ta, fun q => absurd q f6⟩
      simp only [b182_0, b182_3, b182_6, b182_10, b182_13, b182_17, b182_20, b182_24, b182_27, b182_31, b182_34, b182_38, b182_41, b182_45, b182_48, b182_52, b182_55, b182_59, b182_62, b182_66, cond_true, cond_false, decide_true, Bool.and_true, Bool.true_and, Bool.and_self, Bool.and_false, Bool.false_and, Bool.not_true, Bool.not_false, Bool.or_true, Bool.true_or, Bool.or_false, Bool.false_or, is_some, gd_some, bk_v, bk_u, y_124 L, g1, g2, g3, g4, g5, g6, ga, i00, i10]
    | true =>
      obtain ⟨h1, ga, ra, ta, qa⟩ := d189 L b8 t e0 (k4 _ hy) hB l c (mx.1 rfl) w nc
      refine ⟨h1, ?_, ra, ta, fun q => ⟨(qa q).2, (qa q).1⟩⟩
      simp only [b182_0, b182_3, b182_6, b182_10, b182_13, b182_17, b182_20, b182_24, b182_27, b182_31, b182_34, b182_38, b182_41, b182_45, b182_48, b182_52, b182_55, b182_59, b182_62, b182_66, cond_true, cond_false, decide_true, Bool.and_true, Bool.true_and, Bool.and_self, Bool.and_false, Bool.false_and, Bool.not_true, Bool.not_false, Bool.or_true, Bool.true_or, Bool.or_false, Bool.false_or, is_some, gd_some, bk_v, bk_u, y_124 L, g1, g2, g3, g4, g5, g6, ga, i00, i10]
  | some 6 =>
    obtain ⟨wa, wk, wn⟩ := rv_w hy
    have w1 : isW 1 τ = false := by rw [wa 1 (by decide) (by decide), wk]; rfl
    rw [w1, bI_F] at g1
    have w2 : isW 2 τ = false := by rw [wa 2 (by decide) (by decide), wk]; rfl
    rw [w2, bI_F] at g2
    have w3 : isW 3 τ = false := by rw [wa 3 (by decide) (by decide), wk]; rfl
    rw [w3, bI_F] at g3
    have w4 : isW 4 τ = false := by rw [wa 4 (by decide) (by decide), wk]; rfl
    rw [w4, bI_F] at g4
    have w5 : isW 5 τ = false := by rw [wa 5 (by decide) (by decide), wk]; rfl
    rw [w5, bI_F] at g5
    have w6 : isW 6 τ = false := by rw [wa 6 (by decide) (by decide), wk]; rfl
    rw [w6, bI_F] at g6
    have w7 : isW 7 τ = true := by rw [wa 7 (by decide) (by decide), wk]; rfl
    rw [w7, bI_T] at g7
    cases told with
    | false =>
      obtain ⟨h1, ga, ra, ta⟩ := d190u L b8 t e0 hB l c (mx.2 rfl).1 (by have := b_s6 (mx.2 rfl).2; rw [hI_wI, if_neg (by omega), zz rfl 6 (by decide) (by decide)] at this; exact this)
      refine ⟨h1, ?_, ra, ta, fun q => absurd q f6⟩
      simp only [b182_0, b182_3, b182_6, b182_10, b182_13, b182_17, b182_20, b182_24, b182_27, b182_31, b182_34, b182_38, b182_41, b182_45, b182_48, b182_52, b182_55, b182_59, b182_62, b182_66, cond_true, cond_false, decide_true, Bool.and_true, Bool.true_and, Bool.and_self, Bool.and_false, Bool.false_and, Bool.not_true, Bool.not_false, Bool.or_true, Bool.true_or, Bool.or_false, Bool.false_or, is_some, gd_some, bk_v, bk_u, y_124 L, g1, g2, g3, g4, g5, g6, g7, ga, i00, i10]
    | true =>
      obtain ⟨h1, ga, ra, ta, qa⟩ := d190 L b8 t e0 (k4 _ hy) hB l c (mx.1 rfl) w nc
      refine ⟨h1, ?_, ra, ta, fun q => ⟨(qa q).2, (qa q).1⟩⟩
      simp only [b182_0, b182_3, b182_6, b182_10, b182_13, b182_17, b182_20, b182_24, b182_27, b182_31, b182_34, b182_38, b182_41, b182_45, b182_48, b182_52, b182_55, b182_59, b182_62, b182_66, cond_true, cond_false, decide_true, Bool.and_true, Bool.true_and, Bool.and_self, Bool.and_false, Bool.false_and, Bool.not_true, Bool.not_false, Bool.or_true, Bool.true_or, Bool.or_false, Bool.false_or, is_some, gd_some, bk_v, bk_u, y_124 L, g1, g2, g3, g4, g5, g6, g7, ga, i00, i10]
  | some 7 =>
    obtain ⟨wa, wk, wn⟩ := rv_w hy
    have w1 : isW 1 τ = false := by rw [wa 1 (by decide) (by decide), wk]; rfl
    rw [w1, bI_F] at g1
    have w2 : isW 2 τ = false := by rw [wa 2 (by decide) (by decide), wk]; rfl
    rw [w2, bI_F] at g2
    have w3 : isW 3 τ = false := by rw [wa 3 (by decide) (by decide), wk]; rfl
    rw [w3, bI_F] at g3
    have w4 : isW 4 τ = false := by rw [wa 4 (by decide) (by decide), wk]; rfl
    rw [w4, bI_F] at g4
    have w5 : isW 5 τ = false := by rw [wa 5 (by decide) (by decide), wk]; rfl
    rw [w5, bI_F] at g5
    have w6 : isW 6 τ = false := by rw [wa 6 (by decide) (by decide), wk]; rfl
    rw [w6, bI_F] at g6
    have w7 : isW 7 τ = false := by rw [wa 7 (by decide) (by decide), wk]; rfl
    rw [w7, bI_F] at g7
    have w8 : isW 8 τ = true := by rw [wa 8 (by decide) (by decide), wk]; rfl
    rw [w8, bI_T] at g8
    cases told with
    | false =>
      obtain ⟨h1, ga, ra, ta⟩ := d191u L b8 t e0 hB l c (mx.2 rfl).1
      refine ⟨h1, ?_, ra, ta, fun q => absurd q f6⟩
      simp only [b182_0, b182_3, b182_6, b182_10, b182_13, b182_17, b182_20, b182_24, b182_27, b182_31, b182_34, b182_38, b182_41, b182_45, b182_48, b182_52, b182_55, b182_59, b182_62, b182_66, cond_true, cond_false, decide_true, Bool.and_true, Bool.true_and, Bool.and_self, Bool.and_false, Bool.false_and, Bool.not_true, Bool.not_false, Bool.or_true, Bool.true_or, Bool.or_false, Bool.false_or, is_some, gd_some, bk_v, bk_u, y_124 L, g1, g2, g3, g4, g5, g6, g7, g8, ga, i00, i10]
    | true =>
      obtain ⟨h1, ga, ra, ta, qa⟩ := d191 L b8 t e0 (k4 _ hy) hB l c (mx.1 rfl) w nc
      refine ⟨h1, ?_, ra, ta, fun q => ⟨(qa q).2, (qa q).1⟩⟩
      simp only [b182_0, b182_3, b182_6, b182_10, b182_13, b182_17, b182_20, b182_24, b182_27, b182_31, b182_34, b182_38, b182_41, b182_45, b182_48, b182_52, b182_55, b182_59, b182_62, b182_66, cond_true, cond_false, decide_true, Bool.and_true, Bool.true_and, Bool.and_self, Bool.and_false, Bool.false_and, Bool.not_true, Bool.not_false, Bool.or_true, Bool.true_or, Bool.or_false, Bool.false_or, is_some, gd_some, bk_v, bk_u, y_124 L, g1, g2, g3, g4, g5, g6, g7, g8, ga, i00, i10]
  | some 8 =>
    obtain ⟨wa, wk, wn⟩ := rv_w hy
    have w1 : isW 1 τ = false := by rw [wa 1 (by decide) (by decide), wk]; rfl
    rw [w1, bI_F] at g1
    have w2 : isW 2 τ = false := by rw [wa 2 (by decide) (by decide), wk]; rfl
    rw [w2, bI_F] at g2
    have w3 : isW 3 τ = false := by rw [wa 3 (by decide) (by decide), wk]; rfl
    rw [w3, bI_F] at g3
    have w4 : isW 4 τ = false := by rw [wa 4 (by decide) (by decide), wk]; rfl
    rw [w4, bI_F] at g4
    have w5 : isW 5 τ = false := by rw [wa 5 (by decide) (by decide), wk]; rfl
    rw [w5, bI_F] at g5
    have w6 : isW 6 τ = false := by rw [wa 6 (by decide) (by decide), wk]; rfl
    rw [w6, bI_F] at g6
    have w7 : isW 7 τ = false := by rw [wa 7 (by decide) (by decide), wk]; rfl
    rw [w7, bI_F] at g7
    have w8 : isW 8 τ = false := by rw [wa 8 (by decide) (by decide), wk]; rfl
    rw [w8, bI_F] at g8
    have w9 : isW 9 τ = true := by rw [wa 9 (by decide) (by decide), wk]; rfl
    rw [w9, bI_T] at g9
    cases told with
    | false =>
      obtain ⟨h1, ga, ra, ta⟩ := d192u L b8 t e0 hB l c (mx.2 rfl).1 (by have := b_nc (mx.2 rfl).2; rw [hI_wI, if_neg (by omega), zz rfl 9 (by decide) (by decide)] at this; exact this)
      refine ⟨h1, ?_, ra, ta, fun q => absurd q f6⟩
      simp only [b182_0, b182_3, b182_6, b182_10, b182_13, b182_17, b182_20, b182_24, b182_27, b182_31, b182_34, b182_38, b182_41, b182_45, b182_48, b182_52, b182_55, b182_59, b182_62, b182_66, cond_true, cond_false, decide_true, Bool.and_true, Bool.true_and, Bool.and_self, Bool.and_false, Bool.false_and, Bool.not_true, Bool.not_false, Bool.or_true, Bool.true_or, Bool.or_false, Bool.false_or, is_some, gd_some, bk_v, bk_u, y_124 L, g1, g2, g3, g4, g5, g6, g7, g8, g9, ga, i00, i10]
    | true =>
      obtain ⟨h1, ga, ra, ta, qa⟩ := d192 L b8 t e0 (k4 _ hy) hB l c (mx.1 rfl) w nc
      refine ⟨h1, ?_, ra, ta, fun q => ⟨(qa q).2, (qa q).1⟩⟩
      simp only [b182_0, b182_3, b182_6, b182_10, b182_13, b182_17, b182_20, b182_24, b182_27, b182_31, b182_34, b182_38, b182_41, b182_45, b182_48, b182_52, b182_55, b182_59, b182_62, b182_66, cond_true, cond_false, decide_true, Bool.and_true, Bool.true_and, Bool.and_self, Bool.and_false, Bool.false_and, Bool.not_true, Bool.not_false, Bool.or_true, Bool.true_or, Bool.or_false, Bool.false_or, is_some, gd_some, bk_v, bk_u, y_124 L, g1, g2, g3, g4, g5, g6, g7, g8, g9, ga, i00, i10]
  | some (k + 9) =>
    have kk : k = 0 ∨ k = 1 := by have := (rv_9 hy).1; omega
    rcases kk with rfl | rfl
    · obtain ⟨wa, wk, wn⟩ := rv_w hy
      have w1 : isW 1 τ = false := by rw [wa 1 (by decide) (by decide), wk]; rfl
      rw [w1, bI_F] at g1
      have w2 : isW 2 τ = false := by rw [wa 2 (by decide) (by decide), wk]; rfl
      rw [w2, bI_F] at g2
      have w3 : isW 3 τ = false := by rw [wa 3 (by decide) (by decide), wk]; rfl
      rw [w3, bI_F] at g3
      have w4 : isW 4 τ = false := by rw [wa 4 (by decide) (by decide), wk]; rfl
      rw [w4, bI_F] at g4
      have w5 : isW 5 τ = false := by rw [wa 5 (by decide) (by decide), wk]; rfl
      rw [w5, bI_F] at g5
      have w6 : isW 6 τ = false := by rw [wa 6 (by decide) (by decide), wk]; rfl
      rw [w6, bI_F] at g6
      have w7 : isW 7 τ = false := by rw [wa 7 (by decide) (by decide), wk]; rfl
      rw [w7, bI_F] at g7
      have w8 : isW 8 τ = false := by rw [wa 8 (by decide) (by decide), wk]; rfl
      rw [w8, bI_F] at g8
      have w9 : isW 9 τ = false := by rw [wa 9 (by decide) (by decide), wk]; rfl
      rw [w9, bI_F] at g9
      obtain ⟨h1, ga, fa, ta⟩ := d169 L b8 t (k := 1) (by decide) (by decide)
      have ga : C 169 [.ref 124, .int 1] h = some (some none, h1) := ga
      refine ⟨h1, ?_, RM_T (RM_rfl B h) fa, ta, fun q => absurd q f1⟩
      simp only [b182_0, b182_3, b182_6, b182_10, b182_13, b182_17, b182_20, b182_24, b182_27, b182_31, b182_34, b182_38, b182_41, b182_45, b182_48, b182_52, b182_55, b182_59, b182_62, b182_66, cond_true, cond_false, decide_true, Bool.and_true, Bool.true_and, Bool.and_self, Bool.and_false, Bool.false_and, Bool.not_true, Bool.not_false, Bool.or_true, Bool.true_or, Bool.or_false, Bool.false_or, is_some, gd_some, bk_v, bk_u, y_124 L, g1, g2, g3, g4, g5, g6, g7, g8, g9, ga, i00]
    · obtain ⟨wa, wk, wn⟩ := rv_w hy
      have w1 : isW 1 τ = false := by rw [wa 1 (by decide) (by decide), wk]; rfl
      rw [w1, bI_F] at g1
      have w2 : isW 2 τ = false := by rw [wa 2 (by decide) (by decide), wk]; rfl
      rw [w2, bI_F] at g2
      have w3 : isW 3 τ = false := by rw [wa 3 (by decide) (by decide), wk]; rfl
      rw [w3, bI_F] at g3
      have w4 : isW 4 τ = false := by rw [wa 4 (by decide) (by decide), wk]; rfl
      rw [w4, bI_F] at g4
      have w5 : isW 5 τ = false := by rw [wa 5 (by decide) (by decide), wk]; rfl
      rw [w5, bI_F] at g5
      have w6 : isW 6 τ = false := by rw [wa 6 (by decide) (by decide), wk]; rfl
      rw [w6, bI_F] at g6
      have w7 : isW 7 τ = false := by rw [wa 7 (by decide) (by decide), wk]; rfl
      rw [w7, bI_F] at g7
      have w8 : isW 8 τ = false := by rw [wa 8 (by decide) (by decide), wk]; rfl
      rw [w8, bI_F] at g8
      have w9 : isW 9 τ = false := by rw [wa 9 (by decide) (by decide), wk]; rfl
      rw [w9, bI_F] at g9
      obtain ⟨h1, ga, fa, ta⟩ := d169 L b8 t (k := 1) (by decide) (by decide)
      have ga : C 169 [.ref 124, .int 1] h = some (some none, h1) := ga
      refine ⟨h1, ?_, RM_T (RM_rfl B h) fa, ta, fun q => absurd q f1⟩
      simp only [b182_0, b182_3, b182_6, b182_10, b182_13, b182_17, b182_20, b182_24, b182_27, b182_31, b182_34, b182_38, b182_41, b182_45, b182_48, b182_52, b182_55, b182_59, b182_62, b182_66, cond_true, cond_false, decide_true, Bool.and_true, Bool.true_and, Bool.and_self, Bool.and_false, Bool.false_and, Bool.not_true, Bool.not_false, Bool.or_true, Bool.true_or, Bool.or_false, Bool.false_or, is_some, gd_some, bk_v, bk_u, y_124 L, g1, g2, g3, g4, g5, g6, g7, g8, g9, ga, i00]
