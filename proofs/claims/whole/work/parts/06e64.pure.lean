set_option maxRecDepth 16384 in
theorem z_P10 {h : A_H} (L : Ly h) : hP h 2 10 = some 41 := ly_P L rfl
set_option maxRecDepth 16384 in
theorem z_P12 {h : A_H} (L : Ly h) : hP h 2 12 = some 38 := ly_P L rfl
set_option maxRecDepth 16384 in
theorem z_P13 {h : A_H} (L : Ly h) : hP h 2 13 = some 39 := ly_P L rfl
set_option maxRecDepth 16384 in
theorem z_P14 {h : A_H} (L : Ly h) : hP h 2 14 = some 40 := ly_P L rfl
set_option maxRecDepth 16384 in
theorem z_s41 {h : A_H} (L : Ly h) : hsh h 41 = (102, 11) := L.2.1 41 (by decide)
set_option maxRecDepth 16384 in
theorem z_n41 {h : A_H} (L : Ly h) : decide (41 < hn h) = true := dT (Nat.lt_of_lt_of_le (by decide) L.1)
set_option maxRecDepth 16384 in
theorem z_A41 {h : A_H} {i : Nat} (L : Ly h) (hi : i < 11) : isA h 41 2 (nI i) = true := ly_A L (by decide) rfl hi (by decide)
set_option maxRecDepth 16384 in
theorem z_A38 {h : A_H} {i : Nat} (L : Ly h) (hi : i < 19) : isA h 38 2 (nI i) = true := ly_A L (by decide) rfl hi (by decide)
set_option maxRecDepth 16384 in
theorem z_A39 {h : A_H} {i : Nat} (L : Ly h) (hi : i < 19) : isA h 39 0 (nI i) = true := ly_A L (by decide) rfl hi (by decide)
set_option maxRecDepth 16384 in
theorem z_A40 {h : A_H} {i : Nat} (L : Ly h) (hi : i < 19) : isA h 40 0 (nI i) = true := ly_A L (by decide) rfl hi (by decide)
def oM : Option Nat → Int32
  | some k => nI k
  | none => -1
set_option maxRecDepth 16384 in
theorem oM_n {y : Option Nat} (h : ∀ i, y = some i → i < 1000) : decide (oM y = -1) = y.isNone := by
  cases y with
  | none => rfl
  | some i => exact n_m1 (h i rfl)
set_option maxRecDepth 16384 in
theorem fsm_lt {p : Nat → Bool} {f k i : Nat} (h : fsm p f k = some i) : i < k + f ∧ k ≤ i ∧ p i = true := by
  induction f generalizing k with
  | zero => cases h
  | succ f ih =>
    rw [fsm_s] at h
    cases hp : p k with
    | true =>
      rw [hp, cond_true] at h
      injection h with h
      subst h
      exact ⟨by omega, Nat.le_refl _, hp⟩
    | false =>
      rw [hp, cond_false] at h
      have := ih h
      exact ⟨by omega, by omega, this.2.2⟩
set_option maxRecDepth 16384 in
theorem fsm_congr {p q : Nat → Bool} {f k : Nat} (h : ∀ j, k ≤ j → j < k + f → p j = q j) : fsm p f k = fsm q f k := by
  induction f generalizing k with
  | zero => rfl
  | succ f ih => rw [fsm_s, fsm_s, h k (by omega) (by omega), ih (fun j h1 h2 => h j (by omega) (by omega))]
def CRs (h : A_H) : Prop := ∀ i, i < 11 → hL h 41 i = nL (Wn i)
def rv (τ : Nat → Nat) : Option Nat := if τ 0 = 1 then fsm (fun i => decide (Wn i = τ 3)) 11 0 else none
set_option maxRecDepth 16384 in
theorem c31 {h : A_H} {bs : Nat → Int32} {n : Nat} {τ : Nat → Nat} (L : Ly h) (t : CKt h bs n τ) (r : CRs h) : ∃ y, C 31 [.ref 2] h = some (some (some (.int (oM y))), h) ∧ (∀ i, y = some i → i < 11) ∧ (τ 4 = 0 → y = rv τ) := by
  have z11 : Int32.ofNat (hsh h 41).2 = nI 11 := by rw [z_s41 L]; rfl
  have sh : decide ((hsh h 41).1 = 100 + 2) = true := by rw [z_s41 L]; rfl
  rw [e31]
  simp only [b31_0]
  cases hk : decide (hI h 2 6 = 1) with
  | false =>
    refine ⟨none, ?_, (fun i hi => by cases hi), fun e => ?_⟩
    · rw [b31_2]
      simp only [cond_true, cond_false, decide_true, Bool.and_true, Bool.true_and, Bool.and_self, Bool.and_false, Bool.false_and, Bool.not_true, Bool.not_false, Bool.or_true, Bool.true_or, Bool.or_false, Bool.false_or, is_some, gd_some, bk_v, bk_u, x_O2 L, z_P10 L, z_n41 L, sh, z11, hk, show decide (nI 11 ≤ (0 : Int32)) = false from rfl]
      rfl
    · obtain ⟨a1, a2, a3, a4, a5, a6⟩ := t.2.1 e
      have k1 := nk (m := 1) a6.1 (by decide)
      rw [show nI 1 = 1 from rfl, ← a2, hk] at k1
      unfold rv
      rw [if_neg (of_decide_eq_false k1.symm)]
  | true =>
    have key : ∀ f i, i + f = 11 → R 31 2 [some (.ref 2), some (.int (nI i))] [] h = some (some (some (.int (oM (fsm (fun i => decide (lg_cmp (hL h 41 i) (hL h 2 9) = 0)) f i)))), h) := by
      intro f
      induction f with
      | zero =>
        intro i hi
        have : i = 11 := by omega
        subst this
        rw [b31_2]
        simp only [cond_true, cond_false, decide_true, Bool.and_true, Bool.true_and, Bool.and_self, Bool.and_false, Bool.false_and, Bool.not_true, Bool.not_false, Bool.or_true, Bool.true_or, Bool.or_false, Bool.false_or, is_some, gd_some, bk_v, bk_u, x_O2 L, z_P10 L, z_n41 L, sh, z11, dT (Int32.le_refl (nI 11))]
        rfl
      | succ f ih =>
        intro i hi
        rw [b31_2]
        simp only [cond_true, cond_false, decide_true, Bool.and_true, Bool.true_and, Bool.and_self, Bool.and_false, Bool.false_and, Bool.not_true, Bool.not_false, Bool.or_true, Bool.true_or, Bool.or_false, Bool.false_or, is_some, gd_some, bk_v, bk_u, x_O2 L, z_P10 L, z_n41 L, sh, z11, dF (show ¬ nI 11 ≤ nI i by rw [w_le (by omega) (by omega)]; omega), hk, z_A41 L (show i < 11 by omega), w_cl (show i < 2147483648 by omega), w_s]
        rw [ih (i + 1) (by omega), fsm_s]
        cases decide (lg_cmp (hL h 41 i) (hL h 2 9) = 0) <;> rfl
    refine ⟨_, key 11 0 rfl, fun i hi => by have := (fsm_lt hi).1; omega, fun e => ?_⟩
    obtain ⟨a1, a2, a3, a4, a5, a6⟩ := t.2.1 e
    have k1 := nk (m := 1) a6.1 (by decide)
    rw [show nI 1 = 1 from rfl, ← a2, hk] at k1
    have c1 := of_decide_eq_true k1.symm
    have hv := a6.2.2.2.1 c1
    unfold rv
    rw [if_pos c1]
    apply fsm_congr
    intro j _ hj
    have hw := Wn_lt (k := j) (by omega)
    rw [r j (by omega), a5 (Or.inl c1), lgc (by omega) (by omega)]
def inm (τ : Nat → Nat) : Bool := decide (τ 0 = 1) && (rv τ).isNone
set_option maxRecDepth 16384 in
theorem c32 {h : A_H} {bs : Nat → Int32} {n : Nat} {τ : Nat → Nat} (L : Ly h) (t : CKt h bs n τ) (r : CRs h) : ∃ b, C 32 [.ref 2] h = some (some (some (.int (bI b))), h) ∧ (τ 4 = 0 → b = inm τ) := by
  obtain ⟨y, g1, g2, g3⟩ := c31 L t r
  rw [e32]
  simp only [b32_0, b32_6, x_O2 L, cond_true, g1, bk_v, z_00, z_11, oM_n (fun i hi => Nat.lt_trans (g2 i hi) (by decide))]
  by_cases e : τ 4 = 0
  · obtain ⟨a1, a2, a3, a4, a5, a6⟩ := t.2.1 e
    have k1 := nk (m := 1) a6.1 (by decide)
    rw [show nI 1 = 1 from rfl, ← a2] at k1
    refine ⟨inm τ, ?_, fun _ => rfl⟩
    unfold inm
    rw [k1, ← g3 e]
    cases decide (τ 0 = 1) <;> cases y.isNone <;> rfl
  · cases decide (hI h 2 6 = 1) with
    | false => exact ⟨false, rfl, fun c => absurd c e⟩
    | true =>
      cases y.isNone with
      | false => exact ⟨false, rfl, fun c => absurd c e⟩
      | true => exact ⟨true, rfl, fun c => absurd c e⟩
def bd (s : Nat) : Nat := if s = 3 then 3 else if s = 4 then 8 else 4
def CN (h : A_H) (P : Gh) : Prop := hI h 2 11 = nI (P 30 0) ∧ P 30 0 ≤ 19 ∧ ∀ i, i < P 30 0 → hL h 38 i = nL (P 33 i) ∧ P 33 i < 35184372088832 ∧ hI h 39 i = nI (P 31 i) ∧ P 31 i < 100 ∧ hI h 40 i = nI (P 32 i) ∧ P 32 i < bd (P 31 i)
set_option maxRecDepth 16384 in
theorem CN_FB {h h' : A_H} {P : Gh} (f : FB TF h h') (c : CN h P) : CN h' P := ⟨(FB_I f (by unfold TF; omega)).trans c.1, c.2.1, fun i hi => by
  obtain ⟨c1, c2, c3, c4, c5, c6⟩ := c.2.2 i hi
  exact ⟨(FB_L f (by omega)).trans c1, c2, (FB_I f (by unfold TF; omega)).trans c3, c4, (FB_I f (by unfold TF; omega)).trans c5, c6⟩⟩
set_option maxRecDepth 16384 in
theorem CRs_FB {P : Nat → Nat → Prop} {h h' : A_H} (f : FB P h h') (r : CRs h) : CRs h' := fun i hi => (FB_L f (by omega)).trans (r i hi)
def fd (P : Gh) (v : Nat) : Option Nat := fsm (fun i => decide (P 33 i = v)) (P 30 0) 0
set_option maxRecDepth 16384 in
theorem c33 {h : A_H} {bs : Nat → Int32} {n : Nat} {τ : Nat → Nat} (L : Ly h) (t : CKt h bs n τ) {P : Gh} (c : CN h P) : ∃ y, C 33 [.ref 2] h = some (some (some (.int (oM y))), h) ∧ (∀ i, y = some i → i < P 30 0) ∧ (τ 4 = 0 → τ 0 = 1 → y = fd P (τ 3)) := by
  obtain ⟨c1, c2, c3⟩ := c
  have key : ∀ f i, i + f = P 30 0 → R 33 2 [some (.ref 2), some (.int (nI i))] [] h = some (some (some (.int (oM (fsm (fun i => decide (lg_cmp (hL h 38 i) (hL h 2 9) = 0)) f i)))), h) := by
    intro f
    induction f with
    | zero =>
      intro i hi
      have : i = P 30 0 := by omega
      subst this
      rw [b33_2]
      simp only [x_O2 L, cond_true, c1, dT (Int32.le_refl (nI (P 30 0)))]
      rfl
    | succ f ih =>
      intro i hi
      rw [b33_2]
      simp only [cond_true, cond_false, decide_true, Bool.and_true, Bool.true_and, Bool.and_self, Bool.and_false, Bool.false_and, Bool.not_true, Bool.not_false, Bool.or_true, Bool.true_or, Bool.or_false, Bool.false_or, is_some, gd_some, bk_v, bk_u, x_O2 L, c1, dF (show ¬ nI (P 30 0) ≤ nI i by rw [w_le (by omega) (by omega)]; omega), z_P12 L, z_A38 L (show i < 19 by omega), w_cl (show i < 2147483648 by omega), w_s]
      rw [ih (i + 1) (by omega), fsm_s]
      cases decide (lg_cmp (hL h 38 i) (hL h 2 9) = 0) <;> rfl
  refine ⟨fsm (fun i => decide (lg_cmp (hL h 38 i) (hL h 2 9) = 0)) (P 30 0) 0, ?_, (fun i hi => by have := (fsm_lt hi).1; omega), fun e c0 => ?_⟩
  · rw [e33]
    simp only [b33_0]
    exact key (P 30 0) 0 (Nat.zero_add _)
  · obtain ⟨a1, a2, a3, a4, a5, a6⟩ := t.2.1 e
    have hv := a6.2.2.2.1 c0
    unfold fd
    apply fsm_congr
    intro j _ hj
    obtain ⟨d1, d2, -⟩ := c3 j (by omega)
    rw [d1, a5 (Or.inl c0), lgc (by omega) (by omega)]
def sNw (bs : Nat → Int32) (n : Nat) (P : Gh) (τ : Nat → Nat) : Nat → Nat := bif inm τ then (bif (fd P (τ 3)).isSome then sFa 3 τ else sSt bs n τ) else sFa 1 τ
def adN (P : Gh) (v s k : Nat) : Gh := fun a b => if a = 30 ∧ b = 0 then P 30 0 + 1 else if a = 31 ∧ b = P 30 0 then s else if a = 32 ∧ b = P 30 0 then k else if a = 33 ∧ b = P 30 0 then v else P a b
set_option maxRecDepth 16384 in
theorem adN_30 {P : Gh} {v s k : Nat} : adN P v s k 30 0 = P 30 0 + 1 := if_pos ⟨rfl, rfl⟩
set_option maxRecDepth 16384 in
theorem adN_lo {P : Gh} {v s k a b : Nat} (h : a < 30) : adN P v s k a b = P a b := by
  show (if a = 30 ∧ b = 0 then _ else if a = 31 ∧ b = P 30 0 then _ else if a = 32 ∧ b = P 30 0 then _ else if a = 33 ∧ b = P 30 0 then _ else P a b) = _
  rw [if_neg (by omega), if_neg (by omega), if_neg (by omega), if_neg (by omega)]
set_option maxRecDepth 16384 in
theorem adN_31 {P : Gh} {v s k i : Nat} : adN P v s k 31 i = if i = P 30 0 then s else P 31 i := by
  show (if 31 = 30 ∧ i = 0 then _ else if 31 = 31 ∧ i = P 30 0 then _ else if 31 = 32 ∧ i = P 30 0 then _ else if 31 = 33 ∧ i = P 30 0 then _ else P 31 i) = _
  rw [if_neg (by omega)]
  by_cases e : i = P 30 0
  · rw [if_pos ⟨rfl, e⟩, if_pos e]
  · rw [if_neg (by omega), if_neg (by omega), if_neg (by omega), if_neg e]
set_option maxRecDepth 16384 in
theorem adN_32 {P : Gh} {v s k i : Nat} : adN P v s k 32 i = if i = P 30 0 then k else P 32 i := by
  show (if 32 = 30 ∧ i = 0 then _ else if 32 = 31 ∧ i = P 30 0 then _ else if 32 = 32 ∧ i = P 30 0 then _ else if 32 = 33 ∧ i = P 30 0 then _ else P 32 i) = _
  rw [if_neg (by omega), if_neg (by omega)]
  by_cases e : i = P 30 0
  · rw [if_pos ⟨rfl, e⟩, if_pos e]
  · rw [if_neg (by omega), if_neg (by omega), if_neg e]
set_option maxRecDepth 16384 in
theorem adN_33 {P : Gh} {v s k i : Nat} : adN P v s k 33 i = if i = P 30 0 then v else P 33 i := by
  show (if 33 = 30 ∧ i = 0 then _ else if 33 = 31 ∧ i = P 30 0 then _ else if 33 = 32 ∧ i = P 30 0 then _ else if 33 = 33 ∧ i = P 30 0 then _ else P 33 i) = _
  rw [if_neg (by omega), if_neg (by omega), if_neg (by omega)]
  by_cases e : i = P 30 0
  · rw [if_pos ⟨rfl, e⟩, if_pos e]
  · rw [if_neg (by omega), if_neg e]
def rP (a b : Nat) : Prop := (a = 2 ∧ (b = 4 ∨ b = 5 ∨ b = 6 ∨ b = 7 ∨ b = 8 ∨ b = 11)) ∨ a = 39 ∨ a = 40
def rQ (a b : Nat) : Prop := (a = 2 ∧ b = 9) ∨ a = 38
set_option maxRecDepth 16384 in
theorem FB_G {h h' : A_H} (f : FB TF h h') : FG rP rQ h h' := FG_mo (P := TF) (Q := fun a b => a = 2 ∧ b = 9) (fun a b q => by unfold TF at q; unfold rP; omega) (fun a b q => by unfold rQ; omega) f
set_option maxRecDepth 16384 in
theorem inm_1 {τ : Nat → Nat} (h : inm τ = true) : τ 0 = 1 := by
  unfold inm at h
  rw [Bool.and_eq_true] at h
  exact of_decide_eq_true h.1
set_option maxRecDepth 16384 in
theorem c34 {h : A_H} {bs : Nat → Int32} {n : Nat} {τ : Nat → Nat} (L : Ly h) (t : CKt h bs n τ) (r : CRs h) {P : Gh} (c : CN h P) (h19 : P 30 0 < 19) (e : τ 4 = 0) {s k : Nat} (hs : s < 100) (hk : k < bd s) : ∃ h', C 34 [.ref 2, .int (nI s), .int (nI k)] h = some (some none, h') ∧ FG rP rQ h h' ∧ CKt h' bs n (sNw bs n P τ) ∧ (CN h' P ∨ CN h' (adN P (τ 3) s k)) ∧ ((sNw bs n P τ) 4 = 0 → CN h' (adN P (τ 3) s k)) := by
  obtain ⟨b, g1, g2⟩ := c32 L t r
  obtain ⟨y, k1, k2, k3⟩ := c33 L t c
  have g2 := g2 e
  subst g2
  rw [e34]
  simp only [b34_0, b34_2, x_O2 L, cond_true, g1, bk_v, z_0, Bool.not_not]
  unfold sNw
  cases hn : inm τ with
  | false =>
    obtain ⟨h3, j1, j2, j3⟩ := c24 L t (k := 1) (by decide) (by decide)
    rw [show nI 1 = 1 from rfl] at j1
    simp only [cond_false, j1, bk_u, b34_6]
    exact ⟨h3, rfl, FB_G j2, j3, Or.inl (CN_FB j2 c), fun c => absurd c (sFa_n e (by decide))⟩
  | true =>
    have c0 := inm_1 hn
    have k3 := k3 e c0
    subst k3
    simp only [cond_true, k1, bk_v, b34_9, oM_n (fun i hi => Nat.lt_trans (k2 i hi) (by omega))]
    cases hf : (fd P (τ 3)).isSome with
    | true =>
      obtain ⟨h3, j1, j2, j3⟩ := c24 L t (k := 3) (by decide) (by decide)
      rw [show nI 3 = 3 from rfl] at j1
      have : (fd P (τ 3)).isNone = false := by
        cases hq : fd P (τ 3) with
        | none => rw [hq] at hf; cases hf
        | some i => rfl
      simp only [this, cond_false, x_O2 L, cond_true, j1, bk_u, b34_14]
      exact ⟨h3, rfl, FB_G j2, j3, Or.inl (CN_FB j2 c), fun c => absurd c (sFa_n e (by decide))⟩
    | false =>
      have hno : (fd P (τ 3)).isNone = true := by
        cases hq : fd P (τ 3) with
        | none => rfl
        | some i => rw [hq] at hf; cases hf
      obtain ⟨c1, c2, c3⟩ := c
      obtain ⟨a1, a2, a3, a4, a5, a6⟩ := t.2.1 e
      have l19 : decide ((19 : Int32) ≤ nI (P 30 0)) = false := by rw [show (19 : Int32) = nI 19 from rfl]; exact dF (by rw [w_le (by decide) (by omega)]; omega)
      have f1 : FG rP rQ h (wI (wI (wI (wL h 38 (P 30 0) (nL (τ 3))) 39 (P 30 0) (nI s)) 40 (P 30 0) (nI k)) 2 11 (nI (P 30 0 + 1))) := FG_wI (FG_wI (FG_wI (FG_wL (FG_rfl _ _ h) _ (Or.inr rfl)) _ (Or.inr (Or.inl rfl))) _ (Or.inr (Or.inr rfl))) _ (Or.inl (by omega))
      have i1 : hI (wL h 38 (P 30 0) (nL (τ 3))) 2 11 = nI (P 30 0) := c1
      have i2 : hI (wI (wL h 38 (P 30 0) (nL (τ 3))) 39 (P 30 0) (nI s)) 2 11 = nI (P 30 0) := by rw [hI_wI, if_neg (by omega)]; exact c1
      have i3 : hI (wI (wI (wL h 38 (P 30 0) (nL (τ 3))) 39 (P 30 0) (nI s)) 40 (P 30 0) (nI k)) 2 11 = nI (P 30 0) := by rw [hI_wI, if_neg (by omega)]; exact i2
      have L1 := FG_Ly f1 L
      have t1 : CKt (wI (wI (wI (wL h 38 (P 30 0) (nL (τ 3))) 39 (P 30 0) (nI s)) 40 (P 30 0) (nI k)) 2 11 (nI (P 30 0 + 1))) bs n τ := by
        have q : ∀ b, b ≤ 8 → hI (wI (wI (wI (wL h 38 (P 30 0) (nL (τ 3))) 39 (P 30 0) (nI s)) 40 (P 30 0) (nI k)) 2 11 (nI (P 30 0 + 1))) 2 b = hI h 2 b := by
          intro b hb
          rw [hI_wI, if_neg (by omega), hI_wI, if_neg (by omega), hI_wI, if_neg (by omega)]; rfl
        have q1 : ∀ b, hI (wI (wI (wI (wL h 38 (P 30 0) (nL (τ 3))) 39 (P 30 0) (nI s)) 40 (P 30 0) (nI k)) 2 11 (nI (P 30 0 + 1))) 1 b = hI h 1 b := by
          intro b
          rw [hI_wI, if_neg (by omega), hI_wI, if_neg (by omega), hI_wI, if_neg (by omega)]; rfl
        have q9 : hL (wI (wI (wI (wL h 38 (P 30 0) (nL (τ 3))) 39 (P 30 0) (nI s)) 40 (P 30 0) (nI k)) 2 11 (nI (P 30 0 + 1))) 2 9 = hL h 2 9 := by
          show hL (wL h 38 (P 30 0) (nL (τ 3))) 2 9 = _
          rw [hL_wL, if_neg (by omega)]
        obtain ⟨t1, t2, t3, e', t4, t5⟩ := t
        exact ⟨⟨(q 1 (by decide)).trans t1.1, t1.2.1, fun j hj => (q1 j).trans (t1.2.2 j hj)⟩, fun _ => ⟨(q 4 (by decide)).trans a1, (q 6 (by decide)).trans a2, (q 7 (by decide)).trans a3, (q 8 (by decide)).trans a4, fun c => q9.trans (a5 c), a6⟩, fun c => absurd e c, e', t4, (q 8 (by decide)).trans t5⟩
      obtain ⟨h4, j1, j2, j3⟩ := c25' L1 t1
      have cN : CN (wI (wI (wI (wL h 38 (P 30 0) (nL (τ 3))) 39 (P 30 0) (nI s)) 40 (P 30 0) (nI k)) 2 11 (nI (P 30 0 + 1))) (adN P (τ 3) s k) := by
        refine ⟨?_, by rw [adN_30]; omega, fun i hi => ?_⟩
        · rw [adN_30, hI_wI, if_pos ⟨rfl, rfl⟩]
        · rw [adN_30] at hi
          rw [adN_31, adN_32, adN_33]
          by_cases ei : i = P 30 0
          · rw [if_pos ei, if_pos ei, if_pos ei]
            refine ⟨?_, a6.2.2.2.1 c0, ?_, hs, ?_, hk⟩
            · show hL (wL h 38 (P 30 0) (nL (τ 3))) 38 i = _
              rw [hL_wL, if_pos ⟨rfl, ei⟩]
            · rw [hI_wI, if_neg (by omega), hI_wI, if_neg (by omega), hI_wI, if_pos ⟨rfl, ei⟩]
            · rw [hI_wI, if_neg (by omega), hI_wI, if_pos ⟨rfl, ei⟩]
          · rw [if_neg ei, if_neg ei, if_neg ei]
            obtain ⟨d1, d2, d3, d4, d5, d6⟩ := c3 i (by omega)
            refine ⟨?_, d2, ?_, d4, ?_, d6⟩
            · show hL (wL h 38 (P 30 0) (nL (τ 3))) 38 i = _
              rw [hL_wL, if_neg (by omega)]; exact d1
            · rw [hI_wI, if_neg (by omega), hI_wI, if_neg (by omega), hI_wI, if_neg (by omega)]; exact d3
            · rw [hI_wI, if_neg (by omega), hI_wI, if_neg (by omega)]; exact d5
      refine ⟨h4, ?_, FG_tr f1 (FB_G j2), j3, Or.inr (CN_FB j2 cN), fun _ => CN_FB j2 cN⟩
      simp only [hno, cond_true, cond_false, decide_true, Bool.and_true, Bool.true_and, Bool.and_self, Bool.and_false, Bool.false_and, Bool.not_true, Bool.not_false, Bool.or_true, Bool.true_or, Bool.or_false, Bool.false_or, is_some, gd_some, bk_v, bk_u, x_O2 L, c1, l19, z_P12 L, z_A38 L h19, w_cl (show P 30 0 < 2147483648 by omega), a5 (Or.inl c0), b34_26, isO_wL, hP_wL, isA_wL, z_P13 L, i1, z_A39 L h19, b34_32, isO_wI, hP_wI, isA_wI, i2, z_P14 L, z_A40 L h19, b34_38, i3, w_s, b34_44, j1, b34_46]
def sKn (s : Nat) (P : Gh) (τ : Nat → Nat) : Nat → Nat := bif inm τ then (match fd P (τ 3) with
  | none => sFa 2 τ
  | some i => bif decide (P 31 i = s) then τ else sFa 2 τ) else sFa 1 τ
def knV (P : Gh) (τ : Nat → Nat) : Nat := P 32 ((fd P (τ 3)).getD 0)
set_option maxRecDepth 16384 in
theorem sKn_1 {s : Nat} {P : Gh} {τ : Nat → Nat} (h : ¬ τ 4 = 0) : sKn s P τ = τ := by
  unfold sKn
  rw [sFa_1 h, sFa_1 h]
  cases inm τ
  · rfl
  · cases fd P (τ 3) with
    | none => rfl
    | some i => simp only [cond_true]; cases decide (P 31 i = s) <;> rfl
set_option maxRecDepth 16384 in
theorem bd_pos (s : Nat) : 0 < bd s := by
  unfold bd
  by_cases e : s = 3
  · rw [if_pos e]; decide
  · rw [if_neg e]
    by_cases e2 : s = 4
    · rw [if_pos e2]; decide
    · rw [if_neg e2]; decide
set_option maxRecDepth 16384 in
theorem c35 {h : A_H} {bs : Nat → Int32} {n : Nat} {τ : Nat → Nat} (L : Ly h) (t : CKt h bs n τ) (r : CRs h) {P : Gh} (c : CN h P) {s : Nat} (hs : s < 100) : ∃ m h', C 35 [.ref 2, .int (nI s)] h = some (some (some (.int (nI m))), h') ∧ FB TF h h' ∧ CKt h' bs n (sKn s P τ) ∧ m < bd s ∧ ((sKn s P τ) 4 = 0 → m = knV P τ) := by
  obtain ⟨b, g1, g2⟩ := c32 L t r
  obtain ⟨y, k1, k2, k3⟩ := c33 L t c
  obtain ⟨c1, c2, c3⟩ := c
  obtain ⟨h3, j1, j2, j3⟩ := c24 L t (k := 1) (by decide) (by decide)
  obtain ⟨h4, i1, i2, i3⟩ := c24 L t (k := 2) (by decide) (by decide)
  rw [show nI 1 = 1 from rfl] at j1
  rw [show nI 2 = 2 from rfl] at i1
  rw [e35]
  simp only [b35_0, b35_2, b35_5, x_O2 L, cond_true, k1, bk_v, g1, z_0, Bool.not_not, oM_n (fun i hi => Nat.lt_trans (k2 i hi) (by omega)), j1, i1, bk_u, b35_9, b35_22]
 
  cases b with
  | false =>
    simp only [cond_false]
    refine ⟨0, h3, rfl, j2, ?_, bd_pos s, ?_⟩
    · by_cases e : τ 4 = 0
      · unfold sKn; rw [← g2 e]; exact j3
      · rw [sKn_1 e]; rw [sFa_1 e] at j3; exact j3
    · intro cc
      by_cases e : τ 4 = 0
      · unfold sKn at cc; rw [← g2 e] at cc; exact absurd cc (sFa_n e (by decide))
      · rw [sKn_1 e] at cc; exact absurd cc e
  | true =>
    simp only [cond_true]
    cases y with
    | none =>
      simp only [Option.isNone_none, cond_true]
      refine ⟨0, h4, rfl, i2, ?_, bd_pos s, ?_⟩
      · by_cases e : τ 4 = 0
        · unfold sKn; rw [← g2 e, cond_true, ← k3 e (inm_1 (g2 e).symm)]; exact i3
        · rw [sKn_1 e]; rw [sFa_1 e] at i3; exact i3
      · intro cc
        by_cases e : τ 4 = 0
        · unfold sKn at cc; rw [← g2 e, cond_true, ← k3 e (inm_1 (g2 e).symm)] at cc; exact absurd cc (sFa_n e (by decide))
        · rw [sKn_1 e] at cc; exact absurd cc e
    | some i =>
      have hi := k2 i rfl
      obtain ⟨d1, d2, d3, d4, d5, d6⟩ := c3 i hi
      rw [show oM (some i) = nI i from rfl]
      simp only [Option.isNone_some, cond_false, cond_true, cond_false, decide_true, Bool.and_true, Bool.true_and, Bool.and_self, Bool.and_false, Bool.false_and, Bool.not_true, Bool.not_false, Bool.or_true, Bool.true_or, Bool.or_false, Bool.false_or, is_some, gd_some, bk_v, bk_u, x_O2 L, z_P13 L, z_A39 L (show i < 19 by omega), w_cl (show i < 2147483648 by omega), d3, w_eq (show P 31 i < 2147483648 by omega) (show s < 2147483648 by omega), z_P14 L, z_A40 L (show i < 19 by omega), d5]
      by_cases c4 : P 31 i = s
      · simp only [dT c4, cond_true]
        refine ⟨P 32 i, h, rfl, FB_rfl _ h, ?_, by rw [← c4]; exact d6, ?_⟩
        · by_cases e : τ 4 = 0
          · unfold sKn
            rw [← g2 e, cond_true, ← k3 e (inm_1 (g2 e).symm)]
            simp only [dT c4, cond_true]
            exact t
          · rw [sKn_1 e]; exact t
        · intro cc
          by_cases e : τ 4 = 0
          · unfold knV
            rw [← k3 e (inm_1 (g2 e).symm)]; rfl
          · rw [sKn_1 e] at cc; exact absurd cc e
      · simp only [dF c4, cond_false]
        refine ⟨0, h4, rfl, i2, ?_, bd_pos s, ?_⟩
        · by_cases e : τ 4 = 0
          · unfold sKn
            rw [← g2 e, cond_true, ← k3 e (inm_1 (g2 e).symm)]
            simp only [dF c4, cond_false]
            exact i3
          · rw [sKn_1 e]; rw [sFa_1 e] at i3; exact i3
        · intro cc
          by_cases e : τ 4 = 0
          · unfold sKn at cc
            rw [← g2 e, cond_true, ← k3 e (inm_1 (g2 e).symm)] at cc
            simp only [dF c4, cond_false] at cc
            exact absurd cc (sFa_n e (by decide))
          · rw [sKn_1 e] at cc; exact absurd cc e
def sRm (bs : Nat → Int32) (n a m : Nat) (τ : Nat → Nat) : Nat → Nat := if a < m then sSt bs n τ else sFa 5 τ
set_option maxRecDepth 16384 in
theorem c37 {h : A_H} {bs : Nat → Int32} {n : Nat} {τ : Nat → Nat} (L : Ly h) (t : CKt h bs n τ) {a m : Nat} (ha : a < 1000) (hm : m < 1000) : ∃ h', C 37 [.ref 2, .int (nI a), .int (nI m)] h = some (some (some (.int (bI (decide (a < m))))), h') ∧ FB TF h h' ∧ CKt h' bs n (sRm bs n a m τ) := by
  obtain ⟨h3, j1, j2, j3⟩ := c24 L t (k := 5) (by decide) (by decide)
  obtain ⟨h4, i1, i2, i3⟩ := c25' L t
  rw [show nI 5 = 5 from rfl] at j1
  rw [e37]
  simp only [b37_0, b37_6, b37_10, w_lt (show a < 2147483648 by omega) (show m < 2147483648 by omega), x_O2 L, cond_true, j1, i1, bk_u, z_00, z_11]
  unfold sRm
  by_cases c : a < m
  · rw [dT c, if_pos c]; exact ⟨h4, rfl, i2, i3⟩
  · rw [dF c, if_neg c]; exact ⟨h3, rfl, j2, j3⟩
def kd (τ : Nat → Nat) : Nat := bif isW 22 τ then 1 else bif isW 23 τ then 2 else bif isW 24 τ then 3 else bif isW 25 τ then 4 else 0
def sKi (bs : Nat → Int32) (n : Nat) (τ : Nat → Nat) : Nat → Nat := bif isW 22 τ || isW 23 τ || isW 24 τ || isW 25 τ || isW 10 τ then sSt bs n τ else sFa 1 τ
set_option maxRecDepth 16384 in
theorem c43 {h : A_H} {bs : Nat → Int32} {n : Nat} {τ : Nat → Nat} (L : Ly h) (t : CKt h bs n τ) : ∃ m h', C 43 [.ref 2] h = some (some (some (.int (nI m))), h') ∧ FB TF h h' ∧ CKt h' bs n (sKi bs n τ) ∧ m ≤ 4 ∧ ((sKi bs n τ) 4 = 0 → m = kd τ) := by
  obtain ⟨w1, g1, e1⟩ := c28 L t (x := 22) (by decide) (by decide)
  obtain ⟨w2, g2, e2⟩ := c28 L t (x := 23) (by decide) (by decide)
  obtain ⟨w3, g3, e3⟩ := c28 L t (x := 24) (by decide) (by decide)
  obtain ⟨w4, g4, e4⟩ := c28 L t (x := 25) (by decide) (by decide)
  obtain ⟨w5, g5, e5⟩ := c28 L t (x := 10) (by decide) (by decide)
  obtain ⟨h3, j1, j2, j3⟩ := c24 L t (k := 1) (by decide) (by decide)
  obtain ⟨h4, i1, i2, i3⟩ := c25' L t
  obtain ⟨h5, m1, m2, m3⟩ := c25' (FB_Ly j2 L) j3
  rw [show nI 1 = 1 from rfl] at j1
  have m3' : CKt h5 bs n (sFa 1 τ) := by
    by_cases e : τ 4 = 0
    · rw [sSt_1 (sFa_n e (by decide))] at m3; exact m3
    · rw [sFa_1 e] at m3 ⊢; rw [sSt_1 e] at m3; exact m3
  rw [e43]
  simp only [b43_0, b43_5, b43_12, b43_19, b43_26, b43_33, b43_37, b43_39, x_O2 L, cond_true, g1, g2, g3, g4, g5, bk_v, z_0, i1, j1, bk_u, x_O2 (FB_Ly j2 L), m1, Bool.not_not]
  have stp : ∀ m : Nat, m ≤ 4 → (τ 4 = 0 → (isW 22 τ || isW 23 τ || isW 24 τ || isW 25 τ || isW 10 τ) = true ∧ m = kd τ) → ∃ m' h', some (some (some (Value.int (nI m))), h4) = some (some (some (Value.int (nI m'))), h') ∧ FB TF h h' ∧ CKt h' bs n (sKi bs n τ) ∧ m' ≤ 4 ∧ ((sKi bs n τ) 4 = 0 → m' = kd τ) := by
    intro m hm hq
    refine ⟨m, h4, rfl, i2, ?_, hm, fun c => ?_⟩
    · by_cases e : τ 4 = 0
      · unfold sKi; rw [(hq e).1]; exact i3
      · unfold sKi; rw [sFa_1 e]; rw [sSt_1 e] at i3 ⊢; cases (isW 22 τ || isW 23 τ || isW 24 τ || isW 25 τ || isW 10 τ) <;> exact i3
    · by_cases e : τ 4 = 0
      · exact (hq e).2
      · unfold sKi at c; rw [sFa_1 e, sSt_1 e] at c
        cases hx : (isW 22 τ || isW 23 τ || isW 24 τ || isW 25 τ || isW 10 τ) <;> rw [hx] at c <;> exact absurd c e
  cases w1 with
  | true => exact stp 1 (by decide) (fun e => by unfold kd; rw [← e1 e]; exact ⟨rfl, rfl⟩)
  | false =>
    cases w2 with
    | true => exact stp 2 (by decide) (fun e => by unfold kd; rw [← e1 e, ← e2 e]; exact ⟨rfl, rfl⟩)
    | false =>
      cases w3 with
      | true => exact stp 3 (by decide) (fun e => by unfold kd; rw [← e1 e, ← e2 e, ← e3 e]; exact ⟨rfl, rfl⟩)
      | false =>
        cases w4 with
        | true => exact stp 4 (by decide) (fun e => by unfold kd; rw [← e1 e, ← e2 e, ← e3 e, ← e4 e]; exact ⟨rfl, rfl⟩)
        | false =>
          cases w5 with
          | true => exact stp 0 (by decide) (fun e => by unfold kd; rw [← e1 e, ← e2 e, ← e3 e, ← e4 e, ← e5 e]; exact ⟨rfl, rfl⟩)
          | false =>
            refine ⟨0, h5, rfl, FB_tr j2 m2, ?_, by decide, fun c => ?_⟩
            · by_cases e : τ 4 = 0
              · unfold sKi; rw [← e1 e, ← e2 e, ← e3 e, ← e4 e, ← e5 e]; exact m3'
              · unfold sKi; rw [sSt_1 e]; rw [sFa_1 e] at m3' ⊢; cases (isW 22 τ || isW 23 τ || isW 24 τ || isW 25 τ || isW 10 τ) <;> exact m3'
            · by_cases e : τ 4 = 0
              · unfold sKi at c; rw [← e1 e, ← e2 e, ← e3 e, ← e4 e, ← e5 e] at c; exact absurd c (sFa_n e (by decide))
              · unfold sKi at c; rw [sFa_1 e, sSt_1 e] at c
                cases hx : (isW 22 τ || isW 23 τ || isW 24 τ || isW 25 τ || isW 10 τ) <;> rw [hx] at c <;> exact absurd c e
def MKt (h : A_H) (bs : Nat → Int32) (n : Nat) (τ : Nat → Nat) : Prop := MTp h bs n ∧ (τ 4 = 0 → hI h 124 9 = nI (mk (τ 0)) ∧ hI h 124 10 = nI (τ 1) ∧ (¬ τ 0 = 4 → hI h 124 8 = nI (τ 2)) ∧ (τ 0 = 1 → hL h 124 14 = nL (τ 3)) ∧ (τ 0 = 2 → hI h 124 11 = nI (τ 3)) ∧ hI h 124 12 = 0 ∧ tok' n τ) ∧ (¬ τ 4 = 0 → hI h 124 9 = 5 ∧ hI h 124 12 = nI (τ 4) ∧ τ 4 < 100 ∧ hI h 124 13 = nI (τ 5))
def mT (a b : Nat) : Prop := a = 124 ∧ (b = 8 ∨ b = 9 ∨ b = 10 ∨ b = 11 ∨ b = 12 ∨ b = 13)
set_option maxRecDepth 16384 in
theorem MTp_mT {h h' : A_H} {bs : Nat → Int32} {n : Nat} (f : FG mT ML14 h h') (t : MTp h bs n) : MTp h' bs n := MTp_FG f t (by unfold mT; omega) (fun k => by unfold mT; omega)
set_option maxRecDepth 16384 in
theorem mk_ne5 {k : Nat} : decide (nI (mk k) = 5) = false := by
  match k with
  | 0 => rfl
  | 1 => rfl
  | 2 => rfl
  | 3 => rfl
  | _ + 4 => rfl
set_option maxRecDepth 16384 in
theorem mk_is {k : Nat} (hk : k ≤ 4) (m : Nat) (hm : m ≤ 3) : decide (nI (mk k) = nI (m + 1)) = decide (k = m) := by
  have : ∀ k : Fin 5, ∀ m : Fin 4, decide (nI (mk k.val) = nI (m.val + 1)) = decide (k.val = m.val) := by decide
  exact this ⟨k, by omega⟩ ⟨m, by omega⟩
set_option maxRecDepth 16384 in
theorem d169 {h : A_H} {bs : Nat → Int32} {n : Nat} {τ : Nat → Nat} (L : Ly h) (b8 : B8 bs n) (t : MKt h bs n τ) {k : Nat} (hk0 : ¬ k = 0) (hk : k < 100) : ∃ h', C 169 [.ref 124, .int (nI k)] h = some (some none, h') ∧ FG mT ML14 h h' ∧ MKt h' bs n (sFa k τ) := by
  obtain ⟨t1, t2, t3⟩ := t
  by_cases e : τ 4 = 0
  · obtain ⟨a1, a2, a3, a4, a5, a6, a7⟩ := t2 e
    have f : FG mT ML14 h (wI (wI (wI h 124 12 (nI k)) 124 13 (nI (τ 1))) 124 9 5) := FG_wI (FG_wI (FG_wI (FG_rfl _ _ h) _ ⟨rfl, by omega⟩) _ ⟨rfl, by omega⟩) _ ⟨rfl, by omega⟩
    have i10 : hI (wI h 124 12 (nI k)) 124 10 = nI (τ 1) := by rw [hI_wI, if_neg (by omega)]; exact a2
    refine ⟨_, ?_, f, MTp_mT f t1, fun c => absurd c (sFa_n e hk0), fun _ => ?_⟩
    · rw [e169]
      simp only [b169_0, b169_8, b169_12, b169_15, y_124 L, isO_wI, cond_true, a1, mk_ne5, Bool.not_false, i10]
    · rw [sFa_0 e]
      refine ⟨?_, ?_, hk, ?_⟩
      · rw [hI_wI, if_pos ⟨rfl, rfl⟩]
      · rw [hI_wI, if_neg (by omega), hI_wI, if_neg (by omega), hI_wI, if_pos ⟨rfl, rfl⟩]; rfl
      · rw [hI_wI, if_neg (by omega), hI_wI, if_pos ⟨rfl, rfl⟩]; rfl
  · obtain ⟨a1, a2, a3, a4⟩ := t3 e
    refine ⟨h, ?_, FG_rfl _ _ h, ?_⟩
    · rw [e169]
      simp only [b169_0, y_124 L, cond_true, a1, decide_true, Bool.not_true, cond_false]
    · rw [sFa_1 e]; exact ⟨t1, t2, t3⟩
set_option maxRecDepth 16384 in
theorem d168' {h : A_H} {bs : Nat → Int32} {n : Nat} {τ : Nat → Nat} (L : Ly h) (b8 : B8 bs n) (t : MKt h bs n τ) (h4 : τ 4 = 0 → ¬ τ 0 = 4) : ∃ h', C 168 [.ref 124] h = some (some none, h') ∧ FG mT ML14 h h' ∧ MKt h' bs n (sSt bs n τ) := by
  obtain ⟨t1, t2, t3⟩ := t
  by_cases e : τ 4 = 0
  · obtain ⟨a1, a2, a3, a4, a5, a6, a7⟩ := t2 e
    obtain ⟨h', g1, f, i9, i10, i8, i14, i11⟩ := d168 L t1 b8 a7.2.2.1 (a3 (h4 e)) (by rw [a1]; exact mk_ne5)
    have f' : FG mT ML14 h h' := FG_mo (fun a b q => by unfold MT at q; unfold mT; omega) (fun _ _ q => q) f
    refine ⟨h', g1, f', MTp_mT f' t1, fun _ => ?_, fun c => ?_⟩
    · have tk := tok_st (bs := bs) a7.2.2.1 e
      rw [sSt_0 e] at tk ⊢
      exact ⟨i9, i10, i8, i14, i11, (FG_I f (by unfold MT; omega)).trans a6, tk⟩
    · rw [sSt_0 e] at c; exact absurd rfl c
  · obtain ⟨a1, a2, a3, a4⟩ := t3 e
    refine ⟨h, d168x L a1, FG_rfl _ _ h, ?_⟩
    rw [sSt_1 e]; exact ⟨t1, t2, t3⟩
set_option maxRecDepth 16384 in
theorem d170 {h : A_H} {bs : Nat → Int32} {n : Nat} {τ : Nat → Nat} (L : Ly h) (b8 : B8 bs n) (t : MKt h bs n τ) {x : UInt32} (h1 : 0 < x.toNat) (h2 : x.toNat ≤ 32) : C 170 [.ref 124, .float x] h = some (some (some (.int (bI (decide (τ 4 = 0) && isW x τ)))), h) := by
  rw [e170]
  simp only [b170_0, b170_8, y_124 L, cond_true, d285 h1 h2, bk_v, z_00, z_11]
  by_cases e : τ 4 = 0
  · obtain ⟨a1, a2, a3, a4, a5, a6, a7⟩ := t.2.1 e
    have k1 := mk_is a7.1 1 (by decide)
    rw [show nI (1 + 1) = 2 from rfl] at k1
    rw [a1, k1, dT e, Bool.true_and]
    unfold isW
    by_cases c : τ 0 = 1
    · have := a7.2.2.2.1 c
      have w := wT_lt h1 h2
      rw [dT c, a4 c, lgc (by omega) (by omega)]
      cases decide (τ 3 = wT x) <;> rfl
    · rw [dF c]; rfl
  · obtain ⟨a1, -⟩ := t.2.2 e
    rw [a1, dF e]; rfl
set_option maxRecDepth 16384 in
theorem isW_k {x : UInt32} {τ : Nat → Nat} (h : isW x τ = true) : τ 0 = 1 := by
  unfold isW at h
  rw [Bool.and_eq_true] at h
  exact of_decide_eq_true h.1
set_option maxRecDepth 16384 in
theorem d172 {h : A_H} {bs : Nat → Int32} {n : Nat} {τ : Nat → Nat} (L : Ly h) (b8 : B8 bs n) (t : MKt h bs n τ) {x : UInt32} (h1 : 0 < x.toNat) (h2 : x.toNat ≤ 32) : ∃ h', C 172 [.ref 124, .float x] h = some (some none, h') ∧ FG mT ML14 h h' ∧ MKt h' bs n (sWd bs n x τ) := by
  rw [e172]
  simp only [b172_0, b172_3, y_124 L, cond_true, d170 L b8 t h1 h2, bk_v, z_0, Bool.not_not]
  by_cases e : τ 4 = 0
  · rw [dT e, Bool.true_and]
    unfold sWd
    cases hw : isW x τ with
    | true =>
      obtain ⟨h4, j1, j2, j3⟩ := d168' L b8 t (fun _ => by rw [isW_k hw]; decide)
      simp only [cond_true, j1, bk_u, b172_9]
      exact ⟨h4, rfl, j2, j3⟩
    | false =>
      obtain ⟨h3, k1, k2, k3⟩ := d169 L b8 t (k := 1) (by decide) (by decide)
      rw [show nI 1 = 1 from rfl] at k1
      obtain ⟨h4, j1, j2, j3⟩ := d168' (FG_Ly k2 L) b8 k3 (fun c => absurd c (sFa_n e (by decide)))
      simp only [cond_false, k1, bk_u, b172_7, y_124 (FG_Ly k2 L), cond_true, j1, b172_9]
      rw [sSt_1 (sFa_n e (by decide))] at j3
      exact ⟨h4, rfl, FG_tr k2 j2, j3⟩
  · rw [dF e, Bool.false_and, sWd_1 e]
    obtain ⟨h3, k1, k2, k3⟩ := d169 L b8 t (k := 1) (by decide) (by decide)
    rw [show nI 1 = 1 from rfl] at k1
    rw [sFa_1 e] at k3
    obtain ⟨h4, j1, j2, j3⟩ := d168' (FG_Ly k2 L) b8 k3 (fun c => absurd c e)
    simp only [cond_false, k1, bk_u, b172_7, y_124 (FG_Ly k2 L), cond_true, j1, b172_9]
    rw [sSt_1 e] at j3
    exact ⟨h4, rfl, FG_tr k2 j2, j3⟩
set_option maxRecDepth 16384 in
theorem d173 {h : A_H} {bs : Nat → Int32} {n : Nat} {τ : Nat → Nat} (L : Ly h) (b8 : B8 bs n) (t : MKt h bs n τ) {lo hi : Nat} (hl : lo < 1000) (hh : hi < 1000) : ∃ m h', C 173 [.ref 124, .int (nI lo), .int (nI hi)] h = some (some (some (.int (nI m))), h') ∧ FG mT ML14 h h' ∧ MKt h' bs n (sWh bs n lo hi τ) ∧ m < 1000 ∧ ((sWh bs n lo hi τ) 4 = 0 → m = τ 3) := by
  rw [e173]
  simp only [b173_0, b173_7, b173_13, b173_17, b173_28, y_124 L, cond_true]
  by_cases e : τ 4 = 0
  · obtain ⟨a1, a2, a3, a4, a5, a6, a7⟩ := t.2.1 e
    have q1 := mk_is a7.1 2 (by decide)
    rw [show nI (2 + 1) = 3 from rfl] at q1
    rw [a1, q1]
    unfold sWh
    by_cases c : τ 0 = 2
    · have hv := a7.2.2.2.2 c
      rw [dT c, if_pos c, a5 c]
      simp only [cond_true, d160n (show τ 3 < 2147483648 by omega) (show lo < 2147483648 by omega) (show hi < 2147483648 by omega), bk_v, b173_13, z_0, Bool.not_not, y_124 L, a1, mk_ne5, Bool.not_false, a5 c]
      by_cases d : lo ≤ τ 3 ∧ τ 3 ≤ hi
      · obtain ⟨h4, j1, j2, j3⟩ := d168' L b8 t (fun _ => by omega)
        rw [if_pos d, dT d.1, dT d.2]
        simp only [Bool.and_self, cond_true, j1, bk_u, b173_28]
        exact ⟨τ 3, h4, rfl, j2, j3, hv, fun _ => rfl⟩
      · obtain ⟨h3, k1, k2, k3⟩ := d169 L b8 t (k := 4) (by decide) (by decide)
        rw [show nI 4 = 4 from rfl] at k1
        have La := FG_Ly k2 L
        obtain ⟨b1, -⟩ := k3.2.2 (sFa_n e (by decide))
        obtain ⟨h4, j1, j2, j3⟩ := d168' La b8 k3 (fun c => absurd c (sFa_n e (by decide)))
        rw [sSt_1 (sFa_n e (by decide))] at j3
        rw [if_neg d]
        have dd : (decide (lo ≤ τ 3) && decide (τ 3 ≤ hi)) = false := by
          rw [Bool.and_eq_false_iff]
          by_cases d1 : lo ≤ τ 3
          · exact Or.inr (dF (fun c => d ⟨d1, c⟩))
          · exact Or.inl (dF d1)
        simp only [dd, cond_false, k1, bk_u, b173_17, y_124 La, cond_true, b1, decide_true, Bool.not_true, j1, b173_28]
        exact ⟨lo, h4, rfl, FG_tr k2 j2, j3, hl, fun c => absurd c (sFa_n e (by decide))⟩
    · obtain ⟨h3, k1, k2, k3⟩ := d169 L b8 t (k := 1) (by decide) (by decide)
      rw [show nI 1 = 1 from rfl] at k1
      have La := FG_Ly k2 L
      obtain ⟨b1, -⟩ := k3.2.2 (sFa_n e (by decide))
      obtain ⟨h4, j1, j2, j3⟩ := d168' La b8 k3 (fun c => absurd c (sFa_n e (by decide)))
      rw [sSt_1 (sFa_n e (by decide))] at j3
      rw [dF c, if_neg c]
      simp only [cond_false, k1, bk_u, b173_7, y_124 La, cond_true, b1, decide_true, Bool.not_true, j1, b173_28]
      exact ⟨lo, h4, rfl, FG_tr k2 j2, j3, hl, fun c => absurd c (sFa_n e (by decide))⟩
  · obtain ⟨a1, -⟩ := t.2.2 e
    obtain ⟨h3, k1, k2, k3⟩ := d169 L b8 t (k := 1) (by decide) (by decide)
    rw [show nI 1 = 1 from rfl] at k1
    have La := FG_Ly k2 L
    rw [sFa_1 e] at k3
    obtain ⟨b1, -⟩ := k3.2.2 e
    obtain ⟨h4, j1, j2, j3⟩ := d168' La b8 k3 (fun c => absurd c e)
    rw [sSt_1 e] at j3
    rw [sWh_1 e, a1]
    simp only [show decide ((5 : Int32) = 3) = false from rfl, cond_false, k1, bk_u, b173_7, y_124 La, cond_true, b1, decide_true, Bool.not_true, j1, b173_28]
    exact ⟨lo, h4, rfl, FG_tr k2 j2, j3, hl, fun c => absurd c e⟩
set_option maxRecDepth 16384 in
theorem d174 {h : A_H} {bs : Nat → Int32} {n : Nat} {τ : Nat → Nat} (L : Ly h) (b8 : B8 bs n) (t : MKt h bs n τ) {x : UInt32} (h1 : 0 < x.toNat) (h2 : x.toNat ≤ 32) {lo hi : Nat} (hl : lo < 1000) (hh : hi < 1000) : ∃ m h', C 174 [.ref 124, .float x, .int (nI lo), .int (nI hi)] h = some (some (some (.int (nI m))), h') ∧ FG mT ML14 h h' ∧ MKt h' bs n (sWh bs n lo hi (sWd bs n x τ)) ∧ m < 1000 ∧ ((sWh bs n lo hi (sWd bs n x τ)) 4 = 0 → m = (sWd bs n x τ) 3) := by
  obtain ⟨h3, k1, k2, k3⟩ := d172 L b8 t h1 h2
  have La := FG_Ly k2 L
  obtain ⟨v, h4, j1, j2, j3, j5, j4⟩ := d173 La b8 k3 hl hh
  refine ⟨v, h4, ?_, FG_tr k2 j2, j3, j5, j4⟩
  rw [e174]
  simp only [b174_0, b174_3, b174_7, y_124 L, cond_true, k1, bk_u, y_124 La, j1, bk_v]
set_option maxRecDepth 16384 in
theorem rv_n {τ : Nat → Nat} (h : τ 0 = 1) : (rv τ).isNone = (!isW 1 τ && !isW 2 τ && !isW 3 τ && !isW 4 τ && !isW 5 τ && !isW 6 τ && !isW 7 τ && !isW 8 τ && !isW 9 τ && !isW 10 τ && !isW 11 τ) := by
  unfold rv isW
  rw [if_pos h, dT h]
  simp only [fsm_s, Bool.true_and]
  rw [show wT 1 = Wn 0 from rfl, show wT 2 = Wn 1 from rfl, show wT 3 = Wn 2 from rfl, show wT 4 = Wn 3 from rfl, show wT 5 = Wn 4 from rfl, show wT 6 = Wn 5 from rfl, show wT 7 = Wn 6 from rfl, show wT 8 = Wn 7 from rfl, show wT 9 = Wn 8 from rfl, show wT 10 = Wn 9 from rfl, show wT 11 = Wn 10 from rfl]
  have q : ∀ i, decide (Wn i = τ 3) = decide (τ 3 = Wn i) := fun i => decide_eq_decide.mpr eq_comm
  simp only [q]
  show (cond (decide (τ 3 = Wn 0)) (some 0) (cond (decide (τ 3 = Wn 1)) (some 1) (cond (decide (τ 3 = Wn 2)) (some 2) (cond (decide (τ 3 = Wn 3)) (some 3) (cond (decide (τ 3 = Wn 4)) (some 4) (cond (decide (τ 3 = Wn 5)) (some 5) (cond (decide (τ 3 = Wn 6)) (some 6) (cond (decide (τ 3 = Wn 7)) (some 7) (cond (decide (τ 3 = Wn 8)) (some 8) (cond (decide (τ 3 = Wn 9)) (some 9) (cond (decide (τ 3 = Wn 10)) (some 10) none))))))))))).isNone = _
  cases decide (τ 3 = Wn 0) <;> simp only [cond_true, cond_false, Option.isNone_some, Bool.not_true, Bool.not_false, Bool.false_and, Bool.true_and]
  cases decide (τ 3 = Wn 1) <;> simp only [cond_true, cond_false, Option.isNone_some, Bool.not_true, Bool.not_false, Bool.false_and, Bool.true_and]
  cases decide (τ 3 = Wn 2) <;> simp only [cond_true, cond_false, Option.isNone_some, Bool.not_true, Bool.not_false, Bool.false_and, Bool.true_and]
  cases decide (τ 3 = Wn 3) <;> simp only [cond_true, cond_false, Option.isNone_some, Bool.not_true, Bool.not_false, Bool.false_and, Bool.true_and]
  cases decide (τ 3 = Wn 4) <;> simp only [cond_true, cond_false, Option.isNone_some, Bool.not_true, Bool.not_false, Bool.false_and, Bool.true_and]
  cases decide (τ 3 = Wn 5) <;> simp only [cond_true, cond_false, Option.isNone_some, Bool.not_true, Bool.not_false, Bool.false_and, Bool.true_and]
  cases decide (τ 3 = Wn 6) <;> simp only [cond_true, cond_false, Option.isNone_some, Bool.not_true, Bool.not_false, Bool.false_and, Bool.true_and]
  cases decide (τ 3 = Wn 7) <;> simp only [cond_true, cond_false, Option.isNone_some, Bool.not_true, Bool.not_false, Bool.false_and, Bool.true_and]
  cases decide (τ 3 = Wn 8) <;> simp only [cond_true, cond_false, Option.isNone_some, Bool.not_true, Bool.not_false, Bool.false_and, Bool.true_and]
  cases decide (τ 3 = Wn 9) <;> simp only [cond_true, cond_false, Option.isNone_some, Bool.not_true, Bool.not_false, Bool.false_and, Bool.true_and]
  cases decide (τ 3 = Wn 10) <;> rfl
set_option maxRecDepth 16384 in
theorem d175 {h : A_H} {bs : Nat → Int32} {n : Nat} {τ : Nat → Nat} (L : Ly h) (b8 : B8 bs n) (t : MKt h bs n τ) : C 175 [.ref 124] h = some (some (some (.int (bI (decide (τ 4 = 0) && inm τ)))), h) := by
  rw [e175]
  have w := fun (x : UInt32) (h1 : 0 < x.toNat) (h2 : x.toNat ≤ 32) => d170 L b8 t h1 h2
  simp only [b175_0, b175_7, b175_11, b175_15, b175_19, b175_23, b175_29, b175_33, b175_37, b175_41, b175_45, b175_49, y_124 L, cond_true, w 1 (by decide) (by decide), w 2 (by decide) (by decide), w 3 (by decide) (by decide), w 4 (by decide) (by decide), w 5 (by decide) (by decide), w 6 (by decide) (by decide), w 7 (by decide) (by decide), w 8 (by decide) (by decide), w 9 (by decide) (by decide), w 10 (by decide) (by decide), w 11 (by decide) (by decide), bk_v, z_0, z_00, z_11, Bool.not_not]
  by_cases e : τ 4 = 0
  · obtain ⟨a1, a2, a3, a4, a5, a6, a7⟩ := t.2.1 e
    have k1 := mk_is a7.1 1 (by decide)
    rw [show nI (1 + 1) = 2 from rfl] at k1
    rw [a1, k1, dT e]
    simp only [Bool.true_and]
    unfold inm
    by_cases c : τ 0 = 1
    · rw [dT c, rv_n c]
      cases isW 1 τ <;> simp only [cond_true, cond_false, decide_true, Bool.and_true, Bool.true_and, Bool.and_self, Bool.and_false, Bool.false_and, Bool.not_true, Bool.not_false, Bool.or_true, Bool.true_or, Bool.or_false, Bool.false_or, is_some, gd_some, bk_v, bk_u]
      · cases isW 2 τ <;> simp only [cond_true, cond_false, decide_true, Bool.and_true, Bool.true_and, Bool.and_self, Bool.and_false, Bool.false_and, Bool.not_true, Bool.not_false, Bool.or_true, Bool.true_or, Bool.or_false, Bool.false_or, is_some, gd_some, bk_v, bk_u]
        · cases isW 3 τ <;> simp only [cond_true, cond_false, decide_true, Bool.and_true, Bool.true_and, Bool.and_self, Bool.and_false, Bool.false_and, Bool.not_true, Bool.not_false, Bool.or_true, Bool.true_or, Bool.or_false, Bool.false_or, is_some, gd_some, bk_v, bk_u]
          · cases isW 4 τ <;> simp only [cond_true, cond_false, decide_true, Bool.and_true, Bool.true_and, Bool.and_self, Bool.and_false, Bool.false_and, Bool.not_true, Bool.not_false, Bool.or_true, Bool.true_or, Bool.or_false, Bool.false_or, is_some, gd_some, bk_v, bk_u]
            · cases isW 5 τ <;> simp only [cond_true, cond_false, decide_true, Bool.and_true, Bool.true_and, Bool.and_self, Bool.and_false, Bool.false_and, Bool.not_true, Bool.not_false, Bool.or_true, Bool.true_or, Bool.or_false, Bool.false_or, is_some, gd_some, bk_v, bk_u]
              · cases isW 6 τ <;> simp only [cond_true, cond_false, decide_true, Bool.and_true, Bool.true_and, Bool.and_self, Bool.and_false, Bool.false_and, Bool.not_true, Bool.not_false, Bool.or_true, Bool.true_or, Bool.or_false, Bool.false_or, is_some, gd_some, bk_v, bk_u]
                · cases isW 7 τ <;> simp only [cond_true, cond_false, decide_true, Bool.and_true, Bool.true_and, Bool.and_self, Bool.and_false, Bool.false_and, Bool.not_true, Bool.not_false, Bool.or_true, Bool.true_or, Bool.or_false, Bool.false_or, is_some, gd_some, bk_v, bk_u]
                  · cases isW 8 τ <;> simp only [cond_true, cond_false, decide_true, Bool.and_true, Bool.true_and, Bool.and_self, Bool.and_false, Bool.false_and, Bool.not_true, Bool.not_false, Bool.or_true, Bool.true_or, Bool.or_false, Bool.false_or, is_some, gd_some, bk_v, bk_u]
                    · cases isW 9 τ <;> simp only [cond_true, cond_false, decide_true, Bool.and_true, Bool.true_and, Bool.and_self, Bool.and_false, Bool.false_and, Bool.not_true, Bool.not_false, Bool.or_true, Bool.true_or, Bool.or_false, Bool.false_or, is_some, gd_some, bk_v, bk_u]
                      · cases isW 10 τ <;> simp only [cond_true, cond_false, decide_true, Bool.and_true, Bool.true_and, Bool.and_self, Bool.and_false, Bool.false_and, Bool.not_true, Bool.not_false, Bool.or_true, Bool.true_or, Bool.or_false, Bool.false_or, is_some, gd_some, bk_v, bk_u]
                        · cases isW 11 τ <;> rfl
                        · rfl
                      · rfl
                    · rfl
                  · rfl
                · rfl
              · rfl
            · rfl
          · rfl
        · rfl
      · rfl
    · rw [dF c]; rfl
  · obtain ⟨a1, -⟩ := t.2.2 e
    rw [a1, dF e]; rfl
def MN (h : A_H) (B : Nat) (P : Gh) : Prop := hI h B 10 = nI (P 30 0) ∧ P 30 0 ≤ 19 ∧ ∀ i, i < P 30 0 → hL h (B + 22) i = nL (P 33 i) ∧ P 33 i < 35184372088832 ∧ hI h (B + 23) i = nI (P 31 i - 1) ∧ (1 ≤ P 31 i ∧ P 31 i < 100) ∧ hI h (B + 24) i = nI (P 32 i)
set_option maxRecDepth 16384 in
theorem MN_FG {h h' : A_H} {B : Nat} {P : Gh} (f : FG mT ML14 h h') (hB : 134 ≤ B) (c : MN h B P) : MN h' B P := ⟨(FG_I f (by unfold mT; omega)).trans c.1, c.2.1, fun i hi => by
  obtain ⟨c1, c2, c3, c4, c5⟩ := c.2.2 i hi
  exact ⟨(FG_L f (by unfold ML14; omega)).trans c1, c2, (FG_I f (by unfold mT; omega)).trans c3, c4, (FG_I f (by unfold mT; omega)).trans c5⟩⟩
set_option maxRecDepth 16384 in
theorem mA_22 {h : A_H} {B i : Nat} (l : ML h B) (hi : i < 19) : isA h (B + 22) 2 (nI i) = true := isA_of (tg := 2) (by have := m_B l; omega) (m_s32 l) hi (by decide)
set_option maxRecDepth 16384 in
theorem mA_23 {h : A_H} {B i : Nat} (l : ML h B) (hi : i < 19) : isA h (B + 23) 0 (nI i) = true := mA_o l (by decide) (m_s33 l) hi (by decide)
set_option maxRecDepth 16384 in
theorem mA_24 {h : A_H} {B i : Nat} (l : ML h B) (hi : i < 19) : isA h (B + 24) 0 (nI i) = true := mA_o l (by decide) (m_s34 l) hi (by decide)
set_option maxRecDepth 16384 in
theorem d150 {h : A_H} {B : Nat} {P : Gh} (l : ML h B) (c : MN h B P) (V : Int64) : ∃ y, C 150 [.ref B, .long V] h = some (some (some (.int (oM y))), h) ∧ (∀ i, y = some i → i < P 30 0) ∧ ∀ v, v < 35184372088832 → V = nL v → y = fd P v := by
  obtain ⟨c1, c2, c3⟩ := c
  have key : ∀ f i, i + f = P 30 0 → R 150 2 [some (.ref B), some (.long V), none, some (.int (nI i))] [] h = some (some (some (.int (oM (fsm (fun i => decide (lg_cmp (hL h (B + 22) i) V = 0)) f i)))), h) := by
    intro f
    induction f with
    | zero =>
      intro i hi
      have : i = P 30 0 := by omega
      subst this
      rw [b150_2]
      simp only [mB_O l, cond_true, c1, dT (Int32.le_refl (nI (P 30 0)))]
      rfl
    | succ f ih =>
      intro i hi
      rw [b150_2]
      simp only [cond_true, cond_false, decide_true, Bool.and_true, Bool.true_and, Bool.and_self, Bool.and_false, Bool.false_and, Bool.not_true, Bool.not_false, Bool.or_true, Bool.true_or, Bool.or_false, Bool.false_or, is_some, gd_some, bk_v, bk_u, mB_O l, c1, dF (show ¬ nI (P 30 0) ≤ nI i by rw [w_le (by omega) (by omega)]; omega), m_p32 l, mA_22 l (show i < 19 by omega), w_cl (show i < 2147483648 by omega), w_s]
      rw [ih (i + 1) (by omega), fsm_s]
      cases decide (lg_cmp (hL h (B + 22) i) V = 0) <;> rfl
  refine ⟨fsm (fun i => decide (lg_cmp (hL h (B + 22) i) V = 0)) (P 30 0) 0, ?_, (fun i hi => by have := (fsm_lt hi).1; omega), fun v hv e => ?_⟩
  · rw [e150]
    simp only [b150_0]
    exact key (P 30 0) 0 (Nat.zero_add _)
  · unfold fd
    apply fsm_congr
    intro j _ hj
    obtain ⟨d1, d2, -⟩ := c3 j (by omega)
    rw [d1, e, lgc (by omega) (by omega)]
