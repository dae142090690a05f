set_option maxRecDepth 16384 in
theorem sNw_1 {bs : Nat → Int32} {n : Nat} {P : Gh} {τ : Nat → Nat} (h : ¬ τ 4 = 0) : sNw bs n P τ = τ := by
  unfold sNw
  rw [sFa_1 h, sFa_1 h, sSt_1 h]
  cases inm τ
  · rfl
  · cases (fd P (τ 3)).isSome <;> rfl
set_option maxRecDepth 16384 in
theorem sKi_1 {bs : Nat → Int32} {n : Nat} {τ : Nat → Nat} (h : ¬ τ 4 = 0) : sKi bs n τ = τ := by
  unfold sKi
  rw [sFa_1 h, sSt_1 h]
  cases (isW 22 τ || isW 23 τ || isW 24 τ || isW 25 τ || isW 10 τ) <;> rfl
set_option maxRecDepth 16384 in
theorem y_P4 {h : A_H} {B : Nat} (hB : hP h 124 4 = some B) : hP h 124 4 = some B := hB
set_option maxRecDepth 16384 in
theorem g_on {h : A_H} {bs : Nat → Int32} {n : Nat} {τ : Nat → Nat} (L : Ly h) (b8 : B8 bs n) (t : MKt h bs n τ) (e : ¬ τ 4 = 0) : ∃ h', C 168 [.ref 124] h = some (some none, h') ∧ FG mT ML14 h h' ∧ MKt h' bs n τ := by
  obtain ⟨h4, j1, j2, j3⟩ := d168' L b8 t (fun c => absurd c e)
  rw [sSt_1 e] at j3
  exact ⟨h4, j1, j2, j3⟩
set_option maxRecDepth 16384 in
theorem f_on {h : A_H} {bs : Nat → Int32} {n : Nat} {τ : Nat → Nat} (L : Ly h) (b8 : B8 bs n) (t : MKt h bs n τ) (e : ¬ τ 4 = 0) {k : Nat} (hk0 : ¬ k = 0) (hk : k < 100) : ∃ h', C 169 [.ref 124, .int (nI k)] h = some (some none, h') ∧ FG mT ML14 h h' ∧ MKt h' bs n τ := by
  obtain ⟨h4, j1, j2, j3⟩ := d169 L b8 t hk0 hk
  rw [sFa_1 e] at j3
  exact ⟨h4, j1, j2, j3⟩
set_option maxRecDepth 16384 in
theorem d176 {h : A_H} {bs : Nat → Int32} {n : Nat} {τ : Nat → Nat} (L : Ly h) (b8 : B8 bs n) (t : MKt h bs n τ) {B : Nat} (hB : hP h 124 4 = some B) (l : ML h B) (hf : decide (hI h B 0 = -1) = false) {a m : Nat} (ha : a ≤ m) (hm : m < 1000) (h4 : τ 4 = 0) (k4 : ¬ τ 0 = 4) : ∃ h', C 176 [.ref 124, .int (nI a), .int (nI m)] h = some (some none, h') ∧ FG mT ML14 h h' ∧ MKt h' bs n (sRm bs n a m τ) := by
  rw [e176]
  simp only [b176_0, b176_16, w_eq (show a < 2147483648 by omega) (show m < 2147483648 by omega)]
  unfold sRm
  by_cases c : a = m
  · obtain ⟨h3, k1, k2, k3⟩ := d169 L b8 t (k := 5) (by decide) (by decide)
    rw [show nI 5 = 5 from rfl] at k1
    have La := FG_Ly k2 L
    have l3 := FG_ML k2 l
    have hB3 : hP h3 124 4 = some B := by rw [FG_P k2]; exact hB
    have hf3 : decide (hI h3 B 0 = -1) = false := by rw [FG_I k2 (by unfold mT; have := m_134 l; omega)]; exact hf
    obtain ⟨h5, j1, j2, j3⟩ := g_on La b8 k3 (sFa_n h4 (by decide))
    rw [dT c, if_neg (by omega)]
    simp only [cond_true, cond_false, decide_true, Bool.and_true, Bool.true_and, Bool.and_self, Bool.and_false, Bool.false_and, Bool.not_true, Bool.not_false, Bool.or_true, Bool.true_or, Bool.or_false, Bool.false_or, is_some, gd_some, bk_v, bk_u, y_124 L, k1, b176_6, y_124 La, hB3, mB_O l3, hf3, j1, b176_16]
    exact ⟨h5, rfl, FG_tr k2 j2, j3⟩
  · obtain ⟨h5, j1, j2, j3⟩ := d168' L b8 t (fun _ => k4)
    rw [dF c, if_pos (by omega)]
    simp only [cond_true, cond_false, decide_true, Bool.and_true, Bool.true_and, Bool.and_self, Bool.and_false, Bool.false_and, Bool.not_true, Bool.not_false, Bool.or_true, Bool.true_or, Bool.or_false, Bool.false_or, is_some, gd_some, bk_v, bk_u, y_124 L, hB, mB_O l, hf, j1, b176_16]
    exact ⟨h5, rfl, j2, j3⟩
set_option maxRecDepth 16384 in
theorem d177 {h : A_H} {bs : Nat → Int32} {n : Nat} {τ : Nat → Nat} (L : Ly h) (b8 : B8 bs n) (t : MKt h bs n τ) {B : Nat} {P : Gh} (hB : hP h 124 4 = some B) (l : ML h B) (c : MN h B P) : ∃ v h', C 177 [.ref 124] h = some (some (some (.long v)), h') ∧ FG mT ML14 h h' ∧ MKt h' bs n (sNw bs n P τ) ∧ ((sNw bs n P τ) 4 = 0 → v = nL (τ 3)) := by
  have h134 := m_134 l
  rw [e177]
  simp only [b177_0, y_124 L, cond_true, d175 L b8 t, bk_v, b177_2, z_0, Bool.not_not]
  by_cases e : τ 4 = 0
  · obtain ⟨a1, a2, a3, a4, a5, a6, a7⟩ := t.2.1 e
    rw [dT e, Bool.true_and]
    unfold sNw
    cases hn : inm τ with
    | false =>
      obtain ⟨h3, k1, k2, k3⟩ := d169 L b8 t (k := 1) (by decide) (by decide)
      rw [show nI 1 = 1 from rfl] at k1
      have ne := sFa_n (k := 1) e (by decide)
      have La := FG_Ly k2 L
      have l3 := FG_ML k2 l
      have hB3 : hP h3 124 4 = some B := by rw [FG_P k2]; exact hB
      obtain ⟨y, q1, q2, -⟩ := d150 l3 (MN_FG k2 h134 c) (hL h3 124 14)
      simp only [cond_false, cond_true, cond_false, decide_true, Bool.and_true, Bool.true_and, Bool.and_self, Bool.and_false, Bool.false_and, Bool.not_true, Bool.not_false, Bool.or_true, Bool.true_or, Bool.or_false, Bool.false_or, is_some, gd_some, bk_v, bk_u, k1, b177_6, y_124 La, hB3, mB_O l3, q1, b177_11, oM_n (fun i hi => Nat.lt_trans (q2 i hi) (by have := c.2.1; omega))]
      obtain ⟨h5, j1, j2, j3⟩ := g_on La b8 k3 ne
      obtain ⟨h6, i1, i2, i3⟩ := f_on La b8 k3 ne (k := 3) (by decide) (by decide)
      rw [show nI 3 = 3 from rfl] at i1
      have Lb := FG_Ly i2 La
      obtain ⟨h7, m1, m2, m3⟩ := g_on Lb b8 i3 ne
      cases y.isNone with
      | true =>
        simp only [cond_true, j1, bk_u, b177_21]
        exact ⟨_, h5, rfl, FG_tr k2 j2, j3, fun c => absurd c ne⟩
      | false =>
        simp only [cond_false, i1, bk_u, b177_16, y_124 Lb, cond_true, m1, b177_21]
        exact ⟨_, h7, rfl, FG_tr k2 (FG_tr i2 m2), m3, fun c => absurd c ne⟩
    | true =>
      have c0 := inm_1 hn
      have hv := a7.2.2.2.1 c0
      obtain ⟨y, q1, q2, q3⟩ := d150 l c (hL h 124 14)
      have q3 := q3 (τ 3) hv (a4 c0)
      subst q3
      simp only [cond_true, cond_true, cond_false, decide_true, Bool.and_true, Bool.true_and, Bool.and_self, Bool.and_false, Bool.false_and, Bool.not_true, Bool.not_false, Bool.or_true, Bool.true_or, Bool.or_false, Bool.false_or, is_some, gd_some, bk_v, bk_u, hB, y_124 L, mB_O l, q1, b177_11, oM_n (fun i hi => Nat.lt_trans (q2 i hi) (by have := c.2.1; omega))]
      cases hf : (fd P (τ 3)).isSome with
      | true =>
        have : (fd P (τ 3)).isNone = false := by
          cases hq : fd P (τ 3) with
          | none => rw [hq] at hf; cases hf
          | some i => rfl
        obtain ⟨h3, k1, k2, k3⟩ := d169 L b8 t (k := 3) (by decide) (by decide)
        rw [show nI 3 = 3 from rfl] at k1
        have La := FG_Ly k2 L
        have ne := sFa_n (k := 3) e (by decide)
        obtain ⟨h5, j1, j2, j3⟩ := g_on La b8 k3 ne
        simp only [this, cond_false, k1, bk_u, b177_16, y_124 La, cond_true, j1, b177_21]
        exact ⟨_, h5, rfl, FG_tr k2 j2, j3, fun c => absurd c ne⟩
      | false =>
        have : (fd P (τ 3)).isNone = true := by
          cases hq : fd P (τ 3) with
          | none => rfl
          | some i => rw [hq] at hf; cases hf
        obtain ⟨h5, j1, j2, j3⟩ := d168' L b8 t (fun _ => by omega)
        simp only [this, cond_true, j1, bk_u, b177_21]
        exact ⟨_, h5, rfl, j2, j3, fun _ => a4 c0⟩
  · rw [dF e, Bool.false_and, sNw_1 e]
    obtain ⟨h3, k1, k2, k3⟩ := f_on L b8 t e (k := 1) (by decide) (by decide)
    rw [show nI 1 = 1 from rfl] at k1
    have La := FG_Ly k2 L
    have l3 := FG_ML k2 l
    have hB3 : hP h3 124 4 = some B := by rw [FG_P k2]; exact hB
    obtain ⟨y, q1, q2, -⟩ := d150 l3 (MN_FG k2 h134 c) (hL h3 124 14)
    simp only [cond_false, cond_true, cond_false, decide_true, Bool.and_true, Bool.true_and, Bool.and_self, Bool.and_false, Bool.false_and, Bool.not_true, Bool.not_false, Bool.or_true, Bool.true_or, Bool.or_false, Bool.false_or, is_some, gd_some, bk_v, bk_u, k1, b177_6, y_124 La, hB3, mB_O l3, q1, b177_11, oM_n (fun i hi => Nat.lt_trans (q2 i hi) (by have := c.2.1; omega))]
    obtain ⟨h5, j1, j2, j3⟩ := g_on La b8 k3 e
    obtain ⟨h6, i1, i2, i3⟩ := f_on La b8 k3 e (k := 3) (by decide) (by decide)
    rw [show nI 3 = 3 from rfl] at i1
    have Lb := FG_Ly i2 La
    obtain ⟨h7, m1, m2, m3⟩ := g_on Lb b8 i3 e
    cases y.isNone with
    | true =>
      simp only [cond_true, j1, bk_u, b177_21]
      exact ⟨_, h5, rfl, FG_tr k2 j2, j3, fun c => absurd c e⟩
    | false =>
      simp only [cond_false, i1, bk_u, b177_16, y_124 Lb, cond_true, m1, b177_21]
      exact ⟨_, h7, rfl, FG_tr k2 (FG_tr i2 m2), m3, fun c => absurd c e⟩
set_option maxRecDepth 16384 in
theorem d179 {h : A_H} {bs : Nat → Int32} {n : Nat} {τ : Nat → Nat} (L : Ly h) (b8 : B8 bs n) (t : MKt h bs n τ) {B : Nat} {P : Gh} (hB : hP h 124 4 = some B) (l : ML h B) (c : MN h B P) {s : Nat} (hs : 1 ≤ s ∧ s < 100) : ∃ v h', C 179 [.ref 124, .int (nI (s - 1))] h = some (some (some (.int v)), h') ∧ FG mT ML14 h h' ∧ MKt h' bs n (sKn s P τ) ∧ ((sKn s P τ) 4 = 0 → v = nI (knV P τ)) := by
  have h134 := m_134 l
 
  have aft : ∀ h3, FG mT ML14 h h3 → ∀ τ', ¬ τ' 4 = 0 → MKt h3 bs n τ' → ∀ l2 : Option Value, ∃ v h', a_back R 179 (150, [.ref B, .long (hL h3 124 14)], h3, true, none, 11, [some (.ref 124), some (.int (nI (s - 1))), l2], []) (C 150 [.ref B, .long (hL h3 124 14)] h3) = some (some (some (.int v)), h') ∧ FG mT ML14 h h' ∧ MKt h' bs n τ' := by
    intro h3 k2 τ' ne k3 l2
    have La := FG_Ly k2 L
    have l3 := FG_ML k2 l
    have c3 := MN_FG k2 h134 c
    have hB3 : hP h3 124 4 = some B := by rw [FG_P k2]; exact hB
    obtain ⟨y, q1, q2, -⟩ := d150 l3 c3 (hL h3 124 14)
    obtain ⟨b1, -⟩ := k3.2.2 ne
    obtain ⟨h6, i1, i2, i3⟩ := f_on La b8 k3 ne (k := 2) (by decide) (by decide)
    rw [show nI 2 = 2 from rfl] at i1
    have Lb := FG_Ly i2 La
    obtain ⟨b2, -⟩ := i3.2.2 ne
    simp only [q1, bk_v, b179_11, oM_n (fun i hi => Nat.lt_trans (q2 i hi) (by have := c.2.1; omega)), y_124 La, cond_true, i1, bk_u, b179_25, y_124 Lb, b2, decide_true, Bool.not_true, cond_false]
    cases y with
    | none => simp only [Option.isNone_none, cond_true]; exact ⟨_, h6, rfl, FG_tr k2 i2, i3⟩
    | some i =>
      have hi := q2 i rfl
      have h19 := c.2.1
      rw [show oM (some i) = nI i from rfl]
      simp only [Option.isNone_some, cond_false, cond_true, cond_false, decide_true, Bool.and_true, Bool.true_and, Bool.and_self, Bool.and_false, Bool.false_and, Bool.not_true, Bool.not_false, Bool.or_true, Bool.true_or, Bool.or_false, Bool.false_or, is_some, gd_some, bk_v, bk_u, hB3, mB_O l3, m_p33 l3, mA_23 l3 (show i < 19 by omega), b1]
      cases decide (hI h3 (B + 23) (nI i).toNatClampNeg = nI (s - 1)) with
      | true => exact ⟨_, h3, rfl, k2, k3⟩
      | false => exact ⟨_, h6, rfl, FG_tr k2 i2, i3⟩
  rw [e179]
  simp only [b179_0, y_124 L, cond_true, d175 L b8 t, bk_v, b179_2, z_0, Bool.not_not]
  by_cases e : τ 4 = 0
  · obtain ⟨a1, a2, a3, a4, a5, a6, a7⟩ := t.2.1 e
    rw [dT e, Bool.true_and]
    cases hn : inm τ with
    | false =>
      obtain ⟨h3, k1, k2, k3⟩ := d169 L b8 t (k := 1) (by decide) (by decide)
      rw [show nI 1 = 1 from rfl] at k1
      have ne := sFa_n (k := 1) e (by decide)
      have La := FG_Ly k2 L
      have l3 := FG_ML k2 l
      have hB3 : hP h3 124 4 = some B := by rw [FG_P k2]; exact hB
      obtain ⟨v, h', g1, g2, g3⟩ := aft h3 k2 _ ne k3 none
      refine ⟨v, h', ?_, g2, ?_, ?_⟩
      · simp only [cond_false, cond_true, cond_false, decide_true, Bool.and_true, Bool.true_and, Bool.and_self, Bool.and_false, Bool.false_and, Bool.not_true, Bool.not_false, Bool.or_true, Bool.true_or, Bool.or_false, Bool.false_or, is_some, gd_some, bk_v, bk_u, k1, b179_6, y_124 La, hB3, mB_O l3]
        exact g1
      · unfold sKn; rw [hn]; exact g3
      · unfold sKn; rw [hn]; intro c; exact absurd c ne
    | true =>
      have c0 := inm_1 hn
      have hv := a7.2.2.2.1 c0
      have h19 := c.2.1
      obtain ⟨y, q1, q2, q3⟩ := d150 l c (hL h 124 14)
      have q3 := q3 (τ 3) hv (a4 c0)
      have hk : sKn s P τ = (match fd P (τ 3) with
        | none => sFa 2 τ
        | some i => bif decide (P 31 i = s) then τ else sFa 2 τ) := by unfold sKn; rw [hn]; rfl
      rw [hk]
      obtain ⟨h6, i1, i2, i3⟩ := d169 L b8 t (k := 2) (by decide) (by decide)
      rw [show nI 2 = 2 from rfl] at i1
      have ne := sFa_n (k := 2) e (by decide)
      have Lb := FG_Ly i2 L
      obtain ⟨b2, -⟩ := i3.2.2 ne
      simp only [cond_true, cond_true, cond_false, decide_true, Bool.and_true, Bool.true_and, Bool.and_self, Bool.and_false, Bool.false_and, Bool.not_true, Bool.not_false, Bool.or_true, Bool.true_or, Bool.or_false, Bool.false_or, is_some, gd_some, bk_v, bk_u, hB, y_124 L, mB_O l, q1, b179_11, oM_n (fun i hi => Nat.lt_trans (q2 i hi) (by omega)), i1, b179_25, y_124 Lb, b2]
      rw [← q3]
      cases y with
      | none =>
        simp only [Option.isNone_none, cond_true]
        exact ⟨_, h6, rfl, i2, i3, fun c => absurd c ne⟩
      | some i =>
        have hi := q2 i rfl
        obtain ⟨d1, d2, d3, d4, d5⟩ := c.2.2 i hi
        have hz : decide (nI (P 31 i - 1) = nI (s - 1)) = decide (P 31 i = s) := by
          apply decide_eq_decide.mpr
          rw [w_eq (by omega) (by omega)]; omega
        rw [show oM (some i) = nI i from rfl]
        simp only [Option.isNone_some, cond_false, cond_true, cond_false, decide_true, Bool.and_true, Bool.true_and, Bool.and_self, Bool.and_false, Bool.false_and, Bool.not_true, Bool.not_false, Bool.or_true, Bool.true_or, Bool.or_false, Bool.false_or, is_some, gd_some, bk_v, bk_u, m_p33 l, mA_23 l (show i < 19 by omega), w_cl (show i < 2147483648 by omega), d3, hz, a1, mk_ne5, m_p34 l, mA_24 l (show i < 19 by omega), d5]
        cases decide (P 31 i = s) with
        | true => exact ⟨_, h, rfl, FG_rfl _ _ h, t, fun _ => by unfold knV; rw [← q3]; rfl⟩
        | false => exact ⟨_, h6, rfl, i2, i3, fun c => absurd c ne⟩
  · rw [dF e, Bool.false_and, sKn_1 e]
    obtain ⟨h3, k1, k2, k3⟩ := f_on L b8 t e (k := 1) (by decide) (by decide)
    rw [show nI 1 = 1 from rfl] at k1
    have La := FG_Ly k2 L
    have l3 := FG_ML k2 l
    have hB3 : hP h3 124 4 = some B := by rw [FG_P k2]; exact hB
    obtain ⟨v, h', g1, g2, g3⟩ := aft h3 k2 _ e k3 none
    refine ⟨v, h', ?_, g2, g3, fun c => absurd c e⟩
    simp only [cond_false, cond_true, cond_false, decide_true, Bool.and_true, Bool.true_and, Bool.and_self, Bool.and_false, Bool.false_and, Bool.not_true, Bool.not_false, Bool.or_true, Bool.true_or, Bool.or_false, Bool.false_or, is_some, gd_some, bk_v, bk_u, k1, b179_6, y_124 La, hB3, mB_O l3]
    exact g1
set_option maxRecDepth 16384 in
theorem sKn_k {s : Nat} {P : Gh} {τ : Nat → Nat} (h : (sKn s P τ) 4 = 0) : sKn s P τ = τ ∧ τ 0 = 1 ∧ ∃ i, fd P (τ 3) = some i ∧ P 31 i = s := by
  by_cases e : τ 4 = 0
  · unfold sKn at h ⊢
    cases hn : inm τ with
    | false => rw [hn] at h; exact absurd h (sFa_n e (by decide))
    | true =>
      rw [hn, cond_true] at h
      rw [cond_true]
      cases hf : fd P (τ 3) with
      | none => rw [hf] at h; exact absurd h (sFa_n e (by decide))
      | some i =>
        rw [hf] at h
        simp only at h ⊢
        by_cases c : P 31 i = s
        · rw [dT c]; exact ⟨rfl, inm_1 hn, i, rfl, c⟩
        · rw [dF c] at h; exact absurd h (sFa_n e (by decide))
  · rw [sKn_1 e] at h; exact absurd h e
set_option maxRecDepth 16384 in
theorem d180 {h : A_H} {bs : Nat → Int32} {n : Nat} {τ : Nat → Nat} (L : Ly h) (b8 : B8 bs n) (t : MKt h bs n τ) {B : Nat} {P : Gh} (hB : hP h 124 4 = some B) (l : ML h B) (c : MN h B P) {s : Nat} (hs : 1 ≤ s ∧ s < 100) : ∃ v h', C 180 [.ref 124, .int (nI (s - 1))] h = some (some (some (.int v)), h') ∧ FG mT ML14 h h' ∧ MKt h' bs n (sSt bs n (sKn s P τ)) ∧ ((sKn s P τ) 4 = 0 → v = nI (knV P τ)) := by
  obtain ⟨v, h3, k1, k2, k3, k4⟩ := d179 L b8 t hB l c hs
  have La := FG_Ly k2 L
  obtain ⟨h4, j1, j2, j3⟩ := d168' La b8 k3 (fun e => by have := sKn_k e; rw [this.1, this.2.1]; decide)
  refine ⟨v, h4, ?_, FG_tr k2 j2, j3, k4⟩
  rw [e180]
  simp only [b180_0, b180_3, b180_6, y_124 L, cond_true, k1, bk_v, y_124 La, j1, bk_u]
set_option maxRecDepth 16384 in
theorem w_ne : ∀ x : UInt32, (x = 22 ∨ x = 23 ∨ x = 24 ∨ x = 25) → ¬ wT x = wT 10 := by
  intro x h
  rcases h with rfl | rfl | rfl | rfl <;> decide
def kdM (τ : Nat → Nat) : Int32 := bif isW 22 τ || isW 23 τ || isW 24 τ || isW 25 τ || isW 10 τ then nI (kd τ) else -1
set_option maxRecDepth 16384 in
theorem d187 {h : A_H} {bs : Nat → Int32} {n : Nat} {τ : Nat → Nat} (L : Ly h) (b8 : B8 bs n) (t : MKt h bs n τ) : C 187 [.ref 124] h = some (some (some (.int (bif decide (τ 4 = 0) then kdM τ else -1))), h) := by
  have w := fun (x : UInt32) (h1 : 0 < x.toNat) (h2 : x.toNat ≤ 32) => d170 L b8 t h1 h2
  rw [e187]
  simp only [b187_0, b187_3, b187_9, b187_15, b187_21, b187_27, y_124 L, cond_true, w 10 (by decide) (by decide), w 22 (by decide) (by decide), w 23 (by decide) (by decide), w 24 (by decide) (by decide), w 25 (by decide) (by decide), bk_v, z_0]
  by_cases e : τ 4 = 0
  · rw [dT e]
    simp only [Bool.true_and, cond_true]
    unfold kdM kd
    cases h10 : isW 10 τ with
    | true =>
      have no : ∀ x : UInt32, (x = 22 ∨ x = 23 ∨ x = 24 ∨ x = 25) → isW x τ = false := by
        intro x hx
        cases c : isW x τ with
        | false => rfl
        | true =>
          exfalso
          unfold isW at c h10
          rw [Bool.and_eq_true] at c h10
          exact w_ne x hx ((of_decide_eq_true c.2).symm.trans (of_decide_eq_true h10.2))
      rw [no 22 (by simp), no 23 (by simp), no 24 (by simp), no 25 (by simp)]; rfl
    | false =>
      cases isW 22 τ with
      | true => rfl
      | false =>
        cases isW 23 τ with
        | true => rfl
        | false =>
          cases isW 24 τ with
          | true => rfl
          | false => cases isW 25 τ <;> rfl
  · rw [dF e]; rfl
set_option maxRecDepth 16384 in
theorem d171 {h : A_H} {bs : Nat → Int32} {n : Nat} {τ : Nat → Nat} (L : Ly h) (b8 : B8 bs n) (t : MKt h bs n τ) : ∃ h', C 171 [.ref 124] h = some (some (some (.int (bI (decide (τ 4 = 0) && decide (τ 0 = 3))))), h') ∧ FG mT ML14 h h' ∧ MKt h' bs n (bif decide (τ 4 = 0) && decide (τ 0 = 3) then sSt bs n τ else τ) := by
  rw [e171]
  simp only [b171_0, y_124 L, cond_true, z_00]
  by_cases e : τ 4 = 0
  · obtain ⟨a1, a2, a3, a4, a5, a6, a7⟩ := t.2.1 e
    have k1 := mk_is a7.1 3 (by decide)
    rw [show nI (3 + 1) = 4 from rfl] at k1
    rw [a1, k1, dT e, Bool.true_and]
    by_cases c : τ 0 = 3
    · obtain ⟨h4, j1, j2, j3⟩ := d168' L b8 t (fun _ => by omega)
      rw [dT c]
      simp only [Bool.not_true, cond_false, j1, bk_u, b171_12, z_11, cond_true]
      exact ⟨h4, rfl, j2, j3⟩
    · rw [dF c]; exact ⟨h, rfl, FG_rfl _ _ h, t⟩
  · obtain ⟨a1, -⟩ := t.2.2 e
    rw [a1, dF e]; exact ⟨h, rfl, FG_rfl _ _ h, t⟩
