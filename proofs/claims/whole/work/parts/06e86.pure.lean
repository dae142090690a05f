def τ0 : Nat → Nat := tkn 0 0 0 0 0 0
def τ1 (bs : Nat → Int32) (n : Nat) : Nat → Nat := sSt bs n τ0
def lpS (bs : Nat → Int32) (n : Nat) : (Nat → Nat) × Gh := lpT bs n (n - 1) (sLP bs n P0 (τ1 bs n)) (sL1 bs n false P0 (τ1 bs n))
def eT (bs : Nat → Int32) (n : Nat) : Nat → Nat := sEd (lpS bs n).2 (lpS bs n).1
def eP (bs : Nat → Int32) (n : Nat) : Gh := (lpS bs n).2
set_option maxRecDepth 16384 in
theorem tk_1 {bs : Nat → Int32} {n p : Nat} (h : tK bs n p = 1) : tS bs n p < tE bs n p := by
  unfold tK at h
  unfold tE
  by_cases c : n ≤ tS bs n p
  · rw [if_pos c] at h; exact absurd h (by decide)
  · rw [if_neg c] at h ⊢
    cases c1 : lt' (bs (tS bs n p)) with
    | true =>
      rw [cond_true, rE_s lt' bs (by omega), c1, cond_true]
      have := (rE_b lt' bs (n := n) (p := tS bs n p + 1) (by omega)).1
      omega
    | false =>
      rw [c1, cond_false] at h
      cases c2 : dt' (bs (tS bs n p)) with
      | true => rw [c2, cond_true] at h; split at h <;> exact absurd h (by decide)
      | false =>
        rw [c2, cond_false] at h
        cases c3 : decide (bs (tS bs n p) = 59) with
        | true => rw [c3] at h; exact absurd h (by decide)
        | false => rw [c3] at h; exact absurd h (by decide)
set_option maxRecDepth 16384 in
theorem τ1_0 (bs : Nat → Int32) (n : Nat) : (τ1 bs n) 4 = 0 ∧ tok' n (τ1 bs n) := ⟨sSt_z rfl, tok_st (Nat.zero_le n) rfl⟩
set_option maxRecDepth 16384 in
theorem MO_1 (bs : Nat → Int32) (n : Nat) (told : Bool) (P : Gh) : MO n 1 (sL1 bs n told P (τ1 bs n)) := by
  intro z
  obtain ⟨e0, tk⟩ := τ1_0 bs n
  have k1 := sL_k e0 z
  obtain ⟨m1, m2, m3⟩ := sL_M (bs := bs) (n := n) (told := told) (P := P) e0 tk.2.2.1 z
  have a1 : (τ1 bs n) 1 < (τ1 bs n) 2 := tk_1 k1
  exact ⟨m1, by omega, m3⟩
set_option maxRecDepth 16384 in
theorem FR_G {P Q : Nat → Nat → Prop} {h h' : A_H} (f : FR P h h') : FG P Q h h' := ⟨f.1, f.2.1, f.2.2.1, f.2.2.2.2.1, f.2.2.2.2.2.1, f.2.2.2.2.2.2, fun a b _ => by rw [f.2.2.2.1]⟩
def rtP (T a b : Nat) : Prop := rdP T a b ∨ (a = 2 ∧ (b = 3 ∨ b = 1))
set_option maxRecDepth 16384 in
theorem RB_rt {T : Nat} {h h' : A_H} (f : RB T h h') : FG (rtP T) rQ h h' := FG_mo (fun a b q => q.elim Or.inl (fun q => Or.inr ⟨q.1, Or.inl q.2⟩)) (fun _ _ q => q) f
set_option maxRecDepth 16384 in
theorem c23 {h : A_H} {T : Nat} {bs : Nat → Int32} {n : Nat} (L : Ly h) (hT : isT T) (h22 : hP h 2 2 = some T) (r : CRs h) (hn1 : n ≤ 1100) (tp : ∀ k, k < n → hI h 1 k = bs k) : ∃ h', C 23 [.ref 2, .int (nI n)] h = some (some (some (.int (bI (decide ((eT bs n) 4 = 0))))), h') ∧ FG (rtP T) rQ h h' ∧ CKt h' bs n (eT bs n) ∧ ((eT bs n) 4 = 0 → CT h' T (eP bs n) ∧ WF (eP bs n) ∧ NC (eP bs n)) := by
  have hT3 : T = 3 ∨ T = 42 := hT
 
  obtain ⟨hA, eA⟩ : ∃ hA, hA = wI (wI (wI (wI (wI h 2 1 (nI n)) 2 4 0) 2 5 0) 2 3 0) 2 11 0 := ⟨_, rfl⟩
  have LA : Ly hA := by rw [eA]; exact Ly_wI (Ly_wI (Ly_wI (Ly_wI (Ly_wI L _ _ _) _ _ _) _ _ _) _ _ _) _ _ _
  have pA : hP hA = hP h := by rw [eA]; rfl
  have fA : FG (rtP T) rQ h hA := by
    rw [eA]
    exact FG_wI (FG_wI (FG_wI (FG_wI (FG_wI (FG_rfl _ _ h) _ (Or.inr ⟨rfl, Or.inr rfl⟩)) _ (Or.inl (Or.inl (Or.inl ⟨rfl, Or.inl rfl⟩)))) _ (Or.inl (Or.inl (Or.inl ⟨rfl, Or.inr (Or.inl rfl)⟩)))) _ (Or.inr ⟨rfl, Or.inl rfl⟩)) _ (Or.inl (Or.inl (Or.inl ⟨rfl, by omega⟩)))
  have a1 : hI hA 2 1 = nI n := by rw [eA, hI_wI, if_neg (by omega), hI_wI, if_neg (by omega), hI_wI, if_neg (by omega), hI_wI, if_neg (by omega), hI_wI, if_pos ⟨rfl, rfl⟩]
  have a4 : hI hA 2 4 = 0 := by rw [eA, hI_wI, if_neg (by omega), hI_wI, if_neg (by omega), hI_wI, if_neg (by omega), hI_wI, if_pos ⟨rfl, rfl⟩]
  have a3 : hI hA 2 3 = 0 := by rw [eA, hI_wI, if_neg (by omega), hI_wI, if_pos ⟨rfl, rfl⟩]
  have a11 : hI hA 2 11 = 0 := by rw [eA, hI_wI, if_pos ⟨rfl, rfl⟩]
  have at' : ∀ k, k < n → hI hA 1 k = bs k := fun k hk => by rw [eA, hI_wI, if_neg (by omega), hI_wI, if_neg (by omega), hI_wI, if_neg (by omega), hI_wI, if_neg (by omega), hI_wI, if_neg (by omega)]; exact tp k hk
  obtain ⟨hB, gB, fB, ctB, clB⟩ := c56 LA hT
  have LB := FR_Ly fB LA
  have pB : hP hB = hP h := by rw [FR_P fB, pA]
  have nB : ∀ a b, ¬ (T ≤ a ∧ a < T + 35) → hI hB a b = hI hA a b := fun a b q => FR_I fB q
 
  obtain ⟨hC, eC⟩ : ∃ hC, hC = wI hB 2 8 0 := ⟨_, rfl⟩
  have LC : Ly hC := by rw [eC]; exact Ly_wI LB _ _ _
  have c_ : ∀ a b, ¬ (a = 2 ∧ b = 8) → hI hC a b = hI hB a b := fun a b q => by rw [eC, hI_wI, if_neg q]
  have tpC : CTp hC bs n := ⟨by rw [c_ _ _ (by decide), nB _ _ (by omega)]; exact a1, hn1, fun k hk => by rw [c_ _ _ (by omega), nB _ _ (by omega)]; exact at' k hk⟩
  have c8 : hI hC 2 8 = nI 0 := by rw [eC, hI_wI, if_pos ⟨rfl, rfl⟩]; rfl
  obtain ⟨hD, gD, fD, d6, d7, d8, d9⟩ := c25 LC tpC (Nat.zero_le n) c8
  have fD' := TB_TF fD
  have LD := FB_Ly fD LC
  have hD4 : hI hD 2 4 = 0 := by rw [FB_I fD (by unfold TB; omega), c_ _ _ (by decide), nB _ _ (by omega)]; exact a4
  obtain ⟨e1, tk1⟩ := τ1_0 bs n
  have tD : CKt hD bs n (τ1 bs n) := ⟨CTp_TF fD' tpC, fun _ => ⟨hD4, d6, d7, d8, d9, tk1⟩, fun q => absurd e1 q, _, tk1.2.2.1, d8⟩
  have nD : ∀ a b, T ≤ a → a < T + 35 → hI hD a b = hI hB a b := fun a b i1 i2 => by rw [TR_B hT fD' i1 i2, c_ _ _ (by omega)]
  have pD : hP hD 2 2 = some T := by rw [FB_P fD, eC, hP_wI, pB]; exact h22
  have rD : CRs hD := fun i hi => by
    rw [FB_L fD (by omega), eC, hL_wI, fB.2.2.2.1, eA]
    exact r i hi
  have cxD : CX hD T P0 false := ⟨fun q => absurd q (by decide), fun _ => CT_fr WF_0 ctB (fun a b i1 i2 _ => by
    by_cases z1 : a = T ∧ b = 1
    · rw [hI_wI, if_pos z1, hI_wI, if_pos z1]
    · rw [hI_wI, if_neg z1, hI_wI (wI hB T 0 (nI (P0 0 0))), if_neg z1]
      by_cases z0 : a = T ∧ b = 0
      · rw [hI_wI, if_pos z0, hI_wI, if_pos z0]
      · rw [hI_wI, if_neg z0, hI_wI, if_neg z0]
        exact nD a b i1 i2)⟩
  have clD : CL hD T P0 := fun i i1 i2 => by rw [nD _ _ (by omega) (by omega)]; exact clB i i1 i2
  have cnD : CN hD P0 := ⟨by rw [FB_I fD (by unfold TB; omega), c_ _ _ (by decide), nB _ _ (by omega)]; exact a11, by decide, fun i hi => absurd hi (Nat.not_lt_zero i)⟩
  have u3 : hI hD 2 3 = bI false := by rw [FB_I fD (by unfold TB; omega), c_ _ _ (by decide), nB _ _ (by omega)]; exact a3
  obtain ⟨hE, gE, fE, tE', qE⟩ := c36 LD tD e1 hT pD rD cnD cxD WF_0 clD NC_0 u3
  have sE : RS hE T bs n (sLP bs n P0 (τ1 bs n)) (sL1 bs n false P0 (τ1 bs n)) := ⟨FG_Ly fE LD, by rw [RB_P fE]; exact pD, CRs_RB fE rD, tE', fun z => ⟨(qE z).1, (qE z).2.1, (qE z).2.2.1, (qE z).2.2.2, (sL_W e1 WF_0 NC_0 tk1.2.2.1 z).1, (sL_W e1 WF_0 NC_0 tk1.2.2.1 z).2⟩⟩
  obtain ⟨hF, j, gF, jF, fF, sF, xF⟩ := c23s (h := hE) (P := P0) (τ := τ0) hT (nI n) (n - 1) 1 hE _ _ sE rfl (by decide) (MO_1 bs n false P0)
  have sF : RS hF T bs n (eP bs n) (lpS bs n).1 := sF
  obtain ⟨hG, gG, fG, tG⟩ := c23e hT (nI n) sF (by omega) xF
  have gG : R 23 31 [some (.ref 2), some (.int (nI n)), some (.int (nI j))] [] hF = some (some (some (.int (bI (decide ((eT bs n) 4 = 0))))), hG) := gG
  have frame : FG (rtP T) rQ h hG := by
    refine FG_tr fA (FG_tr (FG_mo (fun a b q => Or.inl (Or.inr q)) (fun _ _ q => q) (FR_G fB)) ?_)
    have s1 : FG (rtP T) rQ hB hC := by rw [eC]; exact FG_wI (FG_rfl _ _ hB) _ (Or.inl (Or.inl (Or.inl ⟨rfl, by omega⟩)))
    refine FG_tr s1 (RB_rt ?_)
    exact RB_B (FG_tr (FG_tr (RB_of (RD_B (RD_rfl T hC) fD')) fE) fF) fG
  refine ⟨hG, ?_, frame, tG, fun z => ?_⟩
  · rw [← gG, ← gF, e23]
    have sh : hsh h 1 = (101, 1100) := L.2.1 1 (by decide)
    have nn : decide (1 < hn h) = true := dT (by have := L.1; omega)
    have mn : (if (Int32.ofNat 1100) < nI n then Int32.ofNat 1100 else nI n) = nI n := by
      rw [if_neg]
      intro q
      have := (w_lt (a := 1100) (b := n) (by decide) (by omega)).mp q
      omega
    have i1 : (decide ((0 : Int32) = 0) || decide ((0 : Int32) = 1)) = true := rfl
    have pB2 : hP hB 2 2 = some T := by rw [pB]; exact h22
    rw [eA] at gB
    rw [eC] at gD
    simp only [b23_0, b23_7, b23_10, b23_13, b23_16, b23_19, b23_22, b23_25, b23_27, b23_29, cond_true, cond_false, decide_true, Bool.and_true, Bool.true_and, Bool.and_self, Bool.and_false, Bool.false_and, Bool.not_true, Bool.not_false, Bool.or_true, Bool.true_or, Bool.or_false, Bool.false_or, is_some, gd_some, bk_v, bk_u, isO_wI, hP_wI, x_O2 L, z_P0 L, sh, nn, mn, i1, show decide (101 = 100 + 1) = true from rfl, h22, t_O L hT, gB, x_O2 LB, gD, x_O2 LD, gE, show nI 1 = 1 from rfl]
  · have z' : (lpS bs n).1 4 = 0 := by
      by_cases q : (lpS bs n).1 4 = 0
      · exact q
      · rw [show eT bs n = (lpS bs n).1 from sEd_1 q] at z; exact z
    obtain ⟨ct, -, -, -, w, nc⟩ := sF.2.2.2.2 z'
    exact ⟨CT_fr w ct (fun a b i1 i2 _ => TR_B hT fG i1 i2), w, nc⟩
def MS (h : A_H) (B : Nat) (bs : Nat → Int32) (n : Nat) (told : Bool) (P : Gh) (σ : Nat → Nat) : Prop := Ly h ∧ hP h 124 4 = some B ∧ ML h B ∧ MKt h bs n σ ∧ (σ 4 = 0 → MN h B P ∧ MX h B P told ∧ UT told P ∧ WF P ∧ NC P)
set_option maxRecDepth 16384 in
theorem RM_P {B : Nat} {h h' : A_H} (f : RM B h h') : hP h' = hP h := FG_P f
set_option maxRecDepth 16384 in
theorem d181s {B : Nat} {bs : Nat → Int32} {n : Nat} (b8 : B8 bs n) : ∀ f i h told P σ, MS h B bs n told P σ → σ 4 = 0 → f = n - i → MO n i (sL1 bs n told P σ) → ∃ h', R 181 2 [some (.ref 124), some (.int 1)] [] h = R 181 2 [some (.ref 124), some (.int 0)] [] h' ∧ RM B h h' ∧ MS h' B bs n true (lpT bs n f (sLP bs n P σ) (sL1 bs n told P σ)).2 (lpT bs n f (sLP bs n P σ) (sL1 bs n told P σ)).1 := by
  intro f
  induction f with
  | zero =>
    intro i h told P σ s e0 ef m
    obtain ⟨L, p, l, t, q⟩ := s
    obtain ⟨mn, mx, ut, w, nc⟩ := q e0
    have h2n := (t.2.1 e0).2.2.2.2.2.2.2.2.1
    obtain ⟨h1, g1, f1, t1, q1⟩ := d182 L b8 t e0 p l mn w nc mx ut
    have L1 := FG_Ly f1 L
    obtain ⟨h2, g2, f2, t2⟩ := d171 L1 b8 t1
    have nk : (decide ((sL1 bs n told P σ) 4 = 0) && decide ((sL1 bs n told P σ) 0 = 3)) = false := by
      by_cases z : (sL1 bs n told P σ) 4 = 0
      · rw [dT z, Bool.true_and]
        refine dF (fun k => ?_)
        obtain ⟨tk, mi, m3⟩ := m z
        have := m3 k
        have := tk.2.2.1
        omega
      · rw [dF z, Bool.false_and]
    rw [nk] at g2 t2
    refine ⟨h2, ?_, RM_T f1 f2, FG_Ly f2 L1, by rw [FG_P f2, RM_P f1]; exact p, FG_ML f2 (FG_ML f1 l), t2, fun z => ?_⟩
    · rw [b181_2]
      simp only [b181_6, b181_8, cond_true, cond_false, decide_true, Bool.and_true, Bool.true_and, Bool.and_self, Bool.and_false, Bool.false_and, Bool.not_true, Bool.not_false, Bool.or_true, Bool.true_or, Bool.or_false, Bool.false_or, is_some, gd_some, bk_v, bk_u, show decide ((1 : Int32) = 0) = false from rfl, y_124 L, y_124 L1, g1, g2, bI_F]
    · have h134 := m_134 l
      obtain ⟨a1, a2⟩ := q1 z
      obtain ⟨w', nc'⟩ := sL_W e0 w nc h2n z
      exact ⟨MN_FG f2 h134 a1, ⟨fun _ => MB_fr a2 (fun k j hk => MB_T (P := P) f2 h134 hk), fun q => absurd q (by decide)⟩, fun q => absurd q (by decide), w', nc'⟩
  | succ f ih =>
    intro i h told P σ s e0 ef m
    obtain ⟨L, p, l, t, q⟩ := s
    obtain ⟨mn, mx, ut, w, nc⟩ := q e0
    have h2n := (t.2.1 e0).2.2.2.2.2.2.2.2.1
    obtain ⟨h1, g1, f1, t1, q1⟩ := d182 L b8 t e0 p l mn w nc mx ut
    have L1 := FG_Ly f1 L
    have h134 := m_134 l
    obtain ⟨h2, g2, f2, t2⟩ := d171 L1 b8 t1
    have L2 := FG_Ly f2 L1
    have p2 : hP h2 124 4 = some B := by rw [FG_P f2, RM_P f1]; exact p
    have l2 := FG_ML f2 (FG_ML f1 l)
    have fin : (sL1 bs n told P σ) 4 = 0 → MN h2 B (sLP bs n P σ) ∧ MX h2 B (sLP bs n P σ) true ∧ UT true (sLP bs n P σ) ∧ WF (sLP bs n P σ) ∧ NC (sLP bs n P σ) := fun z => by
      obtain ⟨a1, a2⟩ := q1 z
      obtain ⟨w', nc'⟩ := sL_W e0 w nc h2n z
      exact ⟨MN_FG f2 h134 a1, ⟨fun _ => MB_fr a2 (fun k j hk => MB_T (P := P) f2 h134 hk), fun q => absurd q (by decide)⟩, fun q => absurd q (by decide), w', nc'⟩
    by_cases c : (sL1 bs n told P σ) 4 = 0 ∧ (sL1 bs n told P σ) 0 = 3
    · have eq : lpT bs n (f + 1) (sLP bs n P σ) (sL1 bs n told P σ) = lpT bs n f (sLP bs n (sLP bs n P σ) (sSt bs n (sL1 bs n told P σ))) (sL1 bs n true (sLP bs n P σ) (sSt bs n (sL1 bs n told P σ))) := by
        show (if _ then _ else _) = _
        rw [if_pos c]
      rw [eq]
      rw [dT c.1, dT c.2] at g2 t2
      have g2 : C 171 [.ref 124] h1 = some (some (some (.int 1)), h2) := g2
      have t2 : MKt h2 bs n (sSt bs n (sL1 bs n told P σ)) := t2
      have z1 : (sSt bs n (sL1 bs n told P σ)) 4 = 0 := sSt_z c.1
      obtain ⟨tk, mi, m3⟩ := m c.1
      have m3 := m3 c.2
      have tk1 := tok_st (bs := bs) tk.2.2.1 c.1
      have m2 : MO n (i + 1) (sL1 bs n true (sLP bs n P σ) (sSt bs n (sL1 bs n told P σ))) := by
        intro z
        obtain ⟨n1, n2, n3⟩ := sL_M (bs := bs) (n := n) (told := true) (P := sLP bs n P σ) z1 tk1.2.2.1 z
        have a1 : (sL1 bs n told P σ) 2 ≤ (sSt bs n (sL1 bs n told P σ)) 1 := by rw [sSt_0 c.1]; exact tS_le bs tk.2.2.1
        have a2 := tk1.2.1
        exact ⟨n1, by omega, n3⟩
      obtain ⟨h', e1, e2, e3⟩ := ih (i + 1) h2 true (sLP bs n P σ) _ ⟨L2, p2, l2, t2, fun _ => fin c.1⟩ z1 (by omega) m2
      refine ⟨h', ?_, FG_tr (RM_T f1 f2) e2, e3⟩
      rw [← e1, b181_2]
      simp only [b181_6, b181_8, cond_true, cond_false, decide_true, Bool.and_true, Bool.true_and, Bool.and_self, Bool.and_false, Bool.false_and, Bool.not_true, Bool.not_false, Bool.or_true, Bool.true_or, Bool.or_false, Bool.false_or, is_some, gd_some, bk_v, bk_u, show decide ((1 : Int32) = 0) = false from rfl, y_124 L, y_124 L1, g1, g2]
    · have eq : lpT bs n (f + 1) (sLP bs n P σ) (sL1 bs n told P σ) = (sL1 bs n told P σ, sLP bs n P σ) := by
        show (if _ then _ else _) = _
        rw [if_neg c]
      rw [eq]
      have nk : (decide ((sL1 bs n told P σ) 4 = 0) && decide ((sL1 bs n told P σ) 0 = 3)) = false := by
        by_cases z : (sL1 bs n told P σ) 4 = 0
        · rw [dT z, Bool.true_and]
          exact dF (fun k => c ⟨z, k⟩)
        · rw [dF z, Bool.false_and]
      rw [nk] at g2 t2
      refine ⟨h2, ?_, RM_T f1 f2, L2, p2, l2, t2, fin⟩
      rw [b181_2]
      simp only [b181_6, b181_8, cond_true, cond_false, decide_true, Bool.and_true, Bool.true_and, Bool.and_self, Bool.and_false, Bool.false_and, Bool.not_true, Bool.not_false, Bool.or_true, Bool.true_or, Bool.or_false, Bool.false_or, is_some, gd_some, bk_v, bk_u, show decide ((1 : Int32) = 0) = false from rfl, y_124 L, y_124 L1, g1, g2, bI_F]
set_option maxRecDepth 16384 in
theorem d181e {h : A_H} {B : Nat} {bs : Nat → Int32} {n : Nat} {P : Gh} {τ : Nat → Nat} (b8 : B8 bs n) (s : MS h B bs n true P τ) : ∃ h', R 181 2 [some (.ref 124), some (.int 0)] [] h = some (some none, h') ∧ FG mT ML14 h h' ∧ MKt h' bs n (sEd P τ) := by
  obtain ⟨L, p, l, t, q⟩ := s
  have h134 := m_134 l
 
  have bad : ∀ h1 σ, Ly h1 → hP h1 124 4 = some B → ML h1 B → MKt h1 bs n σ → ¬ σ 4 = 0 → ∃ h', R 181 17 [some (.ref 124), some (.int 0)] [] h1 = some (some none, h') ∧ FG mT ML14 h1 h' ∧ MKt h' bs n σ := fun h1 σ L1 p1 l1 t1 z => by
    obtain ⟨h2, g2, f2, t2⟩ := d169 L1 b8 t1 (k := 6) (by decide) (by decide)
    have g2 : C 169 [.ref 124, .int 6] h1 = some (some none, h2) := g2
    rw [sFa_1 z] at t2
    rw [b181_17]
    cases d3 : decide (hI h1 B 3 = 0) with
    | true =>
      refine ⟨h2, ?_, f2, t2⟩
      simp only [b181_28, cond_true, cond_false, decide_true, Bool.and_true, Bool.true_and, Bool.and_self, Bool.and_false, Bool.false_and, Bool.not_true, Bool.not_false, Bool.or_true, Bool.true_or, Bool.or_false, Bool.false_or, is_some, gd_some, bk_v, bk_u, y_124 L1, p1, mB_O l1, d3, g2]
    | false =>
      cases d4 : decide (hI h1 B 4 = 0) with
      | true =>
        refine ⟨h2, ?_, f2, t2⟩
        simp only [b181_28, cond_true, cond_false, decide_true, Bool.and_true, Bool.true_and, Bool.and_self, Bool.and_false, Bool.false_and, Bool.not_true, Bool.not_false, Bool.or_true, Bool.true_or, Bool.or_false, Bool.false_or, is_some, gd_some, bk_v, bk_u, y_124 L1, p1, mB_O l1, d3, d4, g2]
      | false =>
        refine ⟨h1, ?_, FG_rfl _ _ h1, t1⟩
        simp only [cond_true, cond_false, decide_true, Bool.and_true, Bool.true_and, Bool.and_self, Bool.and_false, Bool.false_and, Bool.not_true, Bool.not_false, Bool.or_true, Bool.true_or, Bool.or_false, Bool.false_or, is_some, gd_some, bk_v, bk_u, y_124 L1, p1, mB_O l1, d3, d4]
  obtain ⟨hb, gb, fb, tb⟩ := d169 L b8 t (k := 1) (by decide) (by decide)
  have gb : C 169 [.ref 124, .int 1] h = some (some none, hb) := gb
  have Lb := FG_Ly fb L
  have pb : hP hb 124 4 = some B := by rw [FG_P fb]; exact p
  have lb := FG_ML fb l
  rw [b181_2]
  by_cases z : τ 4 = 0
  · obtain ⟨mn, mx, ut, w, nc⟩ := q z
    have b := mx.1 rfl
    have d9 : decide (hI h 124 9 = 1) = decide (τ 0 = 0) := by rw [(t.2.1 z).1]; exact mk_is (t.2.1 z).2.2.2.2.2.2.1 0 (by decide)
    have k3 : decide (hI h B 3 = 0) = decide (P 0 3 = 0) := by rw [b_s3 b]; exact nk (f_nt w) (by decide)
    have k4 : decide (hI h B 4 = 0) = decide (P 0 4 = 0) := by rw [b_s4 b]; exact nk (Nat.le_trans (f_ng w) (by decide)) (by decide)
    unfold sEd
    by_cases e0 : τ 0 = 0
    · rw [if_pos e0]
      rw [dT e0] at d9
      obtain ⟨h6, g6, f6, t6⟩ := d169 L b8 t (k := 6) (by decide) (by decide)
      have g6 : C 169 [.ref 124, .int 6] h = some (some none, h6) := g6
      by_cases e3 : P 0 3 = 0
      · rw [if_pos (Or.inl e3)]
        rw [dT e3] at k3
        refine ⟨h6, ?_, f6, t6⟩
        simp only [b181_28, cond_true, cond_false, decide_true, Bool.and_true, Bool.true_and, Bool.and_self, Bool.and_false, Bool.false_and, Bool.not_true, Bool.not_false, Bool.or_true, Bool.true_or, Bool.or_false, Bool.false_or, is_some, gd_some, bk_v, bk_u, show decide ((0 : Int32) = 0) = true from rfl, y_124 L, p, mB_O l, d9, k3, g6]
      · rw [dF e3] at k3
        by_cases e4 : P 0 4 = 0
        · rw [if_pos (Or.inr e4)]
          rw [dT e4] at k4
          refine ⟨h6, ?_, f6, t6⟩
          simp only [b181_28, cond_true, cond_false, decide_true, Bool.and_true, Bool.true_and, Bool.and_self, Bool.and_false, Bool.false_and, Bool.not_true, Bool.not_false, Bool.or_true, Bool.true_or, Bool.or_false, Bool.false_or, is_some, gd_some, bk_v, bk_u, show decide ((0 : Int32) = 0) = true from rfl, y_124 L, p, mB_O l, d9, k3, k4, g6]
        · rw [if_neg (fun q => q.elim e3 e4)]
          rw [dF e4] at k4
          refine ⟨h, ?_, FG_rfl _ _ h, t⟩
          simp only [cond_true, cond_false, decide_true, Bool.and_true, Bool.true_and, Bool.and_self, Bool.and_false, Bool.false_and, Bool.not_true, Bool.not_false, Bool.or_true, Bool.true_or, Bool.or_false, Bool.false_or, is_some, gd_some, bk_v, bk_u, show decide ((0 : Int32) = 0) = true from rfl, y_124 L, p, mB_O l, d9, k3, k4]
    · rw [if_neg e0]
      rw [dF e0] at d9
      obtain ⟨hc, gc, fc, tc⟩ := bad hb _ Lb pb lb tb (sFa_n z (by decide))
      refine ⟨hc, ?_, FG_tr fb fc, tc⟩
      simp only [cond_true, cond_false, decide_true, Bool.and_true, Bool.true_and, Bool.and_self, Bool.and_false, Bool.false_and, Bool.not_true, Bool.not_false, Bool.or_true, Bool.true_or, Bool.or_false, Bool.false_or, is_some, gd_some, bk_v, bk_u, show decide ((0 : Int32) = 0) = true from rfl, y_124 L, d9, gb, gc]
  · rw [sEd_1 z]
    rw [sFa_1 z] at tb
    have d9 : decide (hI h 124 9 = 1) = false := by rw [(t.2.2 z).1]; rfl
    obtain ⟨hc, gc, fc, tc⟩ := bad hb _ Lb pb lb tb z
    refine ⟨hc, ?_, FG_tr fb fc, tc⟩
    simp only [cond_true, cond_false, decide_true, Bool.and_true, Bool.true_and, Bool.and_self, Bool.and_false, Bool.false_and, Bool.not_true, Bool.not_false, Bool.or_true, Bool.true_or, Bool.or_false, Bool.false_or, is_some, gd_some, bk_v, bk_u, show decide ((0 : Int32) = 0) = true from rfl, y_124 L, d9, gb, gc]
set_option maxRecDepth 16384 in
theorem d181 {h : A_H} {B : Nat} {bs : Nat → Int32} {n : Nat} (b8 : B8 bs n) (s : MS h B bs n false P0 (τ1 bs n)) : ∃ h', C 181 [.ref 124] h = some (some none, h') ∧ RM B h h' ∧ MKt h' bs n (eT bs n) ∧ ((eT bs n) 4 = 0 → MB h' B (eP bs n)) := by
  have h134 := m_134 s.2.2.1
  obtain ⟨h1, g1, f1, s1⟩ := d181s b8 (n - 1) 1 h false P0 (τ1 bs n) s (τ1_0 bs n).1 rfl (MO_1 bs n false P0)
  have s1 : MS h1 B bs n true (eP bs n) (lpS bs n).1 := s1
  obtain ⟨h2, g2, f2, t2⟩ := d181e b8 s1
  refine ⟨h2, ?_, RM_T f1 f2, t2, fun z => ?_⟩
  · rw [← g2, ← g1, e181, b181_0]
  · have z' : (lpS bs n).1 4 = 0 := by
      by_cases q : (lpS bs n).1 4 = 0
      · exact q
      · rw [show eT bs n = (lpS bs n).1 from sEd_1 q] at z; exact z
    exact MB_fr ((s1.2.2.2.2 z').2.1.1 rfl) (fun k j hk => MB_T (P := P0) f2 h134 hk)
