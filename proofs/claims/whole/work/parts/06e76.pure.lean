def pHi (bs : Nat → Int32) (n : Nat) (P : Gh) (τ : Nat → Nat) : Gh := ug P 0 8 (P 0 8 ||| 2 ^ knV P (hi1 bs n P τ))
def pPr (bs : Nat → Int32) (n : Nat) (P : Gh) (τ : Nat → Nat) : Gh := ug (ug (ug (ug P 4 (knV P (pr1 bs n P τ)) 1) 5 (knV P (pr1 bs n P τ)) (pr5 bs n P τ 3)) 6 (knV P (pr1 bs n P τ)) (pr7 bs n P τ 3)) 0 7 (P 0 7 + 1)
def ba1 (bs : Nat → Int32) (n : Nat) (P : Gh) (τ : Nat → Nat) : Nat → Nat := sSt bs n τ
def ba2 (bs : Nat → Int32) (n : Nat) (P : Gh) (τ : Nat → Nat) : Nat → Nat := sWd bs n 12 (ba1 bs n P τ)
def ba3 (bs : Nat → Int32) (n : Nat) (P : Gh) (τ : Nat → Nat) : Nat → Nat := sWh bs n 0 9 (ba2 bs n P τ)
def ba4 (bs : Nat → Int32) (n : Nat) (P : Gh) (τ : Nat → Nat) : Nat → Nat := sWd bs n 13 (ba3 bs n P τ)
def ba5 (bs : Nat → Int32) (n : Nat) (P : Gh) (τ : Nat → Nat) : Nat → Nat := sWh bs n 0 50 (ba4 bs n P τ)
def pBa (bs : Nat → Int32) (n : Nat) (P : Gh) (τ : Nat → Nat) : Gh := ug (ug P 0 0 (ba2 bs n P τ 3)) 0 1 (ba4 bs n P τ 3)
set_option maxRecDepth 16384 in
theorem tst {a g : Nat} (hg : g < 31) : decide ((nI a &&& ((1 : Int32) <<< (nI g &&& 31))) = 0) = !a.testBit g := by
  cases h : a.testBit g with
  | true =>
    refine dF (fun q => ?_)
    have q2 : bt (nI a &&& ((1 : Int32) <<< (nI g &&& 31))) g = bt 0 g := by rw [q]
    rw [bt_and, bt_1 (by omega), bt_nI _ (by omega), h, dT rfl] at q2
    have q3 : bt 0 g = (0 : Nat).testBit g := bt_nI 0 (by omega)
    rw [q3, Nat.zero_testBit] at q2
    exact absurd q2 (by decide)
  | false =>
    refine dT (i_ext (fun j hj => ?_))
    rw [show bt 0 j = (0 : Nat).testBit j from bt_nI 0 hj, Nat.zero_testBit, bt_and, bt_1 (by omega), bt_nI _ hj]
    by_cases e : j = g
    · rw [e, h]; rfl
    · rw [dF e, Bool.and_false]
set_option maxRecDepth 16384 in
theorem orb {a g : Nat} (hg : g < 31) : nI a ||| ((1 : Int32) <<< (nI g &&& 31)) = nI (a ||| 2 ^ g) := by
  refine i_ext (fun j hj => ?_)
  rw [bt_or, bt_1 (by omega), bt_nI _ hj, bt_nI _ hj, Nat.testBit_or, Nat.testBit_two_pow]
  congr 1
  exact decide_eq_decide.mpr eq_comm
set_option maxRecDepth 16384 in
theorem hi_z {bs : Nat → Int32} {n : Nat} {P : Gh} {τ : Nat → Nat} (e : (hi4 bs n P τ) 4 = 0) : (hi2 bs n P τ) 4 = 0 ∧ (P 0 8).testBit (knV P (hi1 bs n P τ)) = false := by
  have e3 : (hi3 bs n P τ) 4 = 0 := z_st e
  unfold hi3 at e3
  cases h : (P 0 8).testBit (knV P (hi1 bs n P τ)) with
  | false => rw [h] at e3; exact ⟨e3, rfl⟩
  | true =>
    rw [h, cond_true] at e3
    by_cases e2 : (hi2 bs n P τ) 4 = 0
    · exact absurd e3 (sFa_n e2 (by decide))
    · rw [sFa_1 e2] at e3; exact absurd e3 e2
set_option maxRecDepth 16384 in
theorem pr_z {bs : Nat → Int32} {n : Nat} {P : Gh} {τ : Nat → Nat} (e : (pr8 bs n P τ) 4 = 0) : (pr7 bs n P τ) 4 = 0 ∧ (pr6 bs n P τ) 4 = 0 ∧ (pr5 bs n P τ) 4 = 0 ∧ (pr4 bs n P τ) 4 = 0 ∧ (pr2 bs n P τ) 4 = 0 ∧ ¬ P 4 (knV P (pr1 bs n P τ)) = 1 := by
  have e7 : (pr7 bs n P τ) 4 = 0 := z_wh e
  have e6 : (pr6 bs n P τ) 4 = 0 := z_wd e7
  have e5 : (pr5 bs n P τ) 4 = 0 := z_wh e6
  have e4 : (pr4 bs n P τ) 4 = 0 := z_wd e5
  have e3 : (pr3 bs n P τ) 4 = 0 := z_st e4
  refine ⟨e7, e6, e5, e4, ?_⟩
  unfold pr3 at e3
  by_cases h : P 4 (knV P (pr1 bs n P τ)) = 1
  · rw [dT h, cond_true] at e3
    by_cases e2 : (pr2 bs n P τ) 4 = 0
    · exact absurd e3 (sFa_n e2 (by decide))
    · rw [sFa_1 e2] at e3; exact absurd e3 e2
  · rw [dF h] at e3; exact ⟨e3, h⟩
set_option maxRecDepth 16384 in
theorem pHi_W {bs : Nat → Int32} {n : Nat} {P : Gh} {τ : Nat → Nat} (w : WF P) (nc : NC P) (e : (hi4 bs n P τ) 4 = 0) : WF (pHi bs n P τ) ∧ NC (pHi bs n P τ) := by
  obtain ⟨e2, eb⟩ := hi_z e
  have hb := (kn_b nc e2).2.2.2 rfl
  refine ⟨WF_h w (fun j hj => ug_n (by omega)) (fun c i h1 h2 => ug_n (by omega)) ?_, NC_same nc (ug_n (by omega)) (ug_n (by omega)) (ug_n (by omega)) (ug_n (by omega)) (ug_n (by omega)) (fun a b ha => ug_n (by omega)) (fun i hi => ug_n (by omega))⟩
  unfold pHi
  rw [ug_e]
  exact Nat.or_lt_two_pow (f_hid w) (Nat.pow_lt_pow_right (by decide) hb)
set_option maxRecDepth 16384 in
theorem pPr_f {bs : Nat → Int32} {n : Nat} {P : Gh} {τ : Nat → Nat} : pPr bs n P τ 0 7 = P 0 7 + 1 ∧ pPr bs n P τ 4 (knV P (pr1 bs n P τ)) = 1 ∧ pPr bs n P τ 5 (knV P (pr1 bs n P τ)) = pr5 bs n P τ 3 ∧ pPr bs n P τ 6 (knV P (pr1 bs n P τ)) = pr7 bs n P τ 3 ∧ (∀ c i, 1 ≤ c → c ≤ 23 → ¬ ((4 ≤ c ∧ c ≤ 6) ∧ i = knV P (pr1 bs n P τ)) → pPr bs n P τ c i = P c i) ∧ (∀ j, ¬ j = 7 → pPr bs n P τ 0 j = P 0 j) ∧ (∀ a b, 30 ≤ a → pPr bs n P τ a b = P a b) := by
  unfold pPr
  refine ⟨ug_e, ?_, ?_, ?_, fun c i i1 i2 i3 => ?_, fun j hj => ?_, fun a b ha => ?_⟩
  · rw [ug_n (by omega), ug_n (by omega), ug_n (by omega), ug_e]
  · rw [ug_n (by omega), ug_n (by omega), ug_e]
  · rw [ug_n (by omega), ug_e]
  · rw [ug_n (by omega), ug_n (by omega), ug_n (by omega), ug_n (by omega)]
  · rw [ug_n (by omega), ug_n (by omega), ug_n (by omega), ug_n (by omega)]
  · rw [ug_n (by omega), ug_n (by omega), ug_n (by omega), ug_n (by omega)]
set_option maxRecDepth 16384 in
theorem pPr_W {bs : Nat → Int32} {n : Nat} {P : Gh} {τ : Nat → Nat} (w : WF P) (nc : NC P) (e : (pr8 bs n P τ) 4 = 0) : WF (pPr bs n P τ) ∧ NC (pPr bs n P τ) := by
  obtain ⟨e7, e6, e5, e4, e2, eb⟩ := pr_z e
  have hb := (kn_b nc e2).1 rfl
  have b1 := wh_b e6
  have b2 := wh_b e
  obtain ⟨h7, h4, h5, h6, qr, qz, qn⟩ := pPr_f (bs := bs) (n := n) (P := P) (τ := τ)
  have cu : cnt (P 0 2) (fun i => decide (pPr bs n P τ 4 i = 1)) = P 0 7 + 1 := by
    rw [nc.2.2.1]
    refine cnt_up hb (by rw [h4]; rfl) (dF eb) (fun k _ hk => by rw [qr 4 k (by decide) (by decide) (by omega)])
  have le := cnt_le (P 0 2) (fun i => decide (pPr bs n P τ 4 i = 1))
  have k2 := f_nm w
  refine ⟨WF_p w hb h4 qz qr (by rw [h7]; omega) (by rw [h5]; exact b1.2) (by rw [h6]; exact b2.2), ?_⟩
  obtain ⟨n1, n2, n3, n4⟩ := nc
  refine ⟨?_, fun i hi => ?_, ?_, fun i hi => ?_⟩
  · rw [qn 30 0 (by decide), qz 2 (by decide), qz 3 (by decide), qz 4 (by decide), qz 5 (by decide)]; exact n1
  · rw [qn 30 0 (by decide)] at hi
    rw [qn 31 i (by decide), qn 32 i (by decide), qz 2 (by decide), qz 3 (by decide), qz 4 (by decide), qz 5 (by decide)]; exact n2 i hi
  · rw [qz 2 (by decide), h7, cu]
  · rw [qn 30 0 (by decide)] at hi
    rw [qn 33 i (by decide)]; exact n4 i hi
set_option maxRecDepth 16384 in
theorem pBa_f {bs : Nat → Int32} {n : Nat} {P : Gh} {τ : Nat → Nat} : pBa bs n P τ 0 0 = ba2 bs n P τ 3 ∧ pBa bs n P τ 0 1 = ba4 bs n P τ 3 ∧ (∀ c i, 1 ≤ c → pBa bs n P τ c i = P c i) ∧ (∀ j, ¬ j = 0 → ¬ j = 1 → pBa bs n P τ 0 j = P 0 j) := by
  unfold pBa
  refine ⟨?_, ug_e, fun c i h1 => ?_, fun j h1 h2 => ?_⟩
  · rw [ug_n (by omega), ug_e]
  · rw [ug_n (by omega), ug_n (by omega)]
  · rw [ug_n (by omega), ug_n (by omega)]
set_option maxRecDepth 16384 in
theorem pBa_W {bs : Nat → Int32} {n : Nat} {P : Gh} {τ : Nat → Nat} (w : WF P) (nc : NC P) (e : (ba5 bs n P τ) 4 = 0) : WF (pBa bs n P τ) ∧ NC (pBa bs n P τ) := by
  have b2 := wh_b e
  have b1 : 0 ≤ ba2 bs n P τ 3 ∧ ba2 bs n P τ 3 ≤ 9 := wh_b (z_wd (z_wh e))
  obtain ⟨h0, h1, qr, qz⟩ := pBa_f (bs := bs) (n := n) (P := P) (τ := τ)
  exact ⟨WF_b w qz (fun c i h1 h2 => qr c i h1) (by rw [h0]; exact b1.2) (by rw [h1]; exact b2.2), NC_same nc (qz 2 (by decide) (by decide)) (qz 3 (by decide) (by decide)) (qz 4 (by decide) (by decide)) (qz 5 (by decide) (by decide)) (qz 7 (by decide) (by decide)) (fun a b ha => qr a b (by omega)) (fun i hi => qr 4 i (by decide))⟩
set_option maxRecDepth 16384 in
theorem CKt_23 {h : A_H} {bs : Nat → Int32} {n : Nat} {τ : Nat → Nat} (t : CKt h bs n τ) (v : Int32) : CKt (wI h 2 3 v) bs n τ := by
  have q : ∀ x y, ¬ (x = 2 ∧ y = 3) → hI (wI h 2 3 v) x y = hI h x y := fun x y hx => by rw [hI_wI, if_neg hx]
  obtain ⟨t1, t2, t3, e, t4⟩ := t
  refine ⟨⟨(q _ _ (by decide)).trans t1.1, t1.2.1, fun k hk => (q _ _ (by omega)).trans (t1.2.2 k hk)⟩, fun c => ?_, fun c => ?_, e, t4.1, (q _ _ (by decide)).trans t4.2⟩
  · obtain ⟨a1, a2, a3, a4, a5, a6⟩ := t2 c
    exact ⟨(q _ _ (by decide)).trans a1, (q _ _ (by decide)).trans a2, (q _ _ (by decide)).trans a3, (q _ _ (by decide)).trans a4, a5, a6⟩
  · obtain ⟨a1, a2, a3⟩ := t3 c
    exact ⟨(q _ _ (by decide)).trans a1, a2, (q _ _ (by decide)).trans a3⟩
set_option maxRecDepth 16384 in
theorem CN_23 {h : A_H} {P : Gh} (c : CN h P) (v : Int32) : CN (wI h 2 3 v) P := ⟨by rw [hI_wI, if_neg (by omega)]; exact c.1, c.2.1, fun i hi => by
  obtain ⟨c1, c2, c3, c4, c5, c6⟩ := c.2.2 i hi
  exact ⟨c1, c2, by rw [hI_wI, if_neg (by omega)]; exact c3, c4, by rw [hI_wI, if_neg (by omega)]; exact c5, c6⟩⟩
set_option maxRecDepth 16384 in
theorem c44 {h : A_H} {bs : Nat → Int32} {n : Nat} {τ : Nat → Nat} {T : Nat} {P : Gh} (L : Ly h) (t : CKt h bs n τ) (e0 : τ 4 = 0) (hT : isT T) (h22 : hP h 2 2 = some T) (r : CRs h) (c : CN h P) (ct : CT h T P) (w : WF P) (cl : CL h T P) (nc : NC P) : ∃ h', C 44 [.ref 2] h = some (some none, h') ∧ RD T h h' ∧ CKt h' bs n (hi4 bs n P τ) ∧ ((hi4 bs n P τ) 4 = 0 → CT h' T (pHi bs n P τ) ∧ CN h' (pHi bs n P τ) ∧ CL h' T (pHi bs n P τ)) := by
  have k2 := f_nm w
  have k3 := f_nt w
  have k4 := f_ng w
  have k5 := f_nG w
  have k6 := f_nx w
  have k9 := f_nc w
  have q0 := nT hT (show 0 < 35 by decide)
  obtain ⟨h1, g1, f1, t1⟩ := c25' L t
  have t1 : CKt h1 bs n (hi1 bs n P τ) := t1
  have L1 := FB_Ly f1 L
  have p1 : hP h1 2 2 = some T := by rw [FB_P f1]; exact h22
  have r1 := CRs_FB f1 r
  have c1 := CN_FB f1 c
  obtain ⟨m2, h2, g2, f2, t2, b2, v2⟩ := c35 L1 t1 r1 c1 (s := 4)  (by decide)
  have g2 : C 35 [.ref 2, .int 4] h1 = some (some (some (.int (nI m2))), h2) := g2
  have b2 : m2 < 8 := b2
  have t2 : CKt h2 bs n (hi2 bs n P τ) := t2
  have L2 := FB_Ly f2 L1
  have p2 : hP h2 2 2 = some T := by rw [FB_P f2]; exact p1
  have r2 := CRs_FB f2 r1
  have c2 := CN_FB f2 c1
  have qm : m2 < 31 := by omega
  have e8 : hI h2 T 8 = nI (P 0 8) := by rw [TR_B hT f2 (by omega) (by omega), TR_B hT f1 (by omega) (by omega)]; exact c_s8 ct
  have fin : ∀ hB, FB TF h2 hB → CKt hB bs n (hi3 bs n P τ) → C 44 [.ref 2] h = R 44 24 [some (.ref 2), some (.int (1 <<< (nI m2 &&& 31)))] [] (wI hB T 8 (nI (P 0 8 ||| 2 ^ m2))) → ∃ h', C 44 [.ref 2] h = some (some none, h') ∧ RD T h h' ∧ CKt h' bs n (hi4 bs n P τ) ∧ ((hi4 bs n P τ) 4 = 0 → CT h' T (pHi bs n P τ) ∧ CN h' (pHi bs n P τ) ∧ CL h' T (pHi bs n P τ)) := by
    intro hB fB tB eq
    have L9 := FB_Ly fB L2
    have p9 : hP hB 2 2 = some T := by rw [FB_P fB]; exact p2
    have r9 := CRs_FB fB r2
    have c9 := CN_FB fB c2
    have L10 : Ly (wI hB (T) 8 (nI (P 0 8 ||| 2 ^ m2))) := L9
    have p10 : hP (wI hB (T) 8 (nI (P 0 8 ||| 2 ^ m2))) 2 2 = some T := p9
    have r10 : CRs (wI hB (T) 8 (nI (P 0 8 ||| 2 ^ m2))) := CRs_w r9 _
    have t10 := CKt_w tB (a := T) (b := 8) (nI (P 0 8 ||| 2 ^ m2)) (by omega) (by omega)
    have c10 : CN (wI hB (T) 8 (nI (P 0 8 ||| 2 ^ m2))) P := CN_w c9 _ (by omega)
    obtain ⟨h11, g11, f11, t11⟩ := c25' L10 t10
    have t11 : CKt h11 bs n (hi4 bs n P τ) := t11
    have L11 := FB_Ly f11 L10
    have p11 : hP h11 2 2 = some T := by rw [FB_P f11]; exact p10
    have r11 := CRs_FB f11 r10
    have c11 := CN_FB f11 c10
    have fr : ∀ a b, T ≤ a → a < T + 35 → ¬ a = T + 9 → ¬ (a = T ∧ b = 8) → hI h11 a b = hI h a b := by
      intro a b i1 i2 i3 i4
      rw [TR_B hT f11 (by omega) (by omega), hI_wI, if_neg (by omega), TR_B hT fB (by omega) (by omega), TR_B hT f2 (by omega) (by omega), TR_B hT f1 (by omega) (by omega)]
    refine ⟨h11, ?_, RD_B (RD_w (RD_B (RD_B (RD_B (RD_rfl T h) f1) f2) fB) _ (by omega)) f11, t11, fun e => ?_⟩
    · rw [eq]
      simp only [b44_24, b44_26, cond_true, cond_false, decide_true, Bool.and_true, Bool.true_and, Bool.and_self, Bool.and_false, Bool.false_and, Bool.not_true, Bool.not_false, Bool.or_true, Bool.true_or, Bool.or_false, Bool.false_or, is_some, gd_some, bk_v, bk_u, isO_wI, hP_wI, isA_wI, x_O2 L9, g11]
    · obtain ⟨z2, zb⟩ := hi_z e
      have em := v2 z2
      refine ⟨CT_h w ct (fun j hj => ug_n (by omega)) (fun c i h1 h2 => ug_n (by omega)) fr ?_, CN_eq c11 (fun a b ha => ug_n (by omega)), fun i hi h4 => ?_⟩
      · rw [TR_B hT f11 (by omega) (by omega), hI_wI, if_pos ⟨rfl, rfl⟩, em]
        unfold pHi
        rw [ug_e]
      · rw [fr _ _ (by omega) (by omega) (by omega) (by omega)]
        exact cl i (by rw [show pHi bs n P τ 0 2 = P 0 2 from ug_n (by omega)] at hi; exact hi) h4
  cases hb : (P 0 8).testBit m2 with
  | false =>
    refine fin h2 (FB_rfl _ _) ?_ ?_
    · have : hi3 bs n P τ = hi2 bs n P τ := by
        unfold hi3
        by_cases z : (hi2 bs n P τ) 4 = 0
        · rw [← v2 z, hb]; rfl
        · rw [sFa_1 z]; cases (P 0 8).testBit (knV P (hi1 bs n P τ)) <;> rfl
      rw [this]; exact t2
    · rw [e44]
      have d := tst (a := P 0 8) qm
      rw [hb] at d
      simp only [b44_0, b44_2, b44_6, cond_true, cond_false, decide_true, Bool.and_true, Bool.true_and, Bool.and_self, Bool.and_false, Bool.false_and, Bool.not_true, Bool.not_false, Bool.or_true, Bool.true_or, Bool.or_false, Bool.false_or, is_some, gd_some, bk_v, bk_u, g1, g2, x_O2 L, x_O2 L1, x_O2 L2, h22, p1, p2, t_O L2 hT, e8, d, orb qm]
  | true =>
    obtain ⟨h3, g3, f3, t3⟩ := c24 L2 t2 (k := 3) (by decide) (by decide)
    have g3 : C 24 [.ref 2, .int 3] h2 = some (some none, h3) := g3
    have L3 := FB_Ly f3 L2
    have p3 : hP h3 2 2 = some T := by rw [FB_P f3]; exact p2
    have r3 := CRs_FB f3 r2
    have c3 := CN_FB f3 c2
    refine fin h3 f3 ?_ ?_
    · have : hi3 bs n P τ = sFa 3 (hi2 bs n P τ) := by
        unfold hi3
        by_cases z : (hi2 bs n P τ) 4 = 0
        · rw [← v2 z, hb]; rfl
        · rw [sFa_1 z]; cases (P 0 8).testBit (knV P (hi1 bs n P τ)) <;> rfl
      rw [this]; exact t3
    · rw [e44]
      have d := tst (a := P 0 8) qm
      rw [hb] at d
      have e8' : hI h3 T 8 = nI (P 0 8) := by rw [TR_B hT f3 (by omega) (by omega)]; exact e8
      simp only [b44_0, b44_2, b44_6, b44_17, cond_true, cond_false, decide_true, Bool.and_true, Bool.true_and, Bool.and_self, Bool.and_false, Bool.false_and, Bool.not_true, Bool.not_false, Bool.or_true, Bool.true_or, Bool.or_false, Bool.false_or, is_some, gd_some, bk_v, bk_u, g1, g2, g3, x_O2 L, x_O2 L1, x_O2 L2, x_O2 L3, h22, p1, p2, p3, t_O L2 hT, t_O L3 hT, e8, e8', d, orb qm]
set_option maxRecDepth 16384 in
theorem lo_e {k : Nat} (h : 0 < k) : nI k - 1 = nI (k - 1) := w_sub (a := k) (b := 1) h
set_option maxRecDepth 16384 in
theorem c45 {h : A_H} {bs : Nat → Int32} {n : Nat} {τ : Nat → Nat} {T : Nat} {P : Gh} (L : Ly h) (t : CKt h bs n τ) (e0 : τ 4 = 0) (hT : isT T) (h22 : hP h 2 2 = some T) (r : CRs h) (c : CN h P) (ct : CT h T P) (w : WF P) (cl : CL h T P) (nc : NC P) : ∃ h', C 45 [.ref 2] h = some (some none, h') ∧ RD T h h' ∧ CKt h' bs n (cr9 bs n P τ) ∧ ((cr9 bs n P τ) 4 = 0 → CT h' T (pCr bs n P τ) ∧ CN h' (pCr bs n P τ) ∧ CL h' T (pCr bs n P τ)) := by
  have k2 := f_nm w
  have k3 := f_nt w
  have k4 := f_ng w
  have k5 := f_nG w
  have k6 := f_nx w
  have k9 := f_nc w
  have q0 := nT hT (show 0 < 35 by decide)
  obtain ⟨h1, g1, f1, t1⟩ := c37 L t (a := P 0 6) (m := 6) (by omega) (by decide)
  have g1 : C 37 [.ref 2, .int (nI (P 0 6)), .int 6] h = some (some (some (.int (bI (decide (P 0 6 < 6))))), h1) := g1
  have t1 : CKt h1 bs n (cr1 bs n P τ) := t1
  have L1 := FB_Ly f1 L
  have p1 : hP h1 2 2 = some T := by rw [FB_P f1]; exact h22
  have r1 := CRs_FB f1 r
  have c1 := CN_FB f1 c
  by_cases cm : P 0 6 < 6
  · rw [dT cm, bI_T] at g1
    have qr := nT hT (show 29 + P 0 6 < 35 by omega)
    rw [← Nat.add_assoc] at qr
    obtain ⟨m2, h2, g2, f2, t2, b2, v2⟩ := c35 L1 t1 r1 c1 (s := 2)  (by decide)
    have g2 : C 35 [.ref 2, .int 2] h1 = some (some (some (.int (nI m2))), h2) := g2
    have b2 : m2 < 4 := b2
    have t2 : CKt h2 bs n (cr2 bs n P τ) := t2
    have L2 := FB_Ly f2 L1
    have p2 : hP h2 2 2 = some T := by rw [FB_P f2]; exact p1
    have r2 := CRs_FB f2 r1
    have c2 := CN_FB f2 c1
    have L3 : Ly (wI h2 (T + 29 + P 0 6) 0 (nI m2)) := L2
    have p3 : hP (wI h2 (T + 29 + P 0 6) 0 (nI m2)) 2 2 = some T := p2
    have r3 : CRs (wI h2 (T + 29 + P 0 6) 0 (nI m2)) := CRs_w r2 _
    have t3 := CKt_w t2 (a := T + 29 + P 0 6) (b := 0) (nI m2) (by omega) (by omega)
    have c3 : CN (wI h2 (T + 29 + P 0 6) 0 (nI m2)) P := CN_w c2 _ (by omega)
    obtain ⟨h4, g4, f4, t4⟩ := c25' L3 t3
    have t4 : CKt h4 bs n (cr3 bs n P τ) := t4
    have L4 := FB_Ly f4 L3
    have p4 : hP h4 2 2 = some T := by rw [FB_P f4]; exact p3
    have r4 := CRs_FB f4 r3
    have c4 := CN_FB f4 c3
    obtain ⟨m5, h5, g5, f5, t5, b5, v5⟩ := c35 L4 t4 r4 c4 (s := 3)  (by decide)
    have g5 : C 35 [.ref 2, .int 3] h4 = some (some (some (.int (nI m5))), h5) := g5
    have b5 : m5 < 3 := b5
    have t5 : CKt h5 bs n (cr4 bs n P τ) := t5
    have L5 := FB_Ly f5 L4
    have p5 : hP h5 2 2 = some T := by rw [FB_P f5]; exact p4
    have r5 := CRs_FB f5 r4
    have c5 := CN_FB f5 c4
    have L6 : Ly (wI h5 (T + 29 + P 0 6) 1 (nI m5)) := L5
    have p6 : hP (wI h5 (T + 29 + P 0 6) 1 (nI m5)) 2 2 = some T := p5
    have r6 : CRs (wI h5 (T + 29 + P 0 6) 1 (nI m5)) := CRs_w r5 _
    have t6 := CKt_w t5 (a := T + 29 + P 0 6) (b := 1) (nI m5) (by omega) (by omega)
    have c6 : CN (wI h5 (T + 29 + P 0 6) 1 (nI m5)) P := CN_w c5 _ (by omega)
    obtain ⟨h7, g7, f7, t7⟩ := c25' L6 t6
    have t7 : CKt h7 bs n (cr5 bs n P τ) := t7
    have L7 := FB_Ly f7 L6
    have p7 : hP h7 2 2 = some T := by rw [FB_P f7]; exact p6
    have r7 := CRs_FB f7 r6
    have c7 := CN_FB f7 c6
    obtain ⟨h8, g8, f8, t8⟩ := c29 L7 t7 (x := 29) (by decide) (by decide)
    have t8 : CKt h8 bs n (cr6 bs n P τ) := t8
    have L8 := FB_Ly f8 L7
    have p8 : hP h8 2 2 = some T := by rw [FB_P f8]; exact p7
    have r8 := CRs_FB f8 r7
    have c8 := CN_FB f8 c7
    have lo9 : (if P 0 6 = 0 then 0 else P 20 (P 0 6 - 1)) < 1000 := by
      by_cases z : P 0 6 = 0
      · rw [if_pos z]; decide
      · rw [if_neg z]; have := f_day w (show P 0 6 - 1 < P 0 6 by omega); omega
    have rdy : ¬ P 0 6 = 0 → hI h8 (T + 29 + (P 0 6 - 1)) 2 = nI (P 20 (P 0 6 - 1)) := fun z => by rw [TR_B hT f8 (by omega) (by omega), TR_B hT f7 (by omega) (by omega), hI_wI, if_neg (by omega), TR_B hT f5 (by omega) (by omega), TR_B hT f4 (by omega) (by omega), hI_wI, if_neg (by omega), TR_B hT f2 (by omega) (by omega), TR_B hT f1 (by omega) (by omega)]; exact c_day ct (by omega)
    obtain ⟨m9, h9, g9, f9, t9, b9, v9⟩ := c30 L8 t8 (lo := (if P 0 6 = 0 then 0 else P 20 (P 0 6 - 1))) (hi := 60) (lo9) (by decide)
    have g9 : C 30 [.ref 2, .int (nI (if P 0 6 = 0 then 0 else P 20 (P 0 6 - 1))), .int 60] h8 = some (some (some (.int (nI m9))), h9) := g9
    have t9 : CKt h9 bs n (cr7 bs n P τ) := t9
    have L9 := FB_Ly f9 L8
    have p9 : hP h9 2 2 = some T := by rw [FB_P f9]; exact p8
    have r9 := CRs_FB f9 r8
    have c9 := CN_FB f9 c8
    have L10 : Ly (wI h9 (T + 29 + P 0 6) 2 (nI m9)) := L9
    have p10 : hP (wI h9 (T + 29 + P 0 6) 2 (nI m9)) 2 2 = some T := p9
    have r10 : CRs (wI h9 (T + 29 + P 0 6) 2 (nI m9)) := CRs_w r9 _
    have t10 := CKt_w t9 (a := T + 29 + P 0 6) (b := 2) (nI m9) (by omega) (by omega)
    have c10 : CN (wI h9 (T + 29 + P 0 6) 2 (nI m9)) P := CN_w c9 _ (by omega)
    obtain ⟨h11, g11, f11, t11⟩ := c29 L10 t10 (x := 30) (by decide) (by decide)
    have t11 : CKt h11 bs n (cr8 bs n P τ) := t11
    have L11 := FB_Ly f11 L10
    have p11 : hP h11 2 2 = some T := by rw [FB_P f11]; exact p10
    have r11 := CRs_FB f11 r10
    have c11 := CN_FB f11 c10
    obtain ⟨m12, h12, g12, f12, t12, b12, v12⟩ := c30 L11 t11 (lo := 0) (hi := 23) (by decide) (by decide)
    have g12 : C 30 [.ref 2, .int 0, .int 23] h11 = some (some (some (.int (nI m12))), h12) := g12
    have t12 : CKt h12 bs n (cr9 bs n P τ) := t12
    have L12 := FB_Ly f12 L11
    have p12 : hP h12 2 2 = some T := by rw [FB_P f12]; exact p11
    have r12 := CRs_FB f12 r11
    have c12 := CN_FB f12 c11
    have L13 : Ly (wI h12 (T + 29 + P 0 6) 3 (nI m12)) := L12
    have p13 : hP (wI h12 (T + 29 + P 0 6) 3 (nI m12)) 2 2 = some T := p12
    have r13 : CRs (wI h12 (T + 29 + P 0 6) 3 (nI m12)) := CRs_w r12 _
    have t13 := CKt_w t12 (a := T + 29 + P 0 6) (b := 3) (nI m12) (by omega) (by omega)
    have c13 : CN (wI h12 (T + 29 + P 0 6) 3 (nI m12)) P := CN_w c12 _ (by omega)
    have h6 : hI (wI h12 (T + 29 + P 0 6) 3 (nI m12)) T 6 = nI (P 0 6) := by rw [hI_wI, if_neg (by omega), TR_B hT f12 (by omega) (by omega), TR_B hT f11 (by omega) (by omega), hI_wI, if_neg (by omega), TR_B hT f9 (by omega) (by omega), TR_B hT f8 (by omega) (by omega), TR_B hT f7 (by omega) (by omega), hI_wI, if_neg (by omega), TR_B hT f5 (by omega) (by omega), TR_B hT f4 (by omega) (by omega), hI_wI, if_neg (by omega), TR_B hT f2 (by omega) (by omega), TR_B hT f1 (by omega) (by omega)]; exact c_s6 ct
    have L14 : Ly (wI (wI h12 (T + 29 + P 0 6) 3 (nI m12)) (T) 6 (nI (P 0 6 + 1))) := L13
    have p14 : hP (wI (wI h12 (T + 29 + P 0 6) 3 (nI m12)) (T) 6 (nI (P 0 6 + 1))) 2 2 = some T := p13
    have r14 : CRs (wI (wI h12 (T + 29 + P 0 6) 3 (nI m12)) (T) 6 (nI (P 0 6 + 1))) := CRs_w r13 _
    have t14 := CKt_w t13 (a := T) (b := 6) (nI (P 0 6 + 1)) (by omega) (by omega)
    have c14 : CN (wI (wI h12 (T + 29 + P 0 6) 3 (nI m12)) (T) 6 (nI (P 0 6 + 1))) P := CN_w c13 _ (by omega)
    have fr : ∀ a b, T ≤ a → a < T + 35 → ¬ a = T + 9 → ¬ (a = T ∧ b = 6) → ¬ (a = T + 29 + P 0 6) → hI (wI (wI h12 (T + 29 + P 0 6) 3 (nI m12)) (T) 6 (nI (P 0 6 + 1))) a b = hI h a b := by
      intro a b i1 i2 i3 i4 i5
      rw [hI_wI, if_neg (by omega), hI_wI, if_neg (by omega), TR_B hT f12 (by omega) (by omega), TR_B hT f11 (by omega) (by omega), hI_wI, if_neg (by omega), TR_B hT f9 (by omega) (by omega), TR_B hT f8 (by omega) (by omega), TR_B hT f7 (by omega) (by omega), hI_wI, if_neg (by omega), TR_B hT f5 (by omega) (by omega), TR_B hT f4 (by omega) (by omega), hI_wI, if_neg (by omega), TR_B hT f2 (by omega) (by omega), TR_B hT f1 (by omega) (by omega)]
    refine ⟨(wI (wI h12 (T + 29 + P 0 6) 3 (nI m12)) (T) 6 (nI (P 0 6 + 1))), ?_, RD_w (RD_w (RD_B (RD_B (RD_w (RD_B (RD_B (RD_B (RD_w (RD_B (RD_B (RD_w (RD_B (RD_B (RD_rfl T h) f1) f2) _ (by omega)) f4) f5) _ (by omega)) f7) f8) f9) _ (by omega)) f11) f12) _ (by omega)) _ (by omega), t14, fun e => ?_⟩
    · rw [e45]
      by_cases z : P 0 6 = 0
      · rw [if_pos z] at g9
        have g9 : C 30 [.ref 2, .int 0, .int 60] h8 = some (some (some (.int (nI m9))), h9) := g9
        have d0 : decide (nI (P 0 6) = 0) = true := by rw [z]; rfl
        simp only [b45_0, b45_8, b45_20, b45_21, b45_23, b45_27, b45_28, b45_30, b45_33, b45_49, b45_50, b45_53, b45_58, b45_59, b45_66, cond_true, cond_false, decide_true, Bool.and_true, Bool.true_and, Bool.and_self, Bool.and_false, Bool.false_and, Bool.not_true, Bool.not_false, Bool.or_true, Bool.true_or, Bool.or_false, Bool.false_or, is_some, gd_some, bk_v, bk_u, isO_wI, hP_wI, isA_wI, t_O L hT, c_s6 ct, i1_0, g1, g2, g4, g5, g7, g8, g9, g11, g12, x_O2 L, x_O2 L1, x_O2 L2, x_O2 L4, x_O2 L5, x_O2 L7, x_O2 L8, x_O2 L9, x_O2 L11, x_O2 L12, h22, p1, p2, p4, p5, p7, p8, p9, p11, p12, t_O L1 hT, t_P13 L1 hT, t_Ax L1 hT cm, w_cl (show P 0 6 < 2147483648 by omega), t_Ex L1 hT cm, t_Ox L2 hT cm, t_Ox L5 hT cm, t_Ox L9 hT cm, t_Ox L12 hT cm, t_O L12 hT, h6, w_s, d0]
      · rw [if_neg z] at g9
        have d0 : decide (nI (P 0 6) = 0) = false := nz z (by omega)
        simp only [b45_0, b45_8, b45_20, b45_21, b45_23, b45_27, b45_28, b45_30, b45_33, b45_49, b45_50, b45_53, b45_58, b45_59, b45_66, cond_true, cond_false, decide_true, Bool.and_true, Bool.true_and, Bool.and_self, Bool.and_false, Bool.false_and, Bool.not_true, Bool.not_false, Bool.or_true, Bool.true_or, Bool.or_false, Bool.false_or, is_some, gd_some, bk_v, bk_u, isO_wI, hP_wI, isA_wI, t_O L hT, c_s6 ct, i1_0, g1, g2, g4, g5, g7, g8, g9, g11, g12, x_O2 L, x_O2 L1, x_O2 L2, x_O2 L4, x_O2 L5, x_O2 L7, x_O2 L8, x_O2 L9, x_O2 L11, x_O2 L12, h22, p1, p2, p4, p5, p7, p8, p9, p11, p12, t_O L1 hT, t_P13 L1 hT, t_Ax L1 hT cm, w_cl (show P 0 6 < 2147483648 by omega), t_Ex L1 hT cm, t_Ox L2 hT cm, t_Ox L5 hT cm, t_Ox L9 hT cm, t_Ox L12 hT cm, t_O L12 hT, h6, w_s, d0, t_O L8 hT, t_P13 L8 hT, lo_e (show 0 < P 0 6 by omega), t_Ax L8 hT (show P 0 6 - 1 < 6 by omega), w_cl (show P 0 6 - 1 < 2147483648 by omega), t_Ex L8 hT (show P 0 6 - 1 < 6 by omega), t_Ox L8 hT (show P 0 6 - 1 < 6 by omega), rdy z]
    · obtain ⟨z8, z7, z6, z5, z4, z3, z2, z1⟩ := cr_z e
      refine ⟨CT_a6 w ct cm pCr_0 pCr_1 pCr_r fr (by rw [hI_wI, if_pos ⟨rfl, rfl⟩]) (by rw [pCr_18v, hI_wI, if_neg (by omega), hI_wI, if_neg (by omega), TR_B hT f12 (by omega) (by omega), TR_B hT f11 (by omega) (by omega), hI_wI, if_neg (by omega), TR_B hT f9 (by omega) (by omega), TR_B hT f8 (by omega) (by omega), TR_B hT f7 (by omega) (by omega), hI_wI, if_neg (by omega), TR_B hT f5 (by omega) (by omega), TR_B hT f4 (by omega) (by omega), hI_wI, if_pos ⟨rfl, rfl⟩, v2 z2]) (by rw [pCr_19v, hI_wI, if_neg (by omega), hI_wI, if_neg (by omega), TR_B hT f12 (by omega) (by omega), TR_B hT f11 (by omega) (by omega), hI_wI, if_neg (by omega), TR_B hT f9 (by omega) (by omega), TR_B hT f8 (by omega) (by omega), TR_B hT f7 (by omega) (by omega), hI_wI, if_pos ⟨rfl, rfl⟩, v5 z4]) (by rw [pCr_20v, hI_wI, if_neg (by omega), hI_wI, if_neg (by omega), TR_B hT f12 (by omega) (by omega), TR_B hT f11 (by omega) (by omega), hI_wI, if_pos ⟨rfl, rfl⟩, v9 z7]) (by rw [pCr_21v, hI_wI, if_neg (by omega), hI_wI, if_pos ⟨rfl, rfl⟩, v12 e]), CN_eq c14 pCr_n, fun i hi h4 => ?_⟩
      rw [pCr_0 2 (by decide)] at hi
      rw [fr _ _ (by omega) (by omega) (by omega) (by omega) (by omega)]
      exact cl i hi h4
  · rw [dF cm, bI_F] at g1
    have ne : ¬ (cr1 bs n P τ) 4 = 0 := by unfold cr1 sRm; rw [if_neg cm]; exact sFa_n e0 (by decide)
    have le : cr9 bs n P τ = cr1 bs n P τ := by
      unfold cr9 cr8 cr7 cr6 cr5 cr4 cr3 cr2
      rw [sKn_1 ne, sSt_1 ne, sKn_1 ne, sSt_1 ne, sWd_1 ne, sWh_1 ne, sWd_1 ne, sWh_1 ne]
    refine ⟨h1, ?_, RD_B (RD_rfl T h) f1, by rw [le]; exact t1, fun e => absurd (le ▸ e) ne⟩
    rw [e45]
    simp only [b45_0, b45_8, cond_true, cond_false, decide_true, Bool.and_true, Bool.true_and, Bool.and_self, Bool.and_false, Bool.false_and, Bool.not_true, Bool.not_false, Bool.or_true, Bool.true_or, Bool.or_false, Bool.false_or, is_some, gd_some, bk_v, bk_u, x_O2 L, h22, t_O L hT, c_s6 ct, g1]
set_option maxRecDepth 16384 in
theorem c46 {h : A_H} {bs : Nat → Int32} {n : Nat} {τ : Nat → Nat} {T : Nat} {P : Gh} (L : Ly h) (t : CKt h bs n τ) (e0 : τ 4 = 0) (hT : isT T) (h22 : hP h 2 2 = some T) (r : CRs h) (c : CN h P) (ct : CT h T P) (w : WF P) (cl : CL h T P) (nc : NC P) : ∃ h', C 46 [.ref 2] h = some (some none, h') ∧ RD T h h' ∧ CKt h' bs n (pr8 bs n P τ) ∧ ((pr8 bs n P τ) 4 = 0 → CT h' T (pPr bs n P τ) ∧ CN h' (pPr bs n P τ) ∧ CL h' T (pPr bs n P τ)) := by
  have k2 := f_nm w
  have k3 := f_nt w
  have k4 := f_ng w
  have k5 := f_nG w
  have k6 := f_nx w
  have k9 := f_nc w
  have q0 := nT hT (show 0 < 35 by decide)
  obtain ⟨h1, g1, f1, t1⟩ := c25' L t
  have t1 : CKt h1 bs n (pr1 bs n P τ) := t1
  have L1 := FB_Ly f1 L
  have p1 : hP h1 2 2 = some T := by rw [FB_P f1]; exact h22
  have r1 := CRs_FB f1 r
  have c1 := CN_FB f1 c
  obtain ⟨m2, h2, g2, f2, t2, b2, v2⟩ := c35 L1 t1 r1 c1 (s := 1)  (by decide)
  have g2 : C 35 [.ref 2, .int 1] h1 = some (some (some (.int (nI m2))), h2) := g2
  have b2 : m2 < 4 := b2
  have t2 : CKt h2 bs n (pr2 bs n P τ) := t2
  have L2 := FB_Ly f2 L1
  have p2 : hP h2 2 2 = some T := by rw [FB_P f2]; exact p1
  have r2 := CRs_FB f2 r1
  have c2 := CN_FB f2 c1
  have qm := nT hT (show 10 + m2 < 35 by omega)
  rw [← Nat.add_assoc] at qm
  have e3 : hI h2 (T + 10 + m2) 3 = hI h (T + 10 + m2) 3 := by rw [TR_B hT f2 (by omega) (by omega), TR_B hT f1 (by omega) (by omega)]
  have v3 : (pr2 bs n P τ) 4 = 0 → decide (hI h2 (T + 10 + m2) 3 = 0) = !decide (P 4 (knV P (pr1 bs n P τ)) = 1) := by
    intro z
    have em := v2 z
    have kb := (kn_b nc z).1 rfl
    have hp := f_pri w kb
    rw [e3, em, c_pri ct kb]
    have : P 4 (knV P (pr1 bs n P τ)) = 0 ∨ P 4 (knV P (pr1 bs n P τ)) = 1 := by omega
    rcases this with q | q <;> rw [q] <;> rfl
  have fin : ∀ hB, FB TF h2 hB → CKt hB bs n (pr4 bs n P τ) → C 46 [.ref 2] h = R 46 18 [some (.ref 2), some (.ref (T + 10 + m2))] [] hB → ∃ h', C 46 [.ref 2] h = some (some none, h') ∧ RD T h h' ∧ CKt h' bs n (pr8 bs n P τ) ∧ ((pr8 bs n P τ) 4 = 0 → CT h' T (pPr bs n P τ) ∧ CN h' (pPr bs n P τ) ∧ CL h' T (pPr bs n P τ)) := by
    intro hB fB tB eq
    have L9 := FB_Ly fB L2
    have p9 : hP hB 2 2 = some T := by rw [FB_P fB]; exact p2
    have r9 := CRs_FB fB r2
    have c9 := CN_FB fB c2
    have L10 : Ly (wI hB (T + 10 + m2) 3 (1)) := L9
    have p10 : hP (wI hB (T + 10 + m2) 3 (1)) 2 2 = some T := p9
    have r10 : CRs (wI hB (T + 10 + m2) 3 (1)) := CRs_w r9 _
    have t10 := CKt_w tB (a := T + 10 + m2) (b := 3) (1) (by omega) (by omega)
    have c10 : CN (wI hB (T + 10 + m2) 3 (1)) P := CN_w c9 _ (by omega)
    obtain ⟨h11, g11, f11, t11⟩ := c29 L10 t10 (x := 31) (by decide) (by decide)
    have t11 : CKt h11 bs n (pr5 bs n P τ) := t11
    have L11 := FB_Ly f11 L10
    have p11 : hP h11 2 2 = some T := by rw [FB_P f11]; exact p10
    have r11 := CRs_FB f11 r10
    have c11 := CN_FB f11 c10
    obtain ⟨m12, h12, g12, f12, t12, b12, v12⟩ := c30 L11 t11 (lo := 0) (hi := 99) (by decide) (by decide)
    have g12 : C 30 [.ref 2, .int 0, .int 99] h11 = some (some (some (.int (nI m12))), h12) := g12
    have t12 : CKt h12 bs n (pr6 bs n P τ) := t12
    have L12 := FB_Ly f12 L11
    have p12 : hP h12 2 2 = some T := by rw [FB_P f12]; exact p11
    have r12 := CRs_FB f12 r11
    have c12 := CN_FB f12 c11
    have L13 : Ly (wI h12 (T + 10 + m2) 4 (nI m12)) := L12
    have p13 : hP (wI h12 (T + 10 + m2) 4 (nI m12)) 2 2 = some T := p12
    have r13 : CRs (wI h12 (T + 10 + m2) 4 (nI m12)) := CRs_w r12 _
    have t13 := CKt_w t12 (a := T + 10 + m2) (b := 4) (nI m12) (by omega) (by omega)
    have c13 : CN (wI h12 (T + 10 + m2) 4 (nI m12)) P := CN_w c12 _ (by omega)
    obtain ⟨h14, g14, f14, t14⟩ := c29 L13 t13 (x := 32) (by decide) (by decide)
    have t14 : CKt h14 bs n (pr7 bs n P τ) := t14
    have L14 := FB_Ly f14 L13
    have p14 : hP h14 2 2 = some T := by rw [FB_P f14]; exact p13
    have r14 := CRs_FB f14 r13
    have c14 := CN_FB f14 c13
    obtain ⟨m15, h15, g15, f15, t15, b15, v15⟩ := c30 L14 t14 (lo := 0) (hi := 99) (by decide) (by decide)
    have g15 : C 30 [.ref 2, .int 0, .int 99] h14 = some (some (some (.int (nI m15))), h15) := g15
    have t15 : CKt h15 bs n (pr8 bs n P τ) := t15
    have L15 := FB_Ly f15 L14
    have p15 : hP h15 2 2 = some T := by rw [FB_P f15]; exact p14
    have r15 := CRs_FB f15 r14
    have c15 := CN_FB f15 c14
    have L16 : Ly (wI h15 (T + 10 + m2) 5 (nI m15)) := L15
    have p16 : hP (wI h15 (T + 10 + m2) 5 (nI m15)) 2 2 = some T := p15
    have r16 : CRs (wI h15 (T + 10 + m2) 5 (nI m15)) := CRs_w r15 _
    have t16 := CKt_w t15 (a := T + 10 + m2) (b := 5) (nI m15) (by omega) (by omega)
    have c16 : CN (wI h15 (T + 10 + m2) 5 (nI m15)) P := CN_w c15 _ (by omega)
    have h7 : hI (wI h15 (T + 10 + m2) 5 (nI m15)) T 7 = nI (P 0 7) := by rw [hI_wI, if_neg (by omega), TR_B hT f15 (by omega) (by omega), TR_B hT f14 (by omega) (by omega), hI_wI, if_neg (by omega), TR_B hT f12 (by omega) (by omega), TR_B hT f11 (by omega) (by omega), hI_wI, if_neg (by omega), TR_B hT fB (by omega) (by omega), TR_B hT f2 (by omega) (by omega), TR_B hT f1 (by omega) (by omega)]; exact c_s7 ct
    have L17 : Ly (wI (wI h15 (T + 10 + m2) 5 (nI m15)) (T) 7 (nI (P 0 7 + 1))) := L16
    have p17 : hP (wI (wI h15 (T + 10 + m2) 5 (nI m15)) (T) 7 (nI (P 0 7 + 1))) 2 2 = some T := p16
    have r17 : CRs (wI (wI h15 (T + 10 + m2) 5 (nI m15)) (T) 7 (nI (P 0 7 + 1))) := CRs_w r16 _
    have t17 := CKt_w t16 (a := T) (b := 7) (nI (P 0 7 + 1)) (by omega) (by omega)
    have c17 : CN (wI (wI h15 (T + 10 + m2) 5 (nI m15)) (T) 7 (nI (P 0 7 + 1))) P := CN_w c16 _ (by omega)
    have fr : ∀ a b, T ≤ a → a < T + 35 → ¬ a = T + 9 → ¬ (a = T ∧ b = 7) → ¬ (a = T + 10 + m2 ∧ (b = 3 ∨ b = 4 ∨ b = 5)) → hI (wI (wI h15 (T + 10 + m2) 5 (nI m15)) (T) 7 (nI (P 0 7 + 1))) a b = hI h a b := by
      intro a b i1 i2 i3 i4 i5
      rw [hI_wI, if_neg (by omega), hI_wI, if_neg (by omega), TR_B hT f15 (by omega) (by omega), TR_B hT f14 (by omega) (by omega), hI_wI, if_neg (by omega), TR_B hT f12 (by omega) (by omega), TR_B hT f11 (by omega) (by omega), hI_wI, if_neg (by omega), TR_B hT fB (by omega) (by omega), TR_B hT f2 (by omega) (by omega), TR_B hT f1 (by omega) (by omega)]
    refine ⟨(wI (wI h15 (T + 10 + m2) 5 (nI m15)) (T) 7 (nI (P 0 7 + 1))), ?_, RD_w (RD_w (RD_B (RD_B (RD_w (RD_B (RD_B (RD_w (RD_B (RD_B (RD_B (RD_rfl T h) f1) f2) fB) _ (by omega)) f11) f12) _ (by omega)) f14) f15) _ (by omega)) _ (by omega), t17, fun e => ?_⟩
    · rw [eq]
      simp only [b46_18, b46_21, b46_24, b46_29, b46_30, b46_33, b46_38, b46_39, b46_46, cond_true, cond_false, decide_true, Bool.and_true, Bool.true_and, Bool.and_self, Bool.and_false, Bool.false_and, Bool.not_true, Bool.not_false, Bool.or_true, Bool.true_or, Bool.or_false, Bool.false_or, is_some, gd_some, bk_v, bk_u, isO_wI, hP_wI, isA_wI, x_O2 L9, x_O2 L11, x_O2 L12, x_O2 L14, x_O2 L15, p9, p11, p12, p14, p15, g11, g12, g14, g15, t_Om L9 hT b2, t_Om L12 hT b2, t_Om L15 hT b2, t_O L15 hT, h7, w_s]
    · obtain ⟨z7, z6, z5, z4, z2, zb⟩ := pr_z e
      have em := v2 z2
      obtain ⟨j7, j4, j5, j6, jr, jz, jn⟩ := pPr_f (bs := bs) (n := n) (P := P) (τ := τ)
      have kb := (kn_b nc z2).1 rfl
      have fr' : ∀ a b, T ≤ a → a < T + 35 → ¬ a = T + 9 → ¬ (a = T ∧ b = 7) → ¬ (a = T + 10 + knV P (pr1 bs n P τ) ∧ (b = 3 ∨ b = 4 ∨ b = 5)) → hI (wI (wI h15 (T + 10 + m2) 5 (nI m15)) (T) 7 (nI (P 0 7 + 1))) a b = hI h a b := fun a b i1 i2 i3 i4 i5 => fr a b i1 i2 i3 i4 (by rw [em]; exact i5)
      refine ⟨CT_p w ct kb j4 jz jr fr' ?_ ?_ ?_ ?_, CN_eq c17 jn, fun i hi h4 => ?_⟩
      · rw [j7, hI_wI, if_pos ⟨rfl, rfl⟩]
      · rw [← em, hI_wI, if_neg (by omega), hI_wI, if_neg (by omega), TR_B hT f15 (by omega) (by omega), TR_B hT f14 (by omega) (by omega), hI_wI, if_neg (by omega), TR_B hT f12 (by omega) (by omega), TR_B hT f11 (by omega) (by omega), hI_wI, if_pos ⟨rfl, rfl⟩]
      · rw [j5, ← em, hI_wI, if_neg (by omega), hI_wI, if_neg (by omega), TR_B hT f15 (by omega) (by omega), TR_B hT f14 (by omega) (by omega), hI_wI, if_pos ⟨rfl, rfl⟩, v12 z6]
      · rw [j6, ← em, hI_wI, if_neg (by omega), hI_wI, if_pos ⟨rfl, rfl⟩, v15 e]
      · rw [jz 2 (by decide)] at hi
        rw [fr _ _ (by omega) (by omega) (by omega) (by omega) (by rw [em]; omega)]
        exact cl i hi h4
  cases hb : decide (hI h2 (T + 10 + m2) 3 = 0) with
  | true =>
    obtain ⟨h3, g3, f3, t3⟩ := c25' L2 t2
    have L3 := FB_Ly f3 L2
    have p3 : hP h3 2 2 = some T := by rw [FB_P f3]; exact p2
    have r3 := CRs_FB f3 r2
    have c3 := CN_FB f3 c2
    refine fin h3 f3 ?_ ?_
    · have : pr4 bs n P τ = sSt bs n (pr2 bs n P τ) := by
        unfold pr4 pr3
        by_cases z : (pr2 bs n P τ) 4 = 0
        · have := v3 z
          rw [hb] at this
          cases hq : decide (P 4 (knV P (pr1 bs n P τ)) = 1) with
          | true => rw [hq] at this; exact absurd this (by decide)
          | false => rfl
        · rw [sFa_1 z]; cases decide (P 4 (knV P (pr1 bs n P τ)) = 1) <;> rfl
      rw [this]; exact t3
    · rw [e46]
      simp only [b46_0, b46_2, b46_8, b46_16, cond_true, cond_false, decide_true, Bool.and_true, Bool.true_and, Bool.and_self, Bool.and_false, Bool.false_and, Bool.not_true, Bool.not_false, Bool.or_true, Bool.true_or, Bool.or_false, Bool.false_or, is_some, gd_some, bk_v, bk_u, g1, g2, g3, x_O2 L, x_O2 L1, x_O2 L2, x_O2 L3, h22, p1, p2, p3, t_O L1 hT, t_P9 L1 hT, t_Am L2 hT b2, w_cl (show m2 < 2147483648 by omega), t_Em L2 hT b2, t_Om L2 hT b2, hb]
  | false =>
    obtain ⟨h3, g3, f3, t3⟩ := c24 L2 t2 (k := 3) (by decide) (by decide)
    have g3 : C 24 [.ref 2, .int 3] h2 = some (some none, h3) := g3
    have L3 := FB_Ly f3 L2
    have p3 : hP h3 2 2 = some T := by rw [FB_P f3]; exact p2
    have r3 := CRs_FB f3 r2
    have c3 := CN_FB f3 c2
    obtain ⟨h4, g4, f4, t4⟩ := c25' L3 t3
    have L4 := FB_Ly f4 L3
    have p4 : hP h4 2 2 = some T := by rw [FB_P f4]; exact p3
    have r4 := CRs_FB f4 r3
    have c4 := CN_FB f4 c3
    have fB : FB TF h2 h4 := FB_tr f3 f4
    refine fin h4 fB ?_ ?_
    · have : pr4 bs n P τ = sSt bs n (sFa 3 (pr2 bs n P τ)) := by
        unfold pr4 pr3
        by_cases z : (pr2 bs n P τ) 4 = 0
        · have := v3 z
          rw [hb] at this
          cases hq : decide (P 4 (knV P (pr1 bs n P τ)) = 1) with
          | false => rw [hq] at this; exact absurd this (by decide)
          | true => rfl
        · rw [sFa_1 z]; cases decide (P 4 (knV P (pr1 bs n P τ)) = 1) <;> rfl
      rw [this]; exact t4
    · rw [e46]
      simp only [b46_0, b46_2, b46_8, b46_16, cond_true, cond_false, decide_true, Bool.and_true, Bool.true_and, Bool.and_self, Bool.and_false, Bool.false_and, Bool.not_true, Bool.not_false, Bool.or_true, Bool.true_or, Bool.or_false, Bool.false_or, is_some, gd_some, bk_v, bk_u, g1, g2, g3, g4, x_O2 L, x_O2 L1, x_O2 L2, x_O2 L3, x_O2 L4, h22, p1, p2, p3, p4, t_O L1 hT, t_P9 L1 hT, t_Am L2 hT b2, w_cl (show m2 < 2147483648 by omega), t_Em L2 hT b2, t_Om L2 hT b2, hb]
set_option maxRecDepth 16384 in
theorem c2p {h : A_H} {T k m d : Nat} (L : Ly h) (hT : isT T) (hk : k < 5) (e : hI h (T + 6) 0 = nI k) : C 2 [.ref (T + 6), .int (nI m), .int (nI d)] h = some (some none, wI (wI (wI h (T + 7) k (nI m)) (T + 8) k (nI d)) (T + 6) 0 (nI (k + 1))) := by
  have i1 : hI (wI h (T + 7) k (nI m)) (T + 6) 0 = nI k := by rw [hI_wI, if_neg (by omega)]; exact e
  have i2 : hI (wI (wI h (T + 7) k (nI m)) (T + 8) k (nI d)) (T + 6) 0 = nI k := by rw [hI_wI, if_neg (by omega)]; exact i1
  have a0 : isA h (T + 7) 0 (nI k) = true := t_AC L hT (i := 0) (by decide) hk
  have a1 : isA h (T + 8) 0 (nI k) = true := t_AC L hT (i := 1) (by decide) hk
  have d5 : decide (5 ≤ nI k) = false := by rw [show (5 : Int32) = nI 5 from rfl, (nI_le9 (k := k) (m := 5) (by omega) (by decide)).1]; exact dF (by omega)
  rw [e2]
  simp only [b2_0, b2_10, b2_16, b2_22, cond_true, cond_false, decide_true, Bool.and_true, Bool.true_and, Bool.and_self, Bool.and_false, Bool.false_and, Bool.not_true, Bool.not_false, Bool.or_true, Bool.true_or, Bool.or_false, Bool.false_or, is_some, gd_some, bk_v, bk_u, isO_wI, hP_wI, isA_wI, t_OC L hT, t_C1 L hT, t_C2 L hT, e, i1, i2, d5, a0, a1, w_cl (show k < 2147483648 by omega), w_s]
set_option maxRecDepth 16384 in
theorem c47 {h : A_H} {bs : Nat → Int32} {n : Nat} {τ : Nat → Nat} {T : Nat} {P : Gh} (L : Ly h) (t : CKt h bs n τ) (e0 : τ 4 = 0) (hT : isT T) (h22 : hP h 2 2 = some T) (r : CRs h) (c : CN h P) (ct : CT h T P) (w : WF P) (cl : CL h T P) (nc : NC P) : ∃ h', C 47 [.ref 2] h = some (some none, h') ∧ RD T h h' ∧ CKt h' bs n (cu5 bs n P τ) ∧ ((cu5 bs n P τ) 4 = 0 → CT h' T (pCu bs n P τ) ∧ CN h' (pCu bs n P τ) ∧ CL h' T (pCu bs n P τ)) := by
  have k2 := f_nm w
  have k3 := f_nt w
  have k4 := f_ng w
  have k5 := f_nG w
  have k6 := f_nx w
  have k9 := f_nc w
  have q0 := nT hT (show 0 < 35 by decide)
  obtain ⟨h1, g1, f1, t1⟩ := c37 L t (a := P 0 9) (m := 5) (by omega) (by decide)
  have g1 : C 37 [.ref 2, .int (nI (P 0 9)), .int 5] h = some (some (some (.int (bI (decide (P 0 9 < 5))))), h1) := g1
  have t1 : CKt h1 bs n (cu1 bs n P τ) := t1
  have L1 := FB_Ly f1 L
  have p1 : hP h1 2 2 = some T := by rw [FB_P f1]; exact h22
  have r1 := CRs_FB f1 r
  have c1 := CN_FB f1 c
  by_cases cm : P 0 9 < 5
  · rw [dT cm, bI_T] at g1
    obtain ⟨m2, h2, g2, f2, t2, b2, v2⟩ := c35 L1 t1 r1 c1 (s := 1)  (by decide)
    have g2 : C 35 [.ref 2, .int 1] h1 = some (some (some (.int (nI m2))), h2) := g2
    have b2 : m2 < 4 := b2
    have t2 : CKt h2 bs n (cu2 bs n P τ) := t2
    have L2 := FB_Ly f2 L1
    have p2 : hP h2 2 2 = some T := by rw [FB_P f2]; exact p1
    have r2 := CRs_FB f2 r1
    have c2 := CN_FB f2 c1
    obtain ⟨h3, g3, f3, t3⟩ := c25' L2 t2
    have t3 : CKt h3 bs n (cu3 bs n P τ) := t3
    have L3 := FB_Ly f3 L2
    have p3 : hP h3 2 2 = some T := by rw [FB_P f3]; exact p2
    have r3 := CRs_FB f3 r2
    have c3 := CN_FB f3 c2
    obtain ⟨h4, g4, f4, t4⟩ := c29 L3 t3 (x := 29) (by decide) (by decide)
    have t4 : CKt h4 bs n (cu4 bs n P τ) := t4
    have L4 := FB_Ly f4 L3
    have p4 : hP h4 2 2 = some T := by rw [FB_P f4]; exact p3
    have r4 := CRs_FB f4 r3
    have c4 := CN_FB f4 c3
    obtain ⟨m5, h5, g5, f5, t5, b5, v5⟩ := c30 L4 t4 (lo := 0) (hi := 60) (by decide) (by decide)
    have g5 : C 30 [.ref 2, .int 0, .int 60] h4 = some (some (some (.int (nI m5))), h5) := g5
    have t5 : CKt h5 bs n (cu5 bs n P τ) := t5
    have L5 := FB_Ly f5 L4
    have p5 : hP h5 2 2 = some T := by rw [FB_P f5]; exact p4
    have r5 := CRs_FB f5 r4
    have c5 := CN_FB f5 c4
    have e6 : hI h5 (T + 6) 0 = nI (P 0 9) := by rw [TR_B hT f5 (by omega) (by omega), TR_B hT f4 (by omega) (by omega), TR_B hT f3 (by omega) (by omega), TR_B hT f2 (by omega) (by omega), TR_B hT f1 (by omega) (by omega)]; exact c_nc ct
    have q6 := nT hT (show 6 < 35 by decide)
    have q7 := nT hT (show 7 < 35 by decide)
    have q8 := nT hT (show 8 < 35 by decide)
    have g9 := c2p (m := m2) (d := m5) L5 hT cm e6
    have L6 : Ly (wI h5 (T + 7) (P 0 9) (nI m2)) := L5
    have p6 : hP (wI h5 (T + 7) (P 0 9) (nI m2)) 2 2 = some T := p5
    have r6 : CRs (wI h5 (T + 7) (P 0 9) (nI m2)) := CRs_w r5 _
    have t6 := CKt_w t5 (a := T + 7) (b := (P 0 9)) (nI m2) (by omega) (by omega)
    have c6 : CN (wI h5 (T + 7) (P 0 9) (nI m2)) P := CN_w c5 _ (by omega)
    have L7 : Ly (wI (wI h5 (T + 7) (P 0 9) (nI m2)) (T + 8) (P 0 9) (nI m5)) := L6
    have p7 : hP (wI (wI h5 (T + 7) (P 0 9) (nI m2)) (T + 8) (P 0 9) (nI m5)) 2 2 = some T := p6
    have r7 : CRs (wI (wI h5 (T + 7) (P 0 9) (nI m2)) (T + 8) (P 0 9) (nI m5)) := CRs_w r6 _
    have t7 := CKt_w t6 (a := T + 8) (b := (P 0 9)) (nI m5) (by omega) (by omega)
    have c7 : CN (wI (wI h5 (T + 7) (P 0 9) (nI m2)) (T + 8) (P 0 9) (nI m5)) P := CN_w c6 _ (by omega)
    have L8 : Ly (wI (wI (wI h5 (T + 7) (P 0 9) (nI m2)) (T + 8) (P 0 9) (nI m5)) (T + 6) 0 (nI (P 0 9 + 1))) := L7
    have p8 : hP (wI (wI (wI h5 (T + 7) (P 0 9) (nI m2)) (T + 8) (P 0 9) (nI m5)) (T + 6) 0 (nI (P 0 9 + 1))) 2 2 = some T := p7
    have r8 : CRs (wI (wI (wI h5 (T + 7) (P 0 9) (nI m2)) (T + 8) (P 0 9) (nI m5)) (T + 6) 0 (nI (P 0 9 + 1))) := CRs_w r7 _
    have t8 := CKt_w t7 (a := T + 6) (b := 0) (nI (P 0 9 + 1)) (by omega) (by omega)
    have c8 : CN (wI (wI (wI h5 (T + 7) (P 0 9) (nI m2)) (T + 8) (P 0 9) (nI m5)) (T + 6) 0 (nI (P 0 9 + 1))) P := CN_w c7 _ (by omega)
    have fr : ∀ a b, T ≤ a → a < T + 35 → ¬ a = T + 9 → ¬ (a = T + 6 ∧ b = 0) → ¬ (T + 7 ≤ a ∧ a ≤ T + 8 ∧ b = P 0 9) → hI (wI (wI (wI h5 (T + 7) (P 0 9) (nI m2)) (T + 8) (P 0 9) (nI m5)) (T + 6) 0 (nI (P 0 9 + 1))) a b = hI h a b := by
      intro a b i1 i2 i3 i4 i5
      rw [hI_wI, if_neg (by omega), hI_wI, if_neg (by omega), hI_wI, if_neg (by omega), TR_B hT f5 (by omega) (by omega), TR_B hT f4 (by omega) (by omega), TR_B hT f3 (by omega) (by omega), TR_B hT f2 (by omega) (by omega), TR_B hT f1 (by omega) (by omega)]
    refine ⟨(wI (wI (wI h5 (T + 7) (P 0 9) (nI m2)) (T + 8) (P 0 9) (nI m5)) (T + 6) 0 (nI (P 0 9 + 1))), ?_, RD_w (RD_w (RD_w (RD_B (RD_B (RD_B (RD_B (RD_B (RD_rfl T h) f1) f2) f3) f4) f5) _ (by omega)) _ (by omega)) _ (by omega), t8, fun e => ?_⟩
    · rw [e47]
      simp only [b47_0, b47_7, b47_12, b47_15, b47_18, b47_26, b47_27, cond_true, cond_false, decide_true, Bool.and_true, Bool.true_and, Bool.and_self, Bool.and_false, Bool.false_and, Bool.not_true, Bool.not_false, Bool.or_true, Bool.true_or, Bool.or_false, Bool.false_or, is_some, gd_some, bk_v, bk_u, isO_wI, hP_wI, isA_wI, t_O L hT, t_P14 L hT, t_OC L hT, c_nc ct, i1_0, g1, g2, g3, g4, g5, x_O2 L, x_O2 L1, x_O2 L2, x_O2 L3, x_O2 L4, x_O2 L5, h22, p1, p2, p3, p4, p5, t_O L4 hT, t_P14 L4 hT, t_OC L5 hT, g9]
    · obtain ⟨z4, z3, z2, z1⟩ := cu_z e
      refine ⟨CT_a9 w ct cm pCu_0 pCu_1 pCu_r fr (by rw [hI_wI, if_pos ⟨rfl, rfl⟩]) (by rw [pCu_22v, hI_wI, if_neg (by omega), hI_wI, if_neg (by omega), hI_wI, if_pos ⟨rfl, rfl⟩, v2 z2]) (by rw [pCu_23v, hI_wI, if_neg (by omega), hI_wI, if_pos ⟨rfl, rfl⟩, v5 e]), CN_eq c8 pCu_n, fun i hi h4 => ?_⟩
      rw [pCu_0 2 (by decide)] at hi
      rw [fr _ _ (by omega) (by omega) (by omega) (by omega) (by omega)]
      exact cl i hi h4
  · rw [dF cm, bI_F] at g1
    have ne : ¬ (cu1 bs n P τ) 4 = 0 := by unfold cu1 sRm; rw [if_neg cm]; exact sFa_n e0 (by decide)
    have le : cu5 bs n P τ = cu1 bs n P τ := by
      unfold cu5 cu4 cu3 cu2
      rw [sKn_1 ne, sSt_1 ne, sWd_1 ne, sWh_1 ne]
    refine ⟨h1, ?_, RD_B (RD_rfl T h) f1, by rw [le]; exact t1, fun e => absurd (le ▸ e) ne⟩
    rw [e47]
    simp only [b47_0, b47_7, cond_true, cond_false, decide_true, Bool.and_true, Bool.true_and, Bool.and_self, Bool.and_false, Bool.false_and, Bool.not_true, Bool.not_false, Bool.or_true, Bool.true_or, Bool.or_false, Bool.false_or, is_some, gd_some, bk_v, bk_u, x_O2 L, h22, t_O L hT, t_P14 L hT, t_OC L hT, c_nc ct, g1]
set_option maxRecDepth 16384 in
theorem nTF : ¬ TF 2 3 := by unfold TF; omega
set_option maxRecDepth 16384 in
theorem c38 {h : A_H} {bs : Nat → Int32} {n : Nat} {τ : Nat → Nat} {T : Nat} {P : Gh} (L : Ly h) (t : CKt h bs n τ) (e0 : τ 4 = 0) (hT : isT T) (h22 : hP h 2 2 = some T) (r : CRs h) (c : CN h P) (ct : CT (wI (wI h T 0 (nI (P 0 0))) T 1 (nI (P 0 1))) T P) (w : WF P) (cl : CL h T P) (nc : NC P) (u3 : hI h 2 3 = 0) : ∃ h', C 38 [.ref 2] h = some (some none, h') ∧ RB T h h' ∧ hI h' 2 3 = 1 ∧ CKt h' bs n (ba5 bs n P τ) ∧ ((ba5 bs n P τ) 4 = 0 → CT h' T (pBa bs n P τ) ∧ CN h' (pBa bs n P τ) ∧ CL h' T (pBa bs n P τ)) := by
  have k2 := f_nm w
  have k3 := f_nt w
  have k4 := f_ng w
  have k5 := f_nG w
  have k6 := f_nx w
  have k9 := f_nc w
  have q0 := nT hT (show 0 < 35 by decide)
  have hT3 : T = 3 ∨ T = 42 := hT
  have L1 : Ly (wI h 2 3 1) := L
  have p1 : hP (wI h 2 3 1) 2 2 = some T := h22
  have r1 : CRs (wI h 2 3 1) := CRs_w r _
  have t1 := CKt_23 t 1
  have c1 := CN_23 c 1
  obtain ⟨h2, g2, f2, t2⟩ := c25' L1 t1
  have t2 : CKt h2 bs n (ba1 bs n P τ) := t2
  have L2 := FB_Ly f2 L1
  have p2 : hP h2 2 2 = some T := by rw [FB_P f2]; exact p1
  have r2 := CRs_FB f2 r1
  have c2 := CN_FB f2 c1
  obtain ⟨h3, g3, f3, t3⟩ := c29 L2 t2 (x := 12) (by decide) (by decide)
  have t3 : CKt h3 bs n (ba2 bs n P τ) := t3
  have L3 := FB_Ly f3 L2
  have p3 : hP h3 2 2 = some T := by rw [FB_P f3]; exact p2
  have r3 := CRs_FB f3 r2
  have c3 := CN_FB f3 c2
  obtain ⟨m4, h4, g4, f4, t4, b4, v4⟩ := c30 L3 t3 (lo := 0) (hi := 9) (by decide) (by decide)
  have g4 : C 30 [.ref 2, .int 0, .int 9] h3 = some (some (some (.int (nI m4))), h4) := g4
  have t4 : CKt h4 bs n (ba3 bs n P τ) := t4
  have L4 := FB_Ly f4 L3
  have p4 : hP h4 2 2 = some T := by rw [FB_P f4]; exact p3
  have r4 := CRs_FB f4 r3
  have c4 := CN_FB f4 c3
  have L5 : Ly (wI h4 (T) 0 (nI m4)) := L4
  have p5 : hP (wI h4 (T) 0 (nI m4)) 2 2 = some T := p4
  have r5 : CRs (wI h4 (T) 0 (nI m4)) := CRs_w r4 _
  have t5 := CKt_w t4 (a := T) (b := 0) (nI m4) (by omega) (by omega)
  have c5 : CN (wI h4 (T) 0 (nI m4)) P := CN_w c4 _ (by omega)
  obtain ⟨h6, g6, f6, t6⟩ := c29 L5 t5 (x := 13) (by decide) (by decide)
  have t6 : CKt h6 bs n (ba4 bs n P τ) := t6
  have L6 := FB_Ly f6 L5
  have p6 : hP h6 2 2 = some T := by rw [FB_P f6]; exact p5
  have r6 := CRs_FB f6 r5
  have c6 := CN_FB f6 c5
  obtain ⟨m7, h7, g7, f7, t7, b7, v7⟩ := c30 L6 t6 (lo := 0) (hi := 50) (by decide) (by decide)
  have g7 : C 30 [.ref 2, .int 0, .int 50] h6 = some (some (some (.int (nI m7))), h7) := g7
  have t7 : CKt h7 bs n (ba5 bs n P τ) := t7
  have L7 := FB_Ly f7 L6
  have p7 : hP h7 2 2 = some T := by rw [FB_P f7]; exact p6
  have r7 := CRs_FB f7 r6
  have c7 := CN_FB f7 c6
  have L8 : Ly (wI h7 (T) 1 (nI m7)) := L7
  have p8 : hP (wI h7 (T) 1 (nI m7)) 2 2 = some T := p7
  have r8 : CRs (wI h7 (T) 1 (nI m7)) := CRs_w r7 _
  have t8 := CKt_w t7 (a := T) (b := 1) (nI m7) (by omega) (by omega)
  have c8 : CN (wI h7 (T) 1 (nI m7)) P := CN_w c7 _ (by omega)
  have fr : ∀ a b, T ≤ a → a < T + 35 → ¬ a = T + 9 → ¬ (a = T ∧ b = 0) → ¬ (a = T ∧ b = 1) → hI (wI h7 (T) 1 (nI m7)) a b = hI h a b := by
    intro a b i1 i2 i3 i4 i5
    rw [hI_wI, if_neg (by omega), TR_B hT f7 (by omega) (by omega), TR_B hT f6 (by omega) (by omega), hI_wI, if_neg (by omega), TR_B hT f4 (by omega) (by omega), TR_B hT f3 (by omega) (by omega), TR_B hT f2 (by omega) (by omega), hI_wI, if_neg (by omega)]
  refine ⟨(wI h7 (T) 1 (nI m7)), ?_, FG_tr (RB_23 T h 1) (RB_of (RD_w (RD_B (RD_B (RD_w (RD_B (RD_B (RD_B (RD_rfl T _) f2) f3) f4) _ (by omega)) f6) f7) _ (by omega))), ?_, t8, fun e => ?_⟩
  · rw [e38]
    have d0 : decide (hI h 2 3 = 0) = true := dT u3
    simp only [b38_0, b38_10, b38_12, b38_15, b38_21, b38_22, b38_25, b38_31, b38_32, cond_true, cond_false, decide_true, Bool.and_true, Bool.true_and, Bool.and_self, Bool.and_false, Bool.false_and, Bool.not_true, Bool.not_false, Bool.or_true, Bool.true_or, Bool.or_false, Bool.false_or, is_some, gd_some, bk_v, bk_u, isO_wI, hP_wI, isA_wI, x_O2 L, h22, d0, g2, g3, g4, g6, g7, x_O2 L, x_O2 L2, x_O2 L3, x_O2 L4, x_O2 L6, x_O2 L7, h22, p2, p3, p4, p6, p7, t_O L4 hT, t_O L7 hT]
  · rw [hI_wI, if_neg (by omega), FB_I f7 nTF, FB_I f6 nTF, hI_wI, if_neg (by omega), FB_I f4 nTF, FB_I f3 nTF, FB_I f2 nTF, hI_wI, if_pos ⟨rfl, rfl⟩]
  · obtain ⟨j0, j1, jr, jz⟩ := pBa_f (bs := bs) (n := n) (P := P) (τ := τ)
    refine ⟨CT_b w ct jz (fun c i h1 h2 => jr c i h1) (fun a b i1 i2 i3 i4 i5 => (fr a b i1 i2 i3 i4 i5).trans (by rw [hI_wI, if_neg (by omega), hI_wI, if_neg (by omega)])) ?_ ?_, CN_eq c8 (fun a b ha => jr a b (by omega)), fun i hi h4 => ?_⟩
    · rw [j0, hI_wI, if_neg (by omega), TR_B hT f7 (by omega) (by omega), TR_B hT f6 (by omega) (by omega), hI_wI, if_pos ⟨rfl, rfl⟩, v4 (z_wd (z_wh e))]
    · rw [j1, hI_wI, if_pos ⟨rfl, rfl⟩, v7 e]
    · rw [jz 2 (by decide) (by decide)] at hi
      rw [fr _ _ (by omega) (by omega) (by omega) (by omega) (by omega)]
      exact cl i hi h4
set_option maxRecDepth 16384 in
theorem c38t {h : A_H} {bs : Nat → Int32} {n : Nat} {τ : Nat → Nat} (L : Ly h) (t : CKt h bs n τ) (f3 : ¬ hI h 2 3 = 0) : ∃ h', C 38 [.ref 2] h = some (some none, h') ∧ FB TF h h' ∧ CKt h' bs n (sFa 3 τ) := by
  obtain ⟨h1, g1, f1, t1⟩ := c24 L t (k := 3) (by decide) (by decide)
  have g1 : C 24 [.ref 2, .int 3] h = some (some none, h1) := g1
  refine ⟨h1, ?_, f1, t1⟩
  rw [e38]
  have d0 : decide (hI h 2 3 = 0) = false := dF f3
  simp only [b38_0, b38_6, cond_true, cond_false, decide_true, Bool.and_true, Bool.true_and, Bool.and_self, Bool.and_false, Bool.false_and, Bool.not_true, Bool.not_false, Bool.or_true, Bool.true_or, Bool.or_false, Bool.false_or, is_some, gd_some, bk_v, bk_u, x_O2 L, d0, g1]
