set_option maxRecDepth 16384 in
theorem ML_of {h : A_H} {B : Nat} (k134 : 134 ≤ B) (kn : hn h = B + 1 + 24) (kB : hsh h B = (12, 35)) (k7 : ∀ i, i < 24 → hsh h (B + 1 + i) = bSh.getD i (0, 0) ∧ hP h B (11 + i) = some (B + 1 + i) ∧ True) : ML h B := ⟨by omega, kB, (k7 0 (by decide)).1, (k7 1 (by decide)).1, (k7 2 (by decide)).1, (k7 3 (by decide)).1, (k7 4 (by decide)).1, (k7 5 (by decide)).1, (k7 6 (by decide)).1, (k7 7 (by decide)).1, (k7 8 (by decide)).1, (k7 9 (by decide)).1, (k7 10 (by decide)).1, (k7 11 (by decide)).1, (k7 12 (by decide)).1, (k7 13 (by decide)).1, (k7 14 (by decide)).1, (k7 15 (by decide)).1, (k7 16 (by decide)).1, (k7 17 (by decide)).1, (k7 18 (by decide)).1, (k7 19 (by decide)).1, (k7 20 (by decide)).1, (k7 21 (by decide)).1, (k7 22 (by decide)).1, (k7 23 (by decide)).1, (k7 0 (by decide)).2.1, (k7 1 (by decide)).2.1, (k7 2 (by decide)).2.1, (k7 3 (by decide)).2.1, (k7 4 (by decide)).2.1, (k7 5 (by decide)).2.1, (k7 6 (by decide)).2.1, (k7 7 (by decide)).2.1, (k7 8 (by decide)).2.1, (k7 9 (by decide)).2.1, (k7 10 (by decide)).2.1, (k7 11 (by decide)).2.1, (k7 12 (by decide)).2.1, (k7 13 (by decide)).2.1, (k7 14 (by decide)).2.1, (k7 15 (by decide)).2.1, (k7 16 (by decide)).2.1, (k7 17 (by decide)).2.1, (k7 18 (by decide)).2.1, (k7 19 (by decide)).2.1, (k7 20 (by decide)).2.1, (k7 21 (by decide)).2.1, (k7 22 (by decide)).2.1, (k7 23 (by decide)).2.1, k134⟩
set_option maxRecDepth 16384 in
theorem m194b {h : A_H} (L : Ly h) {tn : Nat} (hn1 : tn ≤ 1100) (et : hI h 124 6 = nI tn) {x : Int32} (e : bad tn x) : C 194 [.ref 124, .int x] h = some (some (some (.int (-1))), wI (wI (wI h 124 0 0) 124 1 2) 124 2 (-1)) := by
  have g := d155 (Ly_wI L 124 0 0) 2
  have e6 : hI (wI h 124 0 0) 124 6 = nI tn := by rw [hI_wI, if_neg (by omega)]; exact et
  rw [e194]
  cases h0 : decide (x < 0) with
  | true => simp only [b194_0, b194_3, b194_12, cond_true, cond_false, decide_true, Bool.and_true, Bool.true_and, Bool.and_self, Bool.and_false, Bool.false_and, Bool.not_true, Bool.not_false, Bool.or_true, Bool.true_or, Bool.or_false, Bool.false_or, is_some, gd_some, bk_v, bk_u, isO_wI, y_124 L, h0, g]
  | false =>
    have h1 : decide (x ≤ nI tn) = false := by
      rcases e with e | ⟨n, e1, e2, e3⟩
      · rw [h0] at e; exact absurd e (by decide)
      · rw [e1]; exact dF (fun q => by have := (w_le e3 (show tn < 2147483648 by omega)).mp q; omega)
    simp only [b194_0, b194_3, b194_12, cond_true, cond_false, decide_true, Bool.and_true, Bool.true_and, Bool.and_self, Bool.and_false, Bool.false_and, Bool.not_true, Bool.not_false, Bool.or_true, Bool.true_or, Bool.or_false, Bool.false_or, is_some, gd_some, bk_v, bk_u, isO_wI, y_124 L, h0, h1, e6, g]
def mbP (a b : Nat) : Prop := (a = 124 ∧ (b ≤ 2 ∨ (6 ≤ b ∧ b ≤ 13) ∨ b = 19 ∨ b = 20)) ∨ a = 126
def mbQ (a b : Nat) : Prop := a = 124 ∧ b = 14
def mbZ (a b : Nat) : Prop := a = 124 ∧ (b = 3 ∨ b = 4)
set_option maxRecDepth 16384 in
theorem m194 {h : A_H} {bs : Nat → Int32} {tn n : Nat} (L : Ly h) (b8 : B8 bs n) (hn1 : tn ≤ 1100) (et : hI h 124 6 = nI tn) (hnt : n ≤ tn) (tp : ∀ k, k < n → hI h 125 k = bs k) (wf : (eT bs n) 4 = 0 → WF (eP bs n)) : ∃ h' v, C 194 [.ref 124, .int (nI n)] h = some (some (some (.int v)), h') ∧ GR mbP mbQ mbZ h h' ∧ hn h' = hn h + 25 ∧ hs h' = hs h + (35 + mkS bSh) ∧ Ly h' ∧ hI h' 124 6 = 0 ∧ hI h' 124 12 = nI ((eT bs n) 4) ∧ ((eT bs n) 4 = 0 → v = nI (eP bs n 0 5) ∧ hI h' 124 1 = 0 ∧ hI h' 124 2 = -1 ∧ hP h' 124 3 = some (hn h) ∧ ML h' (hn h) ∧ MB h' (hn h) (eP bs n) ∧ RW h' 126 (S0 (eP bs n)) ∧ hI h' 124 19 = 0 ∧ hI h' 124 20 = 0) ∧ (¬ (eT bs n) 4 = 0 → v = -1 ∧ hI h' 124 1 = 4 ∧ hI h' 124 2 = nI ((eT bs n) 5) ∧ hP h' 124 3 = hP h 124 3 ∧ ∀ a b, a < hn h → ¬ (a = 124 ∧ (b ≤ 2 ∨ (6 ≤ b ∧ b ≤ 13))) → hI h' a b = hI h a b) := by
  have h134 := L.1
  have h0 : decide (nI n < 0) = false := dF (w_nn (by omega))
  have h1 : decide (nI n ≤ nI tn) = true := dT ((w_le (show n < 2147483648 by omega) (show tn < 2147483648 by omega)).mpr hnt)
  obtain ⟨hA, eA⟩ : ∃ hA, hA = wI (wI (wI (wI (wI h 124 0 0) 124 7 (nI n)) 124 6 0) 124 8 0) 124 12 0 := ⟨_, rfl⟩
  have LA : Ly hA := by rw [eA]; exact Ly_wI (Ly_wI (Ly_wI (Ly_wI (Ly_wI L _ _ _) _ _ _) _ _ _) _ _ _) _ _ _
  have nA : hn hA = hn h := by rw [eA]; rfl
  have sA : hs hA = hs h := by rw [eA]; rfl
  have GA : GR (fun a b => a = 124 ∧ (b ≤ 2 ∨ (6 ≤ b ∧ b ≤ 13))) mbQ mbZ h hA := by
    rw [eA]
    exact GR_wI (GR_wI (GR_wI (GR_wI (GR_wI (GR_rfl _ _ _ h) _ ⟨rfl, by omega⟩) _ ⟨rfl, by omega⟩) _ ⟨rfl, by omega⟩) _ ⟨rfl, by omega⟩) _ ⟨rfl, by omega⟩
  have a6 : hI hA 124 6 = 0 := by rw [eA, hI_wI, if_neg (by omega), hI_wI, if_neg (by omega), hI_wI, if_pos ⟨rfl, rfl⟩]
  have a7 : hI hA 124 7 = nI n := by rw [eA, hI_wI, if_neg (by omega), hI_wI, if_neg (by omega), hI_wI, if_neg (by omega), hI_wI, if_pos ⟨rfl, rfl⟩]
  have a8 : hI hA 124 8 = 0 := by rw [eA, hI_wI, if_neg (by omega), hI_wI, if_pos ⟨rfl, rfl⟩]
  have a12 : hI hA 124 12 = 0 := by rw [eA, hI_wI, if_pos ⟨rfl, rfl⟩]
  have a125 : ∀ k, k < n → hI hA 125 k = bs k := fun k hk => by rw [eA, hI_wI, if_neg (by omega), hI_wI, if_neg (by omega), hI_wI, if_neg (by omega), hI_wI, if_neg (by omega), hI_wI, if_neg (by omega)]; exact tp k hk
 
  obtain ⟨B, eB⟩ : ∃ B, B = hn h := ⟨_, rfl⟩
  have hB134 : 134 ≤ B := by omega
  obtain ⟨hB, eHB⟩ : ∃ hB, hB = nw hA 12 35 35 := ⟨_, rfl⟩
  have nB : hn hB = B + 1 := by rw [eHB, hn_nw, nA, eB]
  have oB : isO hB B 12 = true := by rw [eHB]; exact isO_of (N := 35) (by rw [hn_nw, nA, eB]; omega) (by rw [hsh_nw, nA, if_pos eB])
  have g149 := c149 oB
  obtain ⟨hC0, eC0⟩ : ∃ hC0, hC0 = wI hB B 0 (-1) := ⟨_, rfl⟩
  rw [← eC0] at g149
  have nC0 : hn hC0 = B + 1 := by rw [eC0]; exact nB
  obtain ⟨hC, eC⟩ : ∃ hC, hC = mkB B bSh 11 hC0 := ⟨_, rfl⟩
  obtain ⟨k1, k2, k3, k4, k5, k6, k7⟩ := mkB_f B bSh 11 hC0 (by omega)
  rw [← eC] at g149 k1 k2 k3 k4 k5 k6 k7
  rw [nC0] at k1 k4 k5 k6 k7
  have lenB : bSh.length = 24 := rfl
  rw [lenB] at k1 k6 k7
  have iC0 : ∀ a b, a < B → hI hC0 a b = hI hA a b := fun a b ha => by rw [eC0, hI_wI, if_neg (by omega), eHB, hI_nw, if_neg (by omega)]
  have lC0 : ∀ a b, a < B → hL hC0 a b = hL hA a b := fun a b ha => by rw [eC0, hL_wI, eHB, hL_nw, if_neg (by omega)]
  have pC0 : ∀ a b, a < B → hP hC0 a b = hP hA a b := fun a b ha => by rw [eC0, hP_wI, eHB, hP_nw, if_neg (by omega)]
  have GC : GR (fun a b => a = 124 ∧ (b ≤ 2 ∨ (6 ≤ b ∧ b ≤ 13))) mbQ mbZ hA hC := ⟨by omega, by rw [k3, eC0, hX_wI, eHB, hX_nw], fun a ha => by rw [k4 a (by omega), eC0, hsh_wI, eHB, hsh_nw, if_neg (by omega)], fun a b ha _ => (k5 a b (by omega)).1.trans (iC0 a b (by omega)), fun a b ha _ => (k5 a b (by omega)).2.trans (lC0 a b (by omega)), fun a b ha _ => (k6 a b (by omega) (by omega)).trans (pC0 a b (by omega))⟩
  obtain ⟨hD, eD⟩ : ∃ hD, hD = wI (wP hC 124 4 (some B)) 124 9 0 := ⟨_, rfl⟩
  have GD : GR (fun a b => a = 124 ∧ (b ≤ 2 ∨ (6 ≤ b ∧ b ≤ 13))) mbQ mbZ h hD := by
    rw [eD]
    exact GR_wI (GR_wP (GR_tr GA GC) _ ⟨rfl, Or.inr rfl⟩) _ ⟨rfl, by omega⟩
  have LC : Ly hC := ⟨by omega, fun k hk => by rw [GC.2.2.1 k (by omega)]; exact LA.2.1 k hk, fun k j q e => by
    have hk : k < 134 := by
      refine Classical.byContradiction (fun c => ?_)
      have l1 : lyP.length ≤ k := by have : lyP.length ≤ 134 := by decide
                                     omega
      rw [List.getD_eq_getElem?_getD, List.getD_eq_getElem?_getD, List.getElem?_eq_none l1] at e
      exact absurd e (by simp)
    rw [GC.2.2.2.2.2 k j (by omega) (fun z => ?_)]
    · exact LA.2.2 k j q e
    · obtain ⟨z1, z2⟩ := z
      subst z1
      rcases z2 with z2 | z2
      · subst z2; rw [show (lyP.getD 124 []).getD 3 none = none from rfl] at e; exact absurd e (by simp)
      · subst z2; rw [show (lyP.getD 124 []).getD 4 none = none from rfl] at e; exact absurd e (by simp)⟩
  have LD : Ly hD := by rw [eD]; exact Ly_wI (Ly_wP LC _ rfl) _ _ _
  have lD : ML hD B := by
    have p0 : ∀ b, hP hD B b = hP hC B b := fun b => by rw [eD, hP_wI, hP_wP, if_neg (by omega)]
    have s0 : hsh hD = hsh hC := by rw [eD]; rfl
    refine ML_of hB134 (by rw [eD]; exact k1) (by rw [s0, k4 B (by omega), eC0, hsh_wI, eHB, hsh_nw, if_pos (by omega)]) (fun i hi => ⟨by rw [s0]; exact (k7 i hi).1, by rw [p0]; exact (k7 i hi).2.1, trivial⟩)
  have BD : hP hD 124 4 = some B := by rw [eD, hP_wI, hP_wP, if_pos ⟨rfl, rfl⟩]
  have iD : ∀ a b, ¬ (a = 124 ∧ b = 9) → hI hD a b = hI hC a b := fun a b q => by rw [eD, hI_wI, if_neg q, hI_wP]
  have iDA : ∀ a b, a < B → ¬ (a = 124 ∧ b = 9) → hI hD a b = hI hA a b := fun a b ha q => (iD a b q).trans ((k5 a b (by omega)).1.trans (iC0 a b ha))
  have iDB : ∀ b, ¬ b = 0 → hI hD B b = 0 := fun b hb => by rw [iD B b (by omega), (k5 B b (by omega)).1, eC0, hI_wI, if_neg (by omega), eHB, hI_nw, if_pos (by omega)]
  have iD0 : hI hD B 0 = -1 := by rw [iD B 0 (by omega), (k5 B 0 (by omega)).1, eC0, hI_wI, if_pos ⟨rfl, rfl⟩]
 
  have tpD : MTp hD bs n := ⟨by rw [iDA _ _ (by omega) (by decide)]; exact a7, by omega, fun k hk => by rw [iDA _ _ (by omega) (by omega)]; exact a125 k hk⟩
  have d8 : hI hD 124 8 = nI 0 := by rw [iDA _ _ (by omega) (by decide)]; exact a8
  have d9 : decide (hI hD 124 9 = 5) = false := by rw [eD, hI_wI, if_pos ⟨rfl, rfl⟩]; rfl
  obtain ⟨hE, gE, fE, e9, e10, e8, e14, e11⟩ := d168 LD tpD b8 (Nat.zero_le n) d8 d9
  have fE' : FG mT ML14 hD hE := FG_mo (fun a b q => by unfold MT at q; unfold mT; omega) (fun _ _ q => q) fE
  have LE := FG_Ly fE LD
  have lE := FG_ML fE lD
  have BE : hP hE 124 4 = some B := by rw [FG_P fE]; exact BD
  obtain ⟨t1, tk1⟩ := τ1_0 bs n
  have tE' : MKt hE bs n (τ1 bs n) := ⟨MTp_mT fE' tpD, fun _ => ⟨e9, e10, e8, e14, e11, by rw [FG_I fE (by unfold MT; omega), iDA _ _ (by omega) (by decide)]; exact a12, tk1⟩, fun q => absurd t1 q⟩
  have iE : ∀ a b, ¬ a = 124 → hI hE a b = hI hD a b := fun a b ha => FG_I fE (by unfold MT; omega)
  have sE : MS hE B bs n false P0 (τ1 bs n) := by
    refine ⟨LE, BE, lE, tE', fun _ => ⟨⟨?_, by decide, fun i hi => absurd hi (Nat.not_lt_zero i)⟩, ⟨fun q => absurd q (by decide), fun _ => ⟨?_, ?_⟩⟩, fun _ j _ _ => rfl, WF_0, NC_0⟩⟩
    · rw [iE _ _ (by omega)]; exact iDB 10 (by decide)
    · rw [iE _ _ (by omega)]; exact iD0
    · have k : ∀ j, ¬ j = 0 → hI (wI hE B 0 (nI (P0 0 0))) B j = 0 := fun j hj => by rw [hI_wI, if_neg (by omega), iE _ _ (by omega)]; exact iDB j hj
      exact MB_0 (by rw [hI_wI, if_pos ⟨rfl, rfl⟩]; rfl) (k 1 (by decide)) (k 2 (by decide)) (k 3 (by decide)) (k 4 (by decide)) (k 5 (by decide)) (k 6 (by decide)) (k 7 (by decide)) (k 8 (by decide)) (k 9 (by decide))
  obtain ⟨hF, gF, fF, tF, qF⟩ := d181 b8 sE
  have LF := FG_Ly fF LE
  have lF := FG_ML fF lE
  have pF : hP hF = hP hD := by rw [RM_P fF, FG_P fE]
  have BF : hP hF 124 4 = some B := by rw [pF]; exact BD
  have nF : hn hF = hn hD := by rw [fF.1, fE.1]
  have GF : GR (fun a b => a = 124 ∧ (b ≤ 2 ∨ (6 ≤ b ∧ b ≤ 13))) mbQ mbZ h hF := by
    have x1 : FG (rmP B) (rmQ B) hD hF := FG_tr (FG_mo (fun a b q => Or.inl q) (fun _ _ q => Or.inl q) fE') fF
    obtain ⟨d1, d2, d3, d4, d5, d6⟩ := GD
    exact ⟨by omega, by rw [x1.2.2.2.2.1]; exact d2, fun a ha => by rw [x1.2.2.1]; exact d3 a ha, fun a b ha nq => (FG_I x1 (by unfold rmP mT; omega)).trans (d4 a b ha nq), fun a b ha nq => (FG_L x1 (by unfold rmQ ML14; unfold mbQ at nq; omega)).trans (d5 a b ha nq), fun a b ha nq => by rw [pF]; exact d6 a b ha nq⟩
  have nF' : hn hF = hn h + 25 := by rw [nF, eD]; show hn hC = _; omega
  have sF : hs hF = hs h + (35 + mkS bSh) := by
    rw [fF.2.1, fE.2.1, eD]
    show hs hC = _
    rw [k2, eC0, hs_wI, eHB, hs_nw, sA]; omega
  have i12 : hI hF 124 12 = nI ((eT bs n) 4) := by
    by_cases z : (eT bs n) 4 = 0
    · rw [z]; exact (tF.2.1 z).2.2.2.2.2.1
    · exact (tF.2.2 z).2.1
  have l12 : (eT bs n) 4 < 100 := by
    by_cases z : (eT bs n) 4 = 0
    · omega
    · exact (tF.2.2 z).2.2.1
  have d12 : decide (hI hF 124 12 ≤ 0) = decide ((eT bs n) 4 = 0) := by
    rw [i12, show (0 : Int32) = nI 0 from rfl]
    exact decide_eq_decide.mpr ((w_le (by omega) (by decide)).trans (by omega))
  have i6 : hI hF 124 6 = 0 := by
    have x1 : FG (rmP B) (rmQ B) hD hF := FG_tr (FG_mo (fun a b q => Or.inl q) (fun _ _ q => Or.inl q) fE') fF
    rw [FG_I x1 (by unfold rmP mT; omega), iDA _ _ (by omega) (by decide)]; exact a6
  have e6 : hI (wI h 124 0 0) 124 6 = nI tn := by rw [hI_wI, if_neg (by omega)]; exact et
  have pre : C 194 [.ref 124, .int (nI n)] h = R 194 37 [some (.ref 124), some (.int (nI n))] [] hF := by
    have gx : C 149 [.ref B] hB = some (some none, hC) := g149
    have q1 : hn hA = B := by omega
    have pre1 : C 194 [.ref 124, .int (nI n)] h = R 194 25 [some (.ref 124), some (.int (nI n))] [] hA := by
      rw [e194, eA]
      simp only [b194_0, b194_3, b194_16, b194_19, b194_22, cond_true, cond_false, decide_true, Bool.and_true, Bool.true_and, Bool.and_self, Bool.and_false, Bool.false_and, Bool.not_true, Bool.not_false, Bool.or_true, Bool.true_or, Bool.or_false, Bool.false_or, is_some, gd_some, bk_v, bk_u, isO_wI, y_124 L, h0, e6, h1]
    rw [pre1, b194_25, q1, ← eHB]
    have oC : isO hC 124 13 = true := y_124 LC
    rw [eD] at gE
    simp only [b194_27, b194_29, b194_30, b194_33, b194_35, cond_true, cond_false, decide_true, Bool.and_true, Bool.true_and, Bool.and_self, Bool.and_false, Bool.false_and, Bool.not_true, Bool.not_false, Bool.or_true, Bool.true_or, Bool.or_false, Bool.false_or, is_some, gd_some, bk_v, bk_u, isO_wI, isO_wP, gx, oC, gE, y_124 LE, gF]
  by_cases z : (eT bs n) 4 = 0
  · rw [dT z] at d12
    have bF := qF z
    have w := wf z
    obtain ⟨hG, eG⟩ : ∃ hG, hG = wP hF 124 3 (some B) := ⟨_, rfl⟩
    have LG : Ly hG := by rw [eG]; exact Ly_wP LF _ rfl
    have BG : hP hG 124 3 = some B := by rw [eG, hP_wP, if_pos ⟨rfl, rfl⟩]
    have lG : ML hG B := by
      have p0 : ∀ b, hP hG B b = hP hF B b := fun b => by rw [eG, hP_wP, if_neg (by omega)]
      refine ML_of hB134 (by rw [eG]; show hn hF = _; omega) (by rw [eG]; show hsh hF B = _; exact m_sB lF) (fun i hi => ⟨?_, ?_, trivial⟩)
      · rw [eG]; show hsh hF (B + 1 + i) = _
        have := (k7 i hi).1
        rw [fF.2.2.1, fE.2.2.1, eD]; exact this
      · rw [p0, pF, eD, hP_wI, hP_wP, if_neg (by omega)]; exact (k7 i hi).2.1
    have bG : MB hG B (eP bs n) := by rw [eG]; exact bF
    have g197 := d197 LG BG lG (Or.inl rfl) w bG
    obtain ⟨hH, eH⟩ : ∃ hH, hH = wp hG 126 (S0 (eP bs n)) 18 := ⟨_, rfl⟩
    rw [← eH] at g197
    have fH : FR (fun a _ => a = 126) hG hH := by rw [eH]; exact FR_wp (FR_rfl _ hG) _ (fun b _ => rfl)
    have LH := FR_Ly fH LG
    have rH : RW hH 126 (S0 (eP bs n)) := by rw [eH]; exact RW_wp hG 126 _
    have pH : hP hH = hP hG := FR_P fH
    have lH := FR_ML fH lG
    have bH : MB hH B (eP bs n) := FR_MB fH bG (fun k j hk => by omega)
    obtain ⟨hK, eK⟩ : ∃ hK, hK = wI (wI hH 124 19 0) 124 20 0 := ⟨_, rfl⟩
    have LK : Ly hK := by rw [eK]; exact Ly_wI (Ly_wI LH _ _ _) _ _ _
    have iK : ∀ a b, ¬ a = 124 → hI hK a b = hI hH a b := fun a b ha => by rw [eK, hI_wI, if_neg (by omega), hI_wI, if_neg (by omega)]
    have lK : ML hK B := by rw [eK]; exact lH
    have bK : MB hK B (eP bs n) := MB_fr bH (fun k j hk => iK k j (by omega))
    have g158 := d158 LK (nI (eP bs n 0 5))
    have iFK : ∀ b, ¬ b = 19 → ¬ b = 20 → hI hK 124 b = hI hF 124 b := fun b b1 b2 => by rw [eK, hI_wI, if_neg (by omega), hI_wI, if_neg (by omega), FR_I fH (by decide), eG, hI_wP]
    have z2 : ∀ a b, ¬ (a = 124 ∧ (b = 1 ∨ b = 2)) → hI (wI (wI hK 124 1 0) 124 2 (-1)) a b = hI hK a b := fun a b q => by rw [hI_wI, if_neg (by omega), hI_wI, if_neg (by omega)]
    refine ⟨wI (wI hK 124 1 0) 124 2 (-1), nI (eP bs n 0 5), ?_, ?_, ?_, ?_, Ly_wI (Ly_wI LK _ _ _) _ _ _, ?_, ?_, fun _ => ⟨rfl, ?_, ?_, ?_, ?_, ?_, ?_, ?_, ?_⟩, fun q => absurd z q⟩
    · rw [pre]
      have q1 : R 194 37 [some (.ref 124), some (.int (nI n))] [] hF = R 194 53 [some (.ref 124), some (.int (nI n))] [] hG := by
        rw [eG]
        simp only [b194_37, cond_true, cond_false, decide_true, Bool.and_true, Bool.true_and, Bool.and_self, Bool.and_false, Bool.false_and, Bool.not_true, Bool.not_false, Bool.or_true, Bool.true_or, Bool.or_false, Bool.false_or, is_some, gd_some, bk_v, bk_u, y_124 LF, d12, BF]
      rw [q1]
      have q2 : R 194 53 [some (.ref 124), some (.int (nI n))] [] hG = R 194 63 [some (.ref 124), some (.int (nI n))] [] hK := by
        rw [eK]
        simp only [b194_53, b194_57, b194_60, cond_true, cond_false, decide_true, Bool.and_true, Bool.true_and, Bool.and_self, Bool.and_false, Bool.false_and, Bool.not_true, Bool.not_false, Bool.or_true, Bool.true_or, Bool.or_false, Bool.false_or, is_some, gd_some, bk_v, bk_u, isO_wI, y_124 LG, y_P15 LG, g197, y_124 LH]
      rw [q2]
      have b3 : hP hK 124 3 = some B := by rw [eK, hP_wI, hP_wI, pH]; exact BG
      simp only [b194_63, b194_68, cond_true, cond_false, decide_true, Bool.and_true, Bool.true_and, Bool.and_self, Bool.and_false, Bool.false_and, Bool.not_true, Bool.not_false, Bool.or_true, Bool.true_or, Bool.or_false, Bool.false_or, is_some, gd_some, bk_v, bk_u, y_124 LK, b3, mB_O lK, b_s5 bK, g158]
    · refine GR_wI (GR_wI ?_ _ (Or.inl ⟨rfl, by omega⟩)) _ (Or.inl ⟨rfl, by omega⟩)
      rw [eK]
      refine GR_wI (GR_wI ?_ _ (Or.inl ⟨rfl, by omega⟩)) _ (Or.inl ⟨rfl, by omega⟩)
      refine GR_tr (GR_tr ⟨GF.1, GF.2.1, GF.2.2.1, fun a b ha nq => GF.2.2.2.1 a b ha (fun q => nq (Or.inl ⟨q.1, by omega⟩)), GF.2.2.2.2⟩ ?_) (GR_fr (fun a b q => Or.inr q) fH)
      rw [eG]
      exact GR_wP (GR_rfl _ _ _ _) _ ⟨rfl, Or.inl rfl⟩
    · show hn hK = _
      rw [eK]; show hn hH = _
      rw [fH.1, eG]; exact nF'
    · show hs hK = _
      rw [eK]; show hs hH = _
      rw [fH.2.1, eG]; exact sF
    · rw [z2 _ _ (by omega), iFK _ (by decide) (by decide)]; exact i6
    · rw [z2 _ _ (by omega), iFK _ (by decide) (by decide)]; exact i12
    · rw [hI_wI, if_neg (by omega), hI_wI, if_pos ⟨rfl, rfl⟩]
    · rw [hI_wI, if_pos ⟨rfl, rfl⟩]
    · rw [hP_wI, hP_wI, eK, hP_wI, hP_wI, pH, ← eB]; exact BG
    · rw [← eB]; exact lK
    · rw [← eB]; exact MB_fr bK (fun k j hk => z2 k j (by omega))
    · intro j hj
      rw [z2 _ _ (by omega), iK _ _ (by decide)]; exact rH j hj
    · rw [z2 _ _ (by omega), eK, hI_wI, if_neg (by omega), hI_wI, if_pos ⟨rfl, rfl⟩]
    · rw [z2 _ _ (by omega), eK, hI_wI, if_pos ⟨rfl, rfl⟩]
  · rw [dF z] at d12
    refine ⟨wI (wI hF 124 1 4) 124 2 (hI hF 124 13), -1, ?_, GR_wI (GR_wI (GR_tr GF (GR_rfl _ _ _ _) |> fun x => ⟨x.1, x.2.1, x.2.2.1, fun a b ha nq => x.2.2.2.1 a b ha (fun q => nq (Or.inl ⟨q.1, by omega⟩)), x.2.2.2.2⟩) _ (Or.inl ⟨rfl, by omega⟩)) _ (Or.inl ⟨rfl, by omega⟩), nF', sF, Ly_wI (Ly_wI LF _ _ _) _ _ _, ?_, ?_, fun q => absurd q z, fun _ => ⟨rfl, ?_, ?_, ?_, fun a b ha nq => ?_⟩⟩
    · rw [pre]
      have i13 : hI (wI hF 124 1 4) 124 13 = hI hF 124 13 := by rw [hI_wI, if_neg (by omega)]
      simp only [b194_37, b194_43, b194_47, cond_true, cond_false, decide_true, Bool.and_true, Bool.true_and, Bool.and_self, Bool.and_false, Bool.false_and, Bool.not_true, Bool.not_false, Bool.or_true, Bool.true_or, Bool.or_false, Bool.false_or, is_some, gd_some, bk_v, bk_u, isO_wI, y_124 LF, d12, i13]
    · rw [hI_wI, if_neg (by omega), hI_wI, if_neg (by omega)]; exact i6
    · rw [hI_wI, if_neg (by omega), hI_wI, if_neg (by omega)]; exact i12
    · rw [hI_wI, if_neg (by omega), hI_wI, if_pos ⟨rfl, rfl⟩]
    · rw [hI_wI, if_pos ⟨rfl, rfl⟩]; exact (tF.2.2 z).2.2.2
    · rw [hP_wI, hP_wI, pF, eD, hP_wI, hP_wP, if_neg (by omega), k6 124 3 (by omega) (by omega), pC0 124 3 (by omega), eA]; rfl
    · rw [hI_wI, if_neg (by omega), hI_wI, if_neg (by omega)]
      exact GF.2.2.2.1 a b ha nq
