set_option maxRecDepth 16384 in
theorem eT_pos {bs : Nat → Int32} {q : Nat} (e : eT bs q 4 = 0) : 0 < eP bs q 0 3 ∧ 0 < eP bs q 0 4 := by
  unfold eT sEd at e
  show 0 < (lpS bs q).2 0 3 ∧ 0 < (lpS bs q).2 0 4
  have fa : ∀ c : Nat, ¬ c = 0 → ¬ (sFa c (lpS bs q).1) 4 = 0 := fun c hc => by
    by_cases z : (lpS bs q).1 4 = 0
    · exact sFa_n z hc
    · rw [sFa_1 z]; exact z
  by_cases c1 : (lpS bs q).1 0 = 0
  · rw [if_pos c1] at e
    by_cases c2 : (lpS bs q).2 0 3 = 0 ∨ (lpS bs q).2 0 4 = 0
    · rw [if_pos c2] at e; exact absurd e (fa 6 (by decide))
    · omega
  · rw [if_neg c1] at e; exact absurd e (fa 1 (by decide))
set_option maxRecDepth 16384 in
theorem cb_n {T a b : Nat} (hT : T = 3 ∨ T = 42) (ha : 120 ≤ a) : ¬ cbP (45 - T) a b := by unfold cbP rtP rdP rP; omega
set_option maxRecDepth 16384 in
theorem s77 {X : Nat × (Nat → Int32)} {k : Nat} {h : A_H} {T : Nat} {D : Gh} {S : Nat → Nat} {o n : Nat} {H : Nat → Nat → Nat} {m : Nat} {K : Nat → Nat → Nat} {tn : Nat} (j : J X k h T D S o n H m K tn) (x : Int32) : Stq X k 77 194 [.int x] h := by
  obtain ⟨⟨L, jn, js, jx, jr⟩, ⟨hT, p03, p22, w, ct, cs, wd, r⟩, ⟨hc, mc, hm, mm, w1, w2⟩, br, ⟨e1, e2, e3⟩, ⟨t1, t2, t3, t4⟩⟩ := id j
  have hT3 : T = 3 ∨ T = 42 := hT
  have l0 : 134 ≤ hn h := L.1
  rcases bad_or tn x with e | ⟨q, rfl, hq⟩
  · exact Stq_q j (Ce_of (c77b L t3 t1 e)) (fun h1 f1 => Qe_of (m194b (FR_Ly f1 L) t3 (by rw [FR_I f1 (by unfold cq; omega)]; exact t2) e) (QF_0 h1)) (by decide)
  · have hT' : isT (45 - T) := by
      rcases hT3 with rfl | rfl
      · exact Or.inr rfl
      · exact Or.inl rfl
    obtain ⟨h1, v, c1, f1, n1, s1, L1, c2, c3, c4, c5, c6⟩ := a77 L hT' hT p22 p03 jr t3 t1 hq (bs := hI h 1) (fun _ _ => rfl)
    have I1 : ∀ a b, a < 134 → ¬ cbP (45 - T) a b → hI h1 a b = hI h a b := fun a b ha qq => f1.2.2.2.1 a b (by omega) qq
    have t2' : hI h1 124 6 = nI tn := (I1 124 6 (by omega) (cb_n hT3 (by omega))).trans t2
    have tp : ∀ i, i < q → hI h1 125 i = hI h 1 i := fun i hi => (I1 125 i (by omega) (cb_n hT3 (by omega))).trans (t4 i (by omega)).1
    have b8 : B8 (hI h 1) q := fun i hi => (t4 i (by omega)).2
    have mk : 35 + mkS bSh ≤ 400 := by decide
    by_cases hz : eT (hI h 1) q 4 = 0
    · obtain ⟨v1, x8, x4, p03', p22', ct', cs', h2', h4', wf'⟩ := c5 hz
      obtain ⟨h2, v2, d1, f2, n2, s2, L2, d2, d3, d4, d5⟩ := m194 L1 b8 t3 t2' hq tp (fun _ => wf')
      obtain ⟨v3, y1, y2, p3, ml, mb, rw', y19, y20⟩ := d4 hz
      obtain ⟨z3, z4⟩ := eT_pos hz
      have z : v = v2 := v1.trans v3.symm
      have I2 : ∀ a b, a < 134 → ¬ mbP a b → hI h2 a b = hI h1 a b := fun a b ha qq => f2.2.2.2.1 a b (by omega) qq
      have P2 : ∀ a b, a < 134 → ¬ mbZ a b → hP h2 a b = hP h1 a b := fun a b ha qq => f2.2.2.2.2.2 a b (by omega) qq
      refine ⟨v, h1, h2, c1, by rw [z]; exact d1, L1, f1.2.1.trans jx, ?_⟩
      refine ⟨45 - T, eP (hI h 1) q, S0 (eP (hI h 1) q), o, 0, H, 0, K, 0, ⟨L2, by omega, by omega, f2.2.1.trans (f1.2.1.trans jx), fun i hi => ?_⟩, ⟨hT', (P2 0 3 (by omega) (by unfold mbZ; omega)).trans p03', ?_, wf', CT_fr wf' ct' (fun a b i1 i2 _ => I2 a b (by omega) (by unfold mbP; omega)), CS_eq cs' (fun a b i1 i2 => I2 a b (by omega) (by unfold mbP; omega)), WD_S0 wf', rw'⟩, ⟨⟨?_, hc.2.1, (I2 79 2 (by omega) (by unfold mbP; omega)).trans h2', by omega, fun i hi => absurd hi (Nat.not_lt_zero _)⟩, ⟨(I2 79 4 (by omega) (by unfold mbP; omega)).trans h4', by omega, fun i hi => absurd hi (Nat.not_lt_zero _)⟩, ⟨y19, fun i hi => absurd hi (Nat.not_lt_zero _)⟩, ⟨y20, fun i hi => absurd hi (Nat.not_lt_zero _)⟩, fun i hi => absurd hi (Nat.not_lt_zero _), fun i hi => absurd hi (Nat.not_lt_zero _)⟩, Or.inr ⟨hn h1, p3, ml, mb, (I2 0 4 (by omega) (by unfold mbP; omega)).trans x4, z3, z4⟩, ⟨?_, ?_, ?_⟩, ⟨(I2 0 1 (by omega) (by unfold mbP; omega)).trans c2, d2, by omega, fun i hi => absurd hi (Nat.not_lt_zero _)⟩⟩
      · rw [f2.2.2.2.2.1 41 i (by omega) (by unfold mbQ; omega), f1.2.2.2.2.1 41 i (by omega) (by unfold rQ; omega)]; exact jr i hi
      · rw [P2 2 2 (by omega) (by unfold mbZ; omega), p22']; exact congrArg some (by omega)
      · rw [I2 79 1 (by omega) (by unfold mbP; omega), I1 79 1 (by omega) (by unfold cbP rtP rdP rP; omega)]; exact hc.1
      · rw [y1, I2 0 8 (by omega) (by unfold mbP; omega), x8]
      · rw [y2, I2 0 8 (by omega) (by unfold mbP; omega), x8]; rfl
      · rw [I2 2 4 (by omega) (by unfold mbP; omega), c3, d3]
    · obtain ⟨v1, x8, x5, pe, ii⟩ := c6 hz
      obtain ⟨h2, v2, d1, f2, n2, s2, L2, d2, d3, d4, d5⟩ := m194 L1 b8 t3 t2' hq tp (fun zz => absurd zz hz)
      obtain ⟨v3, y1, y2, p3, ij⟩ := d5 hz
      have z : v = v2 := v1.trans v3.symm
      refine ⟨v, h1, h2, c1, by rw [z]; exact d1, L1, f1.2.1.trans jx, ?_⟩
      refine J_up j (tn' := 0) (by omega) (by omega) (by omega) (f2.2.1.trans f1.2.1) (fun a ha => (f2.2.2.1 a (by omega)).trans (f1.2.2.1 a ha)) (fun a b ha nz => ?_) (fun b => ?_) (fun a b ha qq => (ij a b (by omega) (by unfold kp at qq; omega)).trans (ii a b (by unfold kp at qq; unfold rtP rdP rP; omega) (by unfold kp at qq; omega))) ?_ ?_ ?_ ⟨(ij 0 1 (by omega) (by omega)).trans c2, d2, by omega, fun i hi => absurd hi (Nat.not_lt_zero _)⟩
      · by_cases c : a = 124 ∧ b = 3
        · rw [c.1, c.2, p3, pe]
        · rw [f2.2.2.2.2.2 a b (by omega) (by unfold mbZ; omega), pe]
      · rw [f2.2.2.2.2.1 41 b (by omega) (by unfold mbQ; omega), f1.2.2.2.2.1 41 b (by omega) (by unfold rQ; omega)]
      · rw [y1, ij 0 8 (by omega) (by omega), x8]
      · rw [y2, ij 0 8 (by omega) (by omega), x8, ij 2 5 (by omega) (by omega), x5]; rfl
      · rw [ij 2 4 (by omega) (by omega), c3, d3]
def StL (X : Nat × (Nat → Int32)) (k : Nat) (x : Int32) (h : A_H) : Prop := ∃ v g h1 h2, C 282 [.ref 0, .int x, .ref 133] h = some (some (some (.int v)), h1) ∧ C 275 [.ref 124, .int x] h1 = some (some (some (.int g)), h2) ∧ C 154 [.ref 124] h2 = some (some (some (.int v)), h2) ∧ (v = 0 → hL h2 133 0 = g.toInt64) ∧ Ly h1 ∧ Ly h2 ∧ hX h1 = X ∧ Inv X (k + 1) h2
set_option maxRecDepth 16384 in
theorem c154 {h : A_H} (L : Ly h) : C 154 [.ref 124] h = some (some (some (.int (hI h 124 0))), h) := by
  rw [e154, b154_0, y_124 L]; rfl
set_option maxRecDepth 16384 in
theorem neg_or (x : Int32) : decide (x < 0) = true ∨ ∃ i, x = nI i ∧ i < 2147483648 := by
  rcases bad_or 1100 x with e | ⟨q, e, hq⟩
  · rcases e with e | ⟨n, e1, -, e3⟩
    · exact Or.inl e
    · exact Or.inr ⟨n, e1, e3⟩
  · exact Or.inr ⟨q, e, by omega⟩
set_option maxRecDepth 16384 in
theorem isA_133 {h : A_H} (L : Ly h) : isA h 133 2 (0 : Int32) = true := ly_A (i := 0) L (by decide) rfl (show 0 < 1 by decide) (by decide)
set_option maxRecDepth 16384 in
theorem c282a {h : A_H} (L : Ly h) {x : Int32} {g : Nat} (e : C 131 [.ref 0, .int x] h = some (some (some (.int (nI g))), h)) : C 282 [.ref 0, .int x, .ref 133] h = some (some (some (.int 0)), wL h 133 0 (nI g).toInt64) := by
  have a1 : isA h 133 2 (0 : Int32) = true := isA_133 L
  rw [e282, b282_0, x_O L, cond_true, e, bk_v, b282_5, a1, cond_true, b282_7]
  rfl
set_option maxRecDepth 16384 in
theorem c282b {h h1 : A_H} (L : Ly h) {x : Int32} (e : C 131 [.ref 0, .int x] h = some (none, h1)) : C 282 [.ref 0, .int x, .ref 133] h = some (some (some (.int 1)), h1) := by
  rw [e282, b282_0, x_O L, cond_true, e, bk_x]
  exact b282_9 _ _ _ _ _
set_option maxRecDepth 16384 in
theorem J_nw {X : Nat × (Nat → Int32)} {k : Nat} {h : A_H} {T : Nat} {D : Gh} {S : Nat → Nat} {o n : Nat} {H : Nat → Nat → Nat} {m : Nat} {K : Nat → Nat → Nat} {tn : Nat} (j : J X k h T D S o n H m K tn) : Inv X (k + 1) (wI (nw h 14 0 6) 124 0 1) := by
  obtain ⟨⟨L, -⟩, ⟨hT, -⟩, -, -, ⟨e1, e2, e3⟩, ⟨t1, t2, t3, t4⟩⟩ := id j
  have hT3 : T = 3 ∨ T = 42 := hT
  have l0 : 134 ≤ hn h := L.1
  have I : ∀ a b, a < hn h → ¬ (a = 124 ∧ b = 0) → hI (wI (nw h 14 0 6) 124 0 1) a b = hI h a b := fun a b ha q => by rw [hI_wI, if_neg q, hI_nw, if_neg (by omega)]
  refine J_up j (tn' := tn) (by rw [hn_wI, hn_nw]; omega) (by rw [hn_wI, hn_nw]; omega) (by rw [hs_wI, hs_nw]; omega) rfl (fun a ha => by rw [hsh_wI, hsh_nw, if_neg (by omega)]) (fun a b ha _ => by rw [hP_wI, hP_nw, if_neg (by omega)]) (fun b => by rw [hL_wI, hL_nw, if_neg (by omega)]) (fun a b ha q => I a b ha (by unfold kp at q; omega)) ?_ ?_ ?_ ⟨(I 0 1 (by omega) (by omega)).trans t1, (I 124 6 (by omega) (by omega)).trans t2, t3, fun i hi => ?_⟩
  · rw [I 124 1 (by omega) (by omega), I 0 8 (by omega) (by omega)]; exact e1
  · rw [I 124 2 (by omega) (by omega), I 0 8 (by omega) (by omega), I 2 5 (by omega) (by omega)]; exact e2
  · rw [I 2 4 (by omega) (by omega), I 124 12 (by omega) (by omega)]; exact e3
  · rw [I 125 i (by omega) (by omega), I 1 i (by omega) (by omega)]; exact t4 i hi
set_option maxRecDepth 16384 in
theorem J_ld {X : Nat × (Nat → Int32)} {k : Nat} {h : A_H} {T : Nat} {D : Gh} {S : Nat → Nat} {o n : Nat} {H : Nat → Nat → Nat} {m : Nat} {K : Nat → Nat → Nat} {tn : Nat} (j : J X k h T D S o n H m K tn) (v : Int64) : Inv X (k + 1) (wI (wL h 133 0 v) 124 0 0) := by
  obtain ⟨-, ⟨hT, -⟩, -, -, ⟨e1, e2, e3⟩, ⟨t1, t2, t3, t4⟩⟩ := id j
  have hT3 : T = 3 ∨ T = 42 := hT
  have I : ∀ a b, ¬ (a = 124 ∧ b = 0) → hI (wI (wL h 133 0 v) 124 0 0) a b = hI h a b := fun a b q => by rw [hI_wI, if_neg q]; rfl
  refine J_up j (tn' := tn) (Nat.le_refl _) (Nat.le_add_right _ _) (Nat.le_add_right _ _) rfl (fun _ _ => rfl) (fun _ _ _ _ => rfl) (fun b => by rw [hL_wI, hL_wL, if_neg (by omega)]) (fun a b _ q => I a b (by unfold kp at q; omega)) ?_ ?_ ?_ ⟨(I 0 1 (by omega)).trans t1, (I 124 6 (by omega)).trans t2, t3, fun i hi => ?_⟩
  · rw [I 124 1 (by omega), I 0 8 (by omega)]; exact e1
  · rw [I 124 2 (by omega), I 0 8 (by omega), I 2 5 (by omega)]; exact e2
  · rw [I 2 4 (by omega), I 124 12 (by omega)]; exact e3
  · rw [I 125 i (by omega), I 1 i (by omega)]; exact t4 i hi
set_option maxRecDepth 16384 in
theorem sLed {X : Nat × (Nat → Int32)} {k : Nat} {h : A_H} {T : Nat} {D : Gh} {S : Nat → Nat} {o n : Nat} {H : Nat → Nat → Nat} {m : Nat} {K : Nat → Nat → Nat} {tn : Nat} (j : J X k h T D S o n H m K tn) (x : Int32) : StL X k x h := by
  obtain ⟨⟨L, -, -, jx, -⟩, ⟨hT, p03, -, w, ct, cs, wd, r⟩, -, br, -, -⟩ := id j
  have l0 : 134 ≤ hn h := L.1
  have Ln : Ly (nw h 14 0 6) := Ly_up L (by rw [hn_nw]; omega) (fun a ha => by rw [hsh_nw, if_neg (by omega)]) (fun a b ha _ => by rw [hP_nw, if_neg (by omega)])
  have thr : C 131 [.ref 0, .int x] h = some (none, nw h 14 0 6) → C 275 [.ref 124, .int x] (nw h 14 0 6) = some (some (some (.int 0)), wI (nw h 14 0 6) 124 0 1) → StL X k x h := fun c1 c2 => by
    have L2 : Ly (wI (nw h 14 0 6) 124 0 1) := Ly_wI Ln _ _ _
    refine ⟨1, 0, nw h 14 0 6, wI (nw h 14 0 6) 124 0 1, c282b L c1, c2, ?_, fun z => absurd z (by decide), Ln, L2, jx, J_nw j⟩
    rw [c154 L2, hI_wI, if_pos ⟨rfl, rfl⟩]
  have Bn : ∀ B, hP h 124 3 = some B → ML h B → MB h B D → hP (nw h 14 0 6) 124 3 = some B ∧ ML (nw h 14 0 6) B ∧ MB (nw h 14 0 6) B D ∧ RW (nw h 14 0 6) 126 S := fun B b1 b2 b3 => by
    have hB := m_134 b2
    have hB2 : B + 25 ≤ hn h := b2.1
    refine ⟨by rw [hP_nw, if_neg (by omega)]; exact b1, ML_up b2 (by rw [hn_nw]; omega) (fun a ha => by rw [hsh_nw, if_neg (by omega)]) (fun b => by rw [hP_nw, if_neg (by omega)]), ?_, fun i hi => by rw [hI_nw, if_neg (by omega)]; exact r i hi⟩
    exact MB_h w b3 (fun _ _ => rfl) (fun _ _ _ _ => rfl) (fun a jj i1 i2 _ _ => by rw [hI_nw, if_neg (by omega)]) (by rw [hI_nw, if_neg (by omega)]; exact b_hid b3)
  rcases neg_or x with e | ⟨i, rfl, hi⟩
  · refine thr (c131n L hT w ct p03 cs wd e) ?_
    rcases br with ⟨b1, b2, b3, b4, b5, b6⟩ | ⟨B, b1, b2, b3, b4, b5, b6⟩
    · exact m275z Ln (by rw [hP_nw, if_neg (by omega)]; exact b1) _
    · obtain ⟨q1, q2, q3, q4⟩ := Bn B b1 b2 b3
      exact m275n Ln q1 q2 w q3 wd q4 e
  · have c0 := c131 L hT w ct p03 cs wd hi
    rcases br with ⟨b1, b2, b3, b4, b5, b6⟩ | ⟨B, b1, b2, b3, b4, b5, b6⟩
    · refine thr ?_ (m275z Ln (by rw [hP_nw, if_neg (by omega)]; exact b1) _)
      rw [c0, b3]; rfl
    · cases e : ld D (S 17) i (D 0 5) 0 0 with
      | none =>
        obtain ⟨q1, q2, q3, q4⟩ := Bn B b1 b2 b3
        have c2 := m275 Ln q1 q2 w q3 wd q4 hi
        rw [e] at c0 c2
        exact thr c0 c2
      | some g =>
        rw [e] at c0
        have L1 : Ly (wL h 133 0 (nI g).toInt64) := Ly_wL L _ _ _
        have c2 := m275 (h := wL h 133 0 (nI g).toInt64) L1 b1 b2 w b3 wd r hi
        rw [e] at c2
        have L2 : Ly (wI (wL h 133 0 (nI g).toInt64) 124 0 0) := Ly_wI L1 _ _ _
        refine ⟨0, nI g, wL h 133 0 (nI g).toInt64, wI (wL h 133 0 (nI g).toInt64) 124 0 0, c282a L c0, c2, ?_, fun _ => ?_, L1, L2, jx, J_ld j _⟩
        · rw [c154 L2, hI_wI, if_pos ⟨rfl, rfl⟩]
        · rw [hL_wI, hL_wL, if_pos ⟨rfl, rfl⟩]
