def kp (T a b : Nat) : Prop := (T ≤ a ∧ a < T + 35) ∨ (77 ≤ a ∧ a < 120) ∨ a = 126 ∨ a = 128 ∨ a = 129 ∨ (a = 124 ∧ (b = 19 ∨ b = 20)) ∨ (a = 0 ∧ b = 4) ∨ 134 ≤ a
set_option maxRecDepth 16384 in
theorem CS_eq {h h' : A_H} {N : Nat} {D : Gh} {S : Nat → Nat} (s : CS h N D S) (e : ∀ a b, N ≤ a → a ≤ N + 1 → hI h' a b = hI h a b) : CS h' N D S := ⟨(e _ _ (by omega) (by omega)).trans s.1, (e _ _ (by omega) (by omega)).trans s.2.1, (e _ _ (by omega) (by omega)).trans s.2.2.1, (e _ _ (by omega) (by omega)).trans s.2.2.2.1, (e _ _ (by omega) (by omega)).trans s.2.2.2.2.1, fun t ht => (e _ _ (by omega) (by omega)).trans (s.2.2.2.2.2 t ht)⟩
set_option maxRecDepth 16384 in
theorem Ly_up {h h2 : A_H} (L : Ly h) (g1 : hn h ≤ hn h2) (gs : ∀ a, a < hn h → hsh h2 a = hsh h a) (gp : ∀ a b, a < hn h → ¬ (a = 124 ∧ b = 4) → hP h2 a b = hP h a b) : Ly h2 := by
  have l0 : 134 ≤ hn h := L.1
  refine ⟨by omega, fun k hk => by rw [gs k (by omega)]; exact L.2.1 k hk, fun k j q e => ?_⟩
  have hk : k < 134 := by
    refine Classical.byContradiction (fun c => ?_)
    have l1 : lyP.length ≤ k := by have : lyP.length ≤ 134 := by decide
                                   omega
    rw [List.getD_eq_getElem?_getD, List.getD_eq_getElem?_getD, List.getElem?_eq_none l1] at e
    exact absurd e (by simp)
  rw [gp k j (by omega) (fun z => ?_)]
  · exact L.2.2 k j q e
  · obtain ⟨z1, z2⟩ := z
    subst z1
    subst z2
    rw [show (lyP.getD 124 []).getD 4 none = none from rfl] at e
    exact absurd e (by simp)
set_option maxRecDepth 16384 in
theorem ML_up {h h2 : A_H} {B : Nat} (l : ML h B) (g1 : hn h ≤ hn h2) (gs : ∀ a, a < hn h → hsh h2 a = hsh h a) (gp : ∀ b, hP h2 B b = hP h B b) : ML h2 B := by
  have l0 : B + 25 ≤ hn h := l.1
  have s : ∀ i, i < 25 → hsh h2 (B + i) = hsh h (B + i) := fun i hi => gs _ (by omega)
  have s0 := gs B (by omega)
  unfold ML at l ⊢
  rw [s0, s 1 (by decide), s 2 (by decide), s 3 (by decide), s 4 (by decide), s 5 (by decide), s 6 (by decide), s 7 (by decide), s 8 (by decide), s 9 (by decide), s 10 (by decide), s 11 (by decide), s 12 (by decide), s 13 (by decide), s 14 (by decide), s 15 (by decide), s 16 (by decide), s 17 (by decide), s 18 (by decide), s 19 (by decide), s 20 (by decide), s 21 (by decide), s 22 (by decide), s 23 (by decide), s 24 (by decide)]
  simp only [gp]
  exact ⟨by omega, l.2⟩
set_option maxRecDepth 16384 in
theorem J_up {X : Nat × (Nat → Int32)} {k : Nat} {h : A_H} {T : Nat} {D : Gh} {S : Nat → Nat} {o n : Nat} {H : Nat → Nat → Nat} {m : Nat} {K : Nat → Nat → Nat} {tn : Nat} (j : J X k h T D S o n H m K tn) {h2 : A_H} {tn' : Nat} (g1 : hn h ≤ hn h2) (g2 : hn h2 ≤ hn h + 25) (g3 : hs h2 ≤ hs h + 400) (gx : hX h2 = hX h) (gs : ∀ a, a < hn h → hsh h2 a = hsh h a) (gp : ∀ a b, a < hn h → ¬ (a = 124 ∧ b = 4) → hP h2 a b = hP h a b) (gl : ∀ b, hL h2 41 b = hL h 41 b) (gi : ∀ a b, a < hn h → kp T a b → hI h2 a b = hI h a b) (e1 : hI h2 124 1 = hI h2 0 8) (e2 : hI h2 124 2 = (bif decide (hI h2 0 8 = 4) then hI h2 2 5 else -1)) (e3 : hI h2 2 4 = hI h2 124 12) (t : hI h2 0 1 = nI tn' ∧ hI h2 124 6 = nI tn' ∧ tn' ≤ 1100 ∧ ∀ k, k < tn' → hI h2 125 k = hI h2 1 k ∧ ∃ i : Int8, hI h2 1 k = i.toInt32) : Inv X (k + 1) h2 := by
  obtain ⟨⟨L, jn, js, jx, jr⟩, ⟨hT, p03, p22, w, ct, cs, wd, r⟩, ⟨hc, mc, hm, mm, w1, w2⟩, br, -, -⟩ := j
  have hT3 : T = 3 ∨ T = 42 := hT
  have l0 : 134 ≤ hn h := L.1
  have m3 := mc.2.1
  have I : ∀ a b, a < 134 → kp T a b → hI h2 a b = hI h a b := fun a b ha q => gi a b (by omega) q
  have Q : ∀ a b, a < 134 → ¬ (a = 124 ∧ b = 4) → hP h2 a b = hP h a b := fun a b ha q => gp a b (by omega) q
  refine ⟨T, D, S, o, n, H, m, K, tn', ⟨Ly_up L g1 gs gp, by omega, by omega, gx.trans jx, fun i hi => (gl i).trans (jr i hi)⟩, ⟨hT, (Q 0 3 (by omega) (by omega)).trans p03, (Q 2 2 (by omega) (by omega)).trans p22, w, CT_fr w ct (fun a b i1 i2 _ => I a b (by omega) (Or.inl ⟨i1, i2⟩)), CS_eq cs (fun a b i1 i2 => I a b (by omega) (by unfold kp; omega)), wd, fun i hi => (I 126 i (by omega) (by unfold kp; omega)).trans (r i hi)⟩, ⟨⟨(I 79 1 (by omega) (by unfold kp; omega)).trans hc.1, hc.2.1, (I 79 2 (by omega) (by unfold kp; omega)).trans hc.2.2.1, hc.2.2.2.1, fun i hi => CS_eq (hc.2.2.2.2 i hi) (fun a b i1 i2 => I a b (by omega) (by unfold kp; omega))⟩, ⟨(I 79 4 (by omega) (by unfold kp; omega)).trans mc.1, mc.2.1, fun i hi => CS_eq (mc.2.2 i hi) (fun a b i1 i2 => I a b (by omega) (by unfold kp; omega))⟩, ⟨(I 124 19 (by omega) (by unfold kp; omega)).trans hm.1, fun i hi jj hj => (I 128 _ (by omega) (by unfold kp; omega)).trans (hm.2 i hi jj hj)⟩, ⟨(I 124 20 (by omega) (by unfold kp; omega)).trans mm.1, fun i hi jj hj => (I 129 _ (by omega) (by unfold kp; omega)).trans (mm.2 i hi jj hj)⟩, w1, w2⟩, ?_, ⟨e1, e2, e3⟩, t⟩
  rcases br with ⟨b1, b2, b3, b4, b5, b6⟩ | ⟨B, b1, b2, b3, b4, b5, b6⟩
  · exact Or.inl ⟨(Q 124 3 (by omega) (by omega)).trans b1, (I 0 4 (by omega) (by unfold kp; omega)).trans b2, b3, b4, b5, b6⟩
  · have hB := m_134 b2
    have hB2 : B + 25 ≤ hn h := b2.1
    refine Or.inr ⟨B, (Q 124 3 (by omega) (by omega)).trans b1, ML_up b2 g1 gs (fun b => gp B b (by omega) (by omega)), ?_, (I 0 4 (by omega) (by unfold kp; omega)).trans b4, b5, b6⟩
    exact MB_h w b3 (fun _ _ => rfl) (fun _ _ _ _ => rfl) (fun a jj i1 i2 _ _ => gi a jj (by omega) (by unfold kp; omega)) ((gi B 9 (by omega) (by unfold kp; omega)).trans (b_hid b3))
set_option maxRecDepth 16384 in
theorem J_w0 {X : Nat × (Nat → Int32)} {k : Nat} {h : A_H} {T : Nat} {D : Gh} {S : Nat → Nat} {o n : Nat} {H : Nat → Nat → Nat} {m : Nat} {K : Nat → Nat → Nat} {tn : Nat} (j : J X k h T D S o n H m K tn) (x : Int32) : Inv X (k + 1) (wI h 124 0 x) := by
  obtain ⟨-, ⟨hT, -⟩, -, -, ⟨e1, e2, e3⟩, ⟨t1, t2, t3, t4⟩⟩ := id j
  have hT3 : T = 3 ∨ T = 42 := hT
  have I : ∀ a b, ¬ (a = 124 ∧ b = 0) → hI (wI h 124 0 x) a b = hI h a b := fun a b q => by rw [hI_wI, if_neg q]
  refine J_up j (Nat.le_refl _) (Nat.le_add_right _ _) (Nat.le_add_right _ _) rfl (fun _ _ => rfl) (fun _ _ _ _ => rfl) (fun _ => rfl) (fun a b _ q => I a b (by unfold kp at q; omega)) ?_ ?_ ?_ ⟨(I 0 1 (by omega)).trans t1, (I 124 6 (by omega)).trans t2, t3, fun i hi => ?_⟩
  · rw [I 124 1 (by omega), I 0 8 (by omega)]; exact e1
  · rw [I 124 2 (by omega), I 0 8 (by omega), I 2 5 (by omega)]; exact e2
  · rw [I 2 4 (by omega), I 124 12 (by omega)]; exact e3
  · rw [I 125 i (by omega), I 1 i (by omega)]; exact t4 i hi
set_option maxRecDepth 16384 in
theorem s78 {X : Nat × (Nat → Int32)} {k : Nat} {h : A_H} {T : Nat} {D : Gh} {S : Nat → Nat} {o n : Nat} {H : Nat → Nat → Nat} {m : Nat} {K : Nat → Nat → Nat} {tn : Nat} (j : J X k h T D S o n H m K tn) : Stq X k 78 195 [] h := by
  obtain ⟨⟨L, -, -, jx, -⟩, -, -, -, ⟨e1, e2, e3⟩, -⟩ := id j
  exact ⟨hI h 2 4, h, wI h 124 0 0, a78 L, by rw [e3]; exact m195 L, L, jx, J_w0 j 0⟩
set_option maxRecDepth 16384 in
theorem s79 {X : Nat × (Nat → Int32)} {k : Nat} {h : A_H} {T : Nat} {D : Gh} {S : Nat → Nat} {o n : Nat} {H : Nat → Nat → Nat} {m : Nat} {K : Nat → Nat → Nat} {tn : Nat} (j : J X k h T D S o n H m K tn) : Stq X k 79 196 [] h := by
  obtain ⟨⟨L, -, -, jx, -⟩, -, -, -, ⟨e1, e2, e3⟩, -⟩ := id j
  exact ⟨_, h, wI h 124 0 0, a79 L, by rw [← e2]; exact m196 L, L, jx, J_w0 j 0⟩
set_option maxRecDepth 16384 in
theorem s133 {X : Nat × (Nat → Int32)} {k : Nat} {h : A_H} {T : Nat} {D : Gh} {S : Nat → Nat} {o n : Nat} {H : Nat → Nat → Nat} {m : Nat} {K : Nat → Nat → Nat} {tn : Nat} (j : J X k h T D S o n H m K tn) : Stq X k 133 277 [] h := by
  obtain ⟨⟨L, -, -, jx, -⟩, -, -, -, ⟨e1, e2, e3⟩, -⟩ := id j
  exact ⟨_, h, wI h 124 0 0, a133 L, by rw [← e1]; exact m277 L, L, jx, J_w0 j 0⟩
set_option maxRecDepth 16384 in
theorem s132 {X : Nat × (Nat → Int32)} {k : Nat} {h : A_H} {T : Nat} {D : Gh} {S : Nat → Nat} {o n : Nat} {H : Nat → Nat → Nat} {m : Nat} {K : Nat → Nat → Nat} {tn : Nat} (j : J X k h T D S o n H m K tn) (x : Int32) : Stq X k 132 276 [.int x] h := by
  obtain ⟨⟨L, -, -, jx, -⟩, ⟨hT, p03, -, w, ct, cs, wd, r⟩, ⟨hc, mc, hm, mm, -, -⟩, br, -, ⟨t1, t2, -, -⟩⟩ := id j
  cases e : vd 13 x with
  | true =>
    obtain ⟨i, hi, rfl⟩ := vd_T (by decide) e
    refine ⟨szF D S n m tn i, h, wI h 124 0 0, a132 L hT w ct p03 cs wd hc mc t1 hi, ?_, L, jx, J_w0 j 0⟩
    rcases br with ⟨b1, -, b3, b4, b5, b6⟩ | ⟨B, b1, b2, b3, -, -, -⟩
    · rw [b3, b4, b5, b6]; exact m276z L b1 t2 hi
    · exact m276 L b1 b2 w b3 wd r hm mm t2 hi
  | false => exact ⟨-1, h, wI h 124 0 0, a132b e, m276b L e, L, jx, J_w0 j 0⟩
set_option maxRecDepth 16384 in
theorem byt_8 (x : Int32) (s : Nat) : ∃ i : Int8, byt x s = i.toInt32 := by unfold byt; exact ⟨_, rfl⟩
set_option maxRecDepth 16384 in
theorem s75 {X : Nat × (Nat → Int32)} {k : Nat} {h : A_H} {T : Nat} {D : Gh} {S : Nat → Nat} {o n : Nat} {H : Nat → Nat → Nat} {m : Nat} {K : Nat → Nat → Nat} {tn : Nat} (j : J X k h T D S o n H m K tn) (a b c d e : Int32) : Stq X k 75 193 [.int a, .int b, .int c, .int d, .int e] h := by
  obtain ⟨⟨L, -, -, jx, -⟩, ⟨hT, -⟩, -, -, ⟨e1, e2, e3⟩, ⟨t1, t2, t3, t4⟩⟩ := id j
  have hT3 : T = 3 ∨ T = 42 := hT
  by_cases ht : tn + 20 ≤ 1100
  · obtain ⟨h1, c1, f1, c2, c3, c4⟩ := a75 L ht t1 a b c d e
    have L1 := FR_Ly f1 L
    obtain ⟨h2, d1, f2, d2, d3, d4⟩ := m193 L1 ht (by rw [FR_I f1 (by unfold tpF; omega)]; exact t2) a b c d e
    refine ⟨_, h1, h2, c1, d1, L1, by rw [f1.2.2.2.2.2.1]; exact jx, ?_⟩
    have I : ∀ a b, ¬ tpF a b → ¬ tmF a b → hI h2 a b = hI h a b := fun a b q1 q2 => (FR_I f2 q2).trans (FR_I f1 q1)
    have J1 : ∀ b, hI h2 1 b = hI h1 1 b := fun b => FR_I f2 (by unfold tmF; omega)
    refine J_up j (tn' := tn + 20) (by rw [f2.1, f1.1]; omega) (by rw [f2.1, f1.1]; omega) (by rw [f2.2.1, f1.2.1]; omega) (by rw [f2.2.2.2.2.2.1, f1.2.2.2.2.2.1]) (fun x _ => by rw [f2.2.2.1, f1.2.2.1]) (fun x y _ _ => by rw [f2.2.2.2.2.1, f1.2.2.2.2.1]) (fun y => by rw [f2.2.2.2.1, f1.2.2.2.1]) (fun x y _ q => I x y (by unfold kp at q; unfold tpF; omega) (by unfold kp at q; unfold tmF; omega)) ?_ ?_ ?_ ⟨?_, d2, ht, ?_⟩
    · rw [I 124 1 (by unfold tpF; omega) (by unfold tmF; omega), I 0 8 (by unfold tpF; omega) (by unfold tmF; omega)]; exact e1
    · rw [I 124 2 (by unfold tpF; omega) (by unfold tmF; omega), I 0 8 (by unfold tpF; omega) (by unfold tmF; omega), I 2 5 (by unfold tpF; omega) (by unfold tmF; omega)]; exact e2
    · rw [I 124 12 (by unfold tpF; omega) (by unfold tmF; omega), I 2 4 (by unfold tpF; omega) (by unfold tmF; omega)]; exact e3
    · rw [FR_I f2 (by unfold tmF; omega)]; exact c2
    · intro i hi
      rw [J1]
      by_cases hlt : i < tn
      · rw [d3 i hlt, c3 i hlt, FR_I f1 (by unfold tpF; omega)]; exact t4 i hlt
      · obtain ⟨q, rfl⟩ : ∃ q, i = tn + q := ⟨i - tn, by omega⟩
        rw [d4 q (by omega), c4 q (by omega)]
        exact ⟨rfl, byt_8 _ _⟩
  · exact ⟨-1, h, wI h 124 0 0, a75b L t3 ht t1 a b c d e, m193b L t3 ht t2 a b c d e, L, jx, J_w0 j 0⟩
set_option maxRecDepth 16384 in
theorem Stq_a {X : Nat × (Nat → Int32)} {k : Nat} {h : A_H} {T : Nat} {D : Gh} {S : Nat → Nat} {o n : Nat} {H : Nat → Nat → Nat} {m : Nat} {K : Nat → Nat → Nat} {tn : Nat} (j : J X k h T D S o n H m K tn) {c m' : Nat} {as : List Value} {v : Int32} {S' : Nat → Nat} {n' : Nat} {H' : Nat → Nat → Nat} (ce : Ca c (.ref 0 :: as) h v 0 D S' n' H') (qe : ∀ h1, FR ca h h1 → Qa m' (.ref 124 :: as) h1 v 0 S' n' H') (hB : ¬ hP h 124 3 = none) (wd : WD D S') (w1 : ∀ i, i < n' → WD D (H' i)) : Stq X k c m' as h := by
  obtain ⟨h1, o', c1, f1, c3, c4, c5⟩ := ce
  obtain ⟨h2, d1, f2, d2, d3, d4, d5, d6, d7⟩ := qe h1 f1
  obtain ⟨⟨L, -, -, jx, -⟩, -, ⟨-, mc, -, mm, -, w2⟩, -, -, -⟩ := id j
  refine ⟨v, h1, h2, c1, d1, FR_Ly f1 L, by rw [f1.2.2.2.2.2.1]; exact jx, ?_⟩
  have x2 : hI h2 0 8 = 0 := by rw [FR_I f2 (by unfold ma; omega)]; exact c3
  exact J_mk j (FR_tr (ca_v f1) (ma_v f2)) (fun z => absurd z hB) (FR_CS f2 c4 (fun a b i1 i2 => by unfold ma; omega)) wd d4 (HC_FR f2 c5 (fun a b i1 => by unfold ma; omega)) (MC_FR f2 (MC_FR f1 mc (by unfold ca; omega) (fun a b i1 => by unfold ca; omega)) (by unfold ma; omega) (fun a b i1 => by unfold ma; omega)) d5 ⟨by rw [d7, FR_I f1 (by unfold ca; omega)]; exact mm.1, fun i hi jj hj => by rw [d6, FR_I f1 (by unfold ca; omega)]; exact mm.2 i hi jj hj⟩ w1 w2 (by rw [d2, x2]) d3 (by rw [x2]; decide)
set_option maxRecDepth 16384 in
theorem Ma_at {h h1 : A_H} {B : Nat} {D : Gh} {S : Nat → Nat} {n : Nat} {H : Nat → Nat → Nat} (f : FR ca h h1) (L : Ly h) (b1 : hP h 124 3 = some B) (b2 : ML h B) (b3 : MB h B D) (r : RW h 126 S) (hm : HM h n H) : Ly h1 ∧ hP h1 124 3 = some B ∧ ML h1 B ∧ MB h1 B D ∧ RW h1 126 S ∧ HM h1 n H := by
  have := m_134 b2
  exact ⟨FR_Ly f L, by rw [FR_P f]; exact b1, FR_ML f b2, FR_MB f b3 (fun a b ha q => by unfold ca at q; omega), fun i hi => by rw [FR_I f (by unfold ca; omega)]; exact r i hi, HM_FR f hm (by unfold ca; omega) (fun b => by unfold ca; omega)⟩
set_option maxRecDepth 16384 in
theorem WD_p {D : Gh} {S : Nat → Nat} {n : Nat} {H : Nat → Nat → Nat} (wd : WD D S) (w1 : ∀ i, i < n → WD D (H i)) : ∀ i, i < pN n → WD D (pH n H S i) := by
  intro i hi
  unfold pN at hi
  show WD D (if n = 16 then (if i = 15 then S else H (i + 1)) else (if i = n then S else H i))
  by_cases c : n = 16
  · rw [if_pos c] at hi
    rw [if_pos c]
    by_cases c2 : i = 15
    · rw [if_pos c2]; exact wd
    · rw [if_neg c2]; exact w1 (i + 1) (by omega)
  · rw [if_neg c] at hi
    rw [if_neg c]
    by_cases c2 : i = n
    · rw [if_pos c2]; exact wd
    · rw [if_neg c2]; exact w1 i (by omega)
set_option maxRecDepth 16384 in
theorem s124 {X : Nat × (Nat → Int32)} {k : Nat} {h : A_H} {T : Nat} {D : Gh} {S : Nat → Nat} {o n : Nat} {H : Nat → Nat → Nat} {m : Nat} {K : Nat → Nat → Nat} {tn : Nat} (j : J X k h T D S o n H m K tn) (x : Int32) : Stq X k 124 268 [.int x] h := by
  obtain ⟨⟨L, -, -, jx, -⟩, ⟨hT, p03, -, w, ct, cs, wd, r⟩, ⟨hc, mc, hm, mm, w1, w2⟩, br, -, -⟩ := id j
  have k5 := f_nG w
  have n16 := hc.2.2.2.1
  cases e : vd (D 0 5) x with
  | true =>
    obtain ⟨g, hg, rfl⟩ := vd_T (by omega) e
    rcases br with ⟨b1, b2, b3, -⟩ | ⟨B, b1, b2, b3, b4, b5, b6⟩
    · subst b3; exact absurd hg (Nat.not_lt_zero _)
    · cases q : (has0 S g && decide (0 < S (8 + D 14 g))) with
      | true =>
        have q' := q
        rw [Bool.and_eq_true] at q'
        have q1 : has0 S g = true := q'.1
        have q2 : 0 < S (8 + D 14 g) := of_decide_eq_true q'.2
        exact Stq_a j (a124 L hT w ct p03 cs wd hc hg q1 q2) (fun h1 f1 => by
          obtain ⟨L1, hB1, l1, mb1, r1, hm1⟩ := Ma_at f1 L b1 b2 b3 r hm
          exact m268 L1 hB1 l1 w mb1 wd r1 n16 hm1 hg q1 q2) (by rw [b1]; exact Option.some_ne_none _) (WD_eS w wd hg q1 q2) (WD_p wd w1)
      | false => exact Stq_q j (a124c L hT w ct p03 cs wd hg q) (fun h1 f1 => by
          obtain ⟨L1, hB1, l1, mb1, r1⟩ := M_at f1 L b1 b2 b3 r
          exact m268c L1 hB1 l1 w mb1 wd r1 hg q) (by decide)
  | false => exact Stq_q j (a124b L hT w ct p03 cs wd e) (fun h1 f1 => m268b (FR_Ly f1 L) (Mq_at f1 br) e) (by decide)
set_option maxRecDepth 16384 in
theorem s125 {X : Nat × (Nat → Int32)} {k : Nat} {h : A_H} {T : Nat} {D : Gh} {S : Nat → Nat} {o n : Nat} {H : Nat → Nat → Nat} {m : Nat} {K : Nat → Nat → Nat} {tn : Nat} (j : J X k h T D S o n H m K tn) (x : Int32) (z : Bool) : Stq X k 125 269 [.int x, .int (bI z)] h := by
  obtain ⟨⟨L, -, -, jx, -⟩, ⟨hT, p03, -, w, ct, cs, wd, r⟩, ⟨hc, mc, hm, mm, w1, w2⟩, br, -, -⟩ := id j
  have k5 := f_nG w
  have n16 := hc.2.2.2.1
  cases e : vd (D 0 5) x with
  | true =>
    obtain ⟨g, hg, rfl⟩ := vd_T (by omega) e
    rcases br with ⟨b1, b2, b3, -⟩ | ⟨B, b1, b2, b3, b4, b5, b6⟩
    · subst b3; exact absurd hg (Nat.not_lt_zero _)
    · cases q : (has0 S g && (hid S g ^^ z)) with
      | true =>
        have q' := q
        rw [Bool.and_eq_true] at q'
        have q1 : has0 S g = true := q'.1
        have q2 : hid S g = !z := by
          have q3 := q'.2
          cases u1 : hid S g <;> cases u2 : z <;> rw [u1, u2] at q3 <;> first | rfl | exact absurd q3 (by decide)
        exact Stq_a j (a125 L hT w ct p03 cs wd hc hg q1 q2) (fun h1 f1 => by
          obtain ⟨L1, hB1, l1, mb1, r1, hm1⟩ := Ma_at f1 L b1 b2 b3 r hm
          exact m269 L1 hB1 l1 w mb1 wd r1 n16 hm1 hg q1 q2) (by rw [b1]; exact Option.some_ne_none _) (WD_hd w wd hg) (WD_p wd w1)
      | false => exact Stq_q j (a125c L hT w ct p03 cs wd hg q) (fun h1 f1 => by
          obtain ⟨L1, hB1, l1, mb1, r1⟩ := M_at f1 L b1 b2 b3 r
          exact m269c L1 hB1 l1 w mb1 wd r1 hg q) (by decide)
  | false => exact Stq_q j (a125b L hT w ct p03 cs wd e) (fun h1 f1 => m269b (FR_Ly f1 L) (Mq_at f1 br) e) (by decide)
set_option maxRecDepth 16384 in
theorem s126 {X : Nat × (Nat → Int32)} {k : Nat} {h : A_H} {T : Nat} {D : Gh} {S : Nat → Nat} {o n : Nat} {H : Nat → Nat → Nat} {m : Nat} {K : Nat → Nat → Nat} {tn : Nat} (j : J X k h T D S o n H m K tn) (x y : Int32) : Stq X k 126 270 [.int x, .int y] h := by
  obtain ⟨⟨L, -, -, jx, -⟩, ⟨hT, p03, -, w, ct, cs, wd, r⟩, ⟨hc, mc, hm, mm, w1, w2⟩, br, -, -⟩ := id j
  have k3 := f_nt w
  have k4 := f_ng w
  have k5 := f_nG w
  have n16 := hc.2.2.2.1
  cases e : decide (eit (eit (gv (D 0 3) x) (gv (D 0 4) y)) (dv 0) = 0) with
  | true =>
    obtain ⟨e1, e2⟩ := eit_T e
    obtain ⟨e3, e4⟩ := eit_T e1
    obtain ⟨t, ht, rfl⟩ := gv_T (by omega) e3
    obtain ⟨q, hq, rfl⟩ := gv_T (by omega) e4
    rcases br with ⟨b1, b2, b3, -⟩ | ⟨B, b1, b2, b3, b4, b5, b6⟩
    · subst b3; exact absurd ht (Nat.not_lt_zero _)
    · by_cases hne : msk (D 0 5) (has D S t) = 0
      · exact Stq_q j (a126c L hT w ct p03 cs wd ht hq hne) (fun h1 f1 => by
          obtain ⟨L1, hB1, l1, mb1, r1⟩ := M_at f1 L b1 b2 b3 r
          exact m270c L1 hB1 l1 w mb1 wd r1 ht hq hne) (by decide)
      · exact Stq_a j (a126 L hT w ct p03 cs wd hc ht hq hne) (fun h1 f1 => by
          obtain ⟨L1, hB1, l1, mb1, r1, hm1⟩ := Ma_at f1 L b1 b2 b3 r hm
          exact m270 L1 hB1 l1 w mb1 wd r1 n16 hm1 ht hq hne) (by rw [b1]; exact Option.some_ne_none _) (WD_crs w wd ht) (WD_p wd w1)
  | false => exact Stq_q j (a126b L hT w ct p03 cs wd e) (fun h1 f1 => m270b (FR_Ly f1 L) (Mq_at f1 br) e) (cc2_4 (cc2_e (cc2_e (cc2_g _ _) (cc2_g _ _)) (cc2_d _)))
set_option maxRecDepth 16384 in
theorem nd_2 {x : Int32} (e : decide (nd x = 0) = false) : nd x = 2 := by
  unfold nd at e ⊢
  cases h1 : decide (x < 1) with
  | true => rfl
  | false => cases h2 : decide ((60 : Int32) < x) with
    | true => rfl
    | false => rw [h1, h2] at e; exact absurd e (by decide)
set_option maxRecDepth 16384 in
theorem s127 {X : Nat × (Nat → Int32)} {k : Nat} {h : A_H} {T : Nat} {D : Gh} {S : Nat → Nat} {o n : Nat} {H : Nat → Nat → Nat} {m : Nat} {K : Nat → Nat → Nat} {tn : Nat} (j : J X k h T D S o n H m K tn) (x : Int32) : Stq X k 127 271 [.int x] h := by
  obtain ⟨⟨L, -, -, jx, -⟩, ⟨hT, p03, -, w, ct, cs, wd, r⟩, ⟨hc, mc, hm, mm, w1, w2⟩, br, -, -⟩ := id j
  have n16 := hc.2.2.2.1
  rcases id br with ⟨b1, b2, b3, -⟩ | ⟨B, b1, b2, b3, b4, b5, b6⟩
  · have z : eit (bif decide (hI h 0 4 = 0) then 1 else 0) (nd x) = 1 := by rw [b2]; rfl
    have ce := a127b L hT w ct p03 cs wd (x := x) (by rw [z]; rfl)
    rw [z] at ce
    exact Stq_q j ce (fun h1 f1 => by
      have q := m271b (FR_Ly f1 L) (Mq_at f1 br) (x := x) (Or.inl (by rw [FR_P f1]; exact b1))
      rw [show (bif (hP h1 124 3).isSome then (2 : Int32) else 1) = 1 by rw [FR_P f1, b1]; rfl] at q
      exact q) (by decide)
  · have z : eit (bif decide (hI h 0 4 = 0) then 1 else 0) (nd x) = nd x := by rw [b4]; rfl
    cases e : decide (nd x = 0) with
    | true =>
      obtain ⟨d, rfl, h1, h2⟩ := nd_T e
      by_cases hd : S 17 + d ≤ 300
      · exact Stq_a j (a127 L hT w ct p03 cs wd b4 hc h1 h2 hd) (fun g1 f1 => by
          obtain ⟨L1, hB1, l1, mb1, r1, hm1⟩ := Ma_at f1 L b1 b2 b3 r hm
          exact m271 L1 hB1 l1 w mb1 wd r1 n16 hm1 h1 h2 hd) (by rw [b1]; exact Option.some_ne_none _) (WD_dy w wd hd) (WD_p wd w1)
      · exact Stq_q j (a127c L hT w ct p03 cs wd b4 h1 h2 hd) (fun g1 f1 => by
          obtain ⟨L1, hB1, l1, mb1, r1⟩ := M_at f1 L b1 b2 b3 r
          exact m271c L1 hB1 l1 w mb1 wd r1 h1 h2 hd) (by decide)
    | false =>
      have ce := a127b L hT w ct p03 cs wd (x := x) (by rw [z]; exact e)
      rw [z, nd_2 e] at ce
      exact Stq_q j ce (fun h1 f1 => by
        have q := m271b (FR_Ly f1 L) (Mq_at f1 br) (x := x) (Or.inr e)
        rw [show (bif (hP h1 124 3).isSome then (2 : Int32) else 1) = 2 by rw [FR_P f1, b1]; rfl] at q
        exact q) (by decide)
set_option maxRecDepth 16384 in
theorem s128 {X : Nat × (Nat → Int32)} {k : Nat} {h : A_H} {T : Nat} {D : Gh} {S : Nat → Nat} {o n : Nat} {H : Nat → Nat → Nat} {m : Nat} {K : Nat → Nat → Nat} {tn : Nat} (j : J X k h T D S o n H m K tn) : Stq X k 128 272 [] h := by
  obtain ⟨⟨L, -, -, jx, -⟩, ⟨hT, p03, -, w, ct, cs, wd, r⟩, ⟨hc, mc, hm, mm, w1, w2⟩, br, -, -⟩ := id j
  have n16 := hc.2.2.2.1
  rcases Nat.eq_zero_or_pos n with e | e
  · subst e
    exact Stq_q j (a128b L hc) (fun h1 f1 => m272b (FR_Ly f1 L) (Or.inr (HM_FR f1 hm (by unfold cq; omega) (fun b => by unfold cq; omega)))) (by decide)
  · obtain ⟨n', rfl⟩ : ∃ n', n = n' + 1 := ⟨n - 1, by omega⟩
    rcases br with ⟨b1, b2, b3, b4, b5, b6⟩ | ⟨B, b1, b2, b3, b4, b5, b6⟩
    · exact absurd b5 (by omega)
    · exact Stq_a j (a128 L hc) (fun h1 f1 => by
        obtain ⟨L1, hB1, l1, mb1, r1, hm1⟩ := Ma_at f1 L b1 b2 b3 r hm
        exact m272 L1 hB1 l1 w mb1 wd r1 (by omega) hm1) (by rw [b1]; exact Option.some_ne_none _) (w1 n' (by omega)) (fun i hi => w1 i (by omega))
set_option maxRecDepth 16384 in
theorem s130 {X : Nat × (Nat → Int32)} {k : Nat} {h : A_H} {T : Nat} {D : Gh} {S : Nat → Nat} {o n : Nat} {H : Nat → Nat → Nat} {m : Nat} {K : Nat → Nat → Nat} {tn : Nat} (j : J X k h T D S o n H m K tn) (x : Int32) : Stq X k 130 274 [.int x] h := by
  obtain ⟨⟨L, -, -, jx, -⟩, ⟨hT, p03, -, w, ct, cs, wd, r⟩, ⟨hc, mc, hm, mm, w1, w2⟩, br, -, -⟩ := id j
  have m3 := mc.2.1
  cases e : vd m x with
  | true =>
    obtain ⟨i, hi, rfl⟩ := vd_T (by omega) e
    rcases br with ⟨b1, b2, b3, b4, b5, b6⟩ | ⟨B, b1, b2, b3, b4, b5, b6⟩
    · exact absurd hi (by omega)
    · exact Stq_a j (a130 L mc hi hc) (fun h1 f1 => by
        obtain ⟨L1, hB1, l1, mb1, r1, hm1⟩ := Ma_at f1 L b1 b2 b3 r hm
        exact m274 L1 hB1 l1 w mb1 wd r1 m3 (MM_FR f1 mm (by unfold ca; omega) (fun b => by unfold ca; omega)) hi) (by rw [b1]; exact Option.some_ne_none _) (w2 i hi) (fun i hi => absurd hi (Nat.not_lt_zero _))
  | false => exact Stq_q j (a130b L mc e) (fun h1 f1 => m274b (FR_Ly f1 L) (MM_FR f1 mm (by unfold cq; omega) (fun b => by unfold cq; omega)) (Or.inr e)) (by decide)
set_option maxRecDepth 16384 in
theorem cm_v {h h' : A_H} (f : FR cm h h') : FR vV h h' := FR_mo (fun a b q => by unfold cm sF at q; unfold vV; omega) f
set_option maxRecDepth 16384 in
theorem s129 {X : Nat × (Nat → Int32)} {k : Nat} {h : A_H} {T : Nat} {D : Gh} {S : Nat → Nat} {o n : Nat} {H : Nat → Nat → Nat} {m : Nat} {K : Nat → Nat → Nat} {tn : Nat} (j : J X k h T D S o n H m K tn) : Stq X k 129 273 [] h := by
  obtain ⟨⟨L, -, -, jx, -⟩, ⟨hT, p03, -, w, ct, cs, wd, r⟩, ⟨hc, mc, hm, mm, w1, w2⟩, br, -, -⟩ := id j
  have m3 := mc.2.1
  have no : ∀ h1, FR cq h h1 → MM h1 m K := fun h1 f1 => MM_FR f1 mm (by unfold cq; omega) (fun b => by unfold cq; omega)
  rcases id br with ⟨b1, b2, b3, -⟩ | ⟨B, b1, b2, b3, b4, b5, b6⟩
  · have ce := a129b L (Or.inl b2) mc (Or.inl b2)
    rw [show (bif decide (hI h 0 4 = 0) then (1 : Int32) else 3) = 1 by rw [b2]; rfl] at ce
    exact Stq_q j ce (fun h1 f1 => by
      have q := m273b (FR_Ly f1 L) (no h1 f1) (Or.inl (by rw [FR_P f1]; exact b1))
      rw [show (bif (hP h1 124 3).isSome then (3 : Int32) else 1) = 1 by rw [FR_P f1, b1]; rfl] at q
      exact q) (by decide)
  · by_cases e : m = 3
    · have ce := a129b L (Or.inr b4) mc (Or.inr e)
      rw [show (bif decide (hI h 0 4 = 0) then (1 : Int32) else 3) = 3 by rw [b4]; rfl] at ce
      exact Stq_q j ce (fun h1 f1 => by
        have q := m273b (FR_Ly f1 L) (no h1 f1) (Or.inr e)
        rw [show (bif (hP h1 124 3).isSome then (3 : Int32) else 1) = 3 by rw [FR_P f1, b1]; rfl] at q
        exact q) (by decide)
    · have hlt : m < 3 := by omega
      obtain ⟨h1, c1, f1, c3, c4, c5⟩ := a129 L cs b4 mc hlt
      have I1 : ∀ a b, ¬ cm a b → hI h1 a b = hI h a b := fun a b q => FR_I f1 q
      have hB := m_134 b2
      have L1 := FR_Ly f1 L
      obtain ⟨h2, d1, f2, d2, d3, d4, d5⟩ := m273 L1 (by rw [FR_P f1]; exact b1) (FR_ML f1 b2) w (FR_MB f1 b3 (fun a b ha q => by unfold cm sF at q; omega)) wd (fun i hi => by rw [I1 126 i (by unfold cm sF; omega)]; exact r i hi) hlt (MM_FR f1 mm (by unfold cm sF; omega) (fun b => by unfold cm sF; omega))
      have I : ∀ a b, ¬ cm a b → ¬ a = 129 → ¬ (a = 124 ∧ (b ≤ 2 ∨ b = 20)) → hI h2 a b = hI h a b := fun a b q1 q2 q3 => (d5 a b q2 q3).trans (I1 a b q1)
      have x2 : hI h2 0 8 = 0 := (d5 0 8 (by omega) (by omega)).trans c3
      refine ⟨nI m, h1, h2, c1, d1, L1, by rw [f1.2.2.2.2.2.1]; exact jx, ?_⟩
      refine J_mk j (FR_tr (cm_v f1) (ma_v f2)) (fun z => absurd (z.symm.trans b1) (fun z2 => Option.some_ne_none _ z2.symm)) (CS_eq cs (fun a b i1 i2 => I a b (by unfold cm sF; omega) (by omega) (by omega))) wd (fun i hi => (I 126 i (by unfold cm sF; omega) (by omega) (by omega)).trans (r i hi)) (o' := o) (n' := n) (H' := H) ?_ (MC_FR f2 c4 (by unfold ma; omega) (fun a b i1 => by unfold ma; omega)) ?_ d4 w1 ?_ (by rw [d2, x2]) d3 (by rw [x2]; decide)
      · exact ⟨(I 79 1 (by unfold cm sF; omega) (by omega) (by omega)).trans hc.1, hc.2.1, (I 79 2 (by unfold cm sF; omega) (by omega) (by omega)).trans hc.2.2.1, hc.2.2.2.1, fun i hi => CS_eq (hc.2.2.2.2 i hi) (fun a b i1 i2 => I a b (by unfold cm sF; omega) (by omega) (by omega))⟩
      · exact ⟨(I 124 19 (by unfold cm sF; omega) (by omega) (by omega)).trans hm.1, fun i hi jj hj => (I 128 _ (by unfold cm sF; omega) (by omega) (by omega)).trans (hm.2 i hi jj hj)⟩
      · intro i hi
        show WD D (if i = m then S else K i)
        by_cases c2 : i = m
        · rw [if_pos c2]; exact wd
        · rw [if_neg c2]; exact w2 i (by omega)
