set_option maxRecDepth 16384 in
theorem x_P0 {h : A_H} (L : Ly h) : hP h 0 0 = some 1 := ly_P L rfl
set_option maxRecDepth 16384 in
theorem x_P2 {h : A_H} (L : Ly h) : hP h 0 2 = some 2 := ly_P L rfl
set_option maxRecDepth 16384 in
theorem x_O2 {h : A_H} (L : Ly h) : isO h 2 7 = true := ly_O L (by decide) rfl
set_option maxRecDepth 16384 in
theorem x_A1 {h : A_H} {k : Nat} (L : Ly h) (hk : k < 1100) : isA h 1 1 (nI k) = true := ly_A L (by decide) rfl hk (by decide)
set_option maxRecDepth 16384 in
theorem y_P5 {h : A_H} (L : Ly h) : hP h 124 5 = some 125 := ly_P L rfl
set_option maxRecDepth 16384 in
theorem y_A125 {h : A_H} {k : Nat} (L : Ly h) (hk : k < 1100) : isA h 125 1 (nI k) = true := ly_A L (by decide) rfl hk (by decide)
def byt (x : Int32) (s : Nat) : Int32 := ((x >>> (nI s &&& 31)).toInt8.toInt32).toInt8.toInt32
def tpF (a b : Nat) : Prop := (a = 0 ∧ b = 1) ∨ a = 1
set_option maxRecDepth 16384 in
theorem f76 {h : A_H} (L : Ly h) {tn : Nat} (ht : tn < 1100) (e : hI h 0 1 = nI tn) (x : Int32) {s : Nat} (hs : s < 32) : R 76 2 [some (.ref 0), some (.int x), some (.int (nI s))] [] h = R 76 2 [some (.ref 0), some (.int x), some (.int (nI s + (-8)))] [] (wI (wI h 1 tn (byt x s)) 0 1 (nI (tn + 1))) := by
  have i1 : hI (wI h 1 tn (byt x s)) 0 1 = nI tn := by rw [hI_wI, if_neg (by omega)]; exact e
  have n1 : decide ((1100 : Int32) ≤ nI tn) = false := by rw [show (1100 : Int32) = nI 1100 from rfl]; exact dF (by rw [w_le (by decide) (by omega)]; omega)
  rw [b76_2, dF (w_nn (show s < 2147483648 by omega))]
  simp only [cond_true, cond_false, decide_true, Bool.and_true, Bool.true_and, Bool.and_self, Bool.and_false, Bool.false_and, Bool.not_true, Bool.not_false, Bool.or_true, Bool.true_or, Bool.or_false, Bool.false_or, is_some, gd_some, bk_v, bk_u, x_O L, e, n1, x_P0 L, x_A1 L ht, w_cl (show tn < 2147483648 by omega), b76_17, isO_wI]
  rw [show ((x >>> (nI s &&& 31)).toInt8.toInt32).toInt8.toInt32 = byt x s from rfl, i1, w_s, b76_23]
set_option maxRecDepth 16384 in
theorem c76 {h : A_H} (L : Ly h) {tn : Nat} (ht : tn + 4 ≤ 1100) (e : hI h 0 1 = nI tn) (x : Int32) : ∃ h', C 76 [.ref 0, .int x] h = some (some none, h') ∧ FR tpF h h' ∧ hI h' 0 1 = nI (tn + 4) ∧ (∀ j, j < tn → hI h' 1 j = hI h 1 j) ∧ ∀ i, i < 4 → hI h' 1 (tn + i) = byt x (24 - 8 * i) := by
  have st : ∀ (h : A_H) (k : Nat), k ≤ tn + 3 → hI h 0 1 = nI k → ∀ v, hI (wI (wI h 1 k v) 0 1 (nI (k + 1))) 0 1 = nI (k + 1) := fun h k _ _ v => by rw [hI_wI, if_pos ⟨rfl, rfl⟩]
  rw [e76, b76_0, show (24 : Int32) = nI 24 from rfl]
  rw [f76 L (by omega) e x (by decide), show nI 24 + (-8 : Int32) = nI 16 from rfl]
  rw [f76 (h := wI (wI h 1 tn (byt x 24)) 0 1 (nI (tn + 1))) L (tn := tn + 1) (by omega) (by rw [hI_wI, if_pos ⟨rfl, rfl⟩]) x (by decide), show nI 16 + (-8 : Int32) = nI 8 from rfl]
  rw [f76 (h := wI (wI (wI (wI h 1 tn (byt x 24)) 0 1 (nI (tn + 1))) 1 (tn + 1) (byt x 16)) 0 1 (nI (tn + 1 + 1))) L (tn := tn + 1 + 1) (by omega) (by rw [hI_wI, if_pos ⟨rfl, rfl⟩]) x (by decide), show nI 8 + (-8 : Int32) = nI 0 from rfl]
  rw [f76 (h := wI (wI (wI (wI (wI (wI h 1 tn (byt x 24)) 0 1 (nI (tn + 1))) 1 (tn + 1) (byt x 16)) 0 1 (nI (tn + 1 + 1))) 1 (tn + 1 + 1) (byt x 8)) 0 1 (nI (tn + 1 + 1 + 1))) L (tn := tn + 1 + 1 + 1) (by omega) (by rw [hI_wI, if_pos ⟨rfl, rfl⟩]) x (by decide)]
  rw [b76_2, show decide (nI 0 + (-8 : Int32) < 0) = true from rfl, cond_true]
  refine ⟨_, rfl, ?_, ?_, ?_, ?_⟩
  · exact FR_wI (FR_wI (FR_wI (FR_wI (FR_wI (FR_wI (FR_wI (FR_wI (FR_rfl tpF h) _ (Or.inr rfl)) _ (Or.inl ⟨rfl, rfl⟩)) _ (Or.inr rfl)) _ (Or.inl ⟨rfl, rfl⟩)) _ (Or.inr rfl)) _ (Or.inl ⟨rfl, rfl⟩)) _ (Or.inr rfl)) _ (Or.inl ⟨rfl, rfl⟩)
  · rw [hI_wI, if_pos ⟨rfl, rfl⟩]
  · intro j hj
    rw [hI_wI, if_neg (by omega), hI_wI, if_neg (by omega), hI_wI, if_neg (by omega), hI_wI, if_neg (by omega), hI_wI, if_neg (by omega), hI_wI, if_neg (by omega), hI_wI, if_neg (by omega), hI_wI, if_neg (by omega)]
  · intro i hi
    have : i = 0 ∨ i = 1 ∨ i = 2 ∨ i = 3 := by omega
    rcases this with rfl | rfl | rfl | rfl
    · rw [hI_wI, if_neg (by omega), hI_wI, if_neg (by omega), hI_wI, if_neg (by omega), hI_wI, if_neg (by omega), hI_wI, if_neg (by omega), hI_wI, if_neg (by omega), hI_wI, if_neg (by omega), hI_wI, if_pos (by omega)]
    · rw [hI_wI, if_neg (by omega), hI_wI, if_neg (by omega), hI_wI, if_neg (by omega), hI_wI, if_neg (by omega), hI_wI, if_neg (by omega), hI_wI, if_pos (by omega)]
    · rw [hI_wI, if_neg (by omega), hI_wI, if_neg (by omega), hI_wI, if_neg (by omega), hI_wI, if_pos (by omega)]
    · rw [hI_wI, if_neg (by omega), hI_wI, if_pos (by omega)]
def sel (a b c d e : Int32) (k : Nat) : Int32 := if k < 4 then a else if k < 8 then b else if k < 12 then c else if k < 16 then d else e
set_option maxRecDepth 16384 in
theorem n20 {tn : Nat} (ht : tn ≤ 1100) : decide (nI tn + 20 ≤ 1100) = decide (tn + 20 ≤ 1100) := by
  rw [show (20 : Int32) = nI 20 from rfl, nI_add, show (1100 : Int32) = nI 1100 from rfl]
  simp only [w_le (show tn + 20 < 2147483648 by omega) (show 1100 < 2147483648 by decide)]
set_option maxRecDepth 16384 in
theorem a75 {h : A_H} (L : Ly h) {tn : Nat} (ht : tn + 20 ≤ 1100) (e0 : hI h 0 1 = nI tn) (a b c d e : Int32) : ∃ h', C 75 [.ref 0, .int a, .int b, .int c, .int d, .int e] h = some (some (some (.int (nI (tn + 20)))), h') ∧ FR tpF h h' ∧ hI h' 0 1 = nI (tn + 20) ∧ (∀ j, j < tn → hI h' 1 j = hI h 1 j) ∧ ∀ i, i < 20 → hI h' 1 (tn + i) = byt (sel a b c d e i) (24 - 8 * (i % 4)) := by
  obtain ⟨h1, g1, f1, n1, o1, i1⟩ := c76 L (tn := tn) (by omega) e0 a
  obtain ⟨h2, g2, f2, n2, o2, i2⟩ := c76 (FR_Ly f1 L) (tn := tn + 4) (by omega) n1 b
  obtain ⟨h3, g3, f3, n3, o3, i3⟩ := c76 (FR_Ly f2 (FR_Ly f1 L)) (tn := tn + 4 + 4) (by omega) n2 c
  obtain ⟨h4, g4, f4, n4, o4, i4⟩ := c76 (FR_Ly f3 (FR_Ly f2 (FR_Ly f1 L))) (tn := tn + 4 + 4 + 4) (by omega) n3 d
  obtain ⟨h5, g5, f5, n5, o5, i5⟩ := c76 (FR_Ly f4 (FR_Ly f3 (FR_Ly f2 (FR_Ly f1 L)))) (tn := tn + 4 + 4 + 4 + 4) (by omega) n4 e
  have L1 := FR_Ly f1 L
  have L2 := FR_Ly f2 L1
  have L3 := FR_Ly f3 L2
  have L4 := FR_Ly f4 L3
  have L5 := FR_Ly f5 L4
  refine ⟨h5, ?_, FR_tr f1 (FR_tr f2 (FR_tr f3 (FR_tr f4 f5))), n5, ?_, ?_⟩
  · rw [e75]
    simp only [b75_0, b75_11, b75_14, b75_17, b75_20, b75_23, cond_true, cond_false, decide_true, Bool.and_true, Bool.true_and, Bool.and_self, Bool.and_false, Bool.false_and, Bool.not_true, Bool.not_false, Bool.or_true, Bool.true_or, Bool.or_false, Bool.false_or, is_some, gd_some, bk_v, bk_u, x_O L, e0, n20 (show tn ≤ 1100 by omega), dT ht, g1, x_O L1, g2, x_O L2, g3, x_O L3, g4, x_O L4, g5, x_O L5, n5]
  · intro j hj
    rw [o5 j (by omega), o4 j (by omega), o3 j (by omega), o2 j (by omega), o1 j hj]
  · intro i hi
    unfold sel
    by_cases c1 : i < 4
    · rw [if_pos c1, o5 _ (by omega), o4 _ (by omega), o3 _ (by omega), o2 _ (by omega), i1 i c1, Nat.mod_eq_of_lt c1]
    · rw [if_neg c1]
      by_cases c2 : i < 8
      · have := i2 (i - 4) (by omega)
        rw [show tn + 4 + (i - 4) = tn + i by omega] at this
        rw [if_pos c2, o5 _ (by omega), o4 _ (by omega), o3 _ (by omega), this, show i % 4 = i - 4 by omega]
      · rw [if_neg c2]
        by_cases c3 : i < 12
        · have := i3 (i - 8) (by omega)
          rw [show tn + 4 + 4 + (i - 8) = tn + i by omega] at this
          rw [if_pos c3, o5 _ (by omega), o4 _ (by omega), this, show i % 4 = i - 8 by omega]
        · rw [if_neg c3]
          by_cases c4 : i < 16
          · have := i4 (i - 12) (by omega)
            rw [show tn + 4 + 4 + 4 + (i - 12) = tn + i by omega] at this
            rw [if_pos c4, o5 _ (by omega), this, show i % 4 = i - 12 by omega]
          · have := i5 (i - 16) (by omega)
            rw [show tn + 4 + 4 + 4 + 4 + (i - 16) = tn + i by omega] at this
            rw [if_neg c4, this, show i % 4 = i - 16 by omega]
set_option maxRecDepth 16384 in
theorem a75b {h : A_H} (L : Ly h) {tn : Nat} (hn : tn ≤ 1100) (ht : ¬ tn + 20 ≤ 1100) (e0 : hI h 0 1 = nI tn) (a b c d e : Int32) : C 75 [.ref 0, .int a, .int b, .int c, .int d, .int e] h = some (some (some (.int (-1))), h) := by
  rw [e75]
  simp only [b75_0, cond_true, cond_false, decide_true, Bool.and_true, Bool.true_and, Bool.and_self, Bool.and_false, Bool.false_and, Bool.not_true, Bool.not_false, Bool.or_true, Bool.true_or, Bool.or_false, Bool.false_or, is_some, gd_some, bk_v, bk_u, x_O L, e0, n20 hn, dF ht]
def tmF (a b : Nat) : Prop := (a = 124 ∧ (b = 0 ∨ b = 6)) ∨ a = 125
set_option maxRecDepth 16384 in
theorem m193 {h : A_H} (L : Ly h) {tn : Nat} (ht : tn + 20 ≤ 1100) (e0 : hI h 124 6 = nI tn) (a b c d e : Int32) : ∃ h', C 193 [.ref 124, .int a, .int b, .int c, .int d, .int e] h = some (some (some (.int (nI (tn + 20)))), h') ∧ FR tmF h h' ∧ hI h' 124 6 = nI (tn + 20) ∧ (∀ j, j < tn → hI h' 125 j = hI h 125 j) ∧ ∀ i, i < 20 → hI h' 125 (tn + i) = byt (sel a b c d e i) (24 - 8 * (i % 4)) := by
  have L1 : Ly (wI h 124 0 0) := L
  have f1 : FR tmF h (wI h 124 0 0) := FR_wI (FR_rfl _ h) _ (Or.inl (by omega))
  have i6 : hI (wI h 124 0 0) 124 6 = nI tn := by rw [hI_wI, if_neg (by omega)]; exact e0
  obtain ⟨a', ⟨j1, j2, j3, j4⟩, ee⟩ := loop_inv (α := A_H × Option Value) (fun k x => FR tmF h x.1 ∧ hI x.1 124 6 = nI (tn + k) ∧ (∀ j, j < tn → hI x.1 125 j = hI h 125 j) ∧ ∀ i, i < k → hI x.1 125 (tn + i) = byt (sel a b c d e i) (24 - 8 * (i % 4))) (fun k x => R 193 13 [some (.ref 124), some (.int a), some (.int b), some (.int c), some (.int d), some (.int e), some (.int (nI k)), x.2] [] x.1) 20 (by
    intro k x hk i
    obtain ⟨hx, l7⟩ := x
    obtain ⟨x1, x2, x3, x4⟩ := i
    simp only at x1 x2 x3 x4
    have Lx := FR_Ly x1 L
    have zk : nI k - nI k / 4 * 4 = nI (k % 4) := w_mod (b := 4) (by omega) (by decide)
    have zs : (24 : Int32) - 8 * nI (k % 4) = nI (24 - 8 * (k % 4)) := by
      rw [show (8 : Int32) = nI 8 from rfl, w_mul, show (24 : Int32) = nI 24 from rfl, w_sub (by omega)]
    have l20 : decide ((20 : Int32) ≤ nI k) = false := by rw [show (20 : Int32) = nI 20 from rfl]; exact dF (by rw [w_le (by decide) (by omega)]; omega)
    have lk : ∀ m, m < 100 → decide (nI m ≤ nI k) = decide (m ≤ k) := fun m hm => by simp only [w_le (show m < 2147483648 by omega) (show k < 2147483648 by omega)]
    have l4 := lk 4 (by decide)
    have l8 := lk 8 (by decide)
    have l12 := lk 12 (by decide)
    have l16 := lk 16 (by decide)
    rw [show nI 4 = 4 from rfl] at l4
    rw [show nI 8 = 8 from rfl] at l8
    rw [show nI 12 = 12 from rfl] at l12
    rw [show nI 16 = 16 from rfl] at l16
    have i6x : ∀ v, hI (wI hx 125 (tn + k) v) 124 6 = nI (tn + k) := fun v => by rw [hI_wI, if_neg (by omega)]; exact x2
    have fin : ∀ v, v = sel a b c d e k → ∃ a' : A_H × Option Value, (FR tmF h a'.1 ∧ hI a'.1 124 6 = nI (tn + (k + 1)) ∧ (∀ j, j < tn → hI a'.1 125 j = hI h 125 j) ∧ ∀ i, i < k + 1 → hI a'.1 125 (tn + i) = byt (sel a b c d e i) (24 - 8 * (i % 4))) ∧ R 193 13 [some (.ref 124), some (.int a), some (.int b), some (.int c), some (.int d), some (.int e), some (.int (nI (k + 1))), some (.int v)] [] (wI (wI hx 125 (tn + k) (((v >>> (nI (24 - 8 * (k % 4)) &&& 31)).toInt8.toInt32)).toInt8.toInt32) 124 6 (nI (tn + k + 1))) = R 193 13 [some (.ref 124), some (.int a), some (.int b), some (.int c), some (.int d), some (.int e), some (.int (nI (k + 1))), a'.2] [] a'.1 := by
      intro v hv
      refine ⟨(_, _), ⟨FR_wI (FR_wI x1 _ (Or.inr rfl)) _ (Or.inl (by omega)), ?_, fun j hj => ?_, fun i hi => ?_⟩, rfl⟩
      · show hI (wI (wI hx 125 (tn + k) _) 124 6 _) 124 6 = _
        rw [hI_wI, if_pos ⟨rfl, rfl⟩]; rfl
      · show hI (wI (wI hx 125 (tn + k) _) 124 6 _) 125 j = _
        rw [hI_wI, if_neg (by omega), hI_wI, if_neg (by omega)]; exact x3 j hj
      · show hI (wI (wI hx 125 (tn + k) _) 124 6 _) 125 (tn + i) = _
        rw [hI_wI, if_neg (by omega), hI_wI]
        by_cases e : i = k
        · rw [if_pos (by omega), e, hv]; rfl
        · rw [if_neg (by omega)]; exact x4 i (by omega)
    rw [b193_13]
    simp only [l20, l4, l8, l12, l16, cond_true, cond_false, decide_true, Bool.and_true, Bool.true_and, Bool.and_self, Bool.and_false, Bool.false_and, Bool.not_true, Bool.not_false, Bool.or_true, Bool.true_or, Bool.or_false, Bool.false_or, is_some, gd_some, bk_v, bk_u, y_124 Lx, y_P5 Lx, x2, y_A125 Lx (show tn + k < 1100 by omega), w_cl (show tn + k < 2147483648 by omega), zk, zs, b193_53, b193_59, isO_wI, i6x, w_s]
    by_cases c1 : 4 ≤ k
    · by_cases c2 : 8 ≤ k
      · by_cases c3 : 12 ≤ k
        · by_cases c4 : 16 ≤ k
          · simp only [dT c1, dT c2, dT c3, dT c4, cond_true]
            exact fin e (by unfold sel; rw [if_neg (by omega), if_neg (by omega), if_neg (by omega), if_neg (by omega)])
          · simp only [dT c1, dT c2, dT c3, dF c4, cond_true, cond_false]
            exact fin d (by unfold sel; rw [if_neg (by omega), if_neg (by omega), if_neg (by omega), if_pos (by omega)])
        · simp only [dT c1, dT c2, dF c3, cond_true, cond_false]
          exact fin c (by unfold sel; rw [if_neg (by omega), if_neg (by omega), if_pos (by omega)])
      · simp only [dT c1, dF c2, cond_true, cond_false]
        exact fin b (by unfold sel; rw [if_neg (by omega), if_pos (by omega)])
    · simp only [dF c1, cond_false]
      exact fin a (by unfold sel; rw [if_pos (by omega)])) (wI h 124 0 0, none) ⟨f1, i6, fun j _ => by rw [hI_wI, if_neg (by omega)], fun i hi => absurd hi (Nat.not_lt_zero i)⟩
  have Lx := FR_Ly j1 L
  refine ⟨a'.1, ?_, j1, j2, j3, j4⟩
  rw [e193]
  simp only [b193_0, b193_3, cond_true, cond_false, decide_true, Bool.and_true, Bool.true_and, Bool.and_self, Bool.and_false, Bool.false_and, Bool.not_true, Bool.not_false, Bool.or_true, Bool.true_or, Bool.or_false, Bool.false_or, is_some, gd_some, bk_v, bk_u, isO_wI, y_124 L, i6, n20 (show tn ≤ 1100 by omega), dT ht]
  refine Eq.trans ee ?_
  show R 193 13 [_, _, _, _, _, _, some (.int (nI 20)), _] [] a'.1 = _
  rw [b193_13, show decide ((20 : Int32) ≤ nI 20) = true from rfl]
  simp only [cond_true, cond_false, decide_true, Bool.and_true, Bool.true_and, Bool.and_self, Bool.and_false, Bool.false_and, Bool.not_true, Bool.not_false, Bool.or_true, Bool.true_or, Bool.or_false, Bool.false_or, is_some, gd_some, bk_v, bk_u, y_124 Lx, j2]
set_option maxRecDepth 16384 in
theorem m193b {h : A_H} (L : Ly h) {tn : Nat} (hn : tn ≤ 1100) (ht : ¬ tn + 20 ≤ 1100) (e0 : hI h 124 6 = nI tn) (a b c d e : Int32) : C 193 [.ref 124, .int a, .int b, .int c, .int d, .int e] h = some (some (some (.int (-1))), wI h 124 0 0) := by
  have i6 : hI (wI h 124 0 0) 124 6 = nI tn := by rw [hI_wI, if_neg (by omega)]; exact e0
  rw [e193]
  simp only [b193_0, b193_3, cond_true, cond_false, decide_true, Bool.and_true, Bool.true_and, Bool.and_self, Bool.and_false, Bool.false_and, Bool.not_true, Bool.not_false, Bool.or_true, Bool.true_or, Bool.or_false, Bool.false_or, is_some, gd_some, bk_v, bk_u, isO_wI, y_124 L, i6, n20 hn, dF ht]
def szF (D : Gh) (S : Nat → Nat) (n m tn : Nat) : Nat → Int32
  | 0 => nI (D 0 0)
  | 1 => nI (D 0 1)
  | 2 => nI (D 0 2)
  | 3 => nI (D 0 3)
  | 4 => nI (D 0 4)
  | 5 => nI (D 0 5)
  | 6 => nI (D 0 6)
  | 7 => nI (D 0 7)
  | 8 => nI (D 0 9)
  | 9 => nI (S 17)
  | 10 => nI n
  | 11 => nI m
  | _ => nI tn
set_option maxRecDepth 16384 in
theorem lt13 {j : Nat} (h : j < 13) : j = 0 ∨ j = 1 ∨ j = 2 ∨ j = 3 ∨ j = 4 ∨ j = 5 ∨ j = 6 ∨ j = 7 ∨ j = 8 ∨ j = 9 ∨ j = 10 ∨ j = 11 ∨ j = 12 := by omega
set_option maxRecDepth 16384 in
theorem a132 {h : A_H} {T : Nat} {D : Gh} {S : Nat → Nat} (L : Ly h) (hT : isT T) (w : WF D) (c : CT h T D) (hQ : hP h 0 3 = some T) (s : CS h 77 D S) (u : WD D S) {o n m tn j : Nat} {H K : Nat → Nat → Nat} (k : HC h D o n H) (k' : MC h D m K) (et : hI h 0 1 = nI tn) (hj : j < 13) : C 132 [.ref 0, .int (nI j)] h = some (some (some (.int (szF D S n m tn j))), h) := by
  rw [e132, b132_0]
  simp only [cond_true, decide_true, cond_false, Bool.and_true, Bool.true_and, Bool.and_self, Bool.and_false, Bool.false_and, Bool.not_true, Bool.not_false, Bool.or_true, Bool.true_or, Bool.or_false, Bool.false_or, is_some, gd_some, bk_v, bk_u, t_O L hT, t_P9 L hT, t_P10 L hT, t_P11 L hT, t_P12 L hT, t_P13 L hT, t_P14 L hT, t_OC L hT, t_C1 L hT, t_C2 L hT, t_C3 L hT, hQ, x_O L, x_P5 L, x_O77 L, s.1, s.2.1, s.2.2.1, s.2.2.2.1, s.2.2.2.2.1, c_s0 c, c_s1 c, c_s2 c, c_s3 c, c_s4 c, c_s5 c, c_s6 c, c_s7 c, c_nc c, x_P6 L, k_O L, k.2.2.1, k'.1, et]
  rcases lt13 hj with rfl | rfl | rfl | rfl | rfl | rfl | rfl | rfl | rfl | rfl | rfl | rfl | rfl <;> rfl
set_option maxRecDepth 16384 in
theorem vdne {n j : Nat} {x : Int32} (hn : n < 1000) (e : vd n x = false) (hj : j < n) : decide (x = nI j) = false := by
  apply dF
  intro c
  rw [c, vd_of (by omega) hj] at e
  cases e
set_option maxRecDepth 16384 in
theorem a132b {h : A_H} {x : Int32} (e : vd 13 x = false) : C 132 [.ref 0, .int x] h = some (some (some (.int (-1))), h) := by
  have f := fun j (hj : j < 13) => vdne (x := x) (by decide) e hj
  have f0 : decide (x = 0) = false := f 0 (by decide)
  have f1 : decide (x = 1) = false := f 1 (by decide)
  have f2 : decide (x = 2) = false := f 2 (by decide)
  have f3 : decide (x = 3) = false := f 3 (by decide)
  have f4 : decide (x = 4) = false := f 4 (by decide)
  have f5 : decide (x = 5) = false := f 5 (by decide)
  have f6 : decide (x = 6) = false := f 6 (by decide)
  have f7 : decide (x = 7) = false := f 7 (by decide)
  have f8 : decide (x = 8) = false := f 8 (by decide)
  have f9 : decide (x = 9) = false := f 9 (by decide)
  have f10 : decide (x = 10) = false := f 10 (by decide)
  have f11 : decide (x = 11) = false := f 11 (by decide)
  have f12 : decide (x = 12) = false := f 12 (by decide)
  rw [e132, b132_0]
  simp only [f0, f1, f2, f3, f4, f5, f6, f7, f8, f9, f10, f11, f12, cond_false]
set_option maxRecDepth 16384 in
theorem d160y (x : Int32) (h : A_H) : C 160 [.int x, .int 0, .int 11] h = some (some (some (.int (bI (vd 12 x)))), h) := d160 x (k := 11) (by decide) h
set_option maxRecDepth 16384 in
theorem m276 {h : A_H} {B : Nat} {D : Gh} {S : Nat → Nat} (L : Ly h) (hB : hP h 124 3 = some B) (l : ML h B) (w : WF D) (b : MB h B D) (u : WD D S) (r : RW h 126 S) {n m tn j : Nat} {H K : Nat → Nat → Nat} (k : HM h n H) (k' : MM h m K) (et : hI h 124 6 = nI tn) (hj : j < 13) : C 276 [.ref 124, .int (nI j)] h = some (some (some (.int (szF D S n m tn j))), wI h 124 0 0) := by
  have L1 : Ly (wI h 124 0 0) := L; have hB1 : hP (wI h 124 0 0) 124 3 = some B := hB; have l1 : ML (wI h 124 0 0) B := l; have b1 : MB (wI h 124 0 0) B D := MB_wI l (by decide) b; have r1 : RW (wI h 124 0 0) 126 S := RW_wI (by decide) r
  have i6 : hI (wI h 124 0 0) 124 6 = nI tn := by rw [hI_wI, if_neg (by omega)]; exact et
  have i19 : hI (wI h 124 0 0) 124 19 = nI n := by rw [hI_wI, if_neg (by omega)]; exact k.1
  have i20 : hI (wI h 124 0 0) 124 20 = nI m := by rw [hI_wI, if_neg (by omega)]; exact k'.1
  rw [e276]
  by_cases e : j = 12
  · subst e
    simp only [b276_0, b276_3, cond_true, cond_false, decide_true, Bool.and_true, Bool.true_and, Bool.and_self, Bool.and_false, Bool.false_and, Bool.not_true, Bool.not_false, Bool.or_true, Bool.true_or, Bool.or_false, Bool.false_or, is_some, gd_some, bk_v, bk_u, hP_wI, isO_wI, isA_wI, hP_wp, isO_wp, isA_wp, y_124 L, y_P15 L, y_P16 L, hB, show decide (nI 12 = 12) = true from rfl, i6]
    rfl
  · have h12 : decide (nI j = 12) = false := by rw [show (12 : Int32) = nI 12 from rfl]; exact dF (by rw [w_eq (by omega) (by decide)]; exact e)
    simp only [b276_0, b276_3, b276_13, cond_true, cond_false, decide_true, Bool.and_true, Bool.true_and, Bool.and_self, Bool.and_false, Bool.false_and, Bool.not_true, Bool.not_false, Bool.or_true, Bool.true_or, Bool.or_false, Bool.false_or, is_some, gd_some, bk_v, bk_u, hP_wI, isO_wI, isA_wI, hP_wp, isO_wp, isA_wp, y_124 L, y_P15 L, y_P16 L, hB, h12, d160y, vd_of (show 12 < 2147483648 by decide) (show j < 12 by omega), bI_T, i1_0, va_rf, a_isR, a_nul, mB_O l, b_s0 b1, b_s1 b1, b_s2 b1, b_s3 b1, b_s4 b1, b_s5 b1, b_s6 b1, b_s7 b1, b_nc b1, v_17 L (Or.inl rfl), i_17, rw_17 r1, i19, i20]
    rcases lt13 hj with rfl | rfl | rfl | rfl | rfl | rfl | rfl | rfl | rfl | rfl | rfl | rfl | rfl <;> first | rfl | exact absurd rfl e
set_option maxRecDepth 16384 in
theorem m276z {h : A_H} (L : Ly h) (e0 : hP h 124 3 = none) {tn j : Nat} (et : hI h 124 6 = nI tn) (hj : j < 13) : C 276 [.ref 124, .int (nI j)] h = some (some (some (.int (szF (fun _ _ => 0) (fun _ => 0) 0 0 tn j))), wI h 124 0 0) := by
  have i6 : hI (wI h 124 0 0) 124 6 = nI tn := by rw [hI_wI, if_neg (by omega)]; exact et
  rw [e276]
  by_cases e : j = 12
  · subst e
    simp only [b276_0, b276_3, cond_true, cond_false, decide_true, Bool.and_true, Bool.true_and, Bool.and_self, Bool.and_false, Bool.false_and, Bool.not_true, Bool.not_false, Bool.or_true, Bool.true_or, Bool.or_false, Bool.false_or, is_some, gd_some, bk_v, bk_u, isO_wI, y_124 L, show decide (nI 12 = 12) = true from rfl, i6]
    rfl
  · have h12 : decide (nI j = 12) = false := by rw [show (12 : Int32) = nI 12 from rfl]; exact dF (by rw [w_eq (by omega) (by decide)]; exact e)
    simp only [b276_0, b276_3, b276_13, cond_true, cond_false, decide_true, Bool.and_true, Bool.true_and, Bool.and_self, Bool.and_false, Bool.false_and, Bool.not_true, Bool.not_false, Bool.or_true, Bool.true_or, Bool.or_false, Bool.false_or, is_some, gd_some, bk_v, bk_u, isO_wI, y_124 L, hP_wI, e0, h12, d160y, vd_of (show 12 < 2147483648 by decide) (show j < 12 by omega), bI_T, i1_0, va_rf, a_isR, a_nul]
    rcases lt13 hj with rfl | rfl | rfl | rfl | rfl | rfl | rfl | rfl | rfl | rfl | rfl | rfl | rfl <;> first | rfl | exact absurd rfl e
set_option maxRecDepth 16384 in
theorem m276b {h : A_H} (L : Ly h) {x : Int32} (e : vd 13 x = false) : C 276 [.ref 124, .int x] h = some (some (some (.int (-1))), wI h 124 0 0) := by
  have f12 : decide (x = 12) = false := vdne (by decide) e (j := 12) (by decide)
  have v12 : vd 12 x = false := by
    cases c : vd 12 x with
    | false => rfl
    | true =>
      obtain ⟨g, hg, rfl⟩ := vd_T (by decide) c
      rw [vd_of (by decide) (by omega)] at e
      cases e
  rw [e276]
  simp only [b276_0, b276_3, b276_13, cond_true, cond_false, decide_true, Bool.and_true, Bool.true_and, Bool.and_self, Bool.and_false, Bool.false_and, Bool.not_true, Bool.not_false, Bool.or_true, Bool.true_or, Bool.or_false, Bool.false_or, is_some, gd_some, bk_v, bk_u, isO_wI, y_124 L, f12, d160y, v12, bI_F]
set_option maxRecDepth 16384 in
theorem a133 {h : A_H} (L : Ly h) : C 133 [.ref 0] h = some (some (some (.int (hI h 0 8))), h) := by
  rw [e133]; simp only [b133_0, x_O L, cond_true]
set_option maxRecDepth 16384 in
theorem m277 {h : A_H} (L : Ly h) : C 277 [.ref 124] h = some (some (some (.int (hI h 124 1))), wI h 124 0 0) := by
  rw [e277]; simp only [b277_0, b277_3, isO_wI, y_124 L, cond_true]; rfl
set_option maxRecDepth 16384 in
theorem a78 {h : A_H} (L : Ly h) : C 78 [.ref 0] h = some (some (some (.int (hI h 2 4))), h) := by
  rw [e78]; simp only [b78_0, cond_true, cond_false, decide_true, Bool.and_true, Bool.true_and, Bool.and_self, Bool.and_false, Bool.false_and, Bool.not_true, Bool.not_false, Bool.or_true, Bool.true_or, Bool.or_false, Bool.false_or, is_some, gd_some, bk_v, bk_u, x_O L, x_P2 L, x_O2 L]
set_option maxRecDepth 16384 in
theorem m195 {h : A_H} (L : Ly h) : C 195 [.ref 124] h = some (some (some (.int (hI h 124 12))), wI h 124 0 0) := by
  rw [e195]; simp only [b195_0, b195_3, isO_wI, y_124 L, cond_true]; rfl
set_option maxRecDepth 16384 in
theorem a79 {h : A_H} (L : Ly h) : C 79 [.ref 0] h = some (some (some (.int (bif decide (hI h 0 8 = 4) then hI h 2 5 else -1))), h) := by
  rw [e79]; simp only [b79_0, cond_true, cond_false, decide_true, Bool.and_true, Bool.true_and, Bool.and_self, Bool.and_false, Bool.false_and, Bool.not_true, Bool.not_false, Bool.or_true, Bool.true_or, Bool.or_false, Bool.false_or, is_some, gd_some, bk_v, bk_u, x_O L, x_P2 L, x_O2 L]
  cases decide (hI h 0 8 = 4) <;> rfl
set_option maxRecDepth 16384 in
theorem m196 {h : A_H} (L : Ly h) : C 196 [.ref 124] h = some (some (some (.int (hI h 124 2))), wI h 124 0 0) := by
  rw [e196]; simp only [b196_0, b196_3, isO_wI, y_124 L, cond_true]; rfl
def ld (D : Gh) (d i : Nat) : Nat → Nat → Nat → Option Nat
  | 0, _, _ => none
  | f + 1, g, n => bif tur D g (D 15 g + d) then (bif decide (n = i) then some g else ld D d i f (g + 1) (n + 1)) else ld D d i f (g + 1) n
set_option maxRecDepth 16384 in
theorem ld_s (D : Gh) (d i f g n : Nat) : ld D d i (f + 1) g n = bif tur D g (D 15 g + d) then (bif decide (n = i) then some g else ld D d i f (g + 1) (n + 1)) else ld D d i f (g + 1) n := rfl
def ldR (h : A_H) : Option Nat → Option (Option (Option Value) × A_H)
  | some g => some (some (some (.int (nI g))), h)
  | none => some (none, nw h 14 0 6)
set_option maxRecDepth 16384 in
theorem c131 {h : A_H} {T : Nat} {D : Gh} {S : Nat → Nat} (L : Ly h) (hT : isT T) (w : WF D) (c : CT h T D) (hQ : hP h 0 3 = some T) (s : CS h 77 D S) (u : WD D S) {i : Nat} (hi : i < 2147483648) : C 131 [.ref 0, .int (nI i)] h = ldR h (ld D (S 17) i (D 0 5) 0 0) := by
  have h8 := f_nG w
  have h17 := u.1
  rw [e131]
  simp only [b131_0]
  have key : ∀ f g n, g + f = D 0 5 → n ≤ i → R 131 4 [some (.ref 0), some (.int (nI i)), some (.int (nI (i - n))), some (.int (nI g))] [] h = ldR h (ld D (S 17) i f g n) := by
    intro f
    induction f with
    | zero =>
      intro g n hg hn
      have : g = D 0 5 := by omega
      subst this
      rw [b131_4]
      simp only [cond_true, decide_true, cond_false, Bool.and_true, Bool.true_and, Bool.and_self, Bool.and_false, Bool.false_and, Bool.not_true, Bool.not_false, Bool.or_true, Bool.true_or, Bool.or_false, Bool.false_or, is_some, gd_some, bk_v, bk_u, t_O L hT, t_P9 L hT, t_P10 L hT, t_P11 L hT, t_P12 L hT, t_P13 L hT, t_P14 L hT, t_OC L hT, t_C1 L hT, t_C2 L hT, t_C3 L hT, hQ, x_O L, x_P5 L, x_O77 L, s.1, s.2.1, s.2.2.1, s.2.2.2.1, s.2.2.2.2.1, c_s5 c, g_stop w]; rfl
    | succ f ih =>
      intro g n hg hn
      have hg5 : g < D 0 5 := by omega
      rw [b131_4]
      simp only [cond_true, decide_true, cond_false, Bool.and_true, Bool.true_and, Bool.and_self, Bool.and_false, Bool.false_and, Bool.not_true, Bool.not_false, Bool.or_true, Bool.true_or, Bool.or_false, Bool.false_or, is_some, gd_some, bk_v, bk_u, t_O L hT, t_P9 L hT, t_P10 L hT, t_P11 L hT, t_P12 L hT, t_P13 L hT, t_P14 L hT, t_OC L hT, t_C1 L hT, t_C2 L hT, t_C3 L hT, hQ, x_O L, x_P5 L, x_O77 L, s.1, s.2.1, s.2.2.1, s.2.2.2.1, s.2.2.2.2.1, c_s5 c, g_go w hg5, dF (w_nn (show i - n < 2147483648 by omega)), c59 L hT w c hg5 (show S 17 ≤ 1000 by omega), b131_18, z_0, w_s]
      rw [ld_s]
      cases tur D g (D 15 g + S 17) with
      | false => simp only [cond_true, cond_false, decide_true, Bool.and_true, Bool.true_and, Bool.and_self, Bool.and_false, Bool.false_and, Bool.not_true, Bool.not_false, Bool.or_true, Bool.true_or, Bool.or_false, Bool.false_or, is_some, gd_some, bk_v, bk_u]; exact ih (g + 1) n (by omega) hn
      | true =>
        simp only [cond_true, cond_false, decide_true, Bool.and_true, Bool.true_and, Bool.and_self, Bool.and_false, Bool.false_and, Bool.not_true, Bool.not_false, Bool.or_true, Bool.true_or, Bool.or_false, Bool.false_or, is_some, gd_some, bk_v, bk_u]
        by_cases e : n = i
        · subst e; rw [Nat.sub_self, dT rfl, show decide (nI 0 = 0) = true from rfl]; rfl
        · have z : decide (nI (i - n) = 0) = false := by rw [show (0 : Int32) = nI 0 from rfl]; exact dF (by rw [w_eq (by omega) (by decide)]; omega)
          have zs : nI (i - n) + (-1 : Int32) = nI (i - (n + 1)) := by
            rw [show i - n = i - (n + 1) + 1 by omega, ← w_s, Int32.add_assoc, show (1 : Int32) + (-1) = 0 from rfl, Int32.add_zero]
          rw [z, dF e, zs]
          simp only [cond_true, cond_false, decide_true, Bool.and_true, Bool.true_and, Bool.and_self, Bool.and_false, Bool.false_and, Bool.not_true, Bool.not_false, Bool.or_true, Bool.true_or, Bool.or_false, Bool.false_or, is_some, gd_some, bk_v, bk_u]
          exact ih (g + 1) (n + 1) (by omega) (by omega)
  have := key (D 0 5) 0 0 (Nat.zero_add _) (Nat.zero_le _)
  rw [Nat.sub_zero] at this
  exact this
set_option maxRecDepth 16384 in
theorem c131n {h : A_H} {T : Nat} {D : Gh} {S : Nat → Nat} (L : Ly h) (hT : isT T) (w : WF D) (c : CT h T D) (hQ : hP h 0 3 = some T) (s : CS h 77 D S) (u : WD D S) {x : Int32} (hx : decide (x < 0) = true) : C 131 [.ref 0, .int x] h = some (none, nw h 14 0 6) := by
  rw [e131]
  simp only [b131_0]
  rw [b131_4]
  simp only [cond_true, decide_true, cond_false, Bool.and_true, Bool.true_and, Bool.and_self, Bool.and_false, Bool.false_and, Bool.not_true, Bool.not_false, Bool.or_true, Bool.true_or, Bool.or_false, Bool.false_or, is_some, gd_some, bk_v, bk_u, t_O L hT, t_P9 L hT, t_P10 L hT, t_P11 L hT, t_P12 L hT, t_P13 L hT, t_P14 L hT, t_OC L hT, t_C1 L hT, t_C2 L hT, t_C3 L hT, hQ, x_O L, x_P5 L, x_O77 L, s.1, s.2.1, s.2.2.1, s.2.2.2.1, s.2.2.2.2.1, c_s5 c, hx]
  cases decide (nI (D 0 5) ≤ 0) <;> rfl
def ldM (h : A_H) : Option Nat → Option (Option (Option Value) × A_H)
  | some g => some (some (some (.int (nI g))), wI h 124 0 0)
  | none => some (some (some (.int 0)), wI h 124 0 1)
set_option maxRecDepth 16384 in
theorem ww_124 (h : A_H) (x y : Int32) : wI (wI h 124 0 x) 124 0 y = wI h 124 0 y := by
  have : u2 (u2 (hI h) 124 0 x) 124 0 y = u2 (hI h) 124 0 y := by
    funext a b
    unfold u2
    by_cases e : a = 124 ∧ b = 0
    · rw [if_pos e, if_pos e]
    · rw [if_neg e, if_neg e]
      rw [if_neg e]
  show (hn h, hs h, hsh h, u2 (u2 (hI h) 124 0 x) 124 0 y, hL h, hP h, hX h) = _
  rw [this]; rfl
set_option maxRecDepth 16384 in
theorem m275 {h : A_H} {B : Nat} {D : Gh} {S : Nat → Nat} (L : Ly h) (hB : hP h 124 3 = some B) (l : ML h B) (w : WF D) (b : MB h B D) (u : WD D S) (r : RW h 126 S) {i : Nat} (hi : i < 2147483648) : C 275 [.ref 124, .int (nI i)] h = ldM h (ld D (S 17) i (D 0 5) 0 0) := by
  have L1 : Ly (wI h 124 0 0) := L; have hB1 : hP (wI h 124 0 0) 124 3 = some B := hB; have l1 : ML (wI h 124 0 0) B := l; have b1 : MB (wI h 124 0 0) B D := MB_wI l (by decide) b; have r1 : RW (wI h 124 0 0) 126 S := RW_wI (by decide) r
  have h8 := f_nG w
  rw [e275]
  simp only [b275_0, b275_3, cond_true, cond_false, decide_true, Bool.and_true, Bool.true_and, Bool.and_self, Bool.and_false, Bool.false_and, Bool.not_true, Bool.not_false, Bool.or_true, Bool.true_or, Bool.or_false, Bool.false_or, is_some, gd_some, bk_v, bk_u, y_124 L]
  have key : ∀ f g n, g + f = D 0 5 → n ≤ g → R 275 7 [some (.ref 124), some (.int (nI i)), some (.int (nI n)), some (.int (nI g))] [] (wI h 124 0 0) = ldM h (ld D (S 17) i f g n) := by
    intro f
    induction f with
    | zero =>
      intro g n hg hn
      have : g = D 0 5 := by omega
      subst this
      rw [b275_7]
      simp only [cond_true, cond_false, decide_true, Bool.and_true, Bool.true_and, Bool.and_self, Bool.and_false, Bool.false_and, Bool.not_true, Bool.not_false, Bool.or_true, Bool.true_or, Bool.or_false, Bool.false_or, is_some, gd_some, bk_v, bk_u, hP_wI, isO_wI, isA_wI, hP_wp, isO_wp, isA_wp, y_124 L, y_P15 L, y_P16 L, hB, va_rf, a_isR, a_nul, mB_O l, b_s5 b1, g_stop w, b275_33, ww_124]; rfl
    | succ f ih =>
      intro g n hg hn
      have hg5 : g < D 0 5 := by omega
      rw [b275_7]
      simp only [cond_true, cond_false, decide_true, Bool.and_true, Bool.true_and, Bool.and_self, Bool.and_false, Bool.false_and, Bool.not_true, Bool.not_false, Bool.or_true, Bool.true_or, Bool.or_false, Bool.false_or, is_some, gd_some, bk_v, bk_u, hP_wI, isO_wI, isA_wI, hP_wp, isO_wp, isA_wp, y_124 L, y_P15 L, y_P16 L, hB, va_rf, a_isR, a_nul, mB_O l, b_s5 b1, g_go w hg5, d204 L1 hB1 l1 (Or.inl rfl) w b1 (WS_S w u) r1 hg5, b275_20, z_0, w_eq (show n < 2147483648 by omega) hi, w_s]
      rw [ld_s]
      cases tur D g (D 15 g + S 17) with
      | false => simp only [cond_true, cond_false, decide_true, Bool.and_true, Bool.true_and, Bool.and_self, Bool.and_false, Bool.false_and, Bool.not_true, Bool.not_false, Bool.or_true, Bool.true_or, Bool.or_false, Bool.false_or, is_some, gd_some, bk_v, bk_u]; exact ih (g + 1) n (by omega) (by omega)
      | true =>
        simp only [cond_true, cond_false, decide_true, Bool.and_true, Bool.true_and, Bool.and_self, Bool.and_false, Bool.false_and, Bool.not_true, Bool.not_false, Bool.or_true, Bool.true_or, Bool.or_false, Bool.false_or, is_some, gd_some, bk_v, bk_u]
        cases decide (n = i) with
        | true => rfl
        | false => simp only [cond_true, cond_false, decide_true, Bool.and_true, Bool.true_and, Bool.and_self, Bool.and_false, Bool.false_and, Bool.not_true, Bool.not_false, Bool.or_true, Bool.true_or, Bool.or_false, Bool.false_or, is_some, gd_some, bk_v, bk_u]; exact ih (g + 1) (n + 1) (by omega) (by omega)
  exact key (D 0 5) 0 0 (Nat.zero_add _) (Nat.le_refl _)
set_option maxRecDepth 16384 in
theorem m275n {h : A_H} {B : Nat} {D : Gh} {S : Nat → Nat} (L : Ly h) (hB : hP h 124 3 = some B) (l : ML h B) (w : WF D) (b : MB h B D) (u : WD D S) (r : RW h 126 S) {x : Int32} (hx : decide (x < 0) = true) : C 275 [.ref 124, .int x] h = some (some (some (.int 0)), wI h 124 0 1) := by
  have L1 : Ly (wI h 124 0 0) := L; have hB1 : hP (wI h 124 0 0) 124 3 = some B := hB; have l1 : ML (wI h 124 0 0) B := l; have b1 : MB (wI h 124 0 0) B D := MB_wI l (by decide) b; have r1 : RW (wI h 124 0 0) 126 S := RW_wI (by decide) r
  have h8 := f_nG w
  have hx' := of_decide_eq_true hx
  rw [Int32.lt_iff_toInt_lt] at hx'
  have z0 : (0 : Int32).toInt = 0 := rfl
  have ne : ∀ n, n < 100 → decide (nI n = x) = false := fun n hn => dF (fun e => by
    rw [← e, w_int (by omega)] at hx'; omega)
  rw [e275]
  simp only [b275_0, b275_3, cond_true, cond_false, decide_true, Bool.and_true, Bool.true_and, Bool.and_self, Bool.and_false, Bool.false_and, Bool.not_true, Bool.not_false, Bool.or_true, Bool.true_or, Bool.or_false, Bool.false_or, is_some, gd_some, bk_v, bk_u, y_124 L]
  have key : ∀ f g n, g + f = D 0 5 → n ≤ g → R 275 7 [some (.ref 124), some (.int x), some (.int (nI n)), some (.int (nI g))] [] (wI h 124 0 0) = some (some (some (.int 0)), wI h 124 0 1) := by
    intro f
    induction f with
    | zero =>
      intro g n hg hn
      have : g = D 0 5 := by omega
      subst this
      rw [b275_7]
      simp only [cond_true, cond_false, decide_true, Bool.and_true, Bool.true_and, Bool.and_self, Bool.and_false, Bool.false_and, Bool.not_true, Bool.not_false, Bool.or_true, Bool.true_or, Bool.or_false, Bool.false_or, is_some, gd_some, bk_v, bk_u, hP_wI, isO_wI, isA_wI, hP_wp, isO_wp, isA_wp, y_124 L, y_P15 L, y_P16 L, hB, va_rf, a_isR, a_nul, mB_O l, b_s5 b1, g_stop w, b275_33, ww_124]
    | succ f ih =>
      intro g n hg hn
      have hg5 : g < D 0 5 := by omega
      rw [b275_7]
      simp only [cond_true, cond_false, decide_true, Bool.and_true, Bool.true_and, Bool.and_self, Bool.and_false, Bool.false_and, Bool.not_true, Bool.not_false, Bool.or_true, Bool.true_or, Bool.or_false, Bool.false_or, is_some, gd_some, bk_v, bk_u, hP_wI, isO_wI, isA_wI, hP_wp, isO_wp, isA_wp, y_124 L, y_P15 L, y_P16 L, hB, va_rf, a_isR, a_nul, mB_O l, b_s5 b1, g_go w hg5, d204 L1 hB1 l1 (Or.inl rfl) w b1 (WS_S w u) r1 hg5, b275_20, z_0, ne n (by omega), w_s]
      rw [ih (g + 1) n (by omega) (by omega), ih (g + 1) (n + 1) (by omega) (by omega)]
      cases tur D g (D 15 g + S 17) <;> rfl
  exact key (D 0 5) 0 0 (Nat.zero_add _) (Nat.le_refl _)
set_option maxRecDepth 16384 in
theorem m275z {h : A_H} (L : Ly h) (e : hP h 124 3 = none) (x : Int32) : C 275 [.ref 124, .int x] h = some (some (some (.int 0)), wI h 124 0 1) := by
  rw [e275]
  simp only [b275_0, b275_3, cond_true, cond_false, decide_true, Bool.and_true, Bool.true_and, Bool.and_self, Bool.and_false, Bool.false_and, Bool.not_true, Bool.not_false, Bool.or_true, Bool.true_or, Bool.or_false, Bool.false_or, is_some, gd_some, bk_v, bk_u, y_124 L]
  rw [b275_7]
  simp only [cond_true, cond_false, decide_true, Bool.and_true, Bool.true_and, Bool.and_self, Bool.and_false, Bool.false_and, Bool.not_true, Bool.not_false, Bool.or_true, Bool.true_or, Bool.or_false, Bool.false_or, is_some, gd_some, bk_v, bk_u, isO_wI, hP_wI, y_124 L, e, va_rf, a_isR, a_nul, b275_33, ww_124]
def wcI (cs : List Nat) (i : Nat) : Nat := itr (fun k v => 32 * v + (cs.getD k 0 - 96)) i 0
set_option maxRecDepth 16384 in
theorem wcI_s (cs : List Nat) (i : Nat) : wcI cs (i + 1) = 32 * wcI cs i + (cs.getD i 0 - 96) := rfl
def tx (k : Nat) : List Nat := a_T.getD k []
def Wn (k : Nat) : Nat := wcI (tx k) (tx k).length
def wT (x : UInt32) : Nat := Wn (x.toNat - 1)
set_option maxRecDepth 16384 in
theorem tx_ok {k : Nat} (hk : k < 32) : (tx k).length ≤ 9 ∧ ∀ i, i < (tx k).length → 97 ≤ (tx k).getD i 0 ∧ (tx k).getD i 0 ≤ 122 := by
  have : ∀ k : Fin 32, (tx k.val).length ≤ 9 ∧ ∀ i : Fin 9, i.val < (tx k.val).length → 97 ≤ (tx k.val).getD i.val 0 ∧ (tx k.val).getD i.val 0 ≤ 122 := by decide +kernel
  obtain ⟨h1, h2⟩ := this ⟨k, hk⟩
  exact ⟨h1, fun i hi => h2 ⟨i, by simp only at h1; omega⟩ hi⟩
set_option maxRecDepth 16384 in
theorem Wn_lt {k : Nat} (hk : k < 32) : Wn k < 35184372088832 := by
  have : ∀ k : Fin 32, Wn k.val < 35184372088832 := by decide +kernel
  exact this ⟨k, hk⟩
set_option maxRecDepth 16384 in
theorem wT_lt {x : UInt32} (h1 : 0 < x.toNat) (h2 : x.toNat ≤ 32) : wT x < 35184372088832 := Wn_lt (by omega)
set_option maxRecDepth 16384 in
theorem x32 {x : UInt32} (h : x.toNat ≤ 32) : (x + 32).toNat = x.toNat + 32 := by
  rw [UInt32.toNat_add]
  show (x.toNat + 32) % 4294967296 = _
  omega
set_option maxRecDepth 16384 in
theorem d286 {x : UInt32} (h1 : 0 < x.toNat) (h2 : x.toNat ≤ 32) (h : A_H) : C 286 [.float x] h = some (some (some (.int (nI (tx (x.toNat - 1)).length))), h) := by
  have hk := (tx_ok (k := x.toNat - 1) (by omega)).1
  have z : ∀ n : Fin 10, Int32.ofNat n.val >>> ((0 : Int32) &&& 31) = nI n.val := by decide
  have z1 := z ⟨(tx (x.toNat - 1)).length, by omega⟩
  simp only at z1
  rw [e286]
  simp only [b286_0, dT h1, dT h2, x32 h2, cond_true, cond_false, decide_true, Bool.and_true, Bool.true_and, Bool.and_self, Bool.and_false, Bool.false_and, Bool.not_true, Bool.not_false, Bool.or_true, Bool.true_or, Bool.or_false, Bool.false_or, is_some, gd_some, bk_v, bk_u, dT (show 32 < x.toNat + 32 by omega), dT (show x.toNat + 32 ≤ 64 by omega)]
  rw [e288]
  simp only [b288_0, dT h1, dT h2, cond_true, cond_false, decide_true, Bool.and_true, Bool.true_and, Bool.and_self, Bool.and_false, Bool.false_and, Bool.not_true, Bool.not_false, Bool.or_true, Bool.true_or, Bool.or_false, Bool.false_or, is_some, gd_some, bk_v, bk_u, show decide ((-128 : Int32) ≤ 0) = true from rfl, show decide ((0 : Int32) ≤ 127) = true from rfl, b286_5]
  rw [show x.toNat + 32 - 33 = x.toNat - 1 by omega, show a_T.getD (x.toNat - 1) [] = tx (x.toNat - 1) from rfl, z1]
set_option maxRecDepth 16384 in
theorem d287 {x : UInt32} (h1 : 0 < x.toNat) (h2 : x.toNat ≤ 32) {i : Nat} (hi : i < (tx (x.toNat - 1)).length) (h : A_H) : C 287 [.float x, .int (nI i)] h = some (some (some (.int (nI ((tx (x.toNat - 1)).getD i 0)))), h) := by
  obtain ⟨hk, hc⟩ := tx_ok (k := x.toNat - 1) (by omega)
  have hci := hc i hi
  have z : ∀ n : Fin 128, ((Int32.ofNat n.val &&& 255).toUInt32 % 65536).toInt32 = nI n.val := by decide +kernel
  have z1 := z ⟨(tx (x.toNat - 1)).getD i 0, by omega⟩
  simp only at z1
  have k1 : decide (0 ≤ nI ((tx (x.toNat - 1)).getD i 0)) = true := by rw [show (0 : Int32) = nI 0 from rfl]; exact dT (by rw [w_le (by decide) (by omega)]; omega)
  have k2 : decide (nI ((tx (x.toNat - 1)).getD i 0) ≤ 65535) = true := by rw [show (65535 : Int32) = nI 65535 from rfl]; exact dT (by rw [w_le (by omega) (by decide)]; omega)
  have k3 : decide (nI i < Int32.ofNat (tx (x.toNat - 1)).length) = true := dT (by show nI i < nI _; rw [w_lt (by omega) (by omega)]; exact hi)
  rw [e287]
  simp only [b287_0, dT h1, dT h2, cond_true, cond_false, decide_true, Bool.and_true, Bool.true_and, Bool.and_self, Bool.and_false, Bool.false_and, Bool.not_true, Bool.not_false, Bool.or_true, Bool.true_or, Bool.or_false, Bool.false_or, is_some, gd_some, bk_v, bk_u]
  rw [e289]
  simp only [b289_0, dT h1, dT h2, cond_true, cond_false, decide_true, Bool.and_true, Bool.true_and, Bool.and_self, Bool.and_false, Bool.false_and, Bool.not_true, Bool.not_false, Bool.or_true, Bool.true_or, Bool.or_false, Bool.false_or, is_some, gd_some, bk_v, bk_u, z_11, b287_2, i1_0]
  rw [e291]
  simp only [b291_0, x32 h2, cond_true, cond_false, decide_true, Bool.and_true, Bool.true_and, Bool.and_self, Bool.and_false, Bool.false_and, Bool.not_true, Bool.not_false, Bool.or_true, Bool.true_or, Bool.or_false, Bool.false_or, is_some, gd_some, bk_v, bk_u, dT (show 32 < x.toNat + 32 by omega), dT (show x.toNat + 32 ≤ 64 by omega)]
  rw [e290]
  simp only [b290_0]
  rw [e292]
  rw [show x.toNat + 32 - 33 = x.toNat - 1 by omega, show a_T.getD (x.toNat - 1) [] = tx (x.toNat - 1) from rfl]
  simp only [b292_0, dF (w_nn (show i < 2147483648 by omega)), k3, cond_true, cond_false, decide_true, Bool.and_true, Bool.true_and, Bool.and_self, Bool.and_false, Bool.false_and, Bool.not_true, Bool.not_false, Bool.or_true, Bool.true_or, Bool.or_false, Bool.false_or, is_some, gd_some, bk_v, bk_u, b290_4, b291_4, x32 h2, dT (show 32 < x.toNat + 32 by omega), dT (show x.toNat + 32 ≤ 64 by omega), w_cl (show i < 2147483648 by omega)]
  rw [show x.toNat + 32 - 33 = x.toNat - 1 by omega, show a_T.getD (x.toNat - 1) [] = tx (x.toNat - 1) from rfl, z1]
  simp only [dT hi, k1, k2, cond_true, cond_false, decide_true, Bool.and_true, Bool.true_and, Bool.and_self, Bool.and_false, Bool.false_and, Bool.not_true, Bool.not_false, Bool.or_true, Bool.true_or, Bool.or_false, Bool.false_or, is_some, gd_some, bk_v, bk_u, b287_7]
set_option maxRecDepth 16384 in
theorem l_c {v c : Nat} (h1 : 96 ≤ c) : nL (32 * v) + nL c - 97 + 1 = nL (32 * v + (c - 96)) := by
  rw [l_add, show (97 : Int64) = nL 96 + 1 from rfl, ← Int64.sub_sub, Int64.sub_add_cancel, l_sub (by omega)]
  congr 1; omega
set_option maxRecDepth 16384 in
theorem d284 {x : UInt32} (h1 : 0 < x.toNat) (h2 : x.toNat ≤ 32) (h : A_H) : C 284 [.float x] h = some (some (some (.long (nL (wT x)))), h) := by
  obtain ⟨hk, hc⟩ := tx_ok (k := x.toNat - 1) (by omega)
  rw [e284]
  simp only [b284_0]
  have e0 := loop_ix (fun i => R 284 4 [some (.float x), some (.long (nL (wcI (tx (x.toNat - 1)) i))), none, some (.int (nI i))] [] h) (tx (x.toNat - 1)).length (by
    intro i hi
    have hci := hc i hi
    rw [b284_4]
    simp only [dT h1, dT h2, cond_true, cond_false, decide_true, Bool.and_true, Bool.true_and, Bool.and_self, Bool.and_false, Bool.false_and, Bool.not_true, Bool.not_false, Bool.or_true, Bool.true_or, Bool.or_false, Bool.false_or, is_some, gd_some, bk_v, bk_u, d286 h1 h2, b284_7, dF (show ¬ nI (tx (x.toNat - 1)).length ≤ nI i by rw [w_le (by omega) (by omega)]; omega), d287 h1 h2 hi, b284_14, w_s]
    rw [i_l (by omega), show (32 : Int64) = nL 32 from rfl, l_mul, l_c (by omega), wcI_s])
  refine Eq.trans e0 ?_
  rw [b284_4]
  simp only [dT h1, dT h2, cond_true, cond_false, decide_true, Bool.and_true, Bool.true_and, Bool.and_self, Bool.and_false, Bool.false_and, Bool.not_true, Bool.not_false, Bool.or_true, Bool.true_or, Bool.or_false, Bool.false_or, is_some, gd_some, bk_v, bk_u, d286 h1 h2, b284_7, dT (Int32.le_refl (nI (tx (x.toNat - 1)).length))]
  rfl
set_option maxRecDepth 16384 in
theorem d285 {x : UInt32} (h1 : 0 < x.toNat) (h2 : x.toNat ≤ 32) (h : A_H) : C 285 [.float x] h = some (some (some (.long (nL (wT x)))), h) := by
  obtain ⟨hk, hc⟩ := tx_ok (k := x.toNat - 1) (by omega)
  rw [e285]
  simp only [b285_0]
  have e0 := loop_ix (fun i => R 285 4 [some (.float x), some (.long (nL (wcI (tx (x.toNat - 1)) i))), none, some (.int (nI i))] [] h) (tx (x.toNat - 1)).length (by
    intro i hi
    have hci := hc i hi
    have z : nI ((tx (x.toNat - 1)).getD i 0) - 97 + 1 = nI ((tx (x.toNat - 1)).getD i 0 - 96) := by
      have := w_sub (a := (tx (x.toNat - 1)).getD i 0) (b := 97) (by omega)
      rw [show nI 97 = 97 from rfl] at this
      rw [this, w_s]
      congr 1; omega
    rw [b285_4]
    simp only [dT h1, dT h2, cond_true, cond_false, decide_true, Bool.and_true, Bool.true_and, Bool.and_self, Bool.and_false, Bool.false_and, Bool.not_true, Bool.not_false, Bool.or_true, Bool.true_or, Bool.or_false, Bool.false_or, is_some, gd_some, bk_v, bk_u, d286 h1 h2, b285_7, dF (show ¬ nI (tx (x.toNat - 1)).length ≤ nI i by rw [w_le (by omega) (by omega)]; omega), d287 h1 h2 hi, b285_14, w_s]
    rw [z, i_l (by omega), show (32 : Int64) = nL 32 from rfl, l_mul, l_add, wcI_s])
  refine Eq.trans e0 ?_
  rw [b285_4]
  simp only [dT h1, dT h2, cond_true, cond_false, decide_true, Bool.and_true, Bool.true_and, Bool.and_self, Bool.and_false, Bool.false_and, Bool.not_true, Bool.not_false, Bool.or_true, Bool.true_or, Bool.or_false, Bool.false_or, is_some, gd_some, bk_v, bk_u, d286 h1 h2, b285_7, dT (Int32.le_refl (nI (tx (x.toNat - 1)).length))]
  rfl
def lt' (b : Int32) : Bool := !decide (b < 97) && !decide ((122 : Int32) < b)
def dt' (b : Int32) : Bool := !decide (b < 48) && !decide ((57 : Int32) < b)
def sp' (b : Int32) : Bool := decide (b = 32)
def rn (pr : Int32 → Bool) (bs : Nat → Int32) : Nat → Nat → Nat
  | 0, p => p
  | f + 1, p => bif pr (bs p) then rn pr bs f (p + 1) else p
set_option maxRecDepth 16384 in
theorem rn_s (pr : Int32 → Bool) (bs : Nat → Int32) (f p : Nat) : rn pr bs (f + 1) p = bif pr (bs p) then rn pr bs f (p + 1) else p := rfl
set_option maxRecDepth 16384 in
theorem rn_b (pr : Int32 → Bool) (bs : Nat → Int32) (f p : Nat) : p ≤ rn pr bs f p ∧ rn pr bs f p ≤ p + f := by
  induction f generalizing p with
  | zero => exact ⟨Nat.le_refl _, Nat.le_refl _⟩
  | succ f ih =>
    rw [rn_s]
    have := ih (p + 1)
    cases pr (bs p)
    · rw [cond_false]; omega
    · rw [cond_true]; omega
def rE (pr : Int32 → Bool) (bs : Nat → Int32) (n p : Nat) : Nat := rn pr bs (n - p) p
set_option maxRecDepth 16384 in
theorem rE_b (pr : Int32 → Bool) (bs : Nat → Int32) {n p : Nat} (hp : p ≤ n) : p ≤ rE pr bs n p ∧ rE pr bs n p ≤ n := by
  have := rn_b pr bs (n - p) p
  unfold rE; omega
set_option maxRecDepth 16384 in
theorem rE_s (pr : Int32 → Bool) (bs : Nat → Int32) {n p : Nat} (hp : p < n) : rE pr bs n p = bif pr (bs p) then rE pr bs n (p + 1) else p := by
  unfold rE
  rw [show n - p = n - (p + 1) + 1 by omega, rn_s]
set_option maxRecDepth 16384 in
theorem rE_n (pr : Int32 → Bool) (bs : Nat → Int32) (n : Nat) : rE pr bs n n = n := by unfold rE; rw [Nat.sub_self]; rfl
def lv (b : Int32) : Nat := (b.toInt - 96).toNat
def dv' (b : Int32) : Nat := (b.toInt - 48).toNat
def wv (bs : Nat → Int32) (s : Nat) : Nat → Nat := fun k => itr (fun i v => 32 * v + lv (bs (s + i))) k 0
def nv' (bs : Nat → Int32) (s : Nat) : Nat → Nat := fun k => itr (fun i v => 10 * v + dv' (bs (s + i))) k 0
set_option maxRecDepth 16384 in
theorem lt_I {b : Int32} (h : lt' b = true) : ∃ c, b = nI c ∧ 97 ≤ c ∧ c ≤ 122 ∧ lv b = c - 96 := by
  unfold lt' at h
  rw [Bool.and_eq_true, Bool.not_eq_true', Bool.not_eq_true'] at h
  have h1 := of_decide_eq_false h.1
  have h2 := of_decide_eq_false h.2
  rw [Int32.lt_iff_toInt_lt] at h1 h2
  have e1 : (97 : Int32).toInt = 97 := rfl
  have e2 : (122 : Int32).toInt = 122 := rfl
  obtain ⟨c, hc, rfl⟩ := w_ex (x := b) (by rw [Int32.le_iff_toInt_le]; have : (0 : Int32).toInt = 0 := rfl; omega)
  rw [w_int hc] at h1 h2
  refine ⟨c, rfl, by omega, by omega, ?_⟩
  unfold lv
  rw [w_int hc]; omega
set_option maxRecDepth 16384 in
theorem dt_I {b : Int32} (h : dt' b = true) : ∃ c, b = nI c ∧ 48 ≤ c ∧ c ≤ 57 ∧ dv' b = c - 48 := by
  unfold dt' at h
  rw [Bool.and_eq_true, Bool.not_eq_true', Bool.not_eq_true'] at h
  have h1 := of_decide_eq_false h.1
  have h2 := of_decide_eq_false h.2
  rw [Int32.lt_iff_toInt_lt] at h1 h2
  have e1 : (48 : Int32).toInt = 48 := rfl
  have e2 : (57 : Int32).toInt = 57 := rfl
  obtain ⟨c, hc, rfl⟩ := w_ex (x := b) (by rw [Int32.le_iff_toInt_le]; have : (0 : Int32).toInt = 0 := rfl; omega)
  rw [w_int hc] at h1 h2
  refine ⟨c, rfl, by omega, by omega, ?_⟩
  unfold dv'
  rw [w_int hc]; omega
def tS (bs : Nat → Int32) (n p : Nat) : Nat := rE sp' bs n p
def tK (bs : Nat → Int32) (n p : Nat) : Nat := if n ≤ tS bs n p then 0 else bif lt' (bs (tS bs n p)) then (if rE lt' bs n (tS bs n p) - tS bs n p ≤ 9 then 1 else 4) else bif dt' (bs (tS bs n p)) then (if rE dt' bs n (tS bs n p) - tS bs n p ≤ 3 then 2 else 4) else bif decide (bs (tS bs n p) = 59) then 3 else 4
def tE (bs : Nat → Int32) (n p : Nat) : Nat := if n ≤ tS bs n p then tS bs n p else bif lt' (bs (tS bs n p)) then rE lt' bs n (tS bs n p) else bif dt' (bs (tS bs n p)) then rE dt' bs n (tS bs n p) else tS bs n p + 1
def tV (bs : Nat → Int32) (n p : Nat) : Nat := if n ≤ tS bs n p then 0 else bif lt' (bs (tS bs n p)) then wv bs (tS bs n p) (rE lt' bs n (tS bs n p) - tS bs n p) else bif dt' (bs (tS bs n p)) then nv' bs (tS bs n p) (rE dt' bs n (tS bs n p) - tS bs n p) else 0
set_option maxRecDepth 16384 in
theorem tS_b (bs : Nat → Int32) {n p : Nat} (hp : p ≤ n) : p ≤ tS bs n p ∧ tS bs n p ≤ n := rE_b sp' bs hp
set_option maxRecDepth 16384 in
theorem tE_b (bs : Nat → Int32) {n p : Nat} (hp : p ≤ n) : tS bs n p ≤ tE bs n p ∧ tE bs n p ≤ n := by
  have h1 := tS_b bs hp
  unfold tE
  by_cases e : n ≤ tS bs n p
  · rw [if_pos e]; omega
  · rw [if_neg e]
    have r1 := rE_b lt' bs h1.2
    have r2 := rE_b dt' bs h1.2
    cases lt' (bs (tS bs n p))
    · cases dt' (bs (tS bs n p))
      · simp only [cond_false]; omega
      · simp only [cond_false, cond_true]; exact r2
    · simp only [cond_true]; exact r1
