theorem d219x {h : A_H} (L : Ly h) {x : Int32} (e : vd 61 x = false) : C 219 [.ref 124, .int 1, .int x] h = some (some (some (.int 2)), h) := d219b L (b := true) e
theorem d219y {h : A_H} (L : Ly h) (x : Int32) : C 219 [.ref 124, .int 0, .int x] h = some (some (some (.int 1)), h) := d219b L (b := false) rfl
theorem c02 : decide ((2 : Int32) ≤ 0) = false := by decide
theorem c01 : decide ((1 : Int32) ≤ 0) = false := by decide
theorem tgd_bad {n m : Nat} {x y z : Int32} (e : decide (eit (eit (gv n x) (gv m y)) (dv z) = 0) = false) : (vd n x = false ∧ eit (eit (gv n x) (gv m y)) (dv z) = 1) ∨ (vd n x = true ∧ vd m y = false ∧ eit (eit (gv n x) (gv m y)) (dv z) = 1) ∨ (vd n x = true ∧ vd m y = true ∧ vd 61 z = false ∧ eit (eit (gv n x) (gv m y)) (dv z) = 2) := by
  unfold gv dv at e ⊢
  revert e
  cases vd n x <;> cases vd m y <;> cases vd 61 z <;> intro e <;> first | exact Or.inl ⟨rfl, rfl⟩ | exact Or.inr (Or.inl ⟨rfl, rfl, rfl⟩) | exact Or.inr (Or.inr ⟨rfl, rfl, rfl, rfl⟩) | exact absurd e (by decide)
theorem m225 {h : A_H} {B : Nat} {D : Gh} {S : Nat → Nat} (L : Ly h) (hB : hP h 124 3 = some B) (l : ML h B) (w : WF D) (b : MB h B D) (u : WD D S) (r : RW h 126 S) {t k d : Nat} (ht : t < D 0 3) (hk : k < D 0 4) (hd : d ≤ 60) : C 225 [.ref 124, .int (nI t), .int (nI k), .int (nI d)] h = some (some (some (.int (nI (ask D 0 (S 17 + d) t (fnd D (S 17 + d) (D 9 k) (has D S t) (hid S) 0) (fun g => has D S t g && !hid S g))))), wI (wI (wp (wI h 124 0 0) 127 (Sd S d) 18) 124 1 0) 124 2 (-1)) := by
  have L1 : Ly (wI h 124 0 0) := L; have hB1 : hP (wI h 124 0 0) 124 3 = some B := hB; have l1 : ML (wI h 124 0 0) B := l; have b1 : MB (wI h 124 0 0) B D := MB_wI l (by decide) b; have r1 : RW (wI h 124 0 0) 126 S := RW_wI (by decide) r
  have L2 : Ly (wp (wI h 124 0 0) 127 (Sd S d) 18) := L; have hB2 : hP (wp (wI h 124 0 0) 127 (Sd S d) 18) 124 3 = some B := hB; have l2 : ML (wp (wI h 124 0 0) 127 (Sd S d) 18) B := l; have b2 : MB (wp (wI h 124 0 0) 127 (Sd S d) 18) B D := MB_wp l1 (by decide) b1; have r2 := RW_wp (wI h 124 0 0) 127 (Sd S d); have v2 : isV 127 := Or.inr rfl; have ws2 : WS (Sd S d) := WS_Sd w u hd
  have := f_nt w
  have := f_ng w
  have h213 := d213 L2 hB2 l2 v2 w b2 ws2 r2 ht hk
  rw [ask_congr (fun g hg => fnd_congr (hs_Sd w t) (fun _ _ => rfl) g hg) (q' := fun g => has D S t g && !hid S g) (fun g hg => by rw [hs_Sd w t g hg]; rfl)] at h213
  rw [e225]
  simp only [b225_0, b225_3, b225_7, b225_11, b225_17, b225_23, b225_31, b225_32, cond_true, cond_false, decide_true, Bool.and_true, Bool.true_and, Bool.and_self, Bool.and_false, Bool.false_and, Bool.not_true, Bool.not_false, Bool.or_true, Bool.true_or, Bool.or_false, Bool.false_or, is_some, gd_some, bk_v, bk_u, hP_wI, isO_wI, isA_wI, hP_wp, isO_wp, isA_wp, y_124 L, y_P15 L, y_P16 L, hB, d200 L1 hB1 l1 b1, vd_of (show D 0 3 < 2147483648 by omega) ht, bI_T, d202 L1 hB1 l1 b1, vd_of (show D 0 4 < 2147483648 by omega) hk, i1_0, d219 L1 r1 hd, c00, h213, d158 L2, Sd_17]
  rfl
theorem m225b {h : A_H} {D : Gh} (L : Ly h) (q : Mq h D) {x y z : Int32} (e : decide (eit (eit (gv (D 0 3) x) (gv (D 0 4) y)) (dv z) = 0) = false) : C 225 [.ref 124, .int x, .int y, .int z] h = some (some (some (.int (-1))), wI (wI (wI h 124 0 0) 124 1 (eit (eit (gv (D 0 3) x) (gv (D 0 4) y)) (dv z))) 124 2 (-1)) := by
  have L1 : Ly (wI h 124 0 0) := L
  have q1 := Mq_wI (j := 0) (v := 0) (show 124 < 134 by decide) q
  rcases tgd_bad e with ⟨e1, e2⟩ | ⟨e1, e3, e2⟩ | ⟨e1, e3, e4, e2⟩
  · rw [e2, e225]
    simp only [b225_0, b225_3, b225_7, b225_11, b225_17, b225_23, b225_31, b225_32, cond_true, cond_false, decide_true, Bool.and_true, Bool.true_and, Bool.and_self, Bool.and_false, Bool.false_and, Bool.not_true, Bool.not_false, Bool.or_true, Bool.true_or, Bool.or_false, Bool.false_or, is_some, gd_some, bk_v, bk_u, isO_wI, y_124 L, q200 L1 q1, e1, bI_F, d219y L1, c01, d155 L1]
  · rw [e2, e225]
    simp only [b225_0, b225_3, b225_7, b225_11, b225_17, b225_23, b225_31, b225_32, cond_true, cond_false, decide_true, Bool.and_true, Bool.true_and, Bool.and_self, Bool.and_false, Bool.false_and, Bool.not_true, Bool.not_false, Bool.or_true, Bool.true_or, Bool.or_false, Bool.false_or, is_some, gd_some, bk_v, bk_u, isO_wI, y_124 L, q200 L1 q1, e1, bI_T, i1_0, q202 L1 q1, e3, bI_F, d219y L1, c01, d155 L1]
  · rw [e2, e225]
    simp only [b225_0, b225_3, b225_7, b225_11, b225_17, b225_23, b225_31, b225_32, cond_true, cond_false, decide_true, Bool.and_true, Bool.true_and, Bool.and_self, Bool.and_false, Bool.false_and, Bool.not_true, Bool.not_false, Bool.or_true, Bool.true_or, Bool.or_false, Bool.false_or, is_some, gd_some, bk_v, bk_u, isO_wI, y_124 L, q200 L1 q1, e1, bI_T, i1_0, q202 L1 q1, e3, d219x L1 e4, c02, d155 L1]
theorem m226 {h : A_H} {B : Nat} {D : Gh} {S : Nat → Nat} (L : Ly h) (hB : hP h 124 3 = some B) (l : ML h B) (w : WF D) (b : MB h B D) (u : WD D S) (r : RW h 126 S) {t k d : Nat} (ht : t < D 0 3) (hk : k < D 0 4) (hd : d ≤ 60) : C 226 [.ref 124, .int (nI t), .int (nI k), .int (nI d)] h = some (some (some (.int (nI (msk (D 0 5) (fnd D (S 17 + d) (D 9 k) (has D S t) (hid S) 0))))), wI (wI (wp (wI h 124 0 0) 127 (Sd S d) 18) 124 1 0) 124 2 (-1)) := by
  have L1 : Ly (wI h 124 0 0) := L; have hB1 : hP (wI h 124 0 0) 124 3 = some B := hB; have l1 : ML (wI h 124 0 0) B := l; have b1 : MB (wI h 124 0 0) B D := MB_wI l (by decide) b; have r1 : RW (wI h 124 0 0) 126 S := RW_wI (by decide) r
  have L2 : Ly (wp (wI h 124 0 0) 127 (Sd S d) 18) := L; have hB2 : hP (wp (wI h 124 0 0) 127 (Sd S d) 18) 124 3 = some B := hB; have l2 : ML (wp (wI h 124 0 0) 127 (Sd S d) 18) B := l; have b2 : MB (wp (wI h 124 0 0) 127 (Sd S d) 18) B D := MB_wp l1 (by decide) b1; have r2 := RW_wp (wI h 124 0 0) 127 (Sd S d); have v2 : isV 127 := Or.inr rfl; have ws2 : WS (Sd S d) := WS_Sd w u hd
  have := f_nt w
  have := f_ng w
  have h211 := d211 L2 hB2 l2 v2 w b2 ws2 r2 (show t < 100 by omega) hk (m := 0) (by decide)
  rw [msk_congr (fun g hg => fnd_congr (hs_Sd w t) (fun _ _ => rfl) g hg), show nI 0 = 0 from rfl] at h211
  rw [e226]
  simp only [b226_0, b226_3, b226_7, b226_11, b226_17, b226_23, b226_32, b226_33, cond_true, cond_false, decide_true, Bool.and_true, Bool.true_and, Bool.and_self, Bool.and_false, Bool.false_and, Bool.not_true, Bool.not_false, Bool.or_true, Bool.true_or, Bool.or_false, Bool.false_or, is_some, gd_some, bk_v, bk_u, hP_wI, isO_wI, isA_wI, hP_wp, isO_wp, isA_wp, y_124 L, y_P15 L, y_P16 L, hB, d200 L1 hB1 l1 b1, vd_of (show D 0 3 < 2147483648 by omega) ht, bI_T, d202 L1 hB1 l1 b1, vd_of (show D 0 4 < 2147483648 by omega) hk, i1_0, d219 L1 r1 hd, c00, h211, d158 L2, Sd_17]
  rfl
theorem m226b {h : A_H} {D : Gh} (L : Ly h) (q : Mq h D) {x y z : Int32} (e : decide (eit (eit (gv (D 0 3) x) (gv (D 0 4) y)) (dv z) = 0) = false) : C 226 [.ref 124, .int x, .int y, .int z] h = some (some (some (.int (-1))), wI (wI (wI h 124 0 0) 124 1 (eit (eit (gv (D 0 3) x) (gv (D 0 4) y)) (dv z))) 124 2 (-1)) := by
  have L1 : Ly (wI h 124 0 0) := L
  have q1 := Mq_wI (j := 0) (v := 0) (show 124 < 134 by decide) q
  rcases tgd_bad e with ⟨e1, e2⟩ | ⟨e1, e3, e2⟩ | ⟨e1, e3, e4, e2⟩
  · rw [e2, e226]
    simp only [b226_0, b226_3, b226_7, b226_11, b226_17, b226_23, b226_32, b226_33, cond_true, cond_false, decide_true, Bool.and_true, Bool.true_and, Bool.and_self, Bool.and_false, Bool.false_and, Bool.not_true, Bool.not_false, Bool.or_true, Bool.true_or, Bool.or_false, Bool.false_or, is_some, gd_some, bk_v, bk_u, isO_wI, y_124 L, q200 L1 q1, e1, bI_F, d219y L1, c01, d155 L1]
  · rw [e2, e226]
    simp only [b226_0, b226_3, b226_7, b226_11, b226_17, b226_23, b226_32, b226_33, cond_true, cond_false, decide_true, Bool.and_true, Bool.true_and, Bool.and_self, Bool.and_false, Bool.false_and, Bool.not_true, Bool.not_false, Bool.or_true, Bool.true_or, Bool.or_false, Bool.false_or, is_some, gd_some, bk_v, bk_u, isO_wI, y_124 L, q200 L1 q1, e1, bI_T, i1_0, q202 L1 q1, e3, bI_F, d219y L1, c01, d155 L1]
  · rw [e2, e226]
    simp only [b226_0, b226_3, b226_7, b226_11, b226_17, b226_23, b226_32, b226_33, cond_true, cond_false, decide_true, Bool.and_true, Bool.true_and, Bool.and_self, Bool.and_false, Bool.false_and, Bool.not_true, Bool.not_false, Bool.or_true, Bool.true_or, Bool.or_false, Bool.false_or, is_some, gd_some, bk_v, bk_u, isO_wI, y_124 L, q200 L1 q1, e1, bI_T, i1_0, q202 L1 q1, e3, d219x L1 e4, c02, d155 L1]
theorem m227 {h : A_H} {B : Nat} {D : Gh} {S : Nat → Nat} (L : Ly h) (hB : hP h 124 3 = some B) (l : ML h B) (w : WF D) (b : MB h B D) (u : WD D S) (r : RW h 126 S) {t k d : Nat} (ht : t < D 0 3) (hk : k < D 0 4) (hd : d ≤ 60) : C 227 [.ref 124, .int (nI t), .int (nI k), .int (nI d)] h = some (some (some (.int (nI (ask D 1 (S 17 + d) t (fnd D (S 17 + d) (D 9 k) (has D S t) (hid S) 0) (fun g => has D S t g && !hid S g))))), wI (wI (wp (wI h 124 0 0) 127 (Sd S d) 18) 124 1 0) 124 2 (-1)) := by
  have L1 : Ly (wI h 124 0 0) := L; have hB1 : hP (wI h 124 0 0) 124 3 = some B := hB; have l1 : ML (wI h 124 0 0) B := l; have b1 : MB (wI h 124 0 0) B D := MB_wI l (by decide) b; have r1 : RW (wI h 124 0 0) 126 S := RW_wI (by decide) r
  have L2 : Ly (wp (wI h 124 0 0) 127 (Sd S d) 18) := L; have hB2 : hP (wp (wI h 124 0 0) 127 (Sd S d) 18) 124 3 = some B := hB; have l2 : ML (wp (wI h 124 0 0) 127 (Sd S d) 18) B := l; have b2 : MB (wp (wI h 124 0 0) 127 (Sd S d) 18) B D := MB_wp l1 (by decide) b1; have r2 := RW_wp (wI h 124 0 0) 127 (Sd S d); have v2 : isV 127 := Or.inr rfl; have ws2 : WS (Sd S d) := WS_Sd w u hd
  have := f_nt w
  have := f_ng w
  have h211 := d211 L2 hB2 l2 v2 w b2 ws2 r2 (show t < 100 by omega) hk (m := 0) (by decide)
  rw [msk_congr (fun g hg => fnd_congr (hs_Sd w t) (fun _ _ => rfl) g hg), show nI 0 = 0 from rfl] at h211
  have h212 := fun f => d212 L2 hB2 l2 v2 w b2 ws2 r2 ht f true
  simp only [bI_T, cond_true] at h212
  rw [e227]
  simp only [b227_0, b227_3, b227_7, b227_11, b227_17, b227_23, b227_36, b227_38, b227_39, cond_true, cond_false, decide_true, Bool.and_true, Bool.true_and, Bool.and_self, Bool.and_false, Bool.false_and, Bool.not_true, Bool.not_false, Bool.or_true, Bool.true_or, Bool.or_false, Bool.false_or, is_some, gd_some, bk_v, bk_u, hP_wI, isO_wI, isA_wI, hP_wp, isO_wp, isA_wp, y_124 L, y_P15 L, y_P16 L, hB, d200 L1 hB1 l1 b1, vd_of (show D 0 3 < 2147483648 by omega) ht, bI_T, d202 L1 hB1 l1 b1, vd_of (show D 0 4 < 2147483648 by omega) hk, i1_0, d219 L1 r1 hd, c00, h211, h212, d158 L2, Sd_17]
  rw [ask_congr (p' := fnd D (S 17 + d) (D 9 k) (has D S t) (hid S) 0) (q' := fun g => has D S t g && !hid S g)]
  · intro g hg
    have h8 := Nat.lt_of_lt_of_le hg (f_nG w)
    rw [bt_msk _ (by omega), dT hg, Bool.true_and, hs_Sd w t g hg]
    show (_ && fnd D (S 17 + d) (D 9 k) (has D S t) (hid S) 0 g) = _
    unfold fnd
    cases has D S t g <;> rfl
  · intro g hg
    have h8 := Nat.lt_of_lt_of_le hg (f_nG w)
    rw [bt_msk _ (by omega), dT hg, Bool.true_and, hs_Sd w t g hg]
    show (has D S t g && !fnd D (S 17 + d) (D 9 k) (has D S t) (hid S) 0 g && !hid S g) = _
    unfold fnd
    cases has D S t g <;> cases hid S g <;> simp
theorem m227b {h : A_H} {D : Gh} (L : Ly h) (q : Mq h D) {x y z : Int32} (e : decide (eit (eit (gv (D 0 3) x) (gv (D 0 4) y)) (dv z) = 0) = false) : C 227 [.ref 124, .int x, .int y, .int z] h = some (some (some (.int (-1))), wI (wI (wI h 124 0 0) 124 1 (eit (eit (gv (D 0 3) x) (gv (D 0 4) y)) (dv z))) 124 2 (-1)) := by
  have L1 : Ly (wI h 124 0 0) := L
  have q1 := Mq_wI (j := 0) (v := 0) (show 124 < 134 by decide) q
  rcases tgd_bad e with ⟨e1, e2⟩ | ⟨e1, e3, e2⟩ | ⟨e1, e3, e4, e2⟩
  · rw [e2, e227]
    simp only [b227_0, b227_3, b227_7, b227_11, b227_17, b227_23, b227_36, b227_38, b227_39, cond_true, cond_false, decide_true, Bool.and_true, Bool.true_and, Bool.and_self, Bool.and_false, Bool.false_and, Bool.not_true, Bool.not_false, Bool.or_true, Bool.true_or, Bool.or_false, Bool.false_or, is_some, gd_some, bk_v, bk_u, isO_wI, y_124 L, q200 L1 q1, e1, bI_F, d219y L1, c01, d155 L1]
  · rw [e2, e227]
    simp only [b227_0, b227_3, b227_7, b227_11, b227_17, b227_23, b227_36, b227_38, b227_39, cond_true, cond_false, decide_true, Bool.and_true, Bool.true_and, Bool.and_self, Bool.and_false, Bool.false_and, Bool.not_true, Bool.not_false, Bool.or_true, Bool.true_or, Bool.or_false, Bool.false_or, is_some, gd_some, bk_v, bk_u, isO_wI, y_124 L, q200 L1 q1, e1, bI_T, i1_0, q202 L1 q1, e3, bI_F, d219y L1, c01, d155 L1]
  · rw [e2, e227]
    simp only [b227_0, b227_3, b227_7, b227_11, b227_17, b227_23, b227_36, b227_38, b227_39, cond_true, cond_false, decide_true, Bool.and_true, Bool.true_and, Bool.and_self, Bool.and_false, Bool.false_and, Bool.not_true, Bool.not_false, Bool.or_true, Bool.true_or, Bool.or_false, Bool.false_or, is_some, gd_some, bk_v, bk_u, isO_wI, y_124 L, q200 L1 q1, e1, bI_T, i1_0, q202 L1 q1, e3, d219x L1 e4, c02, d155 L1]
theorem gd_badT {n : Nat} {x y : Int32} (e : decide (eit (gv n x) (dv y) = 0) = false) : (vd n x && vd 61 y) = false ∧ eit (gv n x) (dv y) = (bif vd n x then 2 else 1) := gd_bad e
theorem m228 {h : A_H} {B : Nat} {D : Gh} {S : Nat → Nat} (L : Ly h) (hB : hP h 124 3 = some B) (l : ML h B) (w : WF D) (b : MB h B D) (u : WD D S) (r : RW h 126 S) {t d : Nat} (ht : t < D 0 3) (hd : d ≤ 60) : C 228 [.ref 124, .int (nI t), .int (nI d)] h = some (some (some (.int (nI (sm (D 0 5) (fun g => bif has D S t g then wor D g (S 17 + d) else 0))))), wI (wI (wp (wI h 124 0 0) 127 (Sd S d) 18) 124 1 0) 124 2 (-1)) := by
  have L1 : Ly (wI h 124 0 0) := L; have hB1 : hP (wI h 124 0 0) 124 3 = some B := hB; have l1 : ML (wI h 124 0 0) B := l; have b1 : MB (wI h 124 0 0) B D := MB_wI l (by decide) b; have r1 : RW (wI h 124 0 0) 126 S := RW_wI (by decide) r
  have L2 : Ly (wp (wI h 124 0 0) 127 (Sd S d) 18) := L; have hB2 : hP (wp (wI h 124 0 0) 127 (Sd S d) 18) 124 3 = some B := hB; have l2 : ML (wp (wI h 124 0 0) 127 (Sd S d) 18) B := l; have b2 : MB (wp (wI h 124 0 0) 127 (Sd S d) 18) B D := MB_wp l1 (by decide) b1; have r2 := RW_wp (wI h 124 0 0) 127 (Sd S d); have v2 : isV 127 := Or.inr rfl; have ws2 : WS (Sd S d) := WS_Sd w u hd
  have := f_nt w
  rw [e228]
  simp only [b228_0, b228_3, b228_7, b228_9, b228_15, b228_32, b228_38, b228_47, cond_true, cond_false, decide_true, Bool.and_true, Bool.true_and, Bool.and_self, Bool.and_false, Bool.false_and, Bool.not_true, Bool.not_false, Bool.or_true, Bool.true_or, Bool.or_false, Bool.false_or, is_some, gd_some, bk_v, bk_u, hP_wI, isO_wI, isA_wI, hP_wp, isO_wp, isA_wp, y_124 L, y_P15 L, y_P16 L, hB, d200 L1 hB1 l1 b1, vd_of (show D 0 3 < 2147483648 by omega) ht, bI_T, d219 L1 r1 hd, c00]
  refine (loop_ix (fun g => R 228 20 [some (.ref 124), some (.int (nI t)), some (.int (nI d)), some (.int 0), some (.int (nI (sm g (fun g => bif has D S t g then wor D g (S 17 + d) else 0)))), some (.int (nI g))] [] (wp (wI h 124 0 0) 127 (Sd S d) 18)) (D 0 5) ?_).trans ?_
  · intro g hg
    have h206 := d206 L2 hB2 l2 v2 w b2 ws2 r2 hg
    rw [Sd_17] at h206
    rw [b228_20]
    simp only [cond_true, cond_false, decide_true, Bool.and_true, Bool.true_and, Bool.and_self, Bool.and_false, Bool.false_and, Bool.not_true, Bool.not_false, Bool.or_true, Bool.true_or, Bool.or_false, Bool.false_or, is_some, gd_some, bk_v, bk_u, hP_wI, isO_wI, isA_wI, hP_wp, isO_wp, isA_wp, y_124 L, y_P15 L, y_P16 L, hB, mB_O l, b_s5 b2, g_go w hg, d205 L2 hB2 l2 v2 w b2 ws2 r2 hg (show t < 100 by omega), hs_Sd w t g hg, b228_32, z_0, h206, b228_38, w_s, sm_s, nI_add, Int32.add_zero]
    cases has D S t g <;> rfl
  · rw [b228_20]
    simp only [cond_true, cond_false, decide_true, Bool.and_true, Bool.true_and, Bool.and_self, Bool.and_false, Bool.false_and, Bool.not_true, Bool.not_false, Bool.or_true, Bool.true_or, Bool.or_false, Bool.false_or, is_some, gd_some, bk_v, bk_u, hP_wI, isO_wI, isA_wI, hP_wp, isO_wp, isA_wp, y_124 L, y_P15 L, y_P16 L, hB, mB_O l, b_s5 b2, g_stop w, d158 L2, b228_47]
theorem m228b {h : A_H} {D : Gh} (L : Ly h) (q : Mq h D) {x y : Int32} (e : decide (eit (gv (D 0 3) x) (dv y) = 0) = false) : C 228 [.ref 124, .int x, .int y] h = some (some (some (.int (-1))), wI (wI (wI h 124 0 0) 124 1 (eit (gv (D 0 3) x) (dv y))) 124 2 (-1)) := by
  have L1 : Ly (wI h 124 0 0) := L
  obtain ⟨e1, e2⟩ := gd_bad e
  rw [e2, e228]
  simp only [b228_0, b228_3, b228_7, b228_9, b228_15, b228_32, b228_38, b228_47, cond_true, cond_false, decide_true, Bool.and_true, Bool.true_and, Bool.and_self, Bool.and_false, Bool.false_and, Bool.not_true, Bool.not_false, Bool.or_true, Bool.true_or, Bool.or_false, Bool.false_or, is_some, gd_some, bk_v, bk_u, isO_wI, y_124 L, q200 L1 (Mq_wI (by decide) q), d219b L1 e1, c0_21, d155 L1]
theorem m229 {h : A_H} {B : Nat} {D : Gh} {S : Nat → Nat} (L : Ly h) (hB : hP h 124 3 = some B) (l : ML h B) (w : WF D) (b : MB h B D) (u : WD D S) (r : RW h 126 S) {m d : Nat} (hm : m < D 0 2) (hd : d ≤ 60) : C 229 [.ref 124, .int (nI m), .int (nI d)] h = some (some (some (.int (nI (dus D 0 (S 17 + d) (fun g => decide (byI D g = nI m) && has0 S g))))), wI (wI (wp (wI h 124 0 0) 127 (Sd S d) 18) 124 1 0) 124 2 (-1)) := by
  have L1 : Ly (wI h 124 0 0) := L; have hB1 : hP (wI h 124 0 0) 124 3 = some B := hB; have l1 : ML (wI h 124 0 0) B := l; have b1 : MB (wI h 124 0 0) B D := MB_wI l (by decide) b; have r1 : RW (wI h 124 0 0) 126 S := RW_wI (by decide) r
  have L2 : Ly (wp (wI h 124 0 0) 127 (Sd S d) 18) := L; have hB2 : hP (wp (wI h 124 0 0) 127 (Sd S d) 18) 124 3 = some B := hB; have l2 : ML (wp (wI h 124 0 0) 127 (Sd S d) 18) B := l; have b2 : MB (wp (wI h 124 0 0) 127 (Sd S d) 18) B D := MB_wp l1 (by decide) b1; have r2 := RW_wp (wI h 124 0 0) 127 (Sd S d); have v2 : isV 127 := Or.inr rfl; have ws2 : WS (Sd S d) := WS_Sd w u hd
  have := f_nm w
  rw [e229]
  simp only [b229_0, b229_3, b229_7, b229_9, b229_15, b229_46, b229_55, cond_true, cond_false, decide_true, Bool.and_true, Bool.true_and, Bool.and_self, Bool.and_false, Bool.false_and, Bool.not_true, Bool.not_false, Bool.or_true, Bool.true_or, Bool.or_false, Bool.false_or, is_some, gd_some, bk_v, bk_u, hP_wI, isO_wI, isA_wI, hP_wp, isO_wp, isA_wp, y_124 L, y_P15 L, y_P16 L, hB, d201 L1 hB1 l1 b1, vd_of (show D 0 2 < 2147483648 by omega) hm, bI_T, d219 L1 r1 hd, c00]
  refine (loop_ix (fun g => R 229 20 [some (.ref 124), some (.int (nI m)), some (.int (nI d)), some (.int 0), some (.int (nI (sm g (fun g => bif decide (byI D g = nI m) && has0 S g then dut D 0 g (S 17 + d) else 0)))), some (.int (nI g))] [] (wp (wI h 124 0 0) 127 (Sd S d) 18)) (D 0 5) ?_).trans ?_
  · intro g hg
    have h8 : g < 8 := Nat.lt_of_lt_of_le hg (f_nG w)
    have h207 := d207 L2 hB2 l2 v2 w b2 ws2 r2 hg false
    rw [Sd_17, bI_F, cond_false] at h207
    have hs := s_ne ws2 h8 (show 0 < 100 by decide)
    rw [show nI 0 = 0 from rfl, Sd_g (by omega)] at hs
    have hr : hI (wp (wI h 124 0 0) 127 (Sd S d) 18) 127 g = nI (S g) := by rw [r2 g (by omega), Sd_g (by omega)]
    rw [b229_20]
    simp only [cond_true, cond_false, decide_true, Bool.and_true, Bool.true_and, Bool.and_self, Bool.and_false, Bool.false_and, Bool.not_true, Bool.not_false, Bool.or_true, Bool.true_or, Bool.or_false, Bool.false_or, is_some, gd_some, bk_v, bk_u, hP_wI, isO_wI, isA_wI, hP_wp, isO_wp, isA_wp, y_124 L, y_P15 L, y_P16 L, hB, mB_O l, m_p21 l, b_s5 b2, g_go w hg, mA_11 l h8, w_cl (show g < 2147483648 by omega), b_by b2 hg, Int32.zero_add, v_A L (Or.inr rfl) (show g < 18 by omega), hr, hs, h207, b229_46, w_s, sm_s, nI_add, Int32.add_zero]
    rw [show decide (S g = 0) = has0 S g from rfl]
    cases decide (byI D g = nI m) <;> cases has0 S g <;> rfl
  · rw [b229_20]
    simp only [cond_true, cond_false, decide_true, Bool.and_true, Bool.true_and, Bool.and_self, Bool.and_false, Bool.false_and, Bool.not_true, Bool.not_false, Bool.or_true, Bool.true_or, Bool.or_false, Bool.false_or, is_some, gd_some, bk_v, bk_u, hP_wI, isO_wI, isA_wI, hP_wp, isO_wp, isA_wp, y_124 L, y_P15 L, y_P16 L, hB, mB_O l, b_s5 b2, g_stop w, d158 L2, b229_55]
    rfl
theorem m229b {h : A_H} {D : Gh} (L : Ly h) (q : Mq h D) {x y : Int32} (e : decide (eit (gv (D 0 2) x) (dv y) = 0) = false) : C 229 [.ref 124, .int x, .int y] h = some (some (some (.int (-1))), wI (wI (wI h 124 0 0) 124 1 (eit (gv (D 0 2) x) (dv y))) 124 2 (-1)) := by
  have L1 : Ly (wI h 124 0 0) := L
  obtain ⟨e1, e2⟩ := gd_bad e
  rw [e2, e229]
  simp only [b229_0, b229_3, b229_7, b229_9, b229_15, b229_46, b229_55, cond_true, cond_false, decide_true, Bool.and_true, Bool.true_and, Bool.and_self, Bool.and_false, Bool.false_and, Bool.not_true, Bool.not_false, Bool.or_true, Bool.true_or, Bool.or_false, Bool.false_or, is_some, gd_some, bk_v, bk_u, isO_wI, y_124 L, q201 L1 (Mq_wI (by decide) q), d219b L1 e1, c0_21, d155 L1]
theorem WS_S {D : Gh} {S : Nat → Nat} (w : WF D) (u : WD D S) : WS S := by
  have h1 := u.1
  have h3 := u.2.2.1
  have h8 := f_nG w
  have h4 : 2 ^ D 0 5 ≤ 256 := Nat.le_trans (Nat.pow_le_pow_right (by decide) h8) (by decide)
  exact ⟨by omega, u.2.1, by omega⟩
theorem m224 {h : A_H} {B : Nat} {D : Gh} {S : Nat → Nat} (L : Ly h) (hB : hP h 124 3 = some B) (l : ML h B) (w : WF D) (b : MB h B D) (u : WD D S) (r : RW h 126 S) {g : Nat} (hg : g < D 0 5) : C 224 [.ref 124, .int (nI g)] h = some (some (some (.int (tuV D S g))), wI (wI (wI h 124 0 0) 124 1 0) 124 2 (-1)) := by
  have L1 : Ly (wI h 124 0 0) := L; have hB1 : hP (wI h 124 0 0) 124 3 = some B := hB; have l1 : ML (wI h 124 0 0) B := l; have b1 : MB (wI h 124 0 0) B D := MB_wI l (by decide) b; have r1 : RW (wI h 124 0 0) 126 S := RW_wI (by decide) r
  have h8 := f_nG w
  have hk := tks_le w hg
  have ha := f_age w hg
  have h17 := u.1
  have v1 : isV 126 := Or.inl rfl
  have ws := WS_S w u
  have step : ∀ n, n ≤ 301 → R 224 13 [some (.ref 124), some (.int (nI g)), some (.int (nI n))] [] (wI h 124 0 0) = bif tur D g (D 15 g + S 17 + n) then some (some (some (.int (nI n))), wI (wI (wI h 124 0 0) 124 1 0) 124 2 (-1)) else R 224 13 [some (.ref 124), some (.int (nI g)), some (.int (nI (n + 1)))] [] (wI h 124 0 0) := by
    intro n hn
    rw [b224_13, show (301 : Int32) = nI 301 from rfl, dF (show ¬ nI 301 < nI n by rw [w_lt (by omega) (by omega)]; omega)]
    simp only [cond_true, cond_false, decide_true, Bool.and_true, Bool.true_and, Bool.and_self, Bool.and_false, Bool.false_and, Bool.not_true, Bool.not_false, Bool.or_true, Bool.true_or, Bool.or_false, Bool.false_or, is_some, gd_some, bk_v, bk_u, hP_wI, isO_wI, isA_wI, hP_wp, isO_wp, isA_wp, y_124 L, y_P15 L, y_P16 L, hB, mB_O l, d203 L1 hB1 l1 v1 w b1 ws r1 hg, b224_24, nI_add, d152 L1 hB1 l1 v1 w b1 ws r1 hg (show D 15 g + S 17 + n ≤ 2000 by omega), b224_27, z_0, w_s, d158 L1, b224_31]
    cases tur D g (D 15 g + S 17 + n) <;> rfl
  have stop : R 224 13 [some (.ref 124), some (.int (nI g)), some (.int (nI 302))] [] (wI h 124 0 0) = some (some (some (.int (-2))), wI (wI (wI h 124 0 0) 124 1 0) 124 2 (-1)) := by
    rw [b224_13, show (301 : Int32) = nI 301 from rfl, dT (show nI 301 < nI 302 by rw [w_lt (by omega) (by omega)]; omega)]
    simp only [cond_true, cond_false, decide_true, Bool.and_true, Bool.true_and, Bool.and_self, Bool.and_false, Bool.false_and, Bool.not_true, Bool.not_false, Bool.or_true, Bool.true_or, Bool.or_false, Bool.false_or, is_some, gd_some, bk_v, bk_u, hP_wI, isO_wI, isA_wI, hP_wp, isO_wp, isA_wp, y_124 L, y_P15 L, y_P16 L, hB, d158 L1, b224_37]
  rw [e224]
  simp only [b224_0, b224_3, b224_6, b224_10, b224_24, b224_27, b224_31, b224_37, cond_true, cond_false, decide_true, Bool.and_true, Bool.true_and, Bool.and_self, Bool.and_false, Bool.false_and, Bool.not_true, Bool.not_false, Bool.or_true, Bool.true_or, Bool.or_false, Bool.false_or, is_some, gd_some, bk_v, bk_u, hP_wI, isO_wI, isA_wI, hP_wp, isO_wp, isA_wp, y_124 L, y_P15 L, y_P16 L, hB, d199 L1 hB1 l1 b1, vd_of (show D 0 5 < 2147483648 by omega) hg, bI_T, i1_0]
  unfold tuV
  by_cases e4 : D 12 g = 4
  · rw [dT e4, cond_true]
    have key : ∀ f n, n + f = 302 → R 224 13 [some (.ref 124), some (.int (nI g)), some (.int (nI n))] [] (wI h 124 0 0) = some (some (some (.int (-2))), wI (wI (wI h 124 0 0) 124 1 0) 124 2 (-1)) := by
      intro f
      induction f with
      | zero => intro n hn; rw [show n = 302 by omega]; exact stop
      | succ f ih =>
        intro n hn
        rw [step n (by omega), show tur D g (D 15 g + S 17 + n) = false by unfold tur; rw [dT e4]; rfl, cond_false]
        exact ih (n + 1) (by omega)
    exact key 302 0 rfl
  · rw [dF e4, cond_false]
    have key : ∀ f n, n + f = tks D g + 1 - (D 15 g + S 17) → R 224 13 [some (.ref 124), some (.int (nI g)), some (.int (nI n))] [] (wI h 124 0 0) = some (some (some (.int (nI (tks D g + 1 - (D 15 g + S 17))))), wI (wI (wI h 124 0 0) 124 1 0) 124 2 (-1)) := by
      intro f
      induction f with
      | zero =>
        intro n hn
        rw [step n (by omega), show tur D g (D 15 g + S 17 + n) = true by unfold tur; rw [dF e4, dT (by omega)]; rfl, cond_true, show n = tks D g + 1 - (D 15 g + S 17) by omega]
      | succ f ih =>
        intro n hn
        rw [step n (by omega), show tur D g (D 15 g + S 17 + n) = false by unfold tur; rw [dF (by omega : ¬ tks D g < D 15 g + S 17 + n), Bool.and_false], cond_false]
        exact ih (n + 1) (by omega)
    exact key _ 0 (Nat.zero_add _)
theorem m224b {h : A_H} {D : Gh} (L : Ly h) (q : Mq h D) {x : Int32} (e : vd (D 0 5) x = false) : C 224 [.ref 124, .int x] h = some (some (some (.int (-1))), wI (wI (wI h 124 0 0) 124 1 1) 124 2 (-1)) := by
  have L1 : Ly (wI h 124 0 0) := L
  rw [e224]
  simp only [b224_0, b224_3, b224_6, b224_10, b224_24, b224_27, b224_31, b224_37, cond_true, cond_false, decide_true, Bool.and_true, Bool.true_and, Bool.and_self, Bool.and_false, Bool.false_and, Bool.not_true, Bool.not_false, Bool.or_true, Bool.true_or, Bool.or_false, Bool.false_or, is_some, gd_some, bk_v, bk_u, isO_wI, y_124 L, q199 L1 (Mq_wI (by decide) q), e, bI_F, d155 L1]
theorem n_m1 {a : Nat} (ha : a < 1000) : decide (nI a = (-1 : Int32)) = false := by
  apply dF
  intro e
  have := congrArg Int32.toInt e
  rw [w_int (by omega)] at this
  have e2 : (-1 : Int32).toInt = -1 := rfl
  omega
theorem n_m2 {a : Nat} (ha : a < 1000) : decide (nI a = (-2 : Int32)) = false := by
  apply dF
  intro e
  have := congrArg Int32.toInt e
  rw [w_int (by omega)] at this
  have e2 : (-2 : Int32).toInt = -2 := rfl
  omega
theorem d151 {h : A_H} {B : Nat} {D : Gh} (l : ML h B) (w : WF D) (b : MB h B D) {m : Nat} (hm : m < D 0 2) : C 151 [.ref B, .int (nI m)] h = some (some (some (.int (bI (decide (D 4 m = 1))))), h) := by
  have hm4 : m < 4 := Nat.lt_of_lt_of_le hm (f_nm w)
  have hh := f_here w hm
  rw [e151, b151_0]
  simp only [cond_true, cond_false, decide_true, Bool.and_true, Bool.true_and, Bool.and_self, Bool.and_false, Bool.false_and, Bool.not_true, Bool.not_false, Bool.or_true, Bool.true_or, Bool.or_false, Bool.false_or, is_some, gd_some, bk_v, bk_u, mB_O l, m_p13 l, mA_3 l hm4, w_cl (show m < 2147483648 by omega), b_here b hm]
  by_cases e : D 4 m = 1
  · rw [dT e, cond_true, n_m1 (by omega)]; rfl
  · rw [dF e, cond_false]; rfl
theorem d246 {h : A_H} {B V : Nat} {D : Gh} {S : Nat → Nat} (L : Ly h) (hB : hP h 124 3 = some B) (l : ML h B) (hV : isV V) (w : WF D) (b : MB h B D) (ws : WS S) (r : RW h V S) {g : Nat} (hg : g < D 0 5) : C 246 [.ref 124, .ref V, .int (nI g)] h = some (some (some (.int (gai D g (S 17)))), h) := by
  have h8 : g < 8 := Nat.lt_of_lt_of_le hg (f_nG w)
  have h207 := d207 L hB l hV w b ws r hg false
  rw [bI_F, cond_false] at h207
  rw [e246]
  unfold gai
  by_cases e0 : D 12 g = 0
  · have hd0 : dut D 0 g (S 17) = 0 := by unfold dut; rw [dT e0]; rfl
    rw [hd0] at h207
    simp only [b246_0, b246_13, b246_22, b246_66, cond_true, cond_false, decide_true, Bool.and_true, Bool.true_and, Bool.and_self, Bool.and_false, Bool.false_and, Bool.not_true, Bool.not_false, Bool.or_true, Bool.true_or, Bool.or_false, Bool.false_or, is_some, gd_some, bk_v, bk_u, hB, y_124 L, mB_O l, m_p11 l, m_p12 l, m_p13 l, m_p14 l, m_p15 l, m_p16 l, m_p17 l, m_p18 l, m_p19 l, m_p20 l, m_p21 l, m_p22 l, m_p23 l, m_p24 l, m_p25 l, m_p26 l, m_p27 l, m_p28 l, m_p29 l, m_p30 l, m_p31 l, m_p32 l, m_p33 l, m_p34 l, mA_10 l h8, mA_11 l h8, mA_12 l h8, mA_13 l h8, mA_14 l h8, mA_15 l h8, w_cl (show g < 2147483648 by omega), b_by b hg, byI, dT e0, d204 L hB l hV w b ws r hg, z_0, h207]
    cases tur D g (D 15 g + S 17) <;> rfl
  · have hm := f_by w hg e0
    have hm4 : D 13 g < 4 := Nat.lt_of_lt_of_le hm (f_nm w)
    have hp := f_pri w hm
    simp only [b246_0, b246_13, b246_22, b246_66, cond_true, cond_false, decide_true, Bool.and_true, Bool.true_and, Bool.and_self, Bool.and_false, Bool.false_and, Bool.not_true, Bool.not_false, Bool.or_true, Bool.true_or, Bool.or_false, Bool.false_or, is_some, gd_some, bk_v, bk_u, hB, y_124 L, mB_O l, m_p11 l, m_p12 l, m_p13 l, m_p14 l, m_p15 l, m_p16 l, m_p17 l, m_p18 l, m_p19 l, m_p20 l, m_p21 l, m_p22 l, m_p23 l, m_p24 l, m_p25 l, m_p26 l, m_p27 l, m_p28 l, m_p29 l, m_p30 l, m_p31 l, m_p32 l, m_p33 l, m_p34 l, mA_10 l h8, mA_11 l h8, mA_12 l h8, mA_13 l h8, mA_14 l h8, mA_15 l h8, w_cl (show g < 2147483648 by omega), b_by b hg, byI, dF e0, n_m2 (show D 13 g < 1000 by omega), d151 l w b hm, z_0, d204 L hB l hV w b ws r hg, h207, i1_0, mA_3 l hm4, mA_4 l hm4, w_cl (show D 13 g < 2147483648 by omega), b_wei b hg, b_here b hm]
    by_cases e1 : D 4 (D 13 g) = 1
    · have e2 : ¬ D 4 (D 13 g) = 0 := by omega
      simp only [dT e1, dF e2, cond_true, cond_false, decide_true, Bool.and_true, Bool.true_and, Bool.and_self, Bool.and_false, Bool.false_and, Bool.not_true, Bool.not_false, Bool.or_true, Bool.true_or, Bool.or_false, Bool.false_or, is_some, gd_some, bk_v, bk_u, b_there b hm e1]
      cases tur D g (D 15 g + S 17) <;> rfl
    · have e2 : D 4 (D 13 g) = 0 := by omega
      simp only [dF e1, dT e2, cond_true, cond_false, decide_true, Bool.and_true, Bool.true_and, Bool.and_self, Bool.and_false, Bool.false_and, Bool.not_true, Bool.not_false, Bool.or_true, Bool.true_or, Bool.or_false, Bool.false_or, is_some, gd_some, bk_v, bk_u, Int32.mul_zero, Int32.sub_self]
      cases tur D g (D 15 g + S 17) <;> rfl
theorem m247 {h : A_H} {B : Nat} {D : Gh} {S : Nat → Nat} (L : Ly h) (hB : hP h 124 3 = some B) (l : ML h B) (w : WF D) (b : MB h B D) (u : WD D S) (r : RW h 126 S) {g d : Nat} (hg : g < D 0 5) (hd : d ≤ 60) : C 247 [.ref 124, .int (nI g), .int (nI d)] h = some (some (some (.int (gai D g (S 17 + d)))), wI (wI (wp (wI h 124 0 0) 127 (Sd S d) 18) 124 1 0) 124 2 (-1)) := by
  have L1 : Ly (wI h 124 0 0) := L; have hB1 : hP (wI h 124 0 0) 124 3 = some B := hB; have l1 : ML (wI h 124 0 0) B := l; have b1 : MB (wI h 124 0 0) B D := MB_wI l (by decide) b; have r1 : RW (wI h 124 0 0) 126 S := RW_wI (by decide) r
  have L2 : Ly (wp (wI h 124 0 0) 127 (Sd S d) 18) := L; have hB2 : hP (wp (wI h 124 0 0) 127 (Sd S d) 18) 124 3 = some B := hB; have l2 : ML (wp (wI h 124 0 0) 127 (Sd S d) 18) B := l; have b2 : MB (wp (wI h 124 0 0) 127 (Sd S d) 18) B D := MB_wp l1 (by decide) b1; have r2 := RW_wp (wI h 124 0 0) 127 (Sd S d); have v2 : isV 127 := Or.inr rfl; have ws2 : WS (Sd S d) := WS_Sd w u hd
  have := f_nG w
  rw [e247]
  simp only [b247_0, b247_3, b247_7, b247_9, b247_15, b247_22, b247_23, cond_true, cond_false, decide_true, Bool.and_true, Bool.true_and, Bool.and_self, Bool.and_false, Bool.false_and, Bool.not_true, Bool.not_false, Bool.or_true, Bool.true_or, Bool.or_false, Bool.false_or, is_some, gd_some, bk_v, bk_u, hP_wI, isO_wI, isA_wI, hP_wp, isO_wp, isA_wp, y_124 L, y_P15 L, y_P16 L, hB, d199 L1 hB1 l1 b1, vd_of (show D 0 5 < 2147483648 by omega) hg, bI_T, d219 L1 r1 hd, c00, d246 L2 hB2 l2 v2 w b2 ws2 r2 hg, d158 L2, Sd_17]
theorem m247b {h : A_H} {D : Gh} (L : Ly h) (q : Mq h D) {x y : Int32} (e : decide (eit (gv (D 0 5) x) (dv y) = 0) = false) : C 247 [.ref 124, .int x, .int y] h = some (some (some (.int (-10000))), wI (wI (wI h 124 0 0) 124 1 (eit (gv (D 0 5) x) (dv y))) 124 2 (-1)) := by
  have L1 : Ly (wI h 124 0 0) := L
  obtain ⟨e1, e2⟩ := gd_bad e
  rw [e2, e247]
  simp only [b247_0, b247_3, b247_7, b247_9, b247_15, b247_22, b247_23, cond_true, cond_false, decide_true, Bool.and_true, Bool.true_and, Bool.and_self, Bool.and_false, Bool.false_and, Bool.not_true, Bool.not_false, Bool.or_true, Bool.true_or, Bool.or_false, Bool.false_or, is_some, gd_some, bk_v, bk_u, isO_wI, y_124 L, q199 L1 (Mq_wI (by decide) q), d219b L1 e1, c0_21, d156 L1]
theorem d216 {h : A_H} {B : Nat} {D : Gh} {S : Nat → Nat} (L : Ly h) (hB : hP h 124 3 = some B) (l : ML h B) (w : WF D) (b : MB h B D) (ws : WS S) (r : RW h 126 S) {t : Nat} (ht : t < 100) : C 216 [.ref 124, .int (nI t)] h = some (some (some (.int (nI (msk (D 0 5) (has D S t))))), h) := by
  have hV : isV 126 := Or.inl rfl
  rw [e216]
  simp only [b216_0]
  refine (loop_ix (fun g => R 216 4 [some (.ref 124), some (.int (nI t)), some (.int (nI (msk g (has D S t)))), some (.int (nI g))] [] h) (D 0 5) ?_).trans ?_
  · intro g hg
    have h8 : g < 8 := Nat.lt_of_lt_of_le hg (f_nG w)
    rw [b216_4]
    simp only [cond_true, cond_false, decide_true, Bool.and_true, Bool.true_and, Bool.and_self, Bool.and_false, Bool.false_and, Bool.not_true, Bool.not_false, Bool.or_true, Bool.true_or, Bool.or_false, Bool.false_or, is_some, gd_some, bk_v, bk_u, hB, y_124 L, mB_O l, m_p11 l, m_p12 l, m_p13 l, m_p14 l, m_p15 l, m_p16 l, m_p17 l, m_p18 l, m_p19 l, m_p20 l, m_p21 l, m_p22 l, m_p23 l, m_p24 l, m_p25 l, m_p26 l, m_p27 l, m_p28 l, m_p29 l, m_p30 l, m_p31 l, m_p32 l, m_p33 l, m_p34 l, y_P15 L, b_s5 b, g_go w hg, d205 L hB l hV w b ws r hg ht, b216_16, z_0, w_s, Int32.or_zero]
    cases e : has D S t g with
    | false => rw [no_msk e]; rfl
    | true => rw [or_msk (by omega) e]; rfl
  · rw [b216_4]
    simp only [cond_true, cond_false, decide_true, Bool.and_true, Bool.true_and, Bool.and_self, Bool.and_false, Bool.false_and, Bool.not_true, Bool.not_false, Bool.or_true, Bool.true_or, Bool.or_false, Bool.false_or, is_some, gd_some, bk_v, bk_u, hB, y_124 L, mB_O l, m_p11 l, m_p12 l, m_p13 l, m_p14 l, m_p15 l, m_p16 l, m_p17 l, m_p18 l, m_p19 l, m_p20 l, m_p21 l, m_p22 l, m_p23 l, m_p24 l, m_p25 l, m_p26 l, m_p27 l, m_p28 l, m_p29 l, m_p30 l, m_p31 l, m_p32 l, m_p33 l, m_p34 l, b_s5 b, g_stop w]
theorem m217 {h : A_H} {B : Nat} {D : Gh} {S : Nat → Nat} (L : Ly h) (hB : hP h 124 3 = some B) (l : ML h B) (w : WF D) (b : MB h B D) (u : WD D S) (r : RW h 126 S) {t j : Nat} (ht : t < D 0 3) (hj : j < 4) : C 217 [.ref 124, .int (nI t), .int (nI j)] h = some (some (some (.int (nI (trV D S t j)))), wI (wI (wI h 124 0 0) 124 1 0) 124 2 (-1)) := by
  have L1 : Ly (wI h 124 0 0) := L; have hB1 : hP (wI h 124 0 0) 124 3 = some B := hB; have l1 : ML (wI h 124 0 0) B := l; have b1 : MB (wI h 124 0 0) B D := MB_wI l (by decide) b; have r1 : RW (wI h 124 0 0) 126 S := RW_wI (by decide) r
  have ht4 : t < 4 := Nat.lt_of_lt_of_le ht (f_nt w)
  have h160 := d160 (nI j) (k := 3) (by decide) (wI h 124 0 0)
  rw [show nI 3 = 3 from rfl, vd_of (by decide) hj] at h160
  have h12 : (12 : Int32) + nI t = nI (12 + t) := nI_add 12 t
  have h8 : (8 : Int32) + nI t = nI (8 + t) := nI_add 8 t
  have := f_nt w
  rw [e217]
  simp only [b217_0, b217_3, b217_6, b217_11, b217_15, b217_48, b217_49, cond_true, cond_false, decide_true, Bool.and_true, Bool.true_and, Bool.and_self, Bool.and_false, Bool.false_and, Bool.not_true, Bool.not_false, Bool.or_true, Bool.true_or, Bool.or_false, Bool.false_or, is_some, gd_some, bk_v, bk_u, hP_wI, isO_wI, isA_wI, hP_wp, isO_wp, isA_wp, y_124 L, y_P15 L, y_P16 L, hB, d200 L1 hB1 l1 b1, vd_of (show D 0 3 < 2147483648 by omega) ht, bI_T, i1_0, h160, h12, h8, v_A L (Or.inl rfl) (show 12 + t < 18 by omega), v_A L (Or.inl rfl) (show 8 + t < 18 by omega), w_cl (show 12 + t < 2147483648 by omega), w_cl (show 8 + t < 2147483648 by omega), w_cl (show t < 2147483648 by omega), r1 (12 + t) (by omega), r1 (8 + t) (by omega), mB_O l, m_p15 l, mA_5 l ht4, b_all b1 ht, d216 L1 hB1 l1 w b1 (WS_S w u) r1 (show t < 100 by omega), d158 L1]
  have : j = 0 ∨ j = 1 ∨ j = 2 ∨ j = 3 := by omega
  rcases this with rfl | rfl | rfl | rfl <;> rfl
theorem m218 {h : A_H} {B : Nat} {D : Gh} {S : Nat → Nat} (L : Ly h) (hB : hP h 124 3 = some B) (l : ML h B) (w : WF D) (b : MB h B D) (u : WD D S) (r : RW h 126 S) {k j : Nat} (hk : k < D 0 4) (hj : j < 3) : C 218 [.ref 124, .int (nI k), .int (nI j)] h = some (some (some (.int (nI (gaV D k j)))), wI (wI (wI h 124 0 0) 124 1 0) 124 2 (-1)) := by
  have L1 : Ly (wI h 124 0 0) := L; have hB1 : hP (wI h 124 0 0) 124 3 = some B := hB; have l1 : ML (wI h 124 0 0) B := l; have b1 : MB (wI h 124 0 0) B D := MB_wI l (by decide) b; have r1 : RW (wI h 124 0 0) 126 S := RW_wI (by decide) r
  have hk3 : k < 3 := Nat.lt_of_lt_of_le hk (f_ng w)
  have h160 := d160 (nI j) (k := 2) (by decide) (wI h 124 0 0)
  rw [show nI 2 = 2 from rfl, vd_of (by decide) hj] at h160
  have := f_ng w
  rw [e218]
  simp only [b218_0, b218_3, b218_6, b218_11, b218_15, b218_40, cond_true, cond_false, decide_true, Bool.and_true, Bool.true_and, Bool.and_self, Bool.and_false, Bool.false_and, Bool.not_true, Bool.not_false, Bool.or_true, Bool.true_or, Bool.or_false, Bool.false_or, is_some, gd_some, bk_v, bk_u, hP_wI, isO_wI, isA_wI, hP_wp, isO_wp, isA_wp, y_124 L, y_P15 L, y_P16 L, hB, d202 L1 hB1 l1 b1, vd_of (show D 0 4 < 2147483648 by omega) hk, bI_T, i1_0, h160, w_cl (show k < 2147483648 by omega), mB_O l, m_p17 l, m_p18 l, m_p19 l, mA_7 l hk3, mA_8 l hk3, mA_9 l hk3, b_nose b1 hk, b_op b1 hk, b_sh b1 hk, d158 L1]
  have : j = 0 ∨ j = 1 ∨ j = 2 := by omega
  rcases this with rfl | rfl | rfl <;> rfl
theorem m215 {h : A_H} {B : Nat} {D : Gh} {S : Nat → Nat} (L : Ly h) (hB : hP h 124 3 = some B) (l : ML h B) (w : WF D) (b : MB h B D) (u : WD D S) (r : RW h 126 S) {g j : Nat} (hg : g < D 0 5) (hj : j < 6) : C 215 [.ref 124, .int (nI g), .int (nI j)] h = some (some (some (.int (gdV D S g j))), wI (wI (wI h 124 0 0) 124 1 0) 124 2 (-1)) := by
  have L1 : Ly (wI h 124 0 0) := L; have hB1 : hP (wI h 124 0 0) 124 3 = some B := hB; have l1 : ML (wI h 124 0 0) B := l; have b1 : MB (wI h 124 0 0) B D := MB_wI l (by decide) b; have r1 : RW (wI h 124 0 0) 126 S := RW_wI (by decide) r
  have h8 : g < 8 := Nat.lt_of_lt_of_le hg (f_nG w)
  have h160 := d160 (nI j) (k := 5) (by decide) (wI h 124 0 0)
  rw [show nI 5 = 5 from rfl, vd_of (by decide) hj] at h160
  have := f_nG w
  rw [e215]
  simp only [b215_0, b215_3, b215_6, b215_11, b215_15, b215_25, b215_33, b215_41, b215_49, b215_58, b215_65, b215_70, cond_true, cond_false, decide_true, Bool.and_true, Bool.true_and, Bool.and_self, Bool.and_false, Bool.false_and, Bool.not_true, Bool.not_false, Bool.or_true, Bool.true_or, Bool.or_false, Bool.false_or, is_some, gd_some, bk_v, bk_u, hP_wI, isO_wI, isA_wI, hP_wp, isO_wp, isA_wp, y_124 L, y_P15 L, y_P16 L, hB, d199 L1 hB1 l1 b1, vd_of (show D 0 5 < 2147483648 by omega) hg, bI_T, i1_0, h160, w_cl (show g < 2147483648 by omega), mB_O l, m_p20 l, m_p21 l, m_p22 l, m_p24 l, mA_10 l h8, mA_11 l h8, mA_12 l h8, mA_14 l h8, b_kind b1 hg, b_by b1 hg, b_owner b1 hg, b_wei b1 hg, Int32.zero_add, v_A L (Or.inl rfl) (show g < 18 by omega), r1 g (by omega), d210 L1 hB1 l1 (Or.inl rfl) w b1 (WS_S w u) r1 (show g < 32 by omega), z_0, d158 L1]
  rw [show (S 16).testBit g = hid S g from rfl]
  have : j = 0 ∨ j = 1 ∨ j = 2 ∨ j = 3 ∨ j = 4 ∨ j = 5 := by omega
  rcases this with rfl | rfl | rfl | rfl | rfl | rfl
  · rfl
  · rfl
  · rfl
  · rfl
  · rfl
  · show _ = some (some (some (Value.int (bI (hid S g)))), _)
    cases hid S g <;> rfl
theorem m215b {h : A_H} {D : Gh} (L : Ly h) (q : Mq h D) {x y : Int32} (e : (vd 6 y && vd (D 0 5) x) = false) : C 215 [.ref 124, .int x, .int y] h = some (some (some (.int (-1))), wI (wI (wI h 124 0 0) 124 1 1) 124 2 (-1)) := by
  have L1 : Ly (wI h 124 0 0) := L
  have h160 := d160 y (k := 5) (by decide) (wI h 124 0 0)
  rw [show nI 5 = 5 from rfl] at h160
  rw [e215]
  cases hx : vd (D 0 5) x with
  | false => simp only [b215_0, b215_3, b215_6, b215_11, b215_15, b215_25, b215_33, b215_41, b215_49, b215_58, b215_65, b215_70, cond_true, cond_false, decide_true, Bool.and_true, Bool.true_and, Bool.and_self, Bool.and_false, Bool.false_and, Bool.not_true, Bool.not_false, Bool.or_true, Bool.true_or, Bool.or_false, Bool.false_or, is_some, gd_some, bk_v, bk_u, isO_wI, y_124 L, q199 L1 (Mq_wI (by decide) q), hx, bI_F, d155 L1]
  | true =>
    rw [hx, Bool.and_true] at e
    rw [e] at h160
    simp only [b215_0, b215_3, b215_6, b215_11, b215_15, b215_25, b215_33, b215_41, b215_49, b215_58, b215_65, b215_70, cond_true, cond_false, decide_true, Bool.and_true, Bool.true_and, Bool.and_self, Bool.and_false, Bool.false_and, Bool.not_true, Bool.not_false, Bool.or_true, Bool.true_or, Bool.or_false, Bool.false_or, is_some, gd_some, bk_v, bk_u, isO_wI, y_124 L, q199 L1 (Mq_wI (by decide) q), hx, bI_T, i1_0, h160, bI_F, d155 L1]
theorem m217b {h : A_H} {D : Gh} (L : Ly h) (q : Mq h D) {x y : Int32} (e : (vd 4 y && vd (D 0 3) x) = false) : C 217 [.ref 124, .int x, .int y] h = some (some (some (.int (-1))), wI (wI (wI h 124 0 0) 124 1 1) 124 2 (-1)) := by
  have L1 : Ly (wI h 124 0 0) := L
  have h160 := d160 y (k := 3) (by decide) (wI h 124 0 0)
  rw [show nI 3 = 3 from rfl] at h160
  rw [e217]
  cases hx : vd (D 0 3) x with
  | false => simp only [b217_0, b217_3, b217_6, b217_11, b217_15, b217_48, b217_49, cond_true, cond_false, decide_true, Bool.and_true, Bool.true_and, Bool.and_self, Bool.and_false, Bool.false_and, Bool.not_true, Bool.not_false, Bool.or_true, Bool.true_or, Bool.or_false, Bool.false_or, is_some, gd_some, bk_v, bk_u, isO_wI, y_124 L, q200 L1 (Mq_wI (by decide) q), hx, bI_F, d155 L1]
  | true =>
    rw [hx, Bool.and_true] at e
    rw [e] at h160
    simp only [b217_0, b217_3, b217_6, b217_11, b217_15, b217_48, b217_49, cond_true, cond_false, decide_true, Bool.and_true, Bool.true_and, Bool.and_self, Bool.and_false, Bool.false_and, Bool.not_true, Bool.not_false, Bool.or_true, Bool.true_or, Bool.or_false, Bool.false_or, is_some, gd_some, bk_v, bk_u, isO_wI, y_124 L, q200 L1 (Mq_wI (by decide) q), hx, bI_T, i1_0, h160, bI_F, d155 L1]
theorem m218b {h : A_H} {D : Gh} (L : Ly h) (q : Mq h D) {x y : Int32} (e : (vd 3 y && vd (D 0 4) x) = false) : C 218 [.ref 124, .int x, .int y] h = some (some (some (.int (-1))), wI (wI (wI h 124 0 0) 124 1 1) 124 2 (-1)) := by
  have L1 : Ly (wI h 124 0 0) := L
  have h160 := d160 y (k := 2) (by decide) (wI h 124 0 0)
  rw [show nI 2 = 2 from rfl] at h160
  rw [e218]
  cases hx : vd (D 0 4) x with
  | false => simp only [b218_0, b218_3, b218_6, b218_11, b218_15, b218_40, cond_true, cond_false, decide_true, Bool.and_true, Bool.true_and, Bool.and_self, Bool.and_false, Bool.false_and, Bool.not_true, Bool.not_false, Bool.or_true, Bool.true_or, Bool.or_false, Bool.false_or, is_some, gd_some, bk_v, bk_u, isO_wI, y_124 L, q202 L1 (Mq_wI (by decide) q), hx, bI_F, d155 L1]
  | true =>
    rw [hx, Bool.and_true] at e
    rw [e] at h160
    simp only [b218_0, b218_3, b218_6, b218_11, b218_15, b218_40, cond_true, cond_false, decide_true, Bool.and_true, Bool.true_and, Bool.and_self, Bool.and_false, Bool.false_and, Bool.not_true, Bool.not_false, Bool.or_true, Bool.true_or, Bool.or_false, Bool.false_or, is_some, gd_some, bk_v, bk_u, isO_wI, y_124 L, q202 L1 (Mq_wI (by decide) q), hx, bI_T, i1_0, h160, bI_F, d155 L1]
