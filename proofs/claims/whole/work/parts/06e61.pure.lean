set_option maxRecDepth 16384 in
theorem z_P0 {h : A_H} (L : Ly h) : hP h 2 0 = some 1 := ly_P L rfl
def FB (P : Nat → Nat → Prop) (h h' : A_H) : Prop := hn h' = hn h ∧ hs h' = hs h ∧ hsh h' = hsh h ∧ hP h' = hP h ∧ hX h' = hX h ∧ (∀ a b, ¬ P a b → hI h' a b = hI h a b) ∧ ∀ a b, ¬ (a = 2 ∧ b = 9) → hL h' a b = hL h a b
set_option maxRecDepth 16384 in
theorem FB_rfl (P : Nat → Nat → Prop) (h : A_H) : FB P h h := ⟨rfl, rfl, rfl, rfl, rfl, fun _ _ _ => rfl, fun _ _ _ => rfl⟩
set_option maxRecDepth 16384 in
theorem FB_tr {P : Nat → Nat → Prop} {h h' h'' : A_H} (a : FB P h h') (b : FB P h' h'') : FB P h h'' := ⟨b.1.trans a.1, b.2.1.trans a.2.1, b.2.2.1.trans a.2.2.1, b.2.2.2.1.trans a.2.2.2.1, b.2.2.2.2.1.trans a.2.2.2.2.1, fun x y n => (b.2.2.2.2.2.1 x y n).trans (a.2.2.2.2.2.1 x y n), fun x y n => (b.2.2.2.2.2.2 x y n).trans (a.2.2.2.2.2.2 x y n)⟩
set_option maxRecDepth 16384 in
theorem FB_mo {P Q : Nat → Nat → Prop} {h h' : A_H} (m : ∀ a b, P a b → Q a b) (f : FB P h h') : FB Q h h' := ⟨f.1, f.2.1, f.2.2.1, f.2.2.2.1, f.2.2.2.2.1, fun a b n => f.2.2.2.2.2.1 a b (fun p => n (m a b p)), f.2.2.2.2.2.2⟩
set_option maxRecDepth 16384 in
theorem FB_wI {P : Nat → Nat → Prop} {h h' : A_H} (a : FB P h h') {k j : Nat} (v : Int32) (q : P k j) : FB P h (wI h' k j v) := FB_tr a ⟨rfl, rfl, rfl, rfl, rfl, fun x y n => by rw [hI_wI, if_neg (fun e => n (by rw [e.1, e.2]; exact q))], fun _ _ _ => rfl⟩
set_option maxRecDepth 16384 in
theorem FB_wL {P : Nat → Nat → Prop} {h h' : A_H} (a : FB P h h') (v : Int64) : FB P h (wL h' 2 9 v) := FB_tr a ⟨rfl, rfl, rfl, rfl, rfl, fun _ _ _ => rfl, fun x y n => by rw [hL_wL, if_neg n]⟩
set_option maxRecDepth 16384 in
theorem FB_Ly {P : Nat → Nat → Prop} {h h' : A_H} (a : FB P h h') (L : Ly h) : Ly h' := by
  obtain ⟨h1, -, h3, h5, -, -, -⟩ := a
  unfold Ly
  rw [h1, h3, h5]
  exact L
set_option maxRecDepth 16384 in
theorem FB_I {P : Nat → Nat → Prop} {h h' : A_H} (f : FB P h h') {a b : Nat} (n : ¬ P a b) : hI h' a b = hI h a b := f.2.2.2.2.2.1 a b n
set_option maxRecDepth 16384 in
theorem FB_P {P : Nat → Nat → Prop} {h h' : A_H} (f : FB P h h') : hP h' = hP h := f.2.2.2.1
set_option maxRecDepth 16384 in
theorem FB_L {P : Nat → Nat → Prop} {h h' : A_H} (f : FB P h h') {a b : Nat} (n : ¬ (a = 2 ∧ b = 9)) : hL h' a b = hL h a b := f.2.2.2.2.2.2 a b n
def TB (a b : Nat) : Prop := a = 2 ∧ (b = 6 ∨ b = 7 ∨ b = 8)
def CTp (h : A_H) (bs : Nat → Int32) (n : Nat) : Prop := hI h 2 1 = nI n ∧ n ≤ 1100 ∧ ∀ k, k < n → hI h 1 k = bs k
set_option maxRecDepth 16384 in
theorem CTp_FB {P : Nat → Nat → Prop} {h h' : A_H} {bs : Nat → Int32} {n : Nat} (f : FB P h h') (t : CTp h bs n) (n1 : ¬ P 2 1) (n2 : ∀ k, ¬ P 1 k) : CTp h' bs n := ⟨(FB_I f n1).trans t.1, t.2.1, fun k hk => (FB_I f (n2 k)).trans (t.2.2 k hk)⟩
set_option maxRecDepth 16384 in
theorem lt_e {b : Int32} (h : lt' b = true) : decide (b < 97) = false ∧ decide ((122 : Int32) < b) = false := by
  unfold lt' at h
  rw [Bool.and_eq_true, Bool.not_eq_true', Bool.not_eq_true'] at h
  exact h
set_option maxRecDepth 16384 in
theorem dt_e {b : Int32} (h : dt' b = true) : decide (b < 48) = false ∧ decide ((57 : Int32) < b) = false := by
  unfold dt' at h
  rw [Bool.and_eq_true, Bool.not_eq_true', Bool.not_eq_true'] at h
  exact h
set_option maxRecDepth 16384 in
theorem nine {a b k : Nat} (ha : a ≤ 2000) (hb : b ≤ a) (hk : k < 100) : decide (nI k < nI a - nI b) = decide (k < a - b) := by
  rw [w_sub hb]
  simp only [w_lt (show k < 2147483648 by omega) (show a - b < 2147483648 by omega)]
set_option maxRecDepth 16384 in
theorem c26 {h : A_H} {bs : Nat → Int32} {n s : Nat} (L : Ly h) (t : CTp h bs n) (hs : s ≤ n) (e7 : hI h 2 7 = nI s) (e8 : hI h 2 8 = nI s) : ∃ h', C 26 [.ref 2] h = some (some none, h') ∧ FB (fun a b => a = 2 ∧ (b = 6 ∨ b = 8)) h h' ∧ hI h' 2 6 = nI (if rE lt' bs n s - s ≤ 9 then 1 else 4) ∧ hI h' 2 8 = nI (rE lt' bs n s) ∧ hL h' 2 9 = nL (wv bs s (rE lt' bs n s - s)) := by
  have hn := t.2.1
  have key : ∀ f p h1, p + f = n → s ≤ p → FB (fun a b => a = 2 ∧ (b = 6 ∨ b = 8)) h h1 → hI h1 2 8 = nI p → hL h1 2 9 = nL (wv bs s (p - s)) → ∃ h', R 26 3 [some (.ref 2)] [] h1 = some (some none, h') ∧ FB (fun a b => a = 2 ∧ (b = 6 ∨ b = 8)) h h' ∧ hI h' 2 6 = nI (if rE lt' bs n p - s ≤ 9 then 1 else 4) ∧ hI h' 2 8 = nI (rE lt' bs n p) ∧ hL h' 2 9 = nL (wv bs s (rE lt' bs n p - s)) := by
    intro f
    induction f with
    | zero =>
      intro p h1 hp hsp f1 i8 i9
      have : p = n := by omega
      subst this
      have L1 := FB_Ly f1 L
      have j1 : hI h1 2 1 = nI p := (FB_I f1 (by omega)).trans t.1
      have j7 : hI h1 2 7 = nI s := (FB_I f1 (by omega)).trans e7
      rw [rE_n]
      have k9 := nine (a := p) (b := s) (k := 9) (by omega) hsp (by decide)
      rw [show nI 9 = 9 from rfl] at k9
      rw [b26_3]
      simp only [cond_true, cond_false, decide_true, Bool.and_true, Bool.true_and, Bool.and_self, Bool.and_false, Bool.false_and, Bool.not_true, Bool.not_false, Bool.or_true, Bool.true_or, Bool.or_false, Bool.false_or, is_some, gd_some, bk_v, bk_u, x_O2 L1, j1, i8, dT (Int32.le_refl (nI p)), j7, k9, b26_58]
      by_cases c : 9 < p - s
      · simp only [dT c, cond_true]
        refine ⟨wI h1 2 6 4, rfl, FB_wI f1 _ (by omega), ?_, ?_, i9⟩
        · rw [hI_wI, if_pos ⟨rfl, rfl⟩, if_neg (by omega)]; rfl
        · rw [hI_wI, if_neg (by omega)]; exact i8
      · simp only [dF c, cond_false]
        refine ⟨wI h1 2 6 1, rfl, FB_wI f1 _ (by omega), ?_, ?_, i9⟩
        · rw [hI_wI, if_pos ⟨rfl, rfl⟩, if_pos (by omega)]; rfl
        · rw [hI_wI, if_neg (by omega)]; exact i8
    | succ f ih =>
      intro p h1 hp hsp f1 i8 i9
      have hpn : p < n := by omega
      have L1 := FB_Ly f1 L
      have j1 : hI h1 2 1 = nI n := (FB_I f1 (by omega)).trans t.1
      have j7 : hI h1 2 7 = nI s := (FB_I f1 (by omega)).trans e7
      have jb : hI h1 1 p = bs p := (FB_I f1 (by omega)).trans (t.2.2 p hpn)
      have k9 := nine (a := p) (b := s) (k := 9) (by omega) hsp (by decide)
      rw [show nI 9 = 9 from rfl] at k9
      rw [b26_3]
      simp only [cond_true, cond_false, decide_true, Bool.and_true, Bool.true_and, Bool.and_self, Bool.and_false, Bool.false_and, Bool.not_true, Bool.not_false, Bool.or_true, Bool.true_or, Bool.or_false, Bool.false_or, is_some, gd_some, bk_v, bk_u, x_O2 L1, j1, i8, dF (show ¬ nI n ≤ nI p by rw [w_le (by omega) (by omega)]; omega), z_P0 L1, x_A1 L1 (show p < 1100 by omega), w_cl (show p < 2147483648 by omega), jb, j7, k9, b26_58, b26_39, isO_wL, hI_wL, b26_45]
      cases hl : lt' (bs p) with
      | true =>
        obtain ⟨l1, l2⟩ := lt_e hl
        obtain ⟨c, hc, hc1, hc2, hv⟩ := lt_I hl
        simp only [l1, l2, cond_true, cond_false, decide_true, Bool.and_true, Bool.true_and, Bool.and_self, Bool.and_false, Bool.false_and, Bool.not_true, Bool.not_false, Bool.or_true, Bool.true_or, Bool.or_false, Bool.false_or, is_some, gd_some, bk_v, bk_u, i8, w_s]
        rw [rE_s lt' bs hpn, hl, cond_true]
        refine ih (p + 1) _ (by omega) (by omega) (FB_wI (FB_wL f1 _) _ (by omega)) (by rw [hI_wI, if_pos ⟨rfl, rfl⟩]) ?_
        show hL (wL h1 2 9 _) 2 9 = _
        rw [hL_wL, if_pos ⟨rfl, rfl⟩, i9, hc, i_l (by omega), show (32 : Int64) = nL 32 from rfl, l_mul, l_c (by omega)]
        rw [show p + 1 - s = (p - s) + 1 by omega]
        show _ = nL (32 * wv bs s (p - s) + lv (bs (s + (p - s))))
        rw [show s + (p - s) = p by omega, hv]
      | false =>
        rw [rE_s lt' bs hpn, hl, cond_false]
        have fin : ∃ h', (cond (decide (9 < p - s)) (some (some none, wI h1 2 6 4)) (some (some none, wI h1 2 6 1)) : Option (Option (Option Value) × A_H)) = some (some none, h') ∧ FB (fun a b => a = 2 ∧ (b = 6 ∨ b = 8)) h h' ∧ hI h' 2 6 = nI (if p - s ≤ 9 then 1 else 4) ∧ hI h' 2 8 = nI p ∧ hL h' 2 9 = nL (wv bs s (p - s)) := by
          by_cases c : 9 < p - s
          · simp only [dT c, cond_true]
            refine ⟨wI h1 2 6 4, rfl, FB_wI f1 _ (by omega), ?_, ?_, i9⟩
            · rw [hI_wI, if_pos ⟨rfl, rfl⟩, if_neg (by omega)]; rfl
            · rw [hI_wI, if_neg (by omega)]; exact i8
          · simp only [dF c, cond_false]
            refine ⟨wI h1 2 6 1, rfl, FB_wI f1 _ (by omega), ?_, ?_, i9⟩
            · rw [hI_wI, if_pos ⟨rfl, rfl⟩, if_pos (by omega)]; rfl
            · rw [hI_wI, if_neg (by omega)]; exact i8
        unfold lt' at hl
        cases l1 : decide (bs p < 97) with
        | true => simp only [cond_true, cond_false, decide_true, Bool.and_true, Bool.true_and, Bool.and_self, Bool.and_false, Bool.false_and, Bool.not_true, Bool.not_false, Bool.or_true, Bool.true_or, Bool.or_false, Bool.false_or, is_some, gd_some, bk_v, bk_u]; exact fin
        | false =>
          rw [l1] at hl
          have l2 : decide ((122 : Int32) < bs p) = true := by
            cases c : decide ((122 : Int32) < bs p) with
            | true => rfl
            | false => rw [c] at hl; cases hl
          simp only [l2, cond_true, cond_false, decide_true, Bool.and_true, Bool.true_and, Bool.and_self, Bool.and_false, Bool.false_and, Bool.not_true, Bool.not_false, Bool.or_true, Bool.true_or, Bool.or_false, Bool.false_or, is_some, gd_some, bk_v, bk_u]; exact fin
  obtain ⟨h', g1, g2⟩ := key (n - s) s (wL h 2 9 0) (by omega) (Nat.le_refl _) (FB_wL (FB_rfl _ h) _) e8 (by rw [hL_wL, if_pos ⟨rfl, rfl⟩, Nat.sub_self]; rfl)
  refine ⟨h', ?_, g2⟩
  rw [e26]
  simp only [b26_0, x_O2 L, cond_true]
  exact g1
set_option maxRecDepth 16384 in
theorem l_d {v c : Nat} (h1 : 48 ≤ c) : nL (10 * v) + nL c - 48 = nL (10 * v + (c - 48)) := by
  rw [l_add, show (48 : Int64) = nL 48 from rfl, l_sub (by omega)]
  congr 1; omega
set_option maxRecDepth 16384 in
theorem c27 {h : A_H} {bs : Nat → Int32} {n s : Nat} (L : Ly h) (t : CTp h bs n) (hs : s ≤ n) (e7 : hI h 2 7 = nI s) (e8 : hI h 2 8 = nI s) : ∃ h', C 27 [.ref 2] h = some (some none, h') ∧ FB (fun a b => a = 2 ∧ (b = 6 ∨ b = 8)) h h' ∧ hI h' 2 6 = nI (if rE dt' bs n s - s ≤ 3 then 2 else 4) ∧ hI h' 2 8 = nI (rE dt' bs n s) ∧ hL h' 2 9 = nL (nv' bs s (rE dt' bs n s - s)) := by
  have hn := t.2.1
  have key : ∀ f p h1, p + f = n → s ≤ p → FB (fun a b => a = 2 ∧ (b = 6 ∨ b = 8)) h h1 → hI h1 2 8 = nI p → hL h1 2 9 = nL (nv' bs s (p - s)) → ∃ h', R 27 3 [some (.ref 2)] [] h1 = some (some none, h') ∧ FB (fun a b => a = 2 ∧ (b = 6 ∨ b = 8)) h h' ∧ hI h' 2 6 = nI (if rE dt' bs n p - s ≤ 3 then 2 else 4) ∧ hI h' 2 8 = nI (rE dt' bs n p) ∧ hL h' 2 9 = nL (nv' bs s (rE dt' bs n p - s)) := by
    intro f
    induction f with
    | zero =>
      intro p h1 hp hsp f1 i8 i9
      have : p = n := by omega
      subst this
      have L1 := FB_Ly f1 L
      have j1 : hI h1 2 1 = nI p := (FB_I f1 (by omega)).trans t.1
      have j7 : hI h1 2 7 = nI s := (FB_I f1 (by omega)).trans e7
      rw [rE_n]
      have k9 := nine (a := p) (b := s) (k := 3) (by omega) hsp (by decide)
      rw [show nI 3 = 3 from rfl] at k9
      rw [b27_3]
      simp only [cond_true, cond_false, decide_true, Bool.and_true, Bool.true_and, Bool.and_self, Bool.and_false, Bool.false_and, Bool.not_true, Bool.not_false, Bool.or_true, Bool.true_or, Bool.or_false, Bool.false_or, is_some, gd_some, bk_v, bk_u, x_O2 L1, j1, i8, dT (Int32.le_refl (nI p)), j7, k9, b27_56]
      by_cases c : 3 < p - s
      · simp only [dT c, cond_true]
        refine ⟨wI h1 2 6 4, rfl, FB_wI f1 _ (by omega), ?_, ?_, i9⟩
        · rw [hI_wI, if_pos ⟨rfl, rfl⟩, if_neg (by omega)]; rfl
        · rw [hI_wI, if_neg (by omega)]; exact i8
      · simp only [dF c, cond_false]
        refine ⟨wI h1 2 6 2, rfl, FB_wI f1 _ (by omega), ?_, ?_, i9⟩
        · rw [hI_wI, if_pos ⟨rfl, rfl⟩, if_pos (by omega)]; rfl
        · rw [hI_wI, if_neg (by omega)]; exact i8
    | succ f ih =>
      intro p h1 hp hsp f1 i8 i9
      have hpn : p < n := by omega
      have L1 := FB_Ly f1 L
      have j1 : hI h1 2 1 = nI n := (FB_I f1 (by omega)).trans t.1
      have j7 : hI h1 2 7 = nI s := (FB_I f1 (by omega)).trans e7
      have jb : hI h1 1 p = bs p := (FB_I f1 (by omega)).trans (t.2.2 p hpn)
      have k9 := nine (a := p) (b := s) (k := 3) (by omega) hsp (by decide)
      rw [show nI 3 = 3 from rfl] at k9
      rw [b27_3]
      simp only [cond_true, cond_false, decide_true, Bool.and_true, Bool.true_and, Bool.and_self, Bool.and_false, Bool.false_and, Bool.not_true, Bool.not_false, Bool.or_true, Bool.true_or, Bool.or_false, Bool.false_or, is_some, gd_some, bk_v, bk_u, x_O2 L1, j1, i8, dF (show ¬ nI n ≤ nI p by rw [w_le (by omega) (by omega)]; omega), z_P0 L1, x_A1 L1 (show p < 1100 by omega), w_cl (show p < 2147483648 by omega), jb, j7, k9, b27_56, b27_37, isO_wL, hI_wL, b27_43]
      cases hl : dt' (bs p) with
      | true =>
        obtain ⟨l1, l2⟩ := dt_e hl
        obtain ⟨c, hc, hc1, hc2, hv⟩ := dt_I hl
        simp only [l1, l2, cond_true, cond_false, decide_true, Bool.and_true, Bool.true_and, Bool.and_self, Bool.and_false, Bool.false_and, Bool.not_true, Bool.not_false, Bool.or_true, Bool.true_or, Bool.or_false, Bool.false_or, is_some, gd_some, bk_v, bk_u, i8, w_s]
        rw [rE_s dt' bs hpn, hl, cond_true]
        refine ih (p + 1) _ (by omega) (by omega) (FB_wI (FB_wL f1 _) _ (by omega)) (by rw [hI_wI, if_pos ⟨rfl, rfl⟩]) ?_
        show hL (wL h1 2 9 _) 2 9 = _
        rw [hL_wL, if_pos ⟨rfl, rfl⟩, i9, hc, i_l (by omega), show (10 : Int64) = nL 10 from rfl, l_mul, l_d (by omega)]
        rw [show p + 1 - s = (p - s) + 1 by omega]
        show _ = nL (10 * nv' bs s (p - s) + dv' (bs (s + (p - s))))
        rw [show s + (p - s) = p by omega, hv]
      | false =>
        rw [rE_s dt' bs hpn, hl, cond_false]
        have fin : ∃ h', (cond (decide (3 < p - s)) (some (some none, wI h1 2 6 4)) (some (some none, wI h1 2 6 2)) : Option (Option (Option Value) × A_H)) = some (some none, h') ∧ FB (fun a b => a = 2 ∧ (b = 6 ∨ b = 8)) h h' ∧ hI h' 2 6 = nI (if p - s ≤ 3 then 2 else 4) ∧ hI h' 2 8 = nI p ∧ hL h' 2 9 = nL (nv' bs s (p - s)) := by
          by_cases c : 3 < p - s
          · simp only [dT c, cond_true]
            refine ⟨wI h1 2 6 4, rfl, FB_wI f1 _ (by omega), ?_, ?_, i9⟩
            · rw [hI_wI, if_pos ⟨rfl, rfl⟩, if_neg (by omega)]; rfl
            · rw [hI_wI, if_neg (by omega)]; exact i8
          · simp only [dF c, cond_false]
            refine ⟨wI h1 2 6 2, rfl, FB_wI f1 _ (by omega), ?_, ?_, i9⟩
            · rw [hI_wI, if_pos ⟨rfl, rfl⟩, if_pos (by omega)]; rfl
            · rw [hI_wI, if_neg (by omega)]; exact i8
        unfold dt' at hl
        cases l1 : decide (bs p < 48) with
        | true => simp only [cond_true, cond_false, decide_true, Bool.and_true, Bool.true_and, Bool.and_self, Bool.and_false, Bool.false_and, Bool.not_true, Bool.not_false, Bool.or_true, Bool.true_or, Bool.or_false, Bool.false_or, is_some, gd_some, bk_v, bk_u]; exact fin
        | false =>
          rw [l1] at hl
          have l2 : decide ((57 : Int32) < bs p) = true := by
            cases c : decide ((57 : Int32) < bs p) with
            | true => rfl
            | false => rw [c] at hl; cases hl
          simp only [l2, cond_true, cond_false, decide_true, Bool.and_true, Bool.true_and, Bool.and_self, Bool.and_false, Bool.false_and, Bool.not_true, Bool.not_false, Bool.or_true, Bool.true_or, Bool.or_false, Bool.false_or, is_some, gd_some, bk_v, bk_u]; exact fin
  obtain ⟨h', g1, g2⟩ := key (n - s) s (wL h 2 9 0) (by omega) (Nat.le_refl _) (FB_wL (FB_rfl _ h) _) e8 (by rw [hL_wL, if_pos ⟨rfl, rfl⟩, Nat.sub_self]; rfl)
  refine ⟨h', ?_, g2⟩
  rw [e27]
  simp only [b27_0, x_O2 L, cond_true]
  exact g1
set_option maxRecDepth 16384 in
theorem c25 {h : A_H} {bs : Nat → Int32} {n e : Nat} (L : Ly h) (t : CTp h bs n) (he : e ≤ n) (e8 : hI h 2 8 = nI e) : ∃ h', C 25 [.ref 2] h = some (some none, h') ∧ FB TB h h' ∧ hI h' 2 6 = nI (tK bs n e) ∧ hI h' 2 7 = nI (tS bs n e) ∧ hI h' 2 8 = nI (tE bs n e) ∧ (tK bs n e = 1 ∨ tK bs n e = 2 → hL h' 2 9 = nL (tV bs n e)) := by
  have hn := t.2.1
 
  have tok : ∀ s h1, s ≤ n → tS bs n e = s → FB TB h h1 → hI h1 2 7 = nI s → ∃ h', R 25 27 [some (.ref 2)] [] (wI h1 2 8 (nI s)) = some (some none, h') ∧ FB TB h h' ∧ hI h' 2 6 = nI (tK bs n e) ∧ hI h' 2 7 = nI (tS bs n e) ∧ hI h' 2 8 = nI (tE bs n e) ∧ (tK bs n e = 1 ∨ tK bs n e = 2 → hL h' 2 9 = nL (tV bs n e)) := by
    intro s h1 hs es f1 i7
    have f2 : FB TB h (wI h1 2 8 (nI s)) := FB_wI f1 _ ⟨rfl, by omega⟩
    have L2 := FB_Ly f2 L
    have i7' : hI (wI h1 2 8 (nI s)) 2 7 = nI s := by rw [hI_wI, if_neg (by omega)]; exact i7
    have i8' : hI (wI h1 2 8 (nI s)) 2 8 = nI s := by rw [hI_wI, if_pos ⟨rfl, rfl⟩]
    have t2 : CTp (wI h1 2 8 (nI s)) bs n := CTp_FB f2 t (by unfold TB; omega) (fun k => by unfold TB; omega)
    unfold tK tE tV
    rw [es]
    generalize wI h1 2 8 (nI s) = g at f2 L2 i7' i8' t2
    have j1 := t2.1
    rw [b25_27]
    by_cases c : n ≤ s
    · rw [if_pos c, if_pos c, if_pos c]
      simp only [cond_true, cond_false, decide_true, Bool.and_true, Bool.true_and, Bool.and_self, Bool.and_false, Bool.false_and, Bool.not_true, Bool.not_false, Bool.or_true, Bool.true_or, Bool.or_false, Bool.false_or, is_some, gd_some, bk_v, bk_u, x_O2 L2, j1, i7', dF (show ¬ nI s < nI n by rw [w_lt (by omega) (by omega)]; omega), b25_35]
      refine ⟨wI g 2 6 0, rfl, FB_wI f2 _ ⟨rfl, by omega⟩, ?_, ?_, ?_, fun c => by omega⟩
      · rw [hI_wI, if_pos ⟨rfl, rfl⟩]; rfl
      · rw [hI_wI, if_neg (by omega)]; exact i7'
      · rw [hI_wI, if_neg (by omega)]; exact i8'
    · rw [if_neg c, if_neg c, if_neg c]
      have jb : hI g 1 s = bs s := t2.2.2 s (by omega)
      simp only [cond_true, cond_false, decide_true, Bool.and_true, Bool.true_and, Bool.and_self, Bool.and_false, Bool.false_and, Bool.not_true, Bool.not_false, Bool.or_true, Bool.true_or, Bool.or_false, Bool.false_or, is_some, gd_some, bk_v, bk_u, x_O2 L2, j1, i7', dT (show nI s < nI n by rw [w_lt (by omega) (by omega)]; omega), z_P0 L2, x_A1 L2 (show s < 1100 by omega), w_cl (show s < 2147483648 by omega), jb]
     
      have sgn : lt' (bs s) = false → dt' (bs s) = false → ∃ h', (cond (!decide (bs s = 59)) (R 25 82 [some (.ref 2)] [] (wI g 2 6 4)) (R 25 82 [some (.ref 2)] [] (wI g 2 6 3))) = some (some none, h') ∧ FB TB h h' ∧ hI h' 2 6 = nI (bif lt' (bs s) then (if rE lt' bs n s - s ≤ 9 then 1 else 4) else bif dt' (bs s) then (if rE dt' bs n s - s ≤ 3 then 2 else 4) else bif decide (bs s = 59) then 3 else 4) ∧ hI h' 2 7 = nI s ∧ hI h' 2 8 = nI (bif lt' (bs s) then rE lt' bs n s else bif dt' (bs s) then rE dt' bs n s else s + 1) ∧ ((bif lt' (bs s) then (if rE lt' bs n s - s ≤ 9 then 1 else 4) else bif dt' (bs s) then (if rE dt' bs n s - s ≤ 3 then 2 else 4) else bif decide (bs s = 59) then 3 else 4) = 1 ∨ (bif lt' (bs s) then (if rE lt' bs n s - s ≤ 9 then 1 else 4) else bif dt' (bs s) then (if rE dt' bs n s - s ≤ 3 then 2 else 4) else bif decide (bs s = 59) then 3 else 4) = 2 → hL h' 2 9 = nL (bif lt' (bs s) then wv bs s (rE lt' bs n s - s) else bif dt' (bs s) then nv' bs s (rE dt' bs n s - s) else 0)) := by
        intro hl hd
        rw [hl, hd]
        simp only [cond_false]
        cases decide (bs s = 59) with
        | true =>
          have i8w : hI (wI g 2 6 3) 2 8 = nI s := by rw [hI_wI, if_neg (by omega)]; exact i8'
          simp only [cond_true, cond_false, decide_true, Bool.and_true, Bool.true_and, Bool.and_self, Bool.and_false, Bool.false_and, Bool.not_true, Bool.not_false, Bool.or_true, Bool.true_or, Bool.or_false, Bool.false_or, is_some, gd_some, bk_v, bk_u]
          refine ⟨wI (wI g 2 6 3) 2 8 (nI (s + 1)), ?_, FB_wI (FB_wI f2 _ ⟨rfl, by omega⟩) _ ⟨rfl, by omega⟩, ?_, ?_, ?_, fun c => by omega⟩
          · rw [b25_82]; simp only [isO_wI, x_O2 L2, cond_true, i8w, w_s, b25_88]
          · rw [hI_wI, if_neg (by omega), hI_wI, if_pos ⟨rfl, rfl⟩]; rfl
          · rw [hI_wI, if_neg (by omega), hI_wI, if_neg (by omega)]; exact i7'
          · rw [hI_wI, if_pos ⟨rfl, rfl⟩]
        | false =>
          have i8w : hI (wI g 2 6 4) 2 8 = nI s := by rw [hI_wI, if_neg (by omega)]; exact i8'
          simp only [cond_true, cond_false, decide_true, Bool.and_true, Bool.true_and, Bool.and_self, Bool.and_false, Bool.false_and, Bool.not_true, Bool.not_false, Bool.or_true, Bool.true_or, Bool.or_false, Bool.false_or, is_some, gd_some, bk_v, bk_u]
          refine ⟨wI (wI g 2 6 4) 2 8 (nI (s + 1)), ?_, FB_wI (FB_wI f2 _ ⟨rfl, by omega⟩) _ ⟨rfl, by omega⟩, ?_, ?_, ?_, fun c => by omega⟩
          · rw [b25_82]; simp only [isO_wI, x_O2 L2, cond_true, i8w, w_s, b25_88]
          · rw [hI_wI, if_neg (by omega), hI_wI, if_pos ⟨rfl, rfl⟩]; rfl
          · rw [hI_wI, if_neg (by omega), hI_wI, if_neg (by omega)]; exact i7'
          · rw [hI_wI, if_pos ⟨rfl, rfl⟩]
     
      have dig : lt' (bs s) = false → ∃ h', (cond (decide (bs s < 48)) (cond (!decide (bs s = 59)) (R 25 82 [some (.ref 2)] [] (wI g 2 6 4)) (R 25 82 [some (.ref 2)] [] (wI g 2 6 3))) (cond (decide ((57 : Int32) < bs s)) (cond (!decide (bs s = 59)) (R 25 82 [some (.ref 2)] [] (wI g 2 6 4)) (R 25 82 [some (.ref 2)] [] (wI g 2 6 3))) (a_back R 25 (27, [.ref 2], g, false, none, 69, [some (.ref 2)], []) (C 27 [.ref 2] g)))) = some (some none, h') ∧ FB TB h h' ∧ hI h' 2 6 = nI (bif lt' (bs s) then (if rE lt' bs n s - s ≤ 9 then 1 else 4) else bif dt' (bs s) then (if rE dt' bs n s - s ≤ 3 then 2 else 4) else bif decide (bs s = 59) then 3 else 4) ∧ hI h' 2 7 = nI s ∧ hI h' 2 8 = nI (bif lt' (bs s) then rE lt' bs n s else bif dt' (bs s) then rE dt' bs n s else s + 1) ∧ ((bif lt' (bs s) then (if rE lt' bs n s - s ≤ 9 then 1 else 4) else bif dt' (bs s) then (if rE dt' bs n s - s ≤ 3 then 2 else 4) else bif decide (bs s = 59) then 3 else 4) = 1 ∨ (bif lt' (bs s) then (if rE lt' bs n s - s ≤ 9 then 1 else 4) else bif dt' (bs s) then (if rE dt' bs n s - s ≤ 3 then 2 else 4) else bif decide (bs s = 59) then 3 else 4) = 2 → hL h' 2 9 = nL (bif lt' (bs s) then wv bs s (rE lt' bs n s - s) else bif dt' (bs s) then nv' bs s (rE dt' bs n s - s) else 0)) := by
        intro hl
        cases hd : dt' (bs s) with
        | true =>
          obtain ⟨d1, d2⟩ := dt_e hd
          obtain ⟨h3, g3, f3, k6, k8, k9⟩ := c27 L2 t2 hs i7' i8'
          rw [hl]
          simp only [d1, d2, cond_true, cond_false, decide_true, Bool.and_true, Bool.true_and, Bool.and_self, Bool.and_false, Bool.false_and, Bool.not_true, Bool.not_false, Bool.or_true, Bool.true_or, Bool.or_false, Bool.false_or, is_some, gd_some, bk_v, bk_u, g3, b25_69]
          exact ⟨h3, rfl, FB_tr f2 (FB_mo (fun a b q => ⟨q.1, by omega⟩) f3), k6, (FB_I f3 (by omega)).trans i7', k8, fun _ => k9⟩
        | false =>
          have s1 := sgn hl hd
          rw [hd] at s1
          unfold dt' at hd
          cases d1 : decide (bs s < 48) with
          | true => simp only [cond_true, cond_false, decide_true, Bool.and_true, Bool.true_and, Bool.and_self, Bool.and_false, Bool.false_and, Bool.not_true, Bool.not_false, Bool.or_true, Bool.true_or, Bool.or_false, Bool.false_or, is_some, gd_some, bk_v, bk_u]; exact s1
          | false =>
            rw [d1] at hd
            have d2 : decide ((57 : Int32) < bs s) = true := by
              cases c : decide ((57 : Int32) < bs s) with
              | true => rfl
              | false => rw [c] at hd; cases hd
            simp only [d2, cond_true, cond_false, decide_true, Bool.and_true, Bool.true_and, Bool.and_self, Bool.and_false, Bool.false_and, Bool.not_true, Bool.not_false, Bool.or_true, Bool.true_or, Bool.or_false, Bool.false_or, is_some, gd_some, bk_v, bk_u]; exact s1
      cases hl : lt' (bs s) with
      | true =>
        obtain ⟨l1, l2⟩ := lt_e hl
        obtain ⟨h3, g3, f3, k6, k8, k9⟩ := c26 L2 t2 hs i7' i8'
        simp only [l1, l2, cond_true, cond_false, decide_true, Bool.and_true, Bool.true_and, Bool.and_self, Bool.and_false, Bool.false_and, Bool.not_true, Bool.not_false, Bool.or_true, Bool.true_or, Bool.or_false, Bool.false_or, is_some, gd_some, bk_v, bk_u, g3, b25_52]
        exact ⟨h3, rfl, FB_tr f2 (FB_mo (fun a b q => ⟨q.1, by omega⟩) f3), k6, (FB_I f3 (by omega)).trans i7', k8, fun _ => k9⟩
      | false =>
        have d1 := dig hl
        rw [hl] at d1
        unfold lt' at hl
        cases l1 : decide (bs s < 97) with
        | true => simp only [cond_true, cond_false, decide_true, Bool.and_true, Bool.true_and, Bool.and_self, Bool.and_false, Bool.false_and, Bool.not_true, Bool.not_false, Bool.or_true, Bool.true_or, Bool.or_false, Bool.false_or, is_some, gd_some, bk_v, bk_u]; exact d1
        | false =>
          rw [l1] at hl
          have l2 : decide ((122 : Int32) < bs s) = true := by
            cases c : decide ((122 : Int32) < bs s) with
            | true => rfl
            | false => rw [c] at hl; cases hl
          simp only [l2, cond_true, cond_false, decide_true, Bool.and_true, Bool.true_and, Bool.and_self, Bool.and_false, Bool.false_and, Bool.not_true, Bool.not_false, Bool.or_true, Bool.true_or, Bool.or_false, Bool.false_or, is_some, gd_some, bk_v, bk_u]; exact d1
 
  have spc : ∀ f p h1, p + f = n → tS bs n e = rE sp' bs n p → FB TB h h1 → hI h1 2 7 = nI p → ∃ h', R 25 4 [some (.ref 2)] [] h1 = some (some none, h') ∧ FB TB h h' ∧ hI h' 2 6 = nI (tK bs n e) ∧ hI h' 2 7 = nI (tS bs n e) ∧ hI h' 2 8 = nI (tE bs n e) ∧ (tK bs n e = 1 ∨ tK bs n e = 2 → hL h' 2 9 = nL (tV bs n e)) := by
    intro f
    induction f with
    | zero =>
      intro p h1 hp ht f1 i7
      have : p = n := by omega
      subst this
      have L1 := FB_Ly f1 L
      have j1 : hI h1 2 1 = nI p := (FB_I f1 (by unfold TB; omega)).trans t.1
      rw [rE_n] at ht
      rw [b25_4]
      simp only [cond_true, cond_false, decide_true, Bool.and_true, Bool.true_and, Bool.and_self, Bool.and_false, Bool.false_and, Bool.not_true, Bool.not_false, Bool.or_true, Bool.true_or, Bool.or_false, Bool.false_or, is_some, gd_some, bk_v, bk_u, x_O2 L1, j1, i7, dT (Int32.le_refl (nI p))]
      exact tok p h1 (Nat.le_refl _) ht f1 i7
    | succ f ih =>
      intro p h1 hp ht f1 i7
      have hpn : p < n := by omega
      have L1 := FB_Ly f1 L
      have j1 : hI h1 2 1 = nI n := (FB_I f1 (by unfold TB; omega)).trans t.1
      have jb : hI h1 1 p = bs p := (FB_I f1 (by unfold TB; omega)).trans (t.2.2 p hpn)
      rw [rE_s sp' bs hpn] at ht
      rw [b25_4]
      simp only [cond_true, cond_false, decide_true, Bool.and_true, Bool.true_and, Bool.and_self, Bool.and_false, Bool.false_and, Bool.not_true, Bool.not_false, Bool.or_true, Bool.true_or, Bool.or_false, Bool.false_or, is_some, gd_some, bk_v, bk_u, x_O2 L1, j1, i7, dF (show ¬ nI n ≤ nI p by rw [w_le (by omega) (by omega)]; omega), z_P0 L1, x_A1 L1 (show p < 1100 by omega), w_cl (show p < 2147483648 by omega), jb, w_s, b25_22]
      rw [show decide (bs p = 32) = sp' (bs p) from rfl]
      cases hsp : sp' (bs p) with
      | true =>
        rw [hsp, cond_true] at ht
        simp only [cond_true, cond_false, decide_true, Bool.and_true, Bool.true_and, Bool.and_self, Bool.and_false, Bool.false_and, Bool.not_true, Bool.not_false, Bool.or_true, Bool.true_or, Bool.or_false, Bool.false_or, is_some, gd_some, bk_v, bk_u]
        exact ih (p + 1) _ (by omega) ht (FB_wI f1 _ ⟨rfl, by omega⟩) (by rw [hI_wI, if_pos ⟨rfl, rfl⟩])
      | false =>
        rw [hsp, cond_false] at ht
        simp only [cond_true, cond_false, decide_true, Bool.and_true, Bool.true_and, Bool.and_self, Bool.and_false, Bool.false_and, Bool.not_true, Bool.not_false, Bool.or_true, Bool.true_or, Bool.or_false, Bool.false_or, is_some, gd_some, bk_v, bk_u]
        exact tok p h1 (by omega) ht f1 i7
  have f0 : FB TB h (wI h 2 7 (nI e)) := FB_wI (FB_rfl _ h) _ ⟨rfl, by omega⟩
  obtain ⟨h', g1, g2⟩ := spc (n - e) e (wI h 2 7 (nI e)) (by omega) rfl f0 (by rw [hI_wI, if_pos ⟨rfl, rfl⟩])
  refine ⟨h', ?_, g2⟩
  rw [e25]
  simp only [b25_0, x_O2 L, cond_true, e8]
  exact g1
def FG (P Q : Nat → Nat → Prop) (h h' : A_H) : Prop := hn h' = hn h ∧ hs h' = hs h ∧ hsh h' = hsh h ∧ hP h' = hP h ∧ hX h' = hX h ∧ (∀ a b, ¬ P a b → hI h' a b = hI h a b) ∧ ∀ a b, ¬ Q a b → hL h' a b = hL h a b
set_option maxRecDepth 16384 in
theorem FG_rfl (P Q : Nat → Nat → Prop) (h : A_H) : FG P Q h h := ⟨rfl, rfl, rfl, rfl, rfl, fun _ _ _ => rfl, fun _ _ _ => rfl⟩
set_option maxRecDepth 16384 in
theorem FG_tr {P Q : Nat → Nat → Prop} {h h' h'' : A_H} (a : FG P Q h h') (b : FG P Q h' h'') : FG P Q h h'' := ⟨b.1.trans a.1, b.2.1.trans a.2.1, b.2.2.1.trans a.2.2.1, b.2.2.2.1.trans a.2.2.2.1, b.2.2.2.2.1.trans a.2.2.2.2.1, fun x y n => (b.2.2.2.2.2.1 x y n).trans (a.2.2.2.2.2.1 x y n), fun x y n => (b.2.2.2.2.2.2 x y n).trans (a.2.2.2.2.2.2 x y n)⟩
set_option maxRecDepth 16384 in
theorem FG_mo {P Q P' Q' : Nat → Nat → Prop} {h h' : A_H} (m : ∀ a b, P a b → P' a b) (m' : ∀ a b, Q a b → Q' a b) (f : FG P Q h h') : FG P' Q' h h' := ⟨f.1, f.2.1, f.2.2.1, f.2.2.2.1, f.2.2.2.2.1, fun a b n => f.2.2.2.2.2.1 a b (fun p => n (m a b p)), fun a b n => f.2.2.2.2.2.2 a b (fun p => n (m' a b p))⟩
set_option maxRecDepth 16384 in
theorem FG_wI {P Q : Nat → Nat → Prop} {h h' : A_H} (a : FG P Q h h') {k j : Nat} (v : Int32) (q : P k j) : FG P Q h (wI h' k j v) := FG_tr a ⟨rfl, rfl, rfl, rfl, rfl, fun x y n => by rw [hI_wI, if_neg (fun e => n (by rw [e.1, e.2]; exact q))], fun _ _ _ => rfl⟩
set_option maxRecDepth 16384 in
theorem FG_wL {P Q : Nat → Nat → Prop} {h h' : A_H} (a : FG P Q h h') {k j : Nat} (v : Int64) (q : Q k j) : FG P Q h (wL h' k j v) := FG_tr a ⟨rfl, rfl, rfl, rfl, rfl, fun _ _ _ => rfl, fun x y n => by rw [hL_wL, if_neg (fun e => n (by rw [e.1, e.2]; exact q))]⟩
set_option maxRecDepth 16384 in
theorem FG_Ly {P Q : Nat → Nat → Prop} {h h' : A_H} (a : FG P Q h h') (L : Ly h) : Ly h' := by
  obtain ⟨h1, -, h3, h5, -, -, -⟩ := a
  unfold Ly
  rw [h1, h3, h5]
  exact L
set_option maxRecDepth 16384 in
theorem FG_I {P Q : Nat → Nat → Prop} {h h' : A_H} (f : FG P Q h h') {a b : Nat} (n : ¬ P a b) : hI h' a b = hI h a b := f.2.2.2.2.2.1 a b n
set_option maxRecDepth 16384 in
theorem FG_L {P Q : Nat → Nat → Prop} {h h' : A_H} (f : FG P Q h h') {a b : Nat} (n : ¬ Q a b) : hL h' a b = hL h a b := f.2.2.2.2.2.2 a b n
set_option maxRecDepth 16384 in
theorem FG_P {P Q : Nat → Nat → Prop} {h h' : A_H} (f : FG P Q h h') : hP h' = hP h := f.2.2.2.1
set_option maxRecDepth 16384 in
theorem FG_ML {P Q : Nat → Nat → Prop} {h h' : A_H} {B : Nat} (a : FG P Q h h') (l : ML h B) : ML h' B := by
  obtain ⟨h1, -, h3, h5, -, -, -⟩ := a
  unfold ML
  rw [h1, h3, h5]
  exact l
def B8 (bs : Nat → Int32) (n : Nat) : Prop := ∀ k, k < n → ∃ i : Int8, bs k = i.toInt32
def MTp (h : A_H) (bs : Nat → Int32) (n : Nat) : Prop := hI h 124 7 = nI n ∧ n ≤ 1100 ∧ ∀ k, k < n → hI h 125 k = bs k
set_option maxRecDepth 16384 in
theorem by8 (i : Int8) : (lt' (i.toInt32 &&& 255) = lt' i.toInt32 ∧ dt' (i.toInt32 &&& 255) = dt' i.toInt32) ∧ (decide (i.toInt32 &&& 255 = 32) = decide (i.toInt32 = 32) ∧ decide (i.toInt32 &&& 255 = 59) = decide (i.toInt32 = 59)) ∧ decide (i.toInt32 &&& 255 = -1) = false ∧ (lt' i.toInt32 = true → i.toInt32 &&& 255 = i.toInt32) ∧ (dt' i.toInt32 = true → i.toInt32 &&& 255 = i.toInt32) := by
  have key : ∀ n : Fin 256, (lt' ((Int8.ofNat n.val).toInt32 &&& 255) = lt' (Int8.ofNat n.val).toInt32 ∧ dt' ((Int8.ofNat n.val).toInt32 &&& 255) = dt' (Int8.ofNat n.val).toInt32) ∧ (decide ((Int8.ofNat n.val).toInt32 &&& 255 = 32) = decide ((Int8.ofNat n.val).toInt32 = 32) ∧ decide ((Int8.ofNat n.val).toInt32 &&& 255 = 59) = decide ((Int8.ofNat n.val).toInt32 = 59)) ∧ decide ((Int8.ofNat n.val).toInt32 &&& 255 = -1) = false ∧ (lt' (Int8.ofNat n.val).toInt32 = true → (Int8.ofNat n.val).toInt32 &&& 255 = (Int8.ofNat n.val).toInt32) ∧ (dt' (Int8.ofNat n.val).toInt32 = true → (Int8.ofNat n.val).toInt32 &&& 255 = (Int8.ofNat n.val).toInt32) := by decide +kernel
  have e : i = Int8.ofNat i.toBitVec.toNat := by
    apply Int8.toBitVec.inj
    show i.toBitVec = BitVec.ofNat 8 i.toBitVec.toNat
    rw [BitVec.ofNat_toNat, BitVec.setWidth_eq]
  rw [e]
  exact key ⟨i.toBitVec.toNat, i.toBitVec.isLt⟩
set_option maxRecDepth 16384 in
theorem d165 {h : A_H} {bs : Nat → Int32} {n p : Nat} (L : Ly h) (t : MTp h bs n) (hp : p < n) : C 165 [.ref 124, .int (nI p)] h = some (some (some (.int (bs p &&& 255))), h) := by
  have hn := t.2.1
  rw [e165]
  simp only [b165_0, cond_true, cond_false, decide_true, Bool.and_true, Bool.true_and, Bool.and_self, Bool.and_false, Bool.false_and, Bool.not_true, Bool.not_false, Bool.or_true, Bool.true_or, Bool.or_false, Bool.false_or, is_some, gd_some, bk_v, bk_u, y_124 L, t.1, dF (show ¬ nI n ≤ nI p by rw [w_le (by omega) (by omega)]; omega), y_P5 L, y_A125 L (show p < 1100 by omega), w_cl (show p < 2147483648 by omega), t.2.2 p hp]
set_option maxRecDepth 16384 in
theorem d165e {h : A_H} {bs : Nat → Int32} {n : Nat} (L : Ly h) (t : MTp h bs n) : C 165 [.ref 124, .int (nI n)] h = some (some (some (.int (-1))), h) := by
  rw [e165]
  simp only [b165_0, cond_true, cond_false, decide_true, Bool.and_true, Bool.true_and, Bool.and_self, Bool.and_false, Bool.false_and, Bool.not_true, Bool.not_false, Bool.or_true, Bool.true_or, Bool.or_false, Bool.false_or, is_some, gd_some, bk_v, bk_u, y_124 L, t.1, dT (Int32.le_refl (nI n))]
set_option maxRecDepth 16384 in
theorem d166 (x : Int32) (h : A_H) : C 166 [.int x] h = some (some (some (.int (bI (lt' x)))), h) := by
  rw [e166, b166_0]
  unfold lt'
  cases decide (x < 97) <;> cases decide ((122 : Int32) < x) <;> rfl
set_option maxRecDepth 16384 in
theorem d167 (x : Int32) (h : A_H) : C 167 [.int x] h = some (some (some (.int (bI (dt' x)))), h) := by
  rw [e167, b167_0]
  unfold dt'
  cases decide (x < 48) <;> cases decide ((57 : Int32) < x) <;> rfl
def MT (a b : Nat) : Prop := a = 124 ∧ (b = 8 ∨ b = 9 ∨ b = 10 ∨ b = 11)
def ML14 (a b : Nat) : Prop := a = 124 ∧ b = 14
def mk : Nat → Nat
  | 0 => 1
  | 1 => 2
  | 2 => 3
  | 3 => 4
  | _ => 0
set_option maxRecDepth 16384 in
theorem MTp_FG {P Q : Nat → Nat → Prop} {h h' : A_H} {bs : Nat → Int32} {n : Nat} (f : FG P Q h h') (t : MTp h bs n) (n1 : ¬ P 124 7) (n2 : ∀ k, ¬ P 125 k) : MTp h' bs n := ⟨(FG_I f n1).trans t.1, t.2.1, fun k hk => (FG_I f (n2 k)).trans (t.2.2 k hk)⟩
set_option maxRecDepth 16384 in
theorem nI_le9 {k m : Nat} (hk : k < 100000) (hm : m < 100) : decide (nI m ≤ nI k) = decide (m ≤ k) ∧ decide (nI m < nI k) = decide (m < k) := by
  constructor
  · simp only [w_le (show m < 2147483648 by omega) (show k < 2147483648 by omega)]
  · simp only [w_lt (show m < 2147483648 by omega) (show k < 2147483648 by omega)]
set_option maxRecDepth 16384 in
theorem m_let {h : A_H} {bs : Nat → Int32} {n s : Nat} (L : Ly h) (t : MTp h bs n) (b8 : B8 bs n) : ∀ f k h1 (c : Int32), s + k + f = n → FG MT ML14 h h1 → hI h1 124 8 = nI (s + k) → hI h1 124 9 = 0 → hI h1 124 10 = nI s → hL h1 124 14 = nL (wv bs s (min k 9)) → ∃ h', R 168 45 [some (.ref 124), some (.int c), some (.int (nI k))] [] h1 = some (some none, h') ∧ FG MT ML14 h h' ∧ hI h' 124 9 = nI (if rE lt' bs n (s + k) - s ≤ 9 then 2 else 0) ∧ hI h' 124 10 = nI s ∧ hI h' 124 8 = nI (rE lt' bs n (s + k)) ∧ (rE lt' bs n (s + k) - s ≤ 9 → hL h' 124 14 = nL (wv bs s (rE lt' bs n (s + k) - s))) := by
  have hn := t.2.1
  intro f
  induction f with
  | zero =>
    intro k h1 c hk f1 i8 i9 i10 i14
    have hsn : s + k = n := by omega
    have L1 := FG_Ly f1 L
    have t1 : MTp h1 bs n := MTp_FG f1 t (by unfold MT; omega) (fun j => by unfold MT; omega)
    have hk9 := nI_le9 (k := k) (m := 9) (by omega) (by decide)
    rw [show nI 9 = 9 from rfl] at hk9
    rw [hsn] at i8 ⊢
    rw [rE_n, b168_45]
    simp only [y_124 L1, cond_true, i8, d165e L1 t1, bk_v, b168_49, d166, show lt' (-1) = false from rfl, bI_F, b168_50, decide_true, hk9.2, b168_84]
    by_cases c9 : 9 < k
    · simp only [dT c9, cond_true]
      exact ⟨h1, rfl, f1, by rw [if_neg (by omega)]; exact i9, i10, i8, fun c => absurd c (by omega)⟩
    · simp only [dF c9, cond_false]
      refine ⟨wI h1 124 9 2, rfl, FG_wI f1 _ ⟨rfl, by omega⟩, ?_, ?_, ?_, fun _ => ?_⟩
      · rw [hI_wI, if_pos ⟨rfl, rfl⟩, if_pos (by omega)]; rfl
      · rw [hI_wI, if_neg (by omega)]; exact i10
      · rw [hI_wI, if_neg (by omega)]; exact i8
      · rw [show n - s = k by omega]
        rw [Nat.min_eq_left (by omega)] at i14
        exact i14
  | succ f ih =>
    intro k h1 c hk f1 i8 i9 i10 i14
    have hpn : s + k < n := by omega
    have L1 := FG_Ly f1 L
    have t1 : MTp h1 bs n := MTp_FG f1 t (by unfold MT; omega) (fun j => by unfold MT; omega)
    have hk9 := nI_le9 (k := k) (m := 9) (by omega) (by decide)
    rw [show nI 9 = 9 from rfl] at hk9
    obtain ⟨i, hi⟩ := b8 (s + k) hpn
    have q8 := by8 i
    rw [← hi] at q8
    rw [b168_45]
    simp only [y_124 L1, cond_true, i8, d165 L1 t1 hpn, bk_v, b168_49, d166, q8.1.1, b168_50, z_0, hk9.1, hk9.2, b168_84, w_s, b168_77, b168_63, b168_70, isO_wL, hI_wL]
    rw [rE_s lt' bs hpn]
    cases hl : lt' (bs (s + k)) with
    | false =>
      simp only [cond_true, cond_false, decide_true, Bool.and_true, Bool.true_and, Bool.and_self, Bool.and_false, Bool.false_and, Bool.not_true, Bool.not_false, Bool.or_true, Bool.true_or, Bool.or_false, Bool.false_or, is_some, gd_some, bk_v, bk_u]
      by_cases c9 : 9 < k
      · simp only [dT c9, cond_true]
        exact ⟨h1, rfl, f1, by rw [if_neg (by omega)]; exact i9, i10, i8, fun c => absurd c (by omega)⟩
      · simp only [dF c9, cond_false]
        refine ⟨wI h1 124 9 2, rfl, FG_wI f1 _ ⟨rfl, by omega⟩, ?_, ?_, ?_, fun _ => ?_⟩
        · rw [hI_wI, if_pos ⟨rfl, rfl⟩, if_pos (by omega)]; rfl
        · rw [hI_wI, if_neg (by omega)]; exact i10
        · rw [hI_wI, if_neg (by omega)]; exact i8
        · rw [show s + k - s = k by omega]
          rw [Nat.min_eq_left (by omega)] at i14
          exact i14
    | true =>
      obtain ⟨c', hc, hc1, hc2, hv⟩ := lt_I hl
      have q6 := q8.2.2.2.1 hl
      simp only [cond_true, cond_false, decide_true, Bool.and_true, Bool.true_and, Bool.and_self, Bool.and_false, Bool.false_and, Bool.not_true, Bool.not_false, Bool.or_true, Bool.true_or, Bool.or_false, Bool.false_or, is_some, gd_some, bk_v, bk_u]
      by_cases c9 : 9 ≤ k
      · simp only [dT c9, cond_true, w_s]
        refine ih (k + 1) _ c (by omega) (FG_wI f1 _ ⟨rfl, by omega⟩) (by rw [hI_wI, if_pos ⟨rfl, rfl⟩]; rfl) (by rw [hI_wI, if_neg (by omega)]; exact i9) (by rw [hI_wI, if_neg (by omega)]; exact i10) ?_
        show hL h1 124 14 = _
        rw [i14, Nat.min_eq_right c9, Nat.min_eq_right (by omega)]
      · have z : nI c' - 97 + 1 = nI (c' - 96) := by
          have := w_sub (a := c') (b := 97) (by omega)
          rw [show nI 97 = 97 from rfl] at this
          rw [this, w_s]
          congr 1; omega
        simp only [dF c9, cond_false, d165 L1 t1 hpn, bk_v, b168_63, y_124 L1, cond_true, b168_70, isO_wL, hI_wL, i8, w_s, b168_77]
        refine ih (k + 1) _ c (by omega) (FG_wI (FG_wL f1 _ ⟨rfl, rfl⟩) _ ⟨rfl, by omega⟩) (by rw [hI_wI, if_pos ⟨rfl, rfl⟩]; rfl) (by rw [hI_wI, if_neg (by omega)]; exact i9) (by rw [hI_wI, if_neg (by omega)]; exact i10) ?_
        show hL (wL h1 124 14 _) 124 14 = _
        rw [hL_wL, if_pos ⟨rfl, rfl⟩, i14, Nat.min_eq_left (by omega), Nat.min_eq_left (by omega), q6, hc, z, i_l (by omega), show (32 : Int64) = nL 32 from rfl, l_mul, l_add]
        show _ = nL (32 * wv bs s k + lv (bs (s + k)))
        rw [hv]
set_option maxRecDepth 16384 in
theorem m_dig {h : A_H} {bs : Nat → Int32} {n s : Nat} (L : Ly h) (t : MTp h bs n) (b8 : B8 bs n) : ∀ f k h1 (c : Int32), s + k + f = n → FG MT ML14 h h1 → hI h1 124 8 = nI (s + k) → hI h1 124 9 = 0 → hI h1 124 10 = nI s → hI h1 124 11 = nI (nv' bs s (min k 3)) → ∃ h', R 168 91 [some (.ref 124), some (.int c), some (.int (nI k))] [] h1 = some (some none, h') ∧ FG MT ML14 h h' ∧ hI h' 124 9 = nI (if rE dt' bs n (s + k) - s ≤ 3 then 3 else 0) ∧ hI h' 124 10 = nI s ∧ hI h' 124 8 = nI (rE dt' bs n (s + k)) ∧ (rE dt' bs n (s + k) - s ≤ 3 → hI h' 124 11 = nI (nv' bs s (rE dt' bs n (s + k) - s))) := by
  have hn := t.2.1
  intro f
  induction f with
  | zero =>
    intro k h1 c hk f1 i8 i9 i10 i11
    have hsn : s + k = n := by omega
    have L1 := FG_Ly f1 L
    have t1 : MTp h1 bs n := MTp_FG f1 t (by unfold MT; omega) (fun j => by unfold MT; omega)
    have hk9 := nI_le9 (k := k) (m := 3) (by omega) (by decide)
    rw [show nI 3 = 3 from rfl] at hk9
    rw [hsn] at i8 ⊢
    rw [rE_n, b168_91]
    simp only [y_124 L1, cond_true, i8, d165e L1 t1, bk_v, b168_95, d167, show dt' (-1) = false from rfl, bI_F, b168_96, decide_true, hk9.2, b168_127]
    by_cases c9 : 3 < k
    · simp only [dT c9, cond_true]
      exact ⟨h1, rfl, f1, by rw [if_neg (by omega)]; exact i9, i10, i8, fun c => absurd c (by omega)⟩
    · simp only [dF c9, cond_false]
      refine ⟨wI h1 124 9 3, rfl, FG_wI f1 _ ⟨rfl, by omega⟩, ?_, ?_, ?_, fun _ => ?_⟩
      · rw [hI_wI, if_pos ⟨rfl, rfl⟩, if_pos (by omega)]; rfl
      · rw [hI_wI, if_neg (by omega)]; exact i10
      · rw [hI_wI, if_neg (by omega)]; exact i8
      · rw [show n - s = k by omega, hI_wI, if_neg (by omega)]
        rw [Nat.min_eq_left (by omega)] at i11
        exact i11
  | succ f ih =>
    intro k h1 c hk f1 i8 i9 i10 i11
    have hpn : s + k < n := by omega
    have L1 := FG_Ly f1 L
    have t1 : MTp h1 bs n := MTp_FG f1 t (by unfold MT; omega) (fun j => by unfold MT; omega)
    have hk9 := nI_le9 (k := k) (m := 3) (by omega) (by decide)
    rw [show nI 3 = 3 from rfl] at hk9
    obtain ⟨i, hi⟩ := b8 (s + k) hpn
    have q8 := by8 i
    rw [← hi] at q8
    rw [b168_91]
    simp only [y_124 L1, cond_true, i8, d165 L1 t1 hpn, bk_v, b168_95, d167, q8.1.2, b168_96, z_0, hk9.1, hk9.2, b168_127, w_s, b168_120]
    rw [rE_s dt' bs hpn]
    cases hl : dt' (bs (s + k)) with
    | false =>
      simp only [cond_true, cond_false, decide_true, Bool.and_true, Bool.true_and, Bool.and_self, Bool.and_false, Bool.false_and, Bool.not_true, Bool.not_false, Bool.or_true, Bool.true_or, Bool.or_false, Bool.false_or, is_some, gd_some, bk_v, bk_u]
      by_cases c9 : 3 < k
      · simp only [dT c9, cond_true]
        exact ⟨h1, rfl, f1, by rw [if_neg (by omega)]; exact i9, i10, i8, fun c => absurd c (by omega)⟩
      · simp only [dF c9, cond_false]
        refine ⟨wI h1 124 9 3, rfl, FG_wI f1 _ ⟨rfl, by omega⟩, ?_, ?_, ?_, fun _ => ?_⟩
        · rw [hI_wI, if_pos ⟨rfl, rfl⟩, if_pos (by omega)]; rfl
        · rw [hI_wI, if_neg (by omega)]; exact i10
        · rw [hI_wI, if_neg (by omega)]; exact i8
        · rw [show s + k - s = k by omega, hI_wI, if_neg (by omega)]
          rw [Nat.min_eq_left (by omega)] at i11
          exact i11
    | true =>
      obtain ⟨c', hc, hc1, hc2, hv⟩ := dt_I hl
      have q6 := q8.2.2.2.2 hl
      simp only [cond_true, cond_false, decide_true, Bool.and_true, Bool.true_and, Bool.and_self, Bool.and_false, Bool.false_and, Bool.not_true, Bool.not_false, Bool.or_true, Bool.true_or, Bool.or_false, Bool.false_or, is_some, gd_some, bk_v, bk_u]
      by_cases c9 : 3 ≤ k
      · simp only [dT c9, cond_true, w_s]
        refine ih (k + 1) _ c (by omega) (FG_wI f1 _ ⟨rfl, by omega⟩) (by rw [hI_wI, if_pos ⟨rfl, rfl⟩]; rfl) (by rw [hI_wI, if_neg (by omega)]; exact i9) (by rw [hI_wI, if_neg (by omega)]; exact i10) ?_
        rw [hI_wI, if_neg (by omega), i11, Nat.min_eq_right c9, Nat.min_eq_right (by omega)]
      · have i8w : ∀ v, hI (wI h1 124 11 v) 124 8 = nI (s + k) := fun v => by rw [hI_wI, if_neg (by omega)]; exact i8
        simp only [dF c9, cond_false, d165 L1 t1 hpn, bk_v, b168_109, y_124 L1, cond_true, b168_113, isO_wI, i8w, w_s, b168_120]
        refine ih (k + 1) _ c (by omega) (FG_wI (FG_wI f1 _ ⟨rfl, by omega⟩) _ ⟨rfl, by omega⟩) (by rw [hI_wI, if_pos ⟨rfl, rfl⟩]; rfl) (by rw [hI_wI, if_neg (by omega), hI_wI, if_neg (by omega)]; exact i9) (by rw [hI_wI, if_neg (by omega), hI_wI, if_neg (by omega)]; exact i10) ?_
        rw [hI_wI, if_neg (by omega), hI_wI, if_pos ⟨rfl, rfl⟩, i11, Nat.min_eq_left (by omega), Nat.min_eq_left (by omega), q6, hc, show (10 : Int32) = nI 10 from rfl, w_mul, nI_add, show (48 : Int32) = nI 48 from rfl, w_sub (by omega)]
        show _ = nI (10 * nv' bs s k + dv' (bs (s + k)))
        rw [hv]
        congr 1; omega
set_option maxRecDepth 16384 in
theorem d168 {h : A_H} {bs : Nat → Int32} {n e : Nat} (L : Ly h) (t : MTp h bs n) (b8 : B8 bs n) (he : e ≤ n) (e8 : hI h 124 8 = nI e) (e9 : decide (hI h 124 9 = 5) = false) : ∃ h', C 168 [.ref 124] h = some (some none, h') ∧ FG MT ML14 h h' ∧ hI h' 124 9 = nI (mk (tK bs n e)) ∧ hI h' 124 10 = nI (tS bs n e) ∧ (¬ tK bs n e = 4 → hI h' 124 8 = nI (tE bs n e)) ∧ (tK bs n e = 1 → hL h' 124 14 = nL (tV bs n e)) ∧ (tK bs n e = 2 → hI h' 124 11 = nI (tV bs n e)) := by
  have hn := t.2.1
  have tok : ∀ s h1, s ≤ n → tS bs n e = s → FG MT ML14 h h1 → hI h1 124 8 = nI s → hI h1 124 10 = nI s → hI h1 124 9 = 0 → ∃ h', R 168 25 [some (.ref 124), none, none] [] h1 = some (some none, h') ∧ FG MT ML14 h h' ∧ hI h' 124 9 = nI (mk (tK bs n e)) ∧ hI h' 124 10 = nI (tS bs n e) ∧ (¬ tK bs n e = 4 → hI h' 124 8 = nI (tE bs n e)) ∧ (tK bs n e = 1 → hL h' 124 14 = nL (tV bs n e)) ∧ (tK bs n e = 2 → hI h' 124 11 = nI (tV bs n e)) := by
    intro s h1 hs es f1 i8 i10 i9
    have L1 := FG_Ly f1 L
    have t1 : MTp h1 bs n := MTp_FG f1 t (by unfold MT; omega) (fun j => by unfold MT; omega)
    unfold tK tE tV
    rw [es]
    rw [b168_25]
    by_cases c : n ≤ s
    · have : s = n := by omega
      subst this
      rw [if_pos c, if_pos c, if_pos c]
      simp only [y_124 L1, cond_true, i8, d165e L1 t1, bk_v, b168_29, decide_true, Bool.not_true, cond_false, b168_38]
      refine ⟨wI h1 124 9 1, rfl, FG_wI f1 _ ⟨rfl, by omega⟩, ?_, ?_, fun _ => ?_, fun c => by omega, fun c => by omega⟩
      · rw [hI_wI, if_pos ⟨rfl, rfl⟩]; rfl
      · rw [hI_wI, if_neg (by omega)]; exact i10
      · rw [hI_wI, if_neg (by omega)]; exact i8
    · have hpn : s < n := by omega
      rw [if_neg c, if_neg c, if_neg c]
      obtain ⟨i, hi⟩ := b8 s hpn
      have q8 := by8 i
      rw [← hi] at q8
      simp only [y_124 L1, cond_true, i8, d165 L1 t1 hpn, bk_v, b168_29, q8.2.2.1, Bool.not_false, d166, q8.1.1, b168_41, z_0, d167, q8.1.2, b168_87, q8.2.1.2, isO_wL, isO_wI, b168_134, b168_140]
      cases hl : lt' (bs s) with
      | true =>
        simp only [cond_true, cond_false, decide_true, Bool.and_true, Bool.true_and, Bool.and_self, Bool.and_false, Bool.false_and, Bool.not_true, Bool.not_false, Bool.or_true, Bool.true_or, Bool.or_false, Bool.false_or, is_some, gd_some, bk_v, bk_u]
        obtain ⟨h', g1, g2, g3, g4, g5, g6⟩ := m_let (s := s) L t b8 (n - s) 0 (wL h1 124 14 0) (bs s &&& 255) (by omega) (FG_wL f1 _ ⟨rfl, rfl⟩) i8 i9 i10 (by rw [hL_wL, if_pos ⟨rfl, rfl⟩]; rfl)
        rw [Nat.add_zero] at g3 g5 g6
        refine ⟨h', g1, g2, ?_, g4, fun _ => g5, fun c => ?_, fun c => ?_⟩
        · rw [g3]
          by_cases c9 : rE lt' bs n s - s ≤ 9
          · rw [if_pos c9, if_pos c9]; rfl
          · rw [if_neg c9, if_neg c9]; rfl
        · by_cases c9 : rE lt' bs n s - s ≤ 9
          · exact g6 c9
          · rw [if_neg c9] at c; omega
        · by_cases c9 : rE lt' bs n s - s ≤ 9
          · rw [if_pos c9] at c; omega
          · rw [if_neg c9] at c; omega
      | false =>
        simp only [cond_true, cond_false, decide_true, Bool.and_true, Bool.true_and, Bool.and_self, Bool.and_false, Bool.false_and, Bool.not_true, Bool.not_false, Bool.or_true, Bool.true_or, Bool.or_false, Bool.false_or, is_some, gd_some, bk_v, bk_u]
        cases hd : dt' (bs s) with
        | true =>
          simp only [cond_true, cond_false, decide_true, Bool.and_true, Bool.true_and, Bool.and_self, Bool.and_false, Bool.false_and, Bool.not_true, Bool.not_false, Bool.or_true, Bool.true_or, Bool.or_false, Bool.false_or, is_some, gd_some, bk_v, bk_u]
          obtain ⟨h', g1, g2, g3, g4, g5, g6⟩ := m_dig (s := s) L t b8 (n - s) 0 (wI h1 124 11 0) (bs s &&& 255) (by omega) (FG_wI f1 _ ⟨rfl, by omega⟩) (by rw [hI_wI, if_neg (by omega)]; exact i8) (by rw [hI_wI, if_neg (by omega)]; exact i9) (by rw [hI_wI, if_neg (by omega)]; exact i10) (by rw [hI_wI, if_pos ⟨rfl, rfl⟩]; rfl)
          rw [Nat.add_zero] at g3 g5 g6
          refine ⟨h', g1, g2, ?_, g4, fun _ => g5, fun c => ?_, fun c => ?_⟩
          · rw [g3]
            by_cases c9 : rE dt' bs n s - s ≤ 3
            · rw [if_pos c9, if_pos c9]; rfl
            · rw [if_neg c9, if_neg c9]; rfl
          · by_cases c9 : rE dt' bs n s - s ≤ 3
            · rw [if_pos c9] at c; omega
            · rw [if_neg c9] at c; omega
          · by_cases c9 : rE dt' bs n s - s ≤ 3
            · exact g6 c9
            · rw [if_neg c9] at c; omega
        | false =>
          simp only [cond_true, cond_false, decide_true, Bool.and_true, Bool.true_and, Bool.and_self, Bool.and_false, Bool.false_and, Bool.not_true, Bool.not_false, Bool.or_true, Bool.true_or, Bool.or_false, Bool.false_or, is_some, gd_some, bk_v, bk_u]
          cases decide (bs s = 59) with
          | true =>
            have i8w : hI (wI h1 124 9 4) 124 8 = nI s := by rw [hI_wI, if_neg (by omega)]; exact i8
            simp only [cond_true, cond_false, decide_true, Bool.and_true, Bool.true_and, Bool.and_self, Bool.and_false, Bool.false_and, Bool.not_true, Bool.not_false, Bool.or_true, Bool.true_or, Bool.or_false, Bool.false_or, is_some, gd_some, bk_v, bk_u, i8w, w_s]
            refine ⟨wI (wI h1 124 9 4) 124 8 (nI (s + 1)), rfl, FG_wI (FG_wI f1 _ ⟨rfl, by omega⟩) _ ⟨rfl, by omega⟩, ?_, ?_, fun _ => ?_, fun c => by omega, fun c => by omega⟩
            · rw [hI_wI, if_neg (by omega), hI_wI, if_pos ⟨rfl, rfl⟩]; rfl
            · rw [hI_wI, if_neg (by omega), hI_wI, if_neg (by omega)]; exact i10
            · rw [hI_wI, if_pos ⟨rfl, rfl⟩]
          | false =>
            simp only [cond_true, cond_false, decide_true, Bool.and_true, Bool.true_and, Bool.and_self, Bool.and_false, Bool.false_and, Bool.not_true, Bool.not_false, Bool.or_true, Bool.true_or, Bool.or_false, Bool.false_or, is_some, gd_some, bk_v, bk_u]
            exact ⟨h1, rfl, f1, i9, i10, fun c => absurd trivial c, fun c => by omega, fun c => by omega⟩
  have spc : ∀ f p h1, p + f = n → tS bs n e = rE sp' bs n p → FG MT ML14 h h1 → hI h1 124 8 = nI p → ∃ h', R 168 5 [some (.ref 124), none, none] [] h1 = some (some none, h') ∧ FG MT ML14 h h' ∧ hI h' 124 9 = nI (mk (tK bs n e)) ∧ hI h' 124 10 = nI (tS bs n e) ∧ (¬ tK bs n e = 4 → hI h' 124 8 = nI (tE bs n e)) ∧ (tK bs n e = 1 → hL h' 124 14 = nL (tV bs n e)) ∧ (tK bs n e = 2 → hI h' 124 11 = nI (tV bs n e)) := by
    intro f
    induction f with
    | zero =>
      intro p h1 hp ht f1 i8
      have : p = n := by omega
      subst this
      have L1 := FG_Ly f1 L
      have t1 : MTp h1 bs p := MTp_FG f1 t (by unfold MT; omega) (fun j => by unfold MT; omega)
      rw [rE_n] at ht
      rw [b168_5]
      simp only [y_124 L1, cond_true, i8, d165e L1 t1, bk_v, b168_9, show decide ((-1 : Int32) = 32) = false from rfl, Bool.not_false, b168_22, isO_wI]
      refine tok p _ (Nat.le_refl _) ht (FG_wI (FG_wI f1 _ ⟨rfl, by omega⟩) _ ⟨rfl, by omega⟩) ?_ ?_ ?_
      · rw [hI_wI, if_neg (by omega), hI_wI, if_neg (by omega)]; exact i8
      · rw [hI_wI, if_neg (by omega), hI_wI, if_pos ⟨rfl, rfl⟩]
      · rw [hI_wI, if_pos ⟨rfl, rfl⟩]
    | succ f ih =>
      intro p h1 hp ht f1 i8
      have hpn : p < n := by omega
      have L1 := FG_Ly f1 L
      have t1 : MTp h1 bs n := MTp_FG f1 t (by unfold MT; omega) (fun j => by unfold MT; omega)
      obtain ⟨i, hi⟩ := b8 p hpn
      have q8 := by8 i
      rw [← hi] at q8
      rw [rE_s sp' bs hpn] at ht
      rw [b168_5]
      simp only [y_124 L1, cond_true, i8, d165 L1 t1 hpn, bk_v, b168_9, q8.2.1.1, b168_22, isO_wI, w_s, b168_17]
      rw [show decide (bs p = 32) = sp' (bs p) from rfl]
      cases hsp : sp' (bs p) with
      | true =>
        rw [hsp, cond_true] at ht
        simp only [cond_true, cond_false, decide_true, Bool.and_true, Bool.true_and, Bool.and_self, Bool.and_false, Bool.false_and, Bool.not_true, Bool.not_false, Bool.or_true, Bool.true_or, Bool.or_false, Bool.false_or, is_some, gd_some, bk_v, bk_u]
        exact ih (p + 1) _ (by omega) ht (FG_wI f1 _ ⟨rfl, by omega⟩) (by rw [hI_wI, if_pos ⟨rfl, rfl⟩])
      | false =>
        rw [hsp, cond_false] at ht
        simp only [cond_true, cond_false, decide_true, Bool.and_true, Bool.true_and, Bool.and_self, Bool.and_false, Bool.false_and, Bool.not_true, Bool.not_false, Bool.or_true, Bool.true_or, Bool.or_false, Bool.false_or, is_some, gd_some, bk_v, bk_u]
        refine tok p _ (by omega) ht (FG_wI (FG_wI f1 _ ⟨rfl, by omega⟩) _ ⟨rfl, by omega⟩) ?_ ?_ ?_
        · rw [hI_wI, if_neg (by omega), hI_wI, if_neg (by omega)]; exact i8
        · rw [hI_wI, if_neg (by omega), hI_wI, if_pos ⟨rfl, rfl⟩]
        · rw [hI_wI, if_pos ⟨rfl, rfl⟩]
  obtain ⟨h', g1, g2⟩ := spc (n - e) e h (by omega) rfl (FG_rfl _ _ h) e8
  refine ⟨h', ?_, g2⟩
  rw [e168]
  simp only [b168_0, y_124 L, cond_true, e9, Bool.not_false]
  exact g1
set_option maxRecDepth 16384 in
theorem d168x {h : A_H} (L : Ly h) (e9 : hI h 124 9 = 5) : C 168 [.ref 124] h = some (some none, h) := by
  rw [e168]
  simp only [b168_0, y_124 L, cond_true, e9, decide_true, Bool.not_true, cond_false]
def tkn (k s e v f p : Nat) : Nat → Nat
  | 0 => k
  | 1 => s
  | 2 => e
  | 3 => v
  | 4 => f
  | _ => p
def sSt (bs : Nat → Int32) (n : Nat) (τ : Nat → Nat) : Nat → Nat := if τ 4 = 0 then tkn (tK bs n (τ 2)) (tS bs n (τ 2)) (tE bs n (τ 2)) (tV bs n (τ 2)) 0 0 else τ
def sFa (k : Nat) (τ : Nat → Nat) : Nat → Nat := if τ 4 = 0 then tkn (τ 0) (τ 1) (τ 2) (τ 3) k (τ 1) else τ
set_option maxRecDepth 16384 in
theorem sSt_0 {bs : Nat → Int32} {n : Nat} {τ : Nat → Nat} (h : τ 4 = 0) : sSt bs n τ = tkn (tK bs n (τ 2)) (tS bs n (τ 2)) (tE bs n (τ 2)) (tV bs n (τ 2)) 0 0 := if_pos h
set_option maxRecDepth 16384 in
theorem sSt_1 {bs : Nat → Int32} {n : Nat} {τ : Nat → Nat} (h : ¬ τ 4 = 0) : sSt bs n τ = τ := if_neg h
set_option maxRecDepth 16384 in
theorem sFa_0 {k : Nat} {τ : Nat → Nat} (h : τ 4 = 0) : sFa k τ = tkn (τ 0) (τ 1) (τ 2) (τ 3) k (τ 1) := if_pos h
set_option maxRecDepth 16384 in
theorem sFa_n {k : Nat} {τ : Nat → Nat} (h : τ 4 = 0) (hk : ¬ k = 0) : ¬ (sFa k τ) 4 = 0 := by rw [sFa_0 h]; exact hk
set_option maxRecDepth 16384 in
theorem sFa_1 {k : Nat} {τ : Nat → Nat} (h : ¬ τ 4 = 0) : sFa k τ = τ := if_neg h
def tok' (n : Nat) (τ : Nat → Nat) : Prop := τ 0 ≤ 4 ∧ τ 1 ≤ τ 2 ∧ τ 2 ≤ n ∧ (τ 0 = 1 → τ 3 < 35184372088832) ∧ (τ 0 = 2 → τ 3 < 1000)
set_option maxRecDepth 16384 in
theorem tK_le (bs : Nat → Int32) (n p : Nat) : tK bs n p ≤ 4 := by
  unfold tK
  by_cases e : n ≤ tS bs n p
  · rw [if_pos e]; decide
  · rw [if_neg e]
    cases lt' (bs (tS bs n p))
    · cases dt' (bs (tS bs n p))
      · simp only [cond_false]; cases decide (bs (tS bs n p) = 59) <;> decide
      · simp only [cond_false, cond_true]
        by_cases c : rE dt' bs n (tS bs n p) - tS bs n p ≤ 3
        · rw [if_pos c]; decide
        · rw [if_neg c]; decide
    · simp only [cond_true]
      by_cases c : rE lt' bs n (tS bs n p) - tS bs n p ≤ 9
      · rw [if_pos c]; decide
      · rw [if_neg c]; decide
set_option maxRecDepth 16384 in
theorem rn_all (pr : Int32 → Bool) (bs : Nat → Int32) (f p j : Nat) (h1 : p ≤ j) (h2 : j < rn pr bs f p) : pr (bs j) = true := by
  induction f generalizing p with
  | zero => exact absurd h2 (Nat.not_lt.mpr h1)
  | succ f ih =>
    rw [rn_s] at h2
    cases hp : pr (bs p) with
    | false => rw [hp, cond_false] at h2; omega
    | true =>
      rw [hp, cond_true] at h2
      by_cases e : j = p
      · rw [e]; exact hp
      · exact ih (p + 1) (by omega) h2
set_option maxRecDepth 16384 in
theorem wv_lt {bs : Nat → Int32} {n s k : Nat} (hk : k ≤ rE lt' bs n s - s) : wv bs s k < 32 ^ k := by
  induction k with
  | zero => exact Nat.one_pos
  | succ k ih =>
    have hi := ih (by omega)
    obtain ⟨c, hc, h1, h2, hv⟩ := lt_I (rn_all lt' bs (n - s) s (s + k) (by omega) (show s + k < rE lt' bs n s by omega))
    show 32 * wv bs s k + lv (bs (s + k)) < _
    rw [Nat.pow_succ, hv]; omega
set_option maxRecDepth 16384 in
theorem nv_lt {bs : Nat → Int32} {n s k : Nat} (hk : k ≤ rE dt' bs n s - s) : nv' bs s k < 10 ^ k := by
  induction k with
  | zero => exact Nat.one_pos
  | succ k ih =>
    have hi := ih (by omega)
    obtain ⟨c, hc, h1, h2, hv⟩ := dt_I (rn_all dt' bs (n - s) s (s + k) (by omega) (show s + k < rE dt' bs n s by omega))
    show 10 * nv' bs s k + dv' (bs (s + k)) < _
    rw [Nat.pow_succ, hv]; omega
set_option maxRecDepth 16384 in
theorem tV_1 {bs : Nat → Int32} {n p : Nat} (h : tK bs n p = 1) : tV bs n p < 35184372088832 := by
  unfold tK at h
  unfold tV
  by_cases e : n ≤ tS bs n p
  · rw [if_pos e] at h; omega
  · rw [if_neg e] at h ⊢
    cases hl : lt' (bs (tS bs n p)) with
    | true =>
      rw [hl, cond_true] at h
      rw [cond_true]
      by_cases c : rE lt' bs n (tS bs n p) - tS bs n p ≤ 9
      · exact Nat.lt_of_lt_of_le (wv_lt (Nat.le_refl _)) (Nat.le_trans (Nat.pow_le_pow_right (by decide) c) (by decide))
      · rw [if_neg c] at h; omega
    | false =>
      rw [hl, cond_false] at h
      cases hd : dt' (bs (tS bs n p)) with
      | true =>
        rw [hd, cond_true] at h
        by_cases c : rE dt' bs n (tS bs n p) - tS bs n p ≤ 3
        · rw [if_pos c] at h; omega
        · rw [if_neg c] at h; omega
      | false => exact Nat.succ_pos _
set_option maxRecDepth 16384 in
theorem tV_2 {bs : Nat → Int32} {n p : Nat} (h : tK bs n p = 2) : tV bs n p < 1000 := by
  unfold tK at h
  unfold tV
  by_cases e : n ≤ tS bs n p
  · rw [if_pos e] at h; omega
  · rw [if_neg e] at h ⊢
    cases hl : lt' (bs (tS bs n p)) with
    | true =>
      rw [hl, cond_true] at h
      by_cases c : rE lt' bs n (tS bs n p) - tS bs n p ≤ 9
      · rw [if_pos c] at h; omega
      · rw [if_neg c] at h; omega
    | false =>
      rw [hl, cond_false] at h
      cases hd : dt' (bs (tS bs n p)) with
      | true =>
        rw [hd, cond_true] at h
        simp only [cond_false, cond_true]
        by_cases c : rE dt' bs n (tS bs n p) - tS bs n p ≤ 3
        · exact Nat.lt_of_lt_of_le (nv_lt (Nat.le_refl _)) (Nat.le_trans (Nat.pow_le_pow_right (by decide) c) (by decide))
        · rw [if_neg c] at h; omega
      | false => exact Nat.succ_pos _
set_option maxRecDepth 16384 in
theorem tok_st {bs : Nat → Int32} {n : Nat} {τ : Nat → Nat} (h : τ 2 ≤ n) (h4 : τ 4 = 0) : tok' n (sSt bs n τ) := by
  rw [sSt_0 h4]
  have h1 := tE_b bs h
  exact ⟨tK_le _ _ _, h1.1, h1.2, fun e => tV_1 e, fun e => tV_2 e⟩
set_option maxRecDepth 16384 in
theorem tok_fa {n k : Nat} {τ : Nat → Nat} (h : tok' n τ) : tok' n (sFa k τ) := by
  unfold sFa
  by_cases e : τ 4 = 0
  · rw [if_pos e]; exact h
  · rw [if_neg e]; exact h
def CKt (h : A_H) (bs : Nat → Int32) (n : Nat) (τ : Nat → Nat) : Prop := CTp h bs n ∧ (τ 4 = 0 → hI h 2 4 = 0 ∧ hI h 2 6 = nI (τ 0) ∧ hI h 2 7 = nI (τ 1) ∧ hI h 2 8 = nI (τ 2) ∧ (τ 0 = 1 ∨ τ 0 = 2 → hL h 2 9 = nL (τ 3)) ∧ tok' n τ) ∧ (¬ τ 4 = 0 → hI h 2 4 = nI (τ 4) ∧ τ 4 < 100 ∧ hI h 2 5 = nI (τ 5)) ∧ ∃ e, e ≤ n ∧ hI h 2 8 = nI e
def TF (a b : Nat) : Prop := a = 2 ∧ (b = 4 ∨ b = 5 ∨ b = 6 ∨ b = 7 ∨ b = 8)
set_option maxRecDepth 16384 in
theorem CTp_TF {h h' : A_H} {bs : Nat → Int32} {n : Nat} (f : FB TF h h') (t : CTp h bs n) : CTp h' bs n := CTp_FB f t (by unfold TF; omega) (fun k => by unfold TF; omega)
set_option maxRecDepth 16384 in
theorem TB_TF {h h' : A_H} (f : FB TB h h') : FB TF h h' := FB_mo (fun a b q => by unfold TB at q; unfold TF; omega) f
set_option maxRecDepth 16384 in
theorem nz {k : Nat} (h0 : ¬ k = 0) (hk : k < 1000) : decide (nI k = 0) = false := by
  rw [show (0 : Int32) = nI 0 from rfl]; exact dF (by rw [w_eq (by omega) (by decide)]; exact h0)
set_option maxRecDepth 16384 in
theorem c24 {h : A_H} {bs : Nat → Int32} {n : Nat} {τ : Nat → Nat} (L : Ly h) (t : CKt h bs n τ) {k : Nat} (hk0 : ¬ k = 0) (hk : k < 100) : ∃ h', C 24 [.ref 2, .int (nI k)] h = some (some none, h') ∧ FB TF h h' ∧ CKt h' bs n (sFa k τ) := by
  obtain ⟨t1, t2, t3, t4⟩ := t
  by_cases e : τ 4 = 0
  · obtain ⟨a1, a2, a3, a4, a5, a6⟩ := t2 e
    have f : FB TF h (wI (wI h 2 4 (nI k)) 2 5 (nI (τ 1))) := FB_wI (FB_wI (FB_rfl _ h) _ ⟨rfl, by omega⟩) _ ⟨rfl, by omega⟩
    have i7 : hI (wI h 2 4 (nI k)) 2 7 = nI (τ 1) := by rw [hI_wI, if_neg (by omega)]; exact a3
    refine ⟨_, ?_, f, CTp_TF f t1, fun c => ?_, fun _ => ?_, ?_⟩
    · rw [e24]
      simp only [b24_0, b24_6, b24_10, x_O2 L, isO_wI, cond_true, a1, decide_true, Bool.not_true, cond_false, i7]
    · rw [sFa_0 e] at c; exact absurd c hk0
    · rw [sFa_0 e]
      refine ⟨?_, hk, ?_⟩
      · rw [hI_wI, if_neg (by omega), hI_wI, if_pos ⟨rfl, rfl⟩]; rfl
      · rw [hI_wI, if_pos ⟨rfl, rfl⟩]; rfl
    · obtain ⟨e', h1, h2⟩ := t4
      exact ⟨e', h1, by rw [hI_wI, if_neg (by omega), hI_wI, if_neg (by omega)]; exact h2⟩
  · obtain ⟨a1, a2, a3⟩ := t3 e
    refine ⟨h, ?_, FB_rfl _ h, ?_⟩
    · rw [e24]
      simp only [b24_0, x_O2 L, cond_true, a1, nz e (by omega), Bool.not_false]
    · rw [sFa_1 e]; exact ⟨t1, t2, t3, t4⟩
set_option maxRecDepth 16384 in
theorem c25' {h : A_H} {bs : Nat → Int32} {n : Nat} {τ : Nat → Nat} (L : Ly h) (t : CKt h bs n τ) : ∃ h', C 25 [.ref 2] h = some (some none, h') ∧ FB TF h h' ∧ CKt h' bs n (sSt bs n τ) := by
  obtain ⟨t1, t2, t3, e', he', e8⟩ := t
  obtain ⟨h', g1, f, i6, i7, i8, i9⟩ := c25 L t1 he' e8
  refine ⟨h', g1, TB_TF f, CTp_TF (TB_TF f) t1, fun c => ?_, fun c => ?_, tE bs n e', (tE_b bs he').2, i8⟩
  · by_cases e : τ 4 = 0
    · obtain ⟨a1, a2, a3, a4, a5, a6⟩ := t2 e
      have : e' = τ 2 := by
        rw [a4] at e8
        have hn := t1.2.1
        have := a6.2.2.1
        exact ((w_eq (by omega) (by omega)).mp e8).symm
      subst this
      rw [sSt_0 e]
      refine ⟨(FB_I f (by unfold TB; omega)).trans a1, i6, i7, i8, i9, ?_⟩
      have := tok_st (bs := bs) (n := n) a6.2.2.1 e
      rw [sSt_0 e] at this
      exact this
    · rw [sSt_1 e] at c; exact absurd c e
  · by_cases e : τ 4 = 0
    · rw [sSt_0 e] at c; exact absurd rfl c
    · rw [sSt_1 e]
      obtain ⟨a1, a2, a3⟩ := t3 e
      exact ⟨(FB_I f (by unfold TB; omega)).trans a1, a2, (FB_I f (by unfold TB; omega)).trans a3⟩
def isW (x : UInt32) (τ : Nat → Nat) : Bool := decide (τ 0 = 1) && decide (τ 3 = wT x)
set_option maxRecDepth 16384 in
theorem lgc {a b : Nat} (ha : a < 9223372036854775808) (hb : b < 9223372036854775808) : decide (lg_cmp (nL a) (nL b) = 0) = decide (a = b) := by
  unfold lg_cmp
  by_cases e : a = b
  · subst e
    rw [if_neg (show ¬ nL a > nL a from fun c => by rw [gt_iff_lt, l_lt ha ha] at c; omega), if_pos rfl, show decide ((0 : Int32) = 0) = true from rfl]; exact (dT rfl).symm
  · rw [dF e]
    by_cases e2 : b < a
    · rw [if_pos (show nL a > nL b by rw [gt_iff_lt, l_lt hb ha]; exact e2)]; rfl
    · rw [if_neg (show ¬ nL a > nL b from fun c => by rw [gt_iff_lt, l_lt hb ha] at c; omega), if_neg (fun c => e ((l_eq ha hb).mp c))]; rfl
set_option maxRecDepth 16384 in
theorem nk {k m : Nat} (hk : k ≤ 4) (hm : m < 100) : decide (nI k = nI m) = decide (k = m) := by
  simp only [w_eq (show k < 2147483648 by omega) (show m < 2147483648 by omega)]
set_option maxRecDepth 16384 in
theorem c28 {h : A_H} {bs : Nat → Int32} {n : Nat} {τ : Nat → Nat} (L : Ly h) (t : CKt h bs n τ) {x : UInt32} (h1 : 0 < x.toNat) (h2 : x.toNat ≤ 32) : ∃ b, C 28 [.ref 2, .float x] h = some (some (some (.int (bI b))), h) ∧ (τ 4 = 0 → b = isW x τ) := by
  rw [e28]
  simp only [b28_0, b28_8, x_O2 L, cond_true, d284 h1 h2, bk_v, z_00, z_11]
  by_cases e : τ 4 = 0
  · obtain ⟨a1, a2, a3, a4, a5, a6⟩ := t.2.1 e
    refine ⟨isW x τ, ?_, fun _ => rfl⟩
    have k1 := nk (m := 1) a6.1 (by decide)
    rw [show nI 1 = 1 from rfl] at k1
    rw [a2, k1]
    unfold isW
    by_cases c : τ 0 = 1
    · have := a6.2.2.2.1 c
      have w := wT_lt h1 h2
      rw [dT c, a5 (Or.inl c), lgc (by omega) (by omega)]
      cases decide (τ 3 = wT x) <;> rfl
    · rw [dF c]; rfl
  · cases decide (hI h 2 6 = 1) with
    | false => exact ⟨false, rfl, fun c => absurd c e⟩
    | true =>
      cases decide (lg_cmp (hL h 2 9) (nL (wT x)) = 0) with
      | false => exact ⟨false, rfl, fun c => absurd c e⟩
      | true => exact ⟨true, rfl, fun c => absurd c e⟩
def sWd (bs : Nat → Int32) (n : Nat) (x : UInt32) (τ : Nat → Nat) : Nat → Nat := bif isW x τ then sSt bs n τ else sFa 1 τ
set_option maxRecDepth 16384 in
theorem c29 {h : A_H} {bs : Nat → Int32} {n : Nat} {τ : Nat → Nat} (L : Ly h) (t : CKt h bs n τ) {x : UInt32} (h1 : 0 < x.toNat) (h2 : x.toNat ≤ 32) : ∃ h', C 29 [.ref 2, .float x] h = some (some none, h') ∧ FB TF h h' ∧ CKt h' bs n (sWd bs n x τ) := by
  obtain ⟨b, g1, g2⟩ := c28 L t h1 h2
  rw [e29]
  simp only [b29_0, b29_3, x_O2 L, cond_true, g1, bk_v, z_0]
  obtain ⟨h3, k1, k2, k3⟩ := c24 L t (k := 1) (by decide) (by decide)
  obtain ⟨h4, j1, j2, j3⟩ := c25' L t
  unfold sWd
  cases b with
  | true =>
    simp only [Bool.not_true, cond_false, j1, bk_u, b29_6]
    refine ⟨h4, rfl, j2, ?_⟩
    by_cases e : τ 4 = 0
    · rw [← g2 e]; exact j3
    · cases isW x τ
      · rw [cond_false, sFa_1 e]; rw [sSt_1 e] at j3; exact j3
      · exact j3
  | false =>
    rw [show (1 : Int32) = nI 1 from rfl]
    simp only [Bool.not_false, cond_true, k1, bk_u, b29_10]
    refine ⟨h3, rfl, k2, ?_⟩
    by_cases e : τ 4 = 0
    · rw [← g2 e]; exact k3
    · cases isW x τ
      · exact k3
      · rw [cond_true, sSt_1 e]; rw [sFa_1 e] at k3; exact k3
def sWh (bs : Nat → Int32) (n lo hi : Nat) (τ : Nat → Nat) : Nat → Nat := if τ 0 = 2 then (if lo ≤ τ 3 ∧ τ 3 ≤ hi then sSt bs n τ else sFa 4 τ) else sFa 1 τ
set_option maxRecDepth 16384 in
theorem sWh_1 {bs : Nat → Int32} {n lo hi : Nat} {τ : Nat → Nat} (h : ¬ τ 4 = 0) : sWh bs n lo hi τ = τ := by
  unfold sWh
  rw [sSt_1 h, sFa_1 h, sFa_1 h]
  by_cases c : τ 0 = 2
  · rw [if_pos c]
    by_cases d : lo ≤ τ 3 ∧ τ 3 ≤ hi
    · rw [if_pos d]
    · rw [if_neg d]
  · rw [if_neg c]
set_option maxRecDepth 16384 in
theorem sWd_1 {bs : Nat → Int32} {n : Nat} {x : UInt32} {τ : Nat → Nat} (h : ¬ τ 4 = 0) : sWd bs n x τ = τ := by
  unfold sWd
  rw [sSt_1 h, sFa_1 h]
  cases isW x τ <;> rfl
set_option maxRecDepth 16384 in
theorem c30 {h : A_H} {bs : Nat → Int32} {n : Nat} {τ : Nat → Nat} (L : Ly h) (t : CKt h bs n τ) {lo hi : Nat} (hl : lo < 1000) (hh : hi < 1000) : ∃ m h', C 30 [.ref 2, .int (nI lo), .int (nI hi)] h = some (some (some (.int (nI m))), h') ∧ FB TF h h' ∧ CKt h' bs n (sWh bs n lo hi τ) ∧ m < 1000 ∧ ((sWh bs n lo hi τ) 4 = 0 → m = τ 3) := by
  obtain ⟨h3, k1, k2, k3⟩ := c24 L t (k := 1) (by decide) (by decide)
  obtain ⟨h5, m1, m2, m3⟩ := c24 L t (k := 4) (by decide) (by decide)
  obtain ⟨h4, j1, j2, j3⟩ := c25' L t
  rw [show nI 1 = 1 from rfl] at k1
  rw [show nI 4 = 4 from rfl] at m1
  rw [e30]
  simp only [b30_0, b30_7, b30_22, b30_26, x_O2 L, cond_true, k1, m1, j1, bk_u]
  by_cases e : τ 4 = 0
  · obtain ⟨a1, a2, a3, a4, a5, a6⟩ := t.2.1 e
    have q1 := nk (m := 2) a6.1 (by decide)
    rw [show nI 2 = 2 from rfl] at q1
    rw [a2, q1]
    unfold sWh
    by_cases c : τ 0 = 2
    · have hv := a6.2.2.2.2 c
      rw [dT c, if_pos c, a5 (Or.inr c), l_i (by omega)]
      by_cases d1 : lo ≤ τ 3
      · by_cases d2 : τ 3 ≤ hi
        · rw [if_pos ⟨d1, d2⟩, dF (show ¬ nI (τ 3) < nI lo by rw [w_lt (by omega) (by omega)]; omega), dT (show nI (τ 3) ≤ nI hi by rw [w_le (by omega) (by omega)]; omega)]
          exact ⟨τ 3, h4, rfl, j2, j3, hv, fun _ => rfl⟩
        · rw [if_neg (fun c => d2 c.2), dF (show ¬ nI (τ 3) < nI lo by rw [w_lt (by omega) (by omega)]; omega), dF (show ¬ nI (τ 3) ≤ nI hi by rw [w_le (by omega) (by omega)]; omega)]
          exact ⟨lo, h5, rfl, m2, m3, hl, fun c => absurd c (sFa_n e (by decide))⟩
      · rw [if_neg (fun c => d1 c.1), dT (show nI (τ 3) < nI lo by rw [w_lt (by omega) (by omega)]; omega)]
        exact ⟨lo, h5, rfl, m2, m3, hl, fun c => absurd c (sFa_n e (by decide))⟩
    · rw [dF c, if_neg c]
      exact ⟨lo, h3, rfl, k2, k3, hl, fun c => absurd c (sFa_n e (by decide))⟩
  · rw [sWh_1 e]
    rw [sFa_1 e] at k3 m3
    rw [sSt_1 e] at j3
    cases decide (hI h 2 6 = 2) with
    | false => exact ⟨lo, h3, rfl, k2, k3, hl, fun c => absurd c e⟩
    | true =>
      cases q1 : decide ((hL h 2 9).toInt32 < nI lo) with
      | true => exact ⟨lo, h5, rfl, m2, m3, hl, fun c => absurd c e⟩
      | false =>
        cases q2 : decide ((hL h 2 9).toInt32 ≤ nI hi) with
        | true =>
          have q1 := of_decide_eq_false q1
          have q2 := of_decide_eq_true q2
          rw [Int32.lt_iff_toInt_lt, w_int (by omega)] at q1
          rw [Int32.le_iff_toInt_le, w_int (by omega)] at q2
          obtain ⟨m, hm, em⟩ := w_ex (x := (hL h 2 9).toInt32) (by rw [Int32.le_iff_toInt_le]; have : (0 : Int32).toInt = 0 := rfl; omega)
          rw [em, w_int hm] at q2
          rw [em]
          exact ⟨m, h4, rfl, j2, j3, by omega, fun c => absurd c e⟩
        | false => exact ⟨lo, h5, rfl, m2, m3, hl, fun c => absurd c e⟩
