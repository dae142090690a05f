def hwt (D : Gh) (S : Nat → Nat) (t : Nat) : Nat := sm (D 0 5) (fun g => bif has D S t g && hid S g then wor D g (S 17) else 0)
def hw (D : Gh) (S : Nat → Nat) (m : Nat) : Nat := sm (D 0 3) (fun t => bif m.testBit t then hwt D S t else 0)
theorem t_end {D : Gh} (w : WF D) {k : Nat} (hk : k < D 0 3) : decide (nI (D 0 3) ≤ nI k) = false := by
  have := f_nt w
  rw [dF (by rw [w_le (by omega) (by omega)]; omega)]
theorem t_stop {D : Gh} (w : WF D) : decide (nI (D 0 3) ≤ nI (D 0 3)) = true := dT (Int32.le_refl _)
theorem c113 {h : A_H} {T : Nat} {D : Gh} {S : Nat → Nat} (L : Ly h) (hT : isT T) (w : WF D) (c : CT h T D) (hQ : hP h 0 3 = some T) (s : CS h 77 D S) (u : WD D S) (m : Nat) : C 113 [.ref 0, .int (nI m)] h = some (some (some (.int (nI (hw D S m)))), h) := by
  have h17 := u.1
  have ht4 := f_nt w
  rw [e113]
  simp only [b113_0, b113_21, b113_29]
  refine (loop_ix (fun t => R 113 4 [some (.ref 0), some (.int (nI m)), some (.int (nI (sm t (fun t => bif m.testBit t then hwt D S t else 0)))), some (.int (nI t))] [] h) (D 0 3) ?_).trans ?_
  · intro t ht
    have h67 := c67 L hT w c (nI (msk (D 0 5) (has D S t)) &&& nI (S 16)) (show S 17 ≤ 1000 by omega)
    rw [sm_congr (g := fun g => bif has D S t g && hid S g then wor D g (S 17) else 0) (fun g hg => by rw [bt_and, hb_ w t g hg, hh_ w g hg])] at h67
    rw [b113_4]
    simp only [cond_true, decide_true, cond_false, Bool.and_true, Bool.true_and, Bool.and_self, Bool.and_false, Bool.false_and, Bool.not_true, Bool.not_false, Bool.or_true, Bool.true_or, Bool.or_false, Bool.false_or, is_some, gd_some, bk_v, bk_u, t_O L hT, t_P9 L hT, t_P10 L hT, t_P11 L hT, t_P12 L hT, t_P13 L hT, t_P14 L hT, t_OC L hT, t_C1 L hT, t_C2 L hT, t_C3 L hT, hQ, x_O L, x_P5 L, x_O77 L, s.1, s.2.1, s.2.2.1, s.2.2.2.1, s.2.2.2.2.1, c_s3 c, t_end w ht, btz _ (show t < 32 by omega), bt_nI _ (show t < 32 by omega), c146 L hT w c hQ s u ht, b113_21, h67, b113_29, nI_add, w_s, sm_s]
    rw [show sm (D 0 5) (fun g => bif has D S t g && hid S g then wor D g (S 17) else 0) = hwt D S t from rfl]
    cases m.testBit t <;> rfl
  · rw [b113_4]
    simp only [cond_true, decide_true, cond_false, Bool.and_true, Bool.true_and, Bool.and_self, Bool.and_false, Bool.false_and, Bool.not_true, Bool.not_false, Bool.or_true, Bool.true_or, Bool.or_false, Bool.false_or, is_some, gd_some, bk_v, bk_u, t_O L hT, t_P9 L hT, t_P10 L hT, t_P11 L hT, t_P12 L hT, t_P13 L hT, t_P14 L hT, t_OC L hT, t_C1 L hT, t_C2 L hT, t_C3 L hT, hQ, x_O L, x_P5 L, x_O77 L, s.1, s.2.1, s.2.2.1, s.2.2.2.1, s.2.2.2.2.1, c_s3 c, t_stop w]
    rfl
def shS (D : Gh) (S : Nat → Nat) (n m : Nat) (q : Int32 × Int32) : Int32 × Int32 := bif decide (pc m = n) then (bif decide (nI (hw D S m) ≤ q.2) then q else (nI m, nI (hw D S m))) else (bif decide ((-1 : Int32) ≤ q.2) then q else (nI m, -1))
theorem two_sh {n : Nat} (hn : n ≤ 4) : (1 : Int32) <<< (nI n &&& 31) = nI (2 ^ n) := by
  have : ∀ n : Fin 5, (1 : Int32) <<< (nI n.val &&& 31) = nI (2 ^ n.val) := by decide
  exact this ⟨n, by omega⟩
theorem w_mn {a b : Nat} (ha : a < 2147483648) (hb : b < 2147483648) : (if nI a < nI b then nI a else nI b) = nI (min a b) := by
  by_cases e : a < b
  · rw [if_pos ((w_lt ha hb).mpr e), Nat.min_eq_left (by omega)]
  · rw [if_neg (by rw [w_lt ha hb]; exact e), Nat.min_eq_right (by omega)]
theorem a112 {h : A_H} {T : Nat} {D : Gh} {S : Nat → Nat} (L : Ly h) (hT : isT T) (w : WF D) (c : CT h T D) (hQ : hP h 0 3 = some T) (s : CS h 77 D S) (u : WD D S) (hst : hI h 0 4 = 1) {y : Nat} (hy : y ≤ 4) : C 112 [.ref 0, .int (nI y)] h = some (some (some (.int (itr (shS D S (min (D 0 3) y)) (2 ^ D 0 3) (0, -1)).1)), wI h 0 8 0) := by
  have L0 : Ly (wI h 0 8 0) := L; have c0 := CT_w0 hT w c 0; have s0 : CS (wI h 0 8 0) 77 D S := CS_w0 s 0; have Q0 : hP (wI h 0 8 0) 0 3 = some T := hQ
  have ht4 := f_nt w
  have h16 : 2 ^ D 0 3 ≤ 16 := Nat.le_trans (Nat.pow_le_pow_right (by decide) ht4) (by decide)
  rw [e112]
  simp only [b112_0, b112_12, b112_18, b112_19, b112_43, b112_48, hP_wI, isO_wI, isA_wI, cond_true, decide_true, cond_false, Bool.and_true, Bool.true_and, Bool.and_self, Bool.and_false, Bool.false_and, Bool.not_true, Bool.not_false, Bool.or_true, Bool.true_or, Bool.or_false, Bool.false_or, is_some, gd_some, bk_v, bk_u, t_O L hT, t_P9 L hT, t_P10 L hT, t_P11 L hT, t_P12 L hT, t_P13 L hT, t_P14 L hT, t_OC L hT, t_C1 L hT, t_C2 L hT, t_C3 L hT, hQ, x_O L, x_P5 L, x_O77 L, s.1, s.2.1, s.2.2.1, s.2.2.2.1, s.2.2.2.2.1, s0.1, s0.2.1, s0.2.2.1, s0.2.2.2.1, s0.2.2.2.2.1, bI_T, bI_F, i1_0, dF (w_nn (show y < 2147483648 by omega)), show (4 : Int32) = nI 4 from rfl, dF (show ¬ nI 4 < nI y by rw [w_lt (by omega) (by omega)]; omega), c136 L, hst, c135, c134 L, c_s3 c0, w_mn (show D 0 3 < 2147483648 by omega) (show y < 2147483648 by omega)]
  refine loop_dn (fun m l => R 112 34 [some (.ref 0), some (.int (nI y)), some (.int 1), some (.int (nI (min (D 0 3) y))), some (.int (itr (shS D S (min (D 0 3) y)) m (0, -1)).1), some (.int (itr (shS D S (min (D 0 3) y)) m (0, -1)).2), some (.int (nI m)), l] [] (wI h 0 8 0)) (2 ^ D 0 3) _ ?_ ?_ _
  · intro m l hm
    have hp := pc_le m
    have hmn : min (D 0 3) y ≤ 4 := Nat.le_trans (Nat.min_le_left _ _) ht4
    show ∃ a', _ = R 112 34 [_, _, _, _, some (.int (shS D S (min (D 0 3) y) m (itr (shS D S (min (D 0 3) y)) m (0, -1))).1), some (.int (shS D S (min (D 0 3) y) m (itr (shS D S (min (D 0 3) y)) m (0, -1))).2), _, a'] [] _
    generalize itr (shS D S (min (D 0 3) y)) m (0, -1) = q
    rw [b112_34]
    simp only [hP_wI, isO_wI, isA_wI, cond_true, decide_true, cond_false, Bool.and_true, Bool.true_and, Bool.and_self, Bool.and_false, Bool.false_and, Bool.not_true, Bool.not_false, Bool.or_true, Bool.true_or, Bool.or_false, Bool.false_or, is_some, gd_some, bk_v, bk_u, t_O L hT, t_P9 L hT, t_P10 L hT, t_P11 L hT, t_P12 L hT, t_P13 L hT, t_P14 L hT, t_OC L hT, t_C1 L hT, t_C2 L hT, t_C3 L hT, hQ, x_O L, x_P5 L, x_O77 L, s.1, s.2.1, s.2.2.1, s.2.2.2.1, s.2.2.2.2.1, s0.1, s0.2.1, s0.2.2.1, s0.2.2.2.1, s0.2.2.2.2.1, bI_T, bI_F, i1_0, c_s3 c0, two_sh ht4, dF (show ¬ nI (2 ^ D 0 3) ≤ nI m by rw [w_le (by omega) (by omega)]; omega), c278 _ (show m < 256 by omega), b112_43, c113 L0 hT w c0 Q0 s0 u, b112_48, w_s]
    rw [show cnt 8 (fun j => m.testBit j) = pc m from rfl]
    simp only [w_eq (show pc m < 2147483648 by omega) (show min (D 0 3) y < 2147483648 by omega)]
    unfold shS
    cases decide (pc m = min (D 0 3) y)
    · cases decide ((-1 : Int32) ≤ q.2)
      · exact ⟨_, rfl⟩
      · exact ⟨_, rfl⟩
    · cases decide (nI (hw D S m) ≤ q.2)
      · exact ⟨_, rfl⟩
      · exact ⟨_, rfl⟩
  · intro l
    rw [b112_34]
    simp only [hP_wI, isO_wI, isA_wI, cond_true, decide_true, cond_false, Bool.and_true, Bool.true_and, Bool.and_self, Bool.and_false, Bool.false_and, Bool.not_true, Bool.not_false, Bool.or_true, Bool.true_or, Bool.or_false, Bool.false_or, is_some, gd_some, bk_v, bk_u, t_O L hT, t_P9 L hT, t_P10 L hT, t_P11 L hT, t_P12 L hT, t_P13 L hT, t_P14 L hT, t_OC L hT, t_C1 L hT, t_C2 L hT, t_C3 L hT, hQ, x_O L, x_P5 L, x_O77 L, s.1, s.2.1, s.2.2.1, s.2.2.2.1, s.2.2.2.2.1, s0.1, s0.2.1, s0.2.2.1, s0.2.2.2.1, s0.2.2.2.2.1, bI_T, bI_F, i1_0, c_s3 c0, two_sh ht4, dT (Int32.le_refl (nI (2 ^ D 0 3)))]
theorem a112b {h : A_H} {T : Nat} {D : Gh} {S : Nat → Nat} (L : Ly h) (hT : isT T) (w : WF D) (c : CT h T D) (hQ : hP h 0 3 = some T) (s : CS h 77 D S) (u : WD D S) {x : Int32} (hb : hI h 0 4 = 0 ∨ hI h 0 4 = 1) (e : decide (eit (bif decide (hI h 0 4 = 0) then 1 else 0) (bif vd 5 x then 0 else 2) = 0) = false) : C 112 [.ref 0, .int x] h = some (some (some (.int (-1))), wI h 0 8 (eit (bif decide (hI h 0 4 = 0) then 1 else 0) (bif vd 5 x then 0 else 2))) := by
  rw [e112]
  cases h5 : vd 5 x with
  | true =>
    obtain ⟨h1, h2⟩ := vd_7 (k := 4) (by decide) h5
    rw [show nI 4 = 4 from rfl] at h2
    rw [h5] at e
    rcases hb with hb | hb <;> rw [hb] at e ⊢
    · simp only [b112_0, b112_12, b112_18, b112_19, cond_true, decide_true, cond_false, Bool.and_true, Bool.true_and, Bool.and_self, Bool.and_false, Bool.false_and, Bool.not_true, Bool.not_false, Bool.or_true, Bool.true_or, Bool.or_false, Bool.false_or, is_some, gd_some, bk_v, bk_u, t_O L hT, t_P9 L hT, t_P10 L hT, t_P11 L hT, t_P12 L hT, t_P13 L hT, t_P14 L hT, t_OC L hT, t_C1 L hT, t_C2 L hT, t_C3 L hT, hQ, x_O L, x_P5 L, x_O77 L, s.1, s.2.1, s.2.2.1, s.2.2.2.1, s.2.2.2.2.1, h1, h2, c136 L, hb, c135, c134 L, bI_T, i1_0]; rfl
    · exact absurd e (by decide)
  | false =>
    rcases hb with hb | hb <;> rw [hb]
    · rcases vd_6 (k := 4) (by decide) h5 with h1 | ⟨h1, h2⟩
      · simp only [b112_0, b112_12, b112_18, b112_19, cond_true, decide_true, cond_false, Bool.and_true, Bool.true_and, Bool.and_self, Bool.and_false, Bool.false_and, Bool.not_true, Bool.not_false, Bool.or_true, Bool.true_or, Bool.or_false, Bool.false_or, is_some, gd_some, bk_v, bk_u, t_O L hT, t_P9 L hT, t_P10 L hT, t_P11 L hT, t_P12 L hT, t_P13 L hT, t_P14 L hT, t_OC L hT, t_C1 L hT, t_C2 L hT, t_C3 L hT, hQ, x_O L, x_P5 L, x_O77 L, s.1, s.2.1, s.2.2.1, s.2.2.2.1, s.2.2.2.2.1, h1, c136 L, hb, c135, c134 L, bI_T, i1_0]; rfl
      · rw [show nI 4 = 4 from rfl] at h2
        simp only [b112_0, b112_12, b112_18, b112_19, cond_true, decide_true, cond_false, Bool.and_true, Bool.true_and, Bool.and_self, Bool.and_false, Bool.false_and, Bool.not_true, Bool.not_false, Bool.or_true, Bool.true_or, Bool.or_false, Bool.false_or, is_some, gd_some, bk_v, bk_u, t_O L hT, t_P9 L hT, t_P10 L hT, t_P11 L hT, t_P12 L hT, t_P13 L hT, t_P14 L hT, t_OC L hT, t_C1 L hT, t_C2 L hT, t_C3 L hT, hQ, x_O L, x_P5 L, x_O77 L, s.1, s.2.1, s.2.2.1, s.2.2.2.1, s.2.2.2.2.1, h1, h2, c136 L, hb, c135, c134 L, bI_T, i1_0]; rfl
    · rcases vd_6 (k := 4) (by decide) h5 with h1 | ⟨h1, h2⟩
      · simp only [b112_0, b112_12, b112_18, b112_19, cond_true, decide_true, cond_false, Bool.and_true, Bool.true_and, Bool.and_self, Bool.and_false, Bool.false_and, Bool.not_true, Bool.not_false, Bool.or_true, Bool.true_or, Bool.or_false, Bool.false_or, is_some, gd_some, bk_v, bk_u, t_O L hT, t_P9 L hT, t_P10 L hT, t_P11 L hT, t_P12 L hT, t_P13 L hT, t_P14 L hT, t_OC L hT, t_C1 L hT, t_C2 L hT, t_C3 L hT, hQ, x_O L, x_P5 L, x_O77 L, s.1, s.2.1, s.2.2.1, s.2.2.2.1, s.2.2.2.2.1, h1, c136 L, hb, c135, c134 L, bI_T, i1_0]; rfl
      · rw [show nI 4 = 4 from rfl] at h2
        simp only [b112_0, b112_12, b112_18, b112_19, cond_true, decide_true, cond_false, Bool.and_true, Bool.true_and, Bool.and_self, Bool.and_false, Bool.false_and, Bool.not_true, Bool.not_false, Bool.or_true, Bool.true_or, Bool.or_false, Bool.false_or, is_some, gd_some, bk_v, bk_u, t_O L hT, t_P9 L hT, t_P10 L hT, t_P11 L hT, t_P12 L hT, t_P13 L hT, t_P14 L hT, t_OC L hT, t_C1 L hT, t_C2 L hT, t_C3 L hT, hQ, x_O L, x_P5 L, x_O77 L, s.1, s.2.1, s.2.2.1, s.2.2.2.1, s.2.2.2.2.1, h1, h2, c136 L, hb, c135, c134 L, bI_T, i1_0]; rfl
def wp (h : A_H) (V : Nat) (S : Nat → Nat) (n : Nat) : A_H := (hn h, hs h, hsh h, (fun a b => if a = V ∧ b < n then nI (S b) else hI h a b), hL h, hP h, hX h)
theorem hI_wp (h : A_H) (V : Nat) (S : Nat → Nat) (n a b : Nat) : hI (wp h V S n) a b = if a = V ∧ b < n then nI (S b) else hI h a b := rfl
theorem hP_wp (h : A_H) (V : Nat) (S : Nat → Nat) (n : Nat) : hP (wp h V S n) = hP h := rfl
theorem hL_wp (h : A_H) (V : Nat) (S : Nat → Nat) (n : Nat) : hL (wp h V S n) = hL h := rfl
theorem isO_wp (h : A_H) (V : Nat) (S : Nat → Nat) (n : Nat) : isO (wp h V S n) = isO h := rfl
theorem isA_wp (h : A_H) (V : Nat) (S : Nat → Nat) (n : Nat) : isA (wp h V S n) = isA h := rfl
theorem wp_0 (h : A_H) (V : Nat) (S : Nat → Nat) : wp h V S 0 = h := by
  obtain ⟨a1, a2, a3, a4, a5, a6, a7⟩ := h
  have : (fun a b => if a = V ∧ b < 0 then nI (S b) else a4 a b) = a4 := by
    funext a b
    exact if_neg (by omega)
  show (a1, a2, a3, (fun a b => if a = V ∧ b < 0 then nI (S b) else a4 a b), a5, a6, a7) = _
  rw [this]
theorem wp_s (h : A_H) (V : Nat) (S : Nat → Nat) (n : Nat) : wI (wp h V S n) V n (nI (S n)) = wp h V S (n + 1) := by
  have : u2 (fun a b => if a = V ∧ b < n then nI (S b) else hI h a b) V n (nI (S n)) = (fun a b => if a = V ∧ b < n + 1 then nI (S b) else hI h a b) := by
    funext a b
    unfold u2
    by_cases e : a = V ∧ b = n
    · rw [if_pos e, if_pos (by omega), e.2]
    · rw [if_neg e]
      dsimp only
      by_cases e2 : a = V ∧ b < n
      · rw [if_pos e2, if_pos (by omega)]
      · rw [if_neg e2, if_neg (by omega)]
  show (hn h, hs h, hsh h, u2 (fun a b => if a = V ∧ b < n then nI (S b) else hI h a b) V n (nI (S n)), hL h, hP h, hX h) = _
  rw [this]; rfl
def up (S : Nat → Nat) (j x : Nat) : Nat → Nat := fun k => if k = j then x else S k
theorem wp_up (h : A_H) (V : Nat) (S : Nat → Nat) {n j : Nat} (hj : j < n) (x : Nat) : wI (wp h V S n) V j (nI x) = wp h V (up S j x) n := by
  have : u2 (fun a b => if a = V ∧ b < n then nI (S b) else hI h a b) V j (nI x) = (fun a b => if a = V ∧ b < n then nI (up S j x b) else hI h a b) := by
    funext a b
    unfold u2 up
    by_cases e : a = V ∧ b = j
    · rw [if_pos e, if_pos (by omega), if_pos e.2]
    · rw [if_neg e]
      dsimp only
      by_cases e2 : a = V ∧ b < n
      · rw [if_pos e2, if_pos e2, if_neg (fun e3 => e ⟨e2.1, e3⟩)]
      · rw [if_neg e2, if_neg e2]
  show (hn h, hs h, hsh h, u2 (fun a b => if a = V ∧ b < n then nI (S b) else hI h a b) V j (nI x), hL h, hP h, hX h) = _
  rw [this]; rfl
theorem wp_wp (h : A_H) (V : Nat) (S S' : Nat → Nat) (n : Nat) : wp (wp h V S n) V S' n = wp h V S' n := by
  have : (fun a b => if a = V ∧ b < n then nI (S' b) else (if a = V ∧ b < n then nI (S b) else hI h a b)) = (fun a b => if a = V ∧ b < n then nI (S' b) else hI h a b) := by
    funext a b
    by_cases e : a = V ∧ b < n
    · rw [if_pos e, if_pos e]
    · rw [if_neg e, if_neg e, if_neg e]
  show (hn h, hs h, hsh h, (fun a b => if a = V ∧ b < n then nI (S' b) else (if a = V ∧ b < n then nI (S b) else hI h a b)), hL h, hP h, hX h) = _
  rw [this]; rfl
theorem RW_wp (h : A_H) (V : Nat) (S : Nat → Nat) : RW (wp h V S 18) V S := fun j hj => by rw [hI_wp, if_pos ⟨rfl, hj⟩]
theorem RW_wp' {h : A_H} {V V' : Nat} {S S' : Nat → Nat} {n : Nat} (hV : ¬ V = V') (r : RW h V S) : RW (wp h V' S' n) V S := fun j hj => by rw [hI_wp, if_neg (by omega)]; exact r j hj
theorem RW_wI {h : A_H} {V k j : Nat} {S : Nat → Nat} {v : Int32} (hV : ¬ V = k) (r : RW h V S) : RW (wI h k j v) V S := fun i hi => by rw [hI_wI, if_neg (by omega)]; exact r i hi
theorem MB_wp {h : A_H} {B V : Nat} {D : Gh} {S : Nat → Nat} {n : Nat} (l : ML h B) (hV : V < 134) (b : MB h B D) : MB (wp h V S n) B D := MB_fr b (fun k j hk => by have := m_134 l; rw [hI_wp, if_neg (by omega)])
theorem MB_wI {h : A_H} {B k j : Nat} {D : Gh} {v : Int32} (l : ML h B) (hk : k < 134) (b : MB h B D) : MB (wI h k j v) B D := MB_fr b (fun k' j' hk' => by have := m_134 l; rw [hI_wI, if_neg (by omega)])
theorem y_P15 {h : A_H} (L : Ly h) : hP h 124 15 = some 126 := ly_P L rfl
theorem y_P16 {h : A_H} (L : Ly h) : hP h 124 16 = some 127 := ly_P L rfl
theorem d155 {h : A_H} (L : Ly h) (x : Int32) : C 155 [.ref 124, .int x] h = some (some (some (.int (-1))), wI (wI h 124 1 x) 124 2 (-1)) := by
  rw [e155]
  simp only [b155_0, b155_3, b155_6, y_124 L, isO_wI, cond_true]
theorem d156 {h : A_H} (L : Ly h) (x : Int32) : C 156 [.ref 124, .int x] h = some (some (some (.int (-10000))), wI (wI h 124 1 x) 124 2 (-1)) := by
  rw [e156]
  simp only [b156_0, b156_3, y_124 L, cond_true, d155 L, bk_v]
theorem d157 {h : A_H} (L : Ly h) (x : Int32) : C 157 [.ref 124, .int x] h = some (some (some (.int 0)), wI (wI h 124 1 x) 124 2 (-1)) := by
  rw [e157]
  simp only [b157_0, b157_3, y_124 L, cond_true, d155 L, bk_v]
  rfl
theorem d158 {h : A_H} (L : Ly h) (x : Int32) : C 158 [.ref 124, .int x] h = some (some (some (.int x)), wI (wI h 124 1 0) 124 2 (-1)) := by
  rw [e158]
  simp only [b158_0, b158_3, b158_6, y_124 L, isO_wI, cond_true]
theorem d159 {h : A_H} (L : Ly h) : C 159 [.ref 124] h = some (some (some (.int 1)), wI (wI h 124 1 0) 124 2 (-1)) := by
  rw [e159]
  simp only [b159_0, b159_3, y_124 L, cond_true, d158 L, bk_v]
  rfl
theorem d160 (x : Int32) {k : Nat} (hk : k < 100000) (h : A_H) : C 160 [.int x, .int 0, .int (nI k)] h = some (some (some (.int (bI (vd (k + 1) x)))), h) := by
  rw [e160, b160_0, k_lt hk]
  unfold vd
  cases decide (x < 0) <;> cases decide (nI (k + 1) ≤ x) <;> rfl
theorem d199 {h : A_H} {B : Nat} {D : Gh} (L : Ly h) (hB : hP h 124 3 = some B) (l : ML h B) (b : MB h B D) (x : Int32) : C 199 [.ref 124, .int x] h = some (some (some (.int (bI (vd (D 0 5) x)))), h) := by
  rw [e199, b199_0]
  simp only [cond_true, cond_false, decide_true, Bool.and_true, Bool.true_and, Bool.and_self, Bool.and_false, Bool.false_and, Bool.not_true, Bool.not_false, Bool.or_true, Bool.true_or, Bool.or_false, Bool.false_or, is_some, gd_some, bk_v, bk_u, hB, y_124 L, mB_O l, m_p11 l, m_p12 l, m_p13 l, m_p14 l, m_p15 l, m_p16 l, m_p17 l, m_p18 l, m_p19 l, m_p20 l, m_p21 l, m_p22 l, m_p23 l, m_p24 l, m_p25 l, m_p26 l, m_p27 l, m_p28 l, m_p29 l, m_p30 l, m_p31 l, m_p32 l, m_p33 l, m_p34 l, b_s5 b, va_rf, a_isR, a_nul]
  unfold vd
  cases decide (x < 0) <;> cases decide (nI (D 0 5) ≤ x) <;> rfl
theorem d200 {h : A_H} {B : Nat} {D : Gh} (L : Ly h) (hB : hP h 124 3 = some B) (l : ML h B) (b : MB h B D) (x : Int32) : C 200 [.ref 124, .int x] h = some (some (some (.int (bI (vd (D 0 3) x)))), h) := by
  rw [e200, b200_0]
  simp only [cond_true, cond_false, decide_true, Bool.and_true, Bool.true_and, Bool.and_self, Bool.and_false, Bool.false_and, Bool.not_true, Bool.not_false, Bool.or_true, Bool.true_or, Bool.or_false, Bool.false_or, is_some, gd_some, bk_v, bk_u, hB, y_124 L, mB_O l, m_p11 l, m_p12 l, m_p13 l, m_p14 l, m_p15 l, m_p16 l, m_p17 l, m_p18 l, m_p19 l, m_p20 l, m_p21 l, m_p22 l, m_p23 l, m_p24 l, m_p25 l, m_p26 l, m_p27 l, m_p28 l, m_p29 l, m_p30 l, m_p31 l, m_p32 l, m_p33 l, m_p34 l, b_s3 b, va_rf, a_isR, a_nul]
  unfold vd
  cases decide (x < 0) <;> cases decide (nI (D 0 3) ≤ x) <;> rfl
theorem d201 {h : A_H} {B : Nat} {D : Gh} (L : Ly h) (hB : hP h 124 3 = some B) (l : ML h B) (b : MB h B D) (x : Int32) : C 201 [.ref 124, .int x] h = some (some (some (.int (bI (vd (D 0 2) x)))), h) := by
  rw [e201, b201_0]
  simp only [cond_true, cond_false, decide_true, Bool.and_true, Bool.true_and, Bool.and_self, Bool.and_false, Bool.false_and, Bool.not_true, Bool.not_false, Bool.or_true, Bool.true_or, Bool.or_false, Bool.false_or, is_some, gd_some, bk_v, bk_u, hB, y_124 L, mB_O l, m_p11 l, m_p12 l, m_p13 l, m_p14 l, m_p15 l, m_p16 l, m_p17 l, m_p18 l, m_p19 l, m_p20 l, m_p21 l, m_p22 l, m_p23 l, m_p24 l, m_p25 l, m_p26 l, m_p27 l, m_p28 l, m_p29 l, m_p30 l, m_p31 l, m_p32 l, m_p33 l, m_p34 l, b_s2 b, va_rf, a_isR, a_nul]
  unfold vd
  cases decide (x < 0) <;> cases decide (nI (D 0 2) ≤ x) <;> rfl
theorem d202 {h : A_H} {B : Nat} {D : Gh} (L : Ly h) (hB : hP h 124 3 = some B) (l : ML h B) (b : MB h B D) (x : Int32) : C 202 [.ref 124, .int x] h = some (some (some (.int (bI (vd (D 0 4) x)))), h) := by
  rw [e202, b202_0]
  simp only [cond_true, cond_false, decide_true, Bool.and_true, Bool.true_and, Bool.and_self, Bool.and_false, Bool.false_and, Bool.not_true, Bool.not_false, Bool.or_true, Bool.true_or, Bool.or_false, Bool.false_or, is_some, gd_some, bk_v, bk_u, hB, y_124 L, mB_O l, m_p11 l, m_p12 l, m_p13 l, m_p14 l, m_p15 l, m_p16 l, m_p17 l, m_p18 l, m_p19 l, m_p20 l, m_p21 l, m_p22 l, m_p23 l, m_p24 l, m_p25 l, m_p26 l, m_p27 l, m_p28 l, m_p29 l, m_p30 l, m_p31 l, m_p32 l, m_p33 l, m_p34 l, b_s4 b, va_rf, a_isR, a_nul]
  unfold vd
  cases decide (x < 0) <;> cases decide (nI (D 0 4) ≤ x) <;> rfl
theorem d198 {h : A_H} {S : Nat → Nat} (L : Ly h) (r : RW h 126 S) : C 198 [.ref 124] h = some (some none, wp h 127 S 18) := by
  rw [e198]
  simp only [b198_0]
  have h0 : R 198 2 [some (.ref 124), some (.int 0)] [] h = R 198 2 [some (.ref 124), some (.int (nI 0))] [] (wp h 127 S 0) := by rw [wp_0]; rfl
  rw [h0]
  refine (loop_ix (fun k => R 198 2 [some (.ref 124), some (.int (nI k))] [] (wp h 127 S k)) 18 ?_).trans ?_
  · intro k hk
    rw [b198_2, show (18 : Int32) = nI 18 from rfl, dF (show ¬ nI 18 ≤ nI k by rw [w_le (by omega) (by omega)]; omega)]
    simp only [cond_true, cond_false, decide_true, Bool.and_true, Bool.true_and, Bool.and_self, Bool.and_false, Bool.false_and, Bool.not_true, Bool.not_false, Bool.or_true, Bool.true_or, Bool.or_false, Bool.false_or, is_some, gd_some, bk_v, bk_u, hP_wp, isO_wp, isA_wp, y_124 L, y_P15 L, y_P16 L, v_A L (Or.inl rfl) hk, v_A L (Or.inr rfl) hk, w_cl (show k < 2147483648 by omega), RW_wp' (V' := 127) (S' := S) (n := k) (by decide) r k hk, b198_13, wp_s, w_s]
  · rw [b198_2, show (18 : Int32) = nI 18 from rfl, dT (Int32.le_refl _)]
    rfl
def Sd (S : Nat → Nat) (d : Nat) : Nat → Nat := up S 17 (S 17 + d)
theorem d219 {h : A_H} {S : Nat → Nat} (L : Ly h) (r : RW h 126 S) {d : Nat} (hd : d ≤ 60) : C 219 [.ref 124, .int 1, .int (nI d)] h = some (some (some (.int 0)), wp h 127 (Sd S d) 18) := by
  have h160 := d160 (nI d) (k := 60) (by decide) h
  rw [show nI 60 = 60 from rfl, vd_of (by decide) (by omega)] at h160
  have h17 : hI (wp h 127 S 18) 127 17 = nI (S 17) := RW_wp h 127 S 17 (by decide)
  rw [e219]
  simp only [b219_0, b219_8, b219_13, b219_21, cond_true, cond_false, decide_true, Bool.and_true, Bool.true_and, Bool.and_self, Bool.and_false, Bool.false_and, Bool.not_true, Bool.not_false, Bool.or_true, Bool.true_or, Bool.or_false, Bool.false_or, is_some, gd_some, bk_v, bk_u, i1_0, h160, bI_T, y_124 L, d198 L r, hP_wp, isO_wp, isA_wp, y_P16 L, v_17 L (Or.inr rfl), i_17, h17, nI_add, wp_up h 127 S (show 17 < 18 by decide)]
  rfl
theorem d219b {h : A_H} (L : Ly h) {b : Bool} {x : Int32} (e : (b && vd 61 x) = false) : C 219 [.ref 124, .int (bI b), .int x] h = some (some (some (.int (bif b then 2 else 1))), h) := by
  have h160 := d160 x (k := 60) (by decide) h
  rw [show nI 60 = 60 from rfl] at h160
  rw [e219]
  cases b with
  | false => simp only [b219_0, b219_8, b219_13, b219_21, cond_true, cond_false, decide_true, Bool.and_true, Bool.true_and, Bool.and_self, Bool.and_false, Bool.false_and, Bool.not_true, Bool.not_false, Bool.or_true, Bool.true_or, Bool.or_false, Bool.false_or, is_some, gd_some, bk_v, bk_u, bI_F]
  | true =>
    rw [Bool.true_and] at e
    rw [e] at h160
    simp only [b219_0, b219_8, b219_13, b219_21, cond_true, cond_false, decide_true, Bool.and_true, Bool.true_and, Bool.and_self, Bool.and_false, Bool.false_and, Bool.not_true, Bool.not_false, Bool.or_true, Bool.true_or, Bool.or_false, Bool.false_or, is_some, gd_some, bk_v, bk_u, bI_T, i1_0, h160, bI_F]
theorem Sd_g {S : Nat → Nat} {d g : Nat} (h : ¬ g = 17) : Sd S d g = S g := if_neg h
theorem Sd_17 (S : Nat → Nat) (d : Nat) : Sd S d 17 = S 17 + d := rfl
theorem WS_Sd {D : Gh} {S : Nat → Nat} (w : WF D) (u : WD D S) {d : Nat} (hd : d ≤ 60) : WS (Sd S d) := by
  have h1 := u.1
  have h3 := u.2.2.1
  have h8 := f_nG w
  have h4 : 2 ^ D 0 5 ≤ 256 := Nat.le_trans (Nat.pow_le_pow_right (by decide) h8) (by decide)
  refine ⟨by rw [Sd_17]; omega, fun g hg => by rw [Sd_g (by omega)]; exact u.2.1 g hg, by rw [Sd_g (by decide)]; omega⟩
theorem hs_Sd {D : Gh} {S : Nat → Nat} {d : Nat} (w : WF D) (t : Nat) : ∀ g, g < D 0 5 → has D (Sd S d) t g = has D S t g := by
  intro g hg
  have := f_nG w
  unfold has
  rw [Sd_g (by omega)]
theorem h0_Sd {D : Gh} {S : Nat → Nat} {d : Nat} (w : WF D) : ∀ g, g < D 0 5 → has0 (Sd S d) g = has0 S g := by
  intro g hg
  have := f_nG w
  unfold has0
  rw [Sd_g (by omega)]
theorem c00 : decide ((0 : Int32) ≤ 0) = true := by decide
theorem m220 {h : A_H} {B : Nat} {D : Gh} {S : Nat → Nat} (L : Ly h) (hB : hP h 124 3 = some B) (l : ML h B) (w : WF D) (b : MB h B D) (u : WD D S) (r : RW h 126 S) {g d : Nat} (hg : g < D 0 5) (hd : d ≤ 60) : C 220 [.ref 124, .int (nI g), .int (nI d)] h = some (some (some (.int (nI (D 15 g + (S 17 + d))))), wI (wI (wp (wI h 124 0 0) 127 (Sd S d) 18) 124 1 0) 124 2 (-1)) := by
  have L1 : Ly (wI h 124 0 0) := L; have hB1 : hP (wI h 124 0 0) 124 3 = some B := hB; have l1 : ML (wI h 124 0 0) B := l; have b1 : MB (wI h 124 0 0) B D := MB_wI l (by decide) b; have r1 : RW (wI h 124 0 0) 126 S := RW_wI (by decide) r
  have L2 : Ly (wp (wI h 124 0 0) 127 (Sd S d) 18) := L; have hB2 : hP (wp (wI h 124 0 0) 127 (Sd S d) 18) 124 3 = some B := hB; have l2 : ML (wp (wI h 124 0 0) 127 (Sd S d) 18) B := l; have b2 : MB (wp (wI h 124 0 0) 127 (Sd S d) 18) B D := MB_wp l1 (by decide) b1; have r2 := RW_wp (wI h 124 0 0) 127 (Sd S d); have v2 : isV 127 := Or.inr rfl; have ws2 : WS (Sd S d) := WS_Sd w u hd
  have := f_nG w
  rw [e220]
  simp only [b220_0, b220_3, b220_7, b220_9, b220_15, b220_22, b220_23, cond_true, cond_false, decide_true, Bool.and_true, Bool.true_and, Bool.and_self, Bool.and_false, Bool.false_and, Bool.not_true, Bool.not_false, Bool.or_true, Bool.true_or, Bool.or_false, Bool.false_or, is_some, gd_some, bk_v, bk_u, hP_wI, isO_wI, isA_wI, hP_wp, isO_wp, isA_wp, y_124 L, y_P15 L, y_P16 L, hB, d199 L1 hB1 l1 b1, vd_of (show D 0 5 < 2147483648 by omega) hg, bI_T, d219 L1 r1 hd, c00, d203 L2 hB2 l2 v2 w b2 ws2 r2 hg, d158 L2, Sd_17]
theorem m221 {h : A_H} {B : Nat} {D : Gh} {S : Nat → Nat} (L : Ly h) (hB : hP h 124 3 = some B) (l : ML h B) (w : WF D) (b : MB h B D) (u : WD D S) (r : RW h 126 S) {g d : Nat} (hg : g < D 0 5) (hd : d ≤ 60) : C 221 [.ref 124, .int (nI g), .int (nI d)] h = some (some (some (.int (nI (wor D g (S 17 + d))))), wI (wI (wp (wI h 124 0 0) 127 (Sd S d) 18) 124 1 0) 124 2 (-1)) := by
  have L1 : Ly (wI h 124 0 0) := L; have hB1 : hP (wI h 124 0 0) 124 3 = some B := hB; have l1 : ML (wI h 124 0 0) B := l; have b1 : MB (wI h 124 0 0) B D := MB_wI l (by decide) b; have r1 : RW (wI h 124 0 0) 126 S := RW_wI (by decide) r
  have L2 : Ly (wp (wI h 124 0 0) 127 (Sd S d) 18) := L; have hB2 : hP (wp (wI h 124 0 0) 127 (Sd S d) 18) 124 3 = some B := hB; have l2 : ML (wp (wI h 124 0 0) 127 (Sd S d) 18) B := l; have b2 : MB (wp (wI h 124 0 0) 127 (Sd S d) 18) B D := MB_wp l1 (by decide) b1; have r2 := RW_wp (wI h 124 0 0) 127 (Sd S d); have v2 : isV 127 := Or.inr rfl; have ws2 : WS (Sd S d) := WS_Sd w u hd
  have := f_nG w
  rw [e221]
  simp only [b221_0, b221_3, b221_7, b221_9, b221_15, b221_22, b221_23, cond_true, cond_false, decide_true, Bool.and_true, Bool.true_and, Bool.and_self, Bool.and_false, Bool.false_and, Bool.not_true, Bool.not_false, Bool.or_true, Bool.true_or, Bool.or_false, Bool.false_or, is_some, gd_some, bk_v, bk_u, hP_wI, isO_wI, isA_wI, hP_wp, isO_wp, isA_wp, y_124 L, y_P15 L, y_P16 L, hB, d199 L1 hB1 l1 b1, vd_of (show D 0 5 < 2147483648 by omega) hg, bI_T, d219 L1 r1 hd, c00, d206 L2 hB2 l2 v2 w b2 ws2 r2 hg, d158 L2, Sd_17]
theorem m222 {h : A_H} {B : Nat} {D : Gh} {S : Nat → Nat} (L : Ly h) (hB : hP h 124 3 = some B) (l : ML h B) (w : WF D) (b : MB h B D) (u : WD D S) (r : RW h 126 S) {g d : Nat} (hg : g < D 0 5) (hd : d ≤ 60) : C 222 [.ref 124, .int (nI g), .int (nI d)] h = some (some (some (.int (nI (dut D 0 g (S 17 + d))))), wI (wI (wp (wI h 124 0 0) 127 (Sd S d) 18) 124 1 0) 124 2 (-1)) := by
  have L1 : Ly (wI h 124 0 0) := L; have hB1 : hP (wI h 124 0 0) 124 3 = some B := hB; have l1 : ML (wI h 124 0 0) B := l; have b1 : MB (wI h 124 0 0) B D := MB_wI l (by decide) b; have r1 : RW (wI h 124 0 0) 126 S := RW_wI (by decide) r
  have L2 : Ly (wp (wI h 124 0 0) 127 (Sd S d) 18) := L; have hB2 : hP (wp (wI h 124 0 0) 127 (Sd S d) 18) 124 3 = some B := hB; have l2 : ML (wp (wI h 124 0 0) 127 (Sd S d) 18) B := l; have b2 : MB (wp (wI h 124 0 0) 127 (Sd S d) 18) B D := MB_wp l1 (by decide) b1; have r2 := RW_wp (wI h 124 0 0) 127 (Sd S d); have v2 : isV 127 := Or.inr rfl; have ws2 : WS (Sd S d) := WS_Sd w u hd
  have := f_nG w
  have h207 := d207 L2 hB2 l2 v2 w b2 ws2 r2 hg false
  rw [bI_F, cond_false] at h207
  rw [e222]
  simp only [b222_0, b222_3, b222_7, b222_9, b222_15, b222_23, b222_24, cond_true, cond_false, decide_true, Bool.and_true, Bool.true_and, Bool.and_self, Bool.and_false, Bool.false_and, Bool.not_true, Bool.not_false, Bool.or_true, Bool.true_or, Bool.or_false, Bool.false_or, is_some, gd_some, bk_v, bk_u, hP_wI, isO_wI, isA_wI, hP_wp, isO_wp, isA_wp, y_124 L, y_P15 L, y_P16 L, hB, d199 L1 hB1 l1 b1, vd_of (show D 0 5 < 2147483648 by omega) hg, bI_T, d219 L1 r1 hd, c00, h207, d158 L2, Sd_17]
theorem m223 {h : A_H} {B : Nat} {D : Gh} {S : Nat → Nat} (L : Ly h) (hB : hP h 124 3 = some B) (l : ML h B) (w : WF D) (b : MB h B D) (u : WD D S) (r : RW h 126 S) {g d : Nat} (hg : g < D 0 5) (hd : d ≤ 60) : C 223 [.ref 124, .int (nI g), .int (nI d)] h = some (some (some (.int (nI (sme D (S 17 + d) g (has0 S) 0)))), wI (wI (wp (wI h 124 0 0) 127 (Sd S d) 18) 124 1 0) 124 2 (-1)) := by
  have L1 : Ly (wI h 124 0 0) := L; have hB1 : hP (wI h 124 0 0) 124 3 = some B := hB; have l1 : ML (wI h 124 0 0) B := l; have b1 : MB (wI h 124 0 0) B D := MB_wI l (by decide) b; have r1 : RW (wI h 124 0 0) 126 S := RW_wI (by decide) r
  have L2 : Ly (wp (wI h 124 0 0) 127 (Sd S d) 18) := L; have hB2 : hP (wp (wI h 124 0 0) 127 (Sd S d) 18) 124 3 = some B := hB; have l2 : ML (wp (wI h 124 0 0) 127 (Sd S d) 18) B := l; have b2 : MB (wp (wI h 124 0 0) 127 (Sd S d) 18) B D := MB_wp l1 (by decide) b1; have r2 := RW_wp (wI h 124 0 0) 127 (Sd S d); have v2 : isV 127 := Or.inr rfl; have ws2 : WS (Sd S d) := WS_Sd w u hd
  have := f_nG w
  have h209 := d209 L2 hB2 l2 v2 w b2 ws2 r2 hg (m := 0) (by decide)
  rw [show nI 0 = 0 from rfl, sme_congr (h0_Sd w)] at h209
  rw [e223]
  simp only [b223_0, b223_3, b223_7, b223_9, b223_15, b223_23, b223_24, cond_true, cond_false, decide_true, Bool.and_true, Bool.true_and, Bool.and_self, Bool.and_false, Bool.false_and, Bool.not_true, Bool.not_false, Bool.or_true, Bool.true_or, Bool.or_false, Bool.false_or, is_some, gd_some, bk_v, bk_u, hP_wI, isO_wI, isA_wI, hP_wp, isO_wp, isA_wp, y_124 L, y_P15 L, y_P16 L, hB, d199 L1 hB1 l1 b1, vd_of (show D 0 5 < 2147483648 by omega) hg, bI_T, d219 L1 r1 hd, c00, h209, d158 L2, Sd_17]
def Mq (h : A_H) (D : Gh) : Prop := (hP h 124 3 = none ∧ D = fun _ _ => 0) ∨ ∃ B, hP h 124 3 = some B ∧ ML h B ∧ MB h B D
theorem vd_z (x : Int32) : vd 0 x = false := by
  cases h : vd 0 x with
  | false => rfl
  | true => obtain ⟨g, hg, _⟩ := vd_T (by decide) h; omega
theorem q199 {h : A_H} {D : Gh} (L : Ly h) (q : Mq h D) (x : Int32) : C 199 [.ref 124, .int x] h = some (some (some (.int (bI (vd (D 0 5) x)))), h) := by
  rcases q with ⟨e, rfl⟩ | ⟨B, hB, l, b⟩
  · rw [e199, b199_0, y_124 L, e, vd_z]; rfl
  · exact d199 L hB l b x
theorem q200 {h : A_H} {D : Gh} (L : Ly h) (q : Mq h D) (x : Int32) : C 200 [.ref 124, .int x] h = some (some (some (.int (bI (vd (D 0 3) x)))), h) := by
  rcases q with ⟨e, rfl⟩ | ⟨B, hB, l, b⟩
  · rw [e200, b200_0, y_124 L, e, vd_z]; rfl
  · exact d200 L hB l b x
theorem q201 {h : A_H} {D : Gh} (L : Ly h) (q : Mq h D) (x : Int32) : C 201 [.ref 124, .int x] h = some (some (some (.int (bI (vd (D 0 2) x)))), h) := by
  rcases q with ⟨e, rfl⟩ | ⟨B, hB, l, b⟩
  · rw [e201, b201_0, y_124 L, e, vd_z]; rfl
  · exact d201 L hB l b x
theorem q202 {h : A_H} {D : Gh} (L : Ly h) (q : Mq h D) (x : Int32) : C 202 [.ref 124, .int x] h = some (some (some (.int (bI (vd (D 0 4) x)))), h) := by
  rcases q with ⟨e, rfl⟩ | ⟨B, hB, l, b⟩
  · rw [e202, b202_0, y_124 L, e, vd_z]; rfl
  · exact d202 L hB l b x
theorem Mq_wI {h : A_H} {D : Gh} {k j : Nat} {v : Int32} (hk : k < 134) (q : Mq h D) : Mq (wI h k j v) D := by
  rcases q with ⟨e, rfl⟩ | ⟨B, hB, l, b⟩
  · exact Or.inl ⟨e, rfl⟩
  · exact Or.inr ⟨B, hB, l, MB_wI l hk b⟩
theorem gd_bad {n : Nat} {x y : Int32} (e : decide (eit (gv n x) (dv y) = 0) = false) : (vd n x && vd 61 y) = false ∧ eit (gv n x) (dv y) = (bif vd n x then 2 else 1) := by
  unfold gv dv at e ⊢
  revert e
  cases vd n x <;> cases vd 61 y <;> intro e <;> first | exact ⟨rfl, rfl⟩ | exact absurd e (by decide)
theorem c0_21 (b : Bool) : decide ((bif b then (2 : Int32) else 1) ≤ 0) = false := by cases b <;> decide
theorem m220b {h : A_H} {D : Gh} (L : Ly h) (q : Mq h D) {x y : Int32} (e : decide (eit (gv (D 0 5) x) (dv y) = 0) = false) : C 220 [.ref 124, .int x, .int y] h = some (some (some (.int (-1))), wI (wI (wI h 124 0 0) 124 1 (eit (gv (D 0 5) x) (dv y))) 124 2 (-1)) := by
  have L1 : Ly (wI h 124 0 0) := L
  obtain ⟨e1, e2⟩ := gd_bad e
  rw [e2, e220]
  simp only [b220_0, b220_3, b220_7, b220_9, b220_15, b220_22, b220_23, cond_true, cond_false, decide_true, Bool.and_true, Bool.true_and, Bool.and_self, Bool.and_false, Bool.false_and, Bool.not_true, Bool.not_false, Bool.or_true, Bool.true_or, Bool.or_false, Bool.false_or, is_some, gd_some, bk_v, bk_u, isO_wI, y_124 L, q199 L1 (Mq_wI (by decide) q), d219b L1 e1, c0_21, d155 L1]
theorem m221b {h : A_H} {D : Gh} (L : Ly h) (q : Mq h D) {x y : Int32} (e : decide (eit (gv (D 0 5) x) (dv y) = 0) = false) : C 221 [.ref 124, .int x, .int y] h = some (some (some (.int (-1))), wI (wI (wI h 124 0 0) 124 1 (eit (gv (D 0 5) x) (dv y))) 124 2 (-1)) := by
  have L1 : Ly (wI h 124 0 0) := L
  obtain ⟨e1, e2⟩ := gd_bad e
  rw [e2, e221]
  simp only [b221_0, b221_3, b221_7, b221_9, b221_15, b221_22, b221_23, cond_true, cond_false, decide_true, Bool.and_true, Bool.true_and, Bool.and_self, Bool.and_false, Bool.false_and, Bool.not_true, Bool.not_false, Bool.or_true, Bool.true_or, Bool.or_false, Bool.false_or, is_some, gd_some, bk_v, bk_u, isO_wI, y_124 L, q199 L1 (Mq_wI (by decide) q), d219b L1 e1, c0_21, d155 L1]
theorem m222b {h : A_H} {D : Gh} (L : Ly h) (q : Mq h D) {x y : Int32} (e : decide (eit (gv (D 0 5) x) (dv y) = 0) = false) : C 222 [.ref 124, .int x, .int y] h = some (some (some (.int (-1))), wI (wI (wI h 124 0 0) 124 1 (eit (gv (D 0 5) x) (dv y))) 124 2 (-1)) := by
  have L1 : Ly (wI h 124 0 0) := L
  obtain ⟨e1, e2⟩ := gd_bad e
  rw [e2, e222]
  simp only [b222_0, b222_3, b222_7, b222_9, b222_15, b222_23, b222_24, cond_true, cond_false, decide_true, Bool.and_true, Bool.true_and, Bool.and_self, Bool.and_false, Bool.false_and, Bool.not_true, Bool.not_false, Bool.or_true, Bool.true_or, Bool.or_false, Bool.false_or, is_some, gd_some, bk_v, bk_u, isO_wI, y_124 L, q199 L1 (Mq_wI (by decide) q), d219b L1 e1, c0_21, d155 L1]
theorem m223b {h : A_H} {D : Gh} (L : Ly h) (q : Mq h D) {x y : Int32} (e : decide (eit (gv (D 0 5) x) (dv y) = 0) = false) : C 223 [.ref 124, .int x, .int y] h = some (some (some (.int (-1))), wI (wI (wI h 124 0 0) 124 1 (eit (gv (D 0 5) x) (dv y))) 124 2 (-1)) := by
  have L1 : Ly (wI h 124 0 0) := L
  obtain ⟨e1, e2⟩ := gd_bad e
  rw [e2, e223]
  simp only [b223_0, b223_3, b223_7, b223_9, b223_15, b223_23, b223_24, cond_true, cond_false, decide_true, Bool.and_true, Bool.true_and, Bool.and_self, Bool.and_false, Bool.false_and, Bool.not_true, Bool.not_false, Bool.or_true, Bool.true_or, Bool.or_false, Bool.false_or, is_some, gd_some, bk_v, bk_u, isO_wI, y_124 L, q199 L1 (Mq_wI (by decide) q), d219b L1 e1, c0_21, d155 L1]
