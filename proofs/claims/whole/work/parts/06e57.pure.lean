def ma (a b : Nat) : Prop := (a = 124 ∧ (b ≤ 2 ∨ b = 19 ∨ b = 20)) ∨ a = 126 ∨ a = 128 ∨ a = 129
def Qa (m : Nat) (as : List Value) (h : A_H) (v x : Int32) (S : Nat → Nat) (n : Nat) (H : Nat → Nat → Nat) : Prop := ∃ h', C m as h = some (some (some (.int v)), h') ∧ FR ma h h' ∧ hI h' 124 1 = x ∧ hI h' 124 2 = -1 ∧ RW h' 126 S ∧ HM h' n H ∧ (∀ b, hI h' 129 b = hI h 129 b) ∧ hI h' 124 20 = hI h 124 20
theorem rF_ma {a b : Nat} (q : rF a b) : ma a b := by unfold rF at q; unfold ma; omega
theorem FRma_0 (h : A_H) : FR ma h (wI h 124 0 0) := FR_wI (FR_rfl _ h) _ (Or.inl (by omega))
theorem HM_FR {P : Nat → Nat → Prop} {h h' : A_H} {n : Nat} {H : Nat → Nat → Nat} (f : FR P h h') (k : HM h n H) (n1 : ¬ P 124 19) (n2 : ∀ b, ¬ P 128 b) : HM h' n H := ⟨(FR_I f n1).trans k.1, fun i hi j hj => (FR_I f (n2 _)).trans (k.2 i hi j hj)⟩
theorem act_end {h h1 h2 : A_H} {m : Nat} {as : List Value} {v x : Int32} {S' : Nat → Nat} {n : Nat} {H : Nat → Nat → Nat} (f1 : FR rF (wI h 124 0 0) h1) (k1 : HM h1 n H) (f2 : FR (fun a _ => a = 126) h1 h2) (r2 : RW h2 126 S') (e : C m as h = some (some (some (.int v)), wI (wI h2 124 1 x) 124 2 (-1))) : Qa m as h v x S' n H := by
  have f3 : FR (fun a b => a = 124 ∧ (b = 1 ∨ b = 2)) h2 (wI (wI h2 124 1 x) 124 2 (-1)) := FR_wI (FR_wI (FR_rfl _ h2) _ (by omega)) _ (by omega)
  refine ⟨_, e, FR_tr (FR_tr (FR_tr (FRma_0 h) (FR_mo (fun a b q => rF_ma q) f1)) (FR_mo (fun a b q => Or.inr (Or.inl q)) f2)) (FR_mo (fun a b q => by unfold ma; omega) f3), fin_1 _ _, fin_2 _ _, fun j hj => (FR_I f3 (by omega)).trans (r2 j hj), HM_FR f3 (HM_FR f2 k1 (by omega) (fun b => by omega)) (by omega) (fun b => by omega), fun b => ?_, ?_⟩
  · rw [FR_I f3 (by omega), FR_I f2 (by omega), FR_I f1 (by unfold rF; omega), hI_wI, if_neg (by omega)]
  · rw [FR_I f3 (by omega), FR_I f2 (by omega), FR_I f1 (by unfold rF; omega), hI_wI, if_neg (by omega)]
theorem RW_up {h : A_H} {V j : Nat} {S : Nat → Nat} (r : RW h V S) (x : Nat) : RW (wI h V j (nI x)) V (up S j x) := by
  intro i hi
  rw [hI_wI]
  show _ = nI (if i = j then x else S i)
  by_cases e : i = j
  · rw [if_pos ⟨rfl, e⟩, if_pos e]
  · rw [if_neg (fun c => e c.2), if_neg e]; exact r i hi
theorem rw_r {h h1 : A_H} {S : Nat → Nat} (f1 : FR rF (wI h 124 0 0) h1) (r : RW h 126 S) : RW h1 126 S := fun j hj => by rw [FR_I f1 (by unfold rF; omega), hI_wI, if_neg (by omega)]; exact r j hj
theorem FR_126 {h h' : A_H} (f : FR (fun a _ => a = 126) h h') (j : Nat) (v : Int32) : FR (fun a _ => a = 126) h (wI h' 126 j v) := FR_wI (P := fun a _ => a = 126) f v rfl
theorem HM_0 {h : A_H} {n : Nat} {H : Nat → Nat → Nat} (k : HM h n H) : HM (wI h 124 0 0) n H := HM_FR (P := fun a b => a = 124 ∧ b = 0) (FR_wI (P := fun a b => a = 124 ∧ b = 0) (FR_rfl _ h) _ ⟨rfl, rfl⟩) k (by omega) (fun b => by omega)
theorem m268 {h : A_H} {B : Nat} {D : Gh} {S : Nat → Nat} (L : Ly h) (hB : hP h 124 3 = some B) (l : ML h B) (w : WF D) (b : MB h B D) (u : WD D S) (r : RW h 126 S) {n : Nat} {H : Nat → Nat → Nat} (hn : n ≤ 16) (k : HM h n H) {g : Nat} (hg : g < D 0 5) (h0 : has0 S g = true) (hh : 0 < S (8 + D 14 g)) : Qa 268 [.ref 124, .int (nI g)] h 1 0 (eS D S g) (pN n) (pH n H S) := by
  have L1 : Ly (wI h 124 0 0) := L; have hB1 : hP (wI h 124 0 0) 124 3 = some B := hB; have l1 : ML (wI h 124 0 0) B := l; have b1 : MB (wI h 124 0 0) B D := MB_wI l (by decide) b; have r1 : RW (wI h 124 0 0) 126 S := RW_wI (by decide) r
  have h8 : g < 8 := Nat.lt_of_lt_of_le hg (f_nG w)
  have hnG := f_nG w
  have ho := f_own w hg
  have h4 := f_nt w
  have hu := hun_le w u ho
  have hS0 : S g = 0 := of_decide_eq_true h0
  have k0 := HM_0 k
  obtain ⟨h1, g1, f1, k1⟩ := d267 L1 r1 hn k0
  have La := FR_Ly f1 L1
  have la := FR_ML f1 l1
  have ba : MB h1 B D := FR_MB f1 b1 (fun a j ha => by unfold rF; have := m_134 l; omega)
  have hBa : hP h1 124 3 = some B := by rw [FR_P f1]; exact hB1
  have ra := rw_r f1 r
  have r2 : RW (wI (wI h1 126 g 1) 126 (8 + D 14 g) (nI (S (8 + D 14 g) - 1))) 126 (eS D S g) := RW_up (RW_up ra 1) _
  have i8 : hI (wI h1 126 g 1) 126 (8 + D 14 g) = nI (S (8 + D 14 g)) := by rw [hI_wI, if_neg (by omega)]; exact ra _ (by omega)
  have ioo : hI (wI h1 126 g 1) (B + 12) g = nI (D 14 g) := by rw [hI_wI, if_neg (by have := m_134 l; omega)]; exact b_owner ba hg
  have z8 : (8 : Int32) + nI (D 14 g) = nI (8 + D 14 g) := nI_add 8 _
  have zs : nI (S (8 + D 14 g)) - 1 = nI (S (8 + D 14 g) - 1) := w_sub (b := 1) (by omega)
  have n0 : decide (nI (S (8 + D 14 g)) = 0) = false := by
    rw [show (0 : Int32) = nI 0 from rfl]; exact dF (by rw [w_eq (by omega) (by decide)]; omega)
  have rg : hI (wI h 124 0 0) 126 g = 0 := by rw [r1 g (by omega), hS0]; rfl
  have L3 : Ly (wI (wI h1 126 g 1) 126 (8 + D 14 g) (nI (S (8 + D 14 g) - 1))) := La
  refine act_end f1 k1 (FR_126 (FR_126 (FR_rfl _ h1) _ _) _ _) r2 ?_
  rw [e268]
  simp only [b268_0, b268_3, b268_6, b268_35, b268_42, b268_56, b268_58, cond_true, cond_false, decide_true, Bool.and_true, Bool.true_and, Bool.and_self, Bool.and_false, Bool.false_and, Bool.not_true, Bool.not_false, Bool.or_true, Bool.true_or, Bool.or_false, Bool.false_or, is_some, gd_some, bk_v, bk_u, hP_wI, isO_wI, isA_wI, hP_wp, isO_wp, isA_wp, y_124 L, y_P15 L, y_P16 L, hB, d199 L1 hB1 l1 b1, vd_of (show D 0 5 < 2147483648 by omega) hg, bI_T, i1_0, Int32.zero_add, v_A L (Or.inl rfl) (show g < 18 by omega), w_cl (show g < 2147483648 by omega), rg, mB_O l, m_p22 l, mA_12 l h8, b_owner b1 hg, z8, v_A L (Or.inl rfl) (show 8 + D 14 g < 18 by omega), w_cl (show 8 + D 14 g < 2147483648 by omega), r1 (8 + D 14 g) (show 8 + D 14 g < 18 by omega), n0, g1, y_124 La, y_P15 La, v_A La (Or.inl rfl) (show g < 18 by omega), hBa, mB_O la, m_p22 la, mA_12 la h8, ioo, v_A La (Or.inl rfl) (show 8 + D 14 g < 18 by omega), i8, zs, d159 L3, z_11]
theorem m268b {h : A_H} {D : Gh} (L : Ly h) (q : Mq h D) {x : Int32} (e : vd (D 0 5) x = false) : Qe 268 [.ref 124, .int x] h 0 1 := by
  have L1 : Ly (wI h 124 0 0) := L
  refine Qe_of (h' := wI h 124 0 0) ?_ (QF_0 h)
  rw [e268]
  simp only [b268_0, b268_3, b268_6, b268_10, cond_true, cond_false, decide_true, Bool.and_true, Bool.true_and, Bool.and_self, Bool.and_false, Bool.false_and, Bool.not_true, Bool.not_false, Bool.or_true, Bool.true_or, Bool.or_false, Bool.false_or, is_some, gd_some, bk_v, bk_u, isO_wI, y_124 L, q199 L1 (Mq_wI (by decide) q), e, bI_F, d157 L1, z_00]
theorem m268c {h : A_H} {B : Nat} {D : Gh} {S : Nat → Nat} (L : Ly h) (hB : hP h 124 3 = some B) (l : ML h B) (w : WF D) (b : MB h B D) (u : WD D S) (r : RW h 126 S) {g : Nat} (hg : g < D 0 5) (e : (has0 S g && decide (0 < S (8 + D 14 g))) = false) : Qe 268 [.ref 124, .int (nI g)] h 0 5 := by
  have L1 : Ly (wI h 124 0 0) := L; have hB1 : hP (wI h 124 0 0) 124 3 = some B := hB; have l1 : ML (wI h 124 0 0) B := l; have b1 : MB (wI h 124 0 0) B D := MB_wI l (by decide) b; have r1 : RW (wI h 124 0 0) 126 S := RW_wI (by decide) r
  have h8 : g < 8 := Nat.lt_of_lt_of_le hg (f_nG w)
  have hnG := f_nG w
  have ho := f_own w hg
  have h4 := f_nt w
  have hu := hun_le w u ho
  have hs := s_ne (WS_S w u) h8 (show 0 < 100 by decide)
  rw [show nI 0 = 0 from rfl] at hs
  have z8 : (8 : Int32) + nI (D 14 g) = nI (8 + D 14 g) := nI_add 8 _
  refine Qe_of (h' := wI h 124 0 0) ?_ (QF_0 h)
  rw [e268]
  cases h0 : has0 S g with
  | false =>
    have h0' : decide (S g = 0) = false := h0
    simp only [b268_0, b268_3, b268_6, b268_32, cond_true, cond_false, decide_true, Bool.and_true, Bool.true_and, Bool.and_self, Bool.and_false, Bool.false_and, Bool.not_true, Bool.not_false, Bool.or_true, Bool.true_or, Bool.or_false, Bool.false_or, is_some, gd_some, bk_v, bk_u, hP_wI, isO_wI, isA_wI, hP_wp, isO_wp, isA_wp, y_124 L, y_P15 L, y_P16 L, hB, d199 L1 hB1 l1 b1, vd_of (show D 0 5 < 2147483648 by omega) hg, bI_T, i1_0, Int32.zero_add, v_A L (Or.inl rfl) (show g < 18 by omega), w_cl (show g < 2147483648 by omega), r1 g (show g < 18 by omega), hs, h0', d157 L1, z_00]
  | true =>
    have h0' : decide (S g = 0) = true := h0
    rw [h0, Bool.true_and] at e
    have n0 : decide (nI (S (8 + D 14 g)) = 0) = true := by
      have : S (8 + D 14 g) = 0 := by have := of_decide_eq_false e; omega
      rw [this]; rfl
    simp only [b268_0, b268_3, b268_6, b268_32, cond_true, cond_false, decide_true, Bool.and_true, Bool.true_and, Bool.and_self, Bool.and_false, Bool.false_and, Bool.not_true, Bool.not_false, Bool.or_true, Bool.true_or, Bool.or_false, Bool.false_or, is_some, gd_some, bk_v, bk_u, hP_wI, isO_wI, isA_wI, hP_wp, isO_wp, isA_wp, y_124 L, y_P15 L, y_P16 L, hB, d199 L1 hB1 l1 b1, vd_of (show D 0 5 < 2147483648 by omega) hg, bI_T, i1_0, Int32.zero_add, v_A L (Or.inl rfl) (show g < 18 by omega), w_cl (show g < 2147483648 by omega), r1 g (show g < 18 by omega), hs, h0', mB_O l, m_p22 l, mA_12 l h8, b_owner b1 hg, z8, v_A L (Or.inl rfl) (show 8 + D 14 g < 18 by omega), w_cl (show 8 + D 14 g < 2147483648 by omega), r1 (8 + D 14 g) (show 8 + D 14 g < 18 by omega), n0, d157 L1, z_00]
theorem bz (a b : Bool) : decide (bI a = bI b) = (a == b) := by cases a <;> cases b <;> rfl
theorem m269 {h : A_H} {B : Nat} {D : Gh} {S : Nat → Nat} (L : Ly h) (hB : hP h 124 3 = some B) (l : ML h B) (w : WF D) (b : MB h B D) (u : WD D S) (r : RW h 126 S) {n : Nat} {H : Nat → Nat → Nat} (hn : n ≤ 16) (k : HM h n H) {g : Nat} (hg : g < D 0 5) (h0 : has0 S g = true) {z : Bool} (hz : hid S g = !z) : Qa 269 [.ref 124, .int (nI g), .int (bI z)] h 1 0 (hdS S g) (pN n) (pH n H S) := by
  have L1 : Ly (wI h 124 0 0) := L; have hB1 : hP (wI h 124 0 0) 124 3 = some B := hB; have l1 : ML (wI h 124 0 0) B := l; have b1 : MB (wI h 124 0 0) B D := MB_wI l (by decide) b; have r1 : RW (wI h 124 0 0) 126 S := RW_wI (by decide) r
  have h8 : g < 8 := Nat.lt_of_lt_of_le hg (f_nG w)
  have hnG := f_nG w
  have hS0 : S g = 0 := of_decide_eq_true h0
  obtain ⟨h1, g1, f1, k1⟩ := d267 L1 r1 hn (HM_0 k)
  have La := FR_Ly f1 L1
  have ra := rw_r f1 r
  have r2 : RW (wI h1 126 16 (nI (S 16 ^^^ 2 ^ g))) 126 (hdS S g) := RW_up ra _
  have i16 : hI h1 126 16 = nI (S 16) := ra 16 (by decide)
  have rg : hI (wI h 124 0 0) 126 g = 0 := by rw [r1 g (by omega), hS0]; rfl
  have L3 : Ly (wI h1 126 16 (nI (S 16 ^^^ 2 ^ g))) := La
  have h210 := d210 L1 hB1 l1 (Or.inl rfl) w b1 (WS_S w u) r1 (show g < 32 by omega)
  rw [show (S 16).testBit g = hid S g from rfl, hz] at h210
  have hbz : decide (bI (!z) = bI z) = false := by cases z <;> rfl
  refine act_end f1 k1 (FR_126 (FR_rfl _ h1) _ _) r2 ?_
  rw [e269]
  simp only [b269_0, b269_3, b269_6, b269_23, b269_31, b269_41, b269_43, cond_true, cond_false, decide_true, Bool.and_true, Bool.true_and, Bool.and_self, Bool.and_false, Bool.false_and, Bool.not_true, Bool.not_false, Bool.or_true, Bool.true_or, Bool.or_false, Bool.false_or, is_some, gd_some, bk_v, bk_u, hP_wI, isO_wI, isA_wI, hP_wp, isO_wp, isA_wp, y_124 L, y_P15 L, y_P16 L, hB, d199 L1 hB1 l1 b1, vd_of (show D 0 5 < 2147483648 by omega) hg, bI_T, i1_0, Int32.zero_add, v_A L (Or.inl rfl) (show g < 18 by omega), w_cl (show g < 2147483648 by omega), rg, h210, hbz, g1, y_124 La, y_P15 La, v_16 La (Or.inl rfl), i_16, i16, hd_I (show g < 32 by omega), d159 L3, z_11]
theorem m269b {h : A_H} {D : Gh} (L : Ly h) (q : Mq h D) {x z : Int32} (e : vd (D 0 5) x = false) : Qe 269 [.ref 124, .int x, .int z] h 0 1 := by
  have L1 : Ly (wI h 124 0 0) := L
  refine Qe_of (h' := wI h 124 0 0) ?_ (QF_0 h)
  rw [e269]
  simp only [b269_0, b269_3, b269_6, b269_10, cond_true, cond_false, decide_true, Bool.and_true, Bool.true_and, Bool.and_self, Bool.and_false, Bool.false_and, Bool.not_true, Bool.not_false, Bool.or_true, Bool.true_or, Bool.or_false, Bool.false_or, is_some, gd_some, bk_v, bk_u, isO_wI, y_124 L, q199 L1 (Mq_wI (by decide) q), e, bI_F, d157 L1, z_00]
theorem m269c {h : A_H} {B : Nat} {D : Gh} {S : Nat → Nat} (L : Ly h) (hB : hP h 124 3 = some B) (l : ML h B) (w : WF D) (b : MB h B D) (u : WD D S) (r : RW h 126 S) {g : Nat} (hg : g < D 0 5) {z : Bool} (e : (has0 S g && (hid S g ^^ z)) = false) : Qe 269 [.ref 124, .int (nI g), .int (bI z)] h 0 5 := by
  have L1 : Ly (wI h 124 0 0) := L; have hB1 : hP (wI h 124 0 0) 124 3 = some B := hB; have l1 : ML (wI h 124 0 0) B := l; have b1 : MB (wI h 124 0 0) B D := MB_wI l (by decide) b; have r1 : RW (wI h 124 0 0) 126 S := RW_wI (by decide) r
  have h8 : g < 8 := Nat.lt_of_lt_of_le hg (f_nG w)
  have hnG := f_nG w
  have hs := s_ne (WS_S w u) h8 (show 0 < 100 by decide)
  rw [show nI 0 = 0 from rfl] at hs
  refine Qe_of (h' := wI h 124 0 0) ?_ (QF_0 h)
  rw [e269]
  cases h0 : has0 S g with
  | false =>
    have h0' : decide (S g = 0) = false := h0
    simp only [b269_0, b269_3, b269_6, b269_28, cond_true, cond_false, decide_true, Bool.and_true, Bool.true_and, Bool.and_self, Bool.and_false, Bool.false_and, Bool.not_true, Bool.not_false, Bool.or_true, Bool.true_or, Bool.or_false, Bool.false_or, is_some, gd_some, bk_v, bk_u, hP_wI, isO_wI, isA_wI, hP_wp, isO_wp, isA_wp, y_124 L, y_P15 L, y_P16 L, hB, d199 L1 hB1 l1 b1, vd_of (show D 0 5 < 2147483648 by omega) hg, bI_T, i1_0, Int32.zero_add, v_A L (Or.inl rfl) (show g < 18 by omega), w_cl (show g < 2147483648 by omega), r1 g (show g < 18 by omega), hs, h0', d157 L1, z_00]
  | true =>
    have h0' : decide (S g = 0) = true := h0
    rw [h0, Bool.true_and] at e
    have hb : hid S g = z := by revert e; cases hid S g <;> cases z <;> intro e <;> first | rfl | cases e
    have h210 := d210 L1 hB1 l1 (Or.inl rfl) w b1 (WS_S w u) r1 (show g < 32 by omega)
    rw [show (S 16).testBit g = hid S g from rfl, hb] at h210
    simp only [b269_0, b269_3, b269_6, b269_23, b269_28, cond_true, cond_false, decide_true, Bool.and_true, Bool.true_and, Bool.and_self, Bool.and_false, Bool.false_and, Bool.not_true, Bool.not_false, Bool.or_true, Bool.true_or, Bool.or_false, Bool.false_or, is_some, gd_some, bk_v, bk_u, hP_wI, isO_wI, isA_wI, hP_wp, isO_wp, isA_wp, y_124 L, y_P15 L, y_P16 L, hB, d199 L1 hB1 l1 b1, vd_of (show D 0 5 < 2147483648 by omega) hg, bI_T, i1_0, Int32.zero_add, v_A L (Or.inl rfl) (show g < 18 by omega), w_cl (show g < 2147483648 by omega), r1 g (show g < 18 by omega), hs, h0', h210, d157 L1, z_00]
theorem m270 {h : A_H} {B : Nat} {D : Gh} {S : Nat → Nat} (L : Ly h) (hB : hP h 124 3 = some B) (l : ML h B) (w : WF D) (b : MB h B D) (u : WD D S) (r : RW h 126 S) {n : Nat} {H : Nat → Nat → Nat} (hn : n ≤ 16) (kk : HM h n H) {t k : Nat} (ht : t < D 0 3) (hk : k < D 0 4) (hne : ¬ msk (D 0 5) (has D S t) = 0) : Qa 270 [.ref 124, .int (nI t), .int (nI k)] h (nI (asS D S 0 t k)) 0 (crs D S t (crF D S t k) (asS D S 0 t k)) (pN n) (pH n H S) := by
  have L1 : Ly (wI h 124 0 0) := L; have hB1 : hP (wI h 124 0 0) 124 3 = some B := hB; have l1 : ML (wI h 124 0 0) B := l; have b1 : MB (wI h 124 0 0) B D := MB_wI l (by decide) b; have r1 : RW (wI h 124 0 0) 126 S := RW_wI (by decide) r
  have := f_nt w
  have := f_ng w
  have hm := msk_256 (f_nG w) (has D S t)
  have ws := WS_S w u
  obtain ⟨h1, g1, f1, k1⟩ := d267 L1 r1 hn (HM_0 kk)
  have La := FR_Ly f1 L1
  have la := FR_ML f1 l1
  have ba : MB h1 B D := FR_MB f1 b1 (fun a j ha => by unfold rF; have := m_134 l; omega)
  have hBa : hP h1 124 3 = some B := by rw [FR_P f1]; exact hB1
  have ra := rw_r f1 r
  have h211 : C 211 [.ref 124, .ref 126, .int (nI t), .int (nI k), .int 0] h1 = some (some (some (.int (crF D S t k))), h1) := d211 La hBa la (Or.inl rfl) w ba ws ra (show t < 100 by omega) hk (m := 0) (by decide)
  have h214 := d214 La hBa la (Or.inl rfl) w ba ws ra ht (crF D S t k) (a := asS D S 0 t k) (by
    unfold asS
    rw [Nat.add_zero]
    apply ask_congr
    · intro g hg
      have := f_nG w
      unfold crF
      rw [bt_msk _ (by omega), dT hg, Bool.true_and, fnd]
      cases has D S t g <;> rfl
    · intro g hg
      have := f_nG w
      unfold crF
      rw [bt_msk _ (by omega), dT hg, Bool.true_and, fnd]
      cases has D S t g <;> cases hid S g <;> simp)
  have L3 : Ly (wp h1 126 (crs D S t (crF D S t k) (asS D S 0 t k)) 18) := La
  have z0 : decide (nI (msk (D 0 5) (has D S t)) = 0) = false := by
    rw [show (0 : Int32) = nI 0 from rfl]; exact dF (by rw [w_eq (by omega) (by decide)]; exact hne)
  refine act_end f1 k1 (FR_wp (P := fun a _ => a = 126) (FR_rfl _ h1) _ (fun _ _ => rfl)) (RW_wp h1 126 _) ?_
  rw [e270]
  simp only [b270_0, b270_3, b270_6, b270_10, b270_18, b270_25, b270_37, b270_38, b270_39, cond_true, cond_false, decide_true, Bool.and_true, Bool.true_and, Bool.and_self, Bool.and_false, Bool.false_and, Bool.not_true, Bool.not_false, Bool.or_true, Bool.true_or, Bool.or_false, Bool.false_or, is_some, gd_some, bk_v, bk_u, hP_wI, isO_wI, isA_wI, hP_wp, isO_wp, isA_wp, y_124 L, y_P15 L, y_P16 L, hB, d200 L1 hB1 l1 b1, vd_of (show D 0 3 < 2147483648 by omega) ht, bI_T, i1_0, d202 L1 hB1 l1 b1, vd_of (show D 0 4 < 2147483648 by omega) hk, d216 L1 hB1 l1 w b1 ws r1 (show t < 100 by omega), z0, g1, y_124 La, y_P15 La, h211, h214, d158 L3]
theorem m270b {h : A_H} {D : Gh} (L : Ly h) (q : Mq h D) {x y : Int32} (e : decide (eit (eit (gv (D 0 3) x) (gv (D 0 4) y)) (dv 0) = 0) = false) : Qe 270 [.ref 124, .int x, .int y] h (-1) (eit (eit (gv (D 0 3) x) (gv (D 0 4) y)) (dv 0)) := by
  have L1 : Ly (wI h 124 0 0) := L
  have q1 := Mq_wI (j := 0) (v := 0) (show 124 < 134 by decide) q
  refine Qe_of (h' := wI h 124 0 0) ?_ (QF_0 h)
  rcases tg_bad e with ⟨e1, e2⟩ | ⟨e1, e3, e2⟩
  · rw [e2, e270]
    simp only [b270_0, b270_3, b270_6, b270_14, cond_true, cond_false, decide_true, Bool.and_true, Bool.true_and, Bool.and_self, Bool.and_false, Bool.false_and, Bool.not_true, Bool.not_false, Bool.or_true, Bool.true_or, Bool.or_false, Bool.false_or, is_some, gd_some, bk_v, bk_u, isO_wI, y_124 L, q200 L1 q1, e1, bI_F, d155 L1]
  · rw [e2, e270]
    simp only [b270_0, b270_3, b270_6, b270_10, b270_14, cond_true, cond_false, decide_true, Bool.and_true, Bool.true_and, Bool.and_self, Bool.and_false, Bool.false_and, Bool.not_true, Bool.not_false, Bool.or_true, Bool.true_or, Bool.or_false, Bool.false_or, is_some, gd_some, bk_v, bk_u, isO_wI, y_124 L, q200 L1 q1, e1, bI_T, i1_0, q202 L1 q1, e3, bI_F, d155 L1]
theorem m270c {h : A_H} {B : Nat} {D : Gh} {S : Nat → Nat} (L : Ly h) (hB : hP h 124 3 = some B) (l : ML h B) (w : WF D) (b : MB h B D) (u : WD D S) (r : RW h 126 S) {t k : Nat} (ht : t < D 0 3) (hk : k < D 0 4) (hne : msk (D 0 5) (has D S t) = 0) : Qe 270 [.ref 124, .int (nI t), .int (nI k)] h (-1) 5 := by
  have L1 : Ly (wI h 124 0 0) := L; have hB1 : hP (wI h 124 0 0) 124 3 = some B := hB; have l1 : ML (wI h 124 0 0) B := l; have b1 : MB (wI h 124 0 0) B D := MB_wI l (by decide) b; have r1 : RW (wI h 124 0 0) 126 S := RW_wI (by decide) r
  have := f_nt w
  have := f_ng w
  refine Qe_of (h' := wI h 124 0 0) ?_ (QF_0 h)
  rw [e270]
  simp only [b270_0, b270_3, b270_6, b270_10, b270_18, b270_22, cond_true, cond_false, decide_true, Bool.and_true, Bool.true_and, Bool.and_self, Bool.and_false, Bool.false_and, Bool.not_true, Bool.not_false, Bool.or_true, Bool.true_or, Bool.or_false, Bool.false_or, is_some, gd_some, bk_v, bk_u, hP_wI, isO_wI, isA_wI, hP_wp, isO_wp, isA_wp, y_124 L, y_P15 L, y_P16 L, hB, d200 L1 hB1 l1 b1, vd_of (show D 0 3 < 2147483648 by omega) ht, bI_T, i1_0, d202 L1 hB1 l1 b1, vd_of (show D 0 4 < 2147483648 by omega) hk, d216 L1 hB1 l1 w b1 (WS_S w u) r1 (show t < 100 by omega), hne, show decide (nI 0 = 0) = true from rfl, d155 L1]
theorem d160d (x : Int32) (h : A_H) : C 160 [.int x, .int 1, .int 60] h = some (some (some (.int (bI (decide (nd x = 0))))), h) := by
  rw [e160, b160_0]
  unfold nd
  cases decide (x < 1) <;> cases decide ((60 : Int32) < x) <;> rfl
theorem m271 {h : A_H} {B : Nat} {D : Gh} {S : Nat → Nat} (L : Ly h) (hB : hP h 124 3 = some B) (l : ML h B) (w : WF D) (b : MB h B D) (u : WD D S) (r : RW h 126 S) {n : Nat} {H : Nat → Nat → Nat} (hn : n ≤ 16) (kk : HM h n H) {d : Nat} (h1 : 1 ≤ d) (h2 : d ≤ 60) (hd : S 17 + d ≤ 300) : Qa 271 [.ref 124, .int (nI d)] h (nI (S 17 + d)) 0 (Sd S d) (pN n) (pH n H S) := by
  have L1 : Ly (wI h 124 0 0) := L; have hB1 : hP (wI h 124 0 0) 124 3 = some B := hB; have l1 : ML (wI h 124 0 0) B := l; have b1 : MB (wI h 124 0 0) B D := MB_wI l (by decide) b; have r1 : RW (wI h 124 0 0) 126 S := RW_wI (by decide) r
  have h17 := u.1
  obtain ⟨v1, v2⟩ := nd_of h1 h2
  have v3 : decide (nd (nI d) = 0) = true := by unfold nd; rw [v1, v2]; rfl
  obtain ⟨h1', g1, f1, k1⟩ := d267 L1 r1 hn (HM_0 kk)
  have La := FR_Ly f1 L1
  have ra := rw_r f1 r
  have r2 : RW (wI h1' 126 17 (nI (S 17 + d))) 126 (Sd S d) := RW_up ra _
  have i17 : hI h1' 126 17 = nI (S 17) := ra 17 (by decide)
  have j17 : hI (wI h1' 126 17 (nI (S 17 + d))) 126 17 = nI (S 17 + d) := by rw [hI_wI, if_pos ⟨rfl, rfl⟩]
  have L3 : Ly (wI h1' 126 17 (nI (S 17 + d))) := La
  have z3 := le300 h17 h2
  rw [nI_add, dT hd] at z3
  refine act_end f1 k1 (FR_126 (FR_rfl _ h1') _ _) r2 ?_
  rw [e271]
  simp only [b271_0, b271_3, b271_14, b271_33, b271_41, b271_47, cond_true, cond_false, decide_true, Bool.and_true, Bool.true_and, Bool.and_self, Bool.and_false, Bool.false_and, Bool.not_true, Bool.not_false, Bool.or_true, Bool.true_or, Bool.or_false, Bool.false_or, is_some, gd_some, bk_v, bk_u, hP_wI, isO_wI, isA_wI, hP_wp, isO_wp, isA_wp, y_124 L, y_P15 L, y_P16 L, hB, va_rf, a_isR, a_nul, d160d, v3, bI_T, i1_0, v_17 L (Or.inl rfl), i_17, rw_17 r1, nI_add, z3, g1, y_124 La, y_P15 La, v_17 La (Or.inl rfl), i17, j17, d158 L3]
theorem m271b {h : A_H} {D : Gh} (L : Ly h) (q : Mq h D) {x : Int32} (e : hP h 124 3 = none ∨ decide (nd x = 0) = false) : Qe 271 [.ref 124, .int x] h (-1) (bif (hP h 124 3).isSome then 2 else 1) := by
  have L1 : Ly (wI h 124 0 0) := L
  refine Qe_of (h' := wI h 124 0 0) ?_ (QF_0 h)
  rw [e271]
  cases hp : hP h 124 3 with
  | none => simp only [b271_0, b271_3, b271_9, cond_true, cond_false, decide_true, Bool.and_true, Bool.true_and, Bool.and_self, Bool.and_false, Bool.false_and, Bool.not_true, Bool.not_false, Bool.or_true, Bool.true_or, Bool.or_false, Bool.false_or, is_some, gd_some, bk_v, bk_u, isO_wI, y_124 L, hP_wI, hp, va_rf, a_isR, a_nul, d155 L1]; rfl
  | some B =>
    rcases e with e | e
    · rw [hp] at e; cases e
    · simp only [b271_0, b271_3, b271_14, b271_18, cond_true, cond_false, decide_true, Bool.and_true, Bool.true_and, Bool.and_self, Bool.and_false, Bool.false_and, Bool.not_true, Bool.not_false, Bool.or_true, Bool.true_or, Bool.or_false, Bool.false_or, is_some, gd_some, bk_v, bk_u, isO_wI, y_124 L, hP_wI, hp, va_rf, a_isR, a_nul, d160d, e, bI_F, d155 L1]
theorem m271c {h : A_H} {B : Nat} {D : Gh} {S : Nat → Nat} (L : Ly h) (hB : hP h 124 3 = some B) (l : ML h B) (w : WF D) (b : MB h B D) (u : WD D S) (r : RW h 126 S) {d : Nat} (h1 : 1 ≤ d) (h2 : d ≤ 60) (hd : ¬ S 17 + d ≤ 300) : Qe 271 [.ref 124, .int (nI d)] h (-1) 3 := by
  have L1 : Ly (wI h 124 0 0) := L; have hB1 : hP (wI h 124 0 0) 124 3 = some B := hB; have l1 : ML (wI h 124 0 0) B := l; have b1 : MB (wI h 124 0 0) B D := MB_wI l (by decide) b; have r1 : RW (wI h 124 0 0) 126 S := RW_wI (by decide) r
  have h17 := u.1
  obtain ⟨v1, v2⟩ := nd_of h1 h2
  have v3 : decide (nd (nI d) = 0) = true := by unfold nd; rw [v1, v2]; rfl
  refine Qe_of (h' := wI h 124 0 0) ?_ (QF_0 h)
  rw [e271]
  simp only [b271_0, b271_3, b271_14, b271_30, cond_true, cond_false, decide_true, Bool.and_true, Bool.true_and, Bool.and_self, Bool.and_false, Bool.false_and, Bool.not_true, Bool.not_false, Bool.or_true, Bool.true_or, Bool.or_false, Bool.false_or, is_some, gd_some, bk_v, bk_u, hP_wI, isO_wI, isA_wI, hP_wp, isO_wp, isA_wp, y_124 L, y_P15 L, y_P16 L, hB, va_rf, a_isR, a_nul, d160d, v3, bI_T, i1_0, v_17 L (Or.inl rfl), i_17, rw_17 r1, le300 h17 h2, dF hd, d155 L1]
theorem m272 {h : A_H} {B : Nat} {D : Gh} {S : Nat → Nat} (L : Ly h) (hB : hP h 124 3 = some B) (l : ML h B) (w : WF D) (b : MB h B D) (u : WD D S) (r : RW h 126 S) {n : Nat} {H : Nat → Nat → Nat} (hn : n < 16) (kk : HM h (n + 1) H) : Qa 272 [.ref 124] h 1 0 (H n) n H := by
  have L1 : Ly (wI h 124 0 0) := L; have hB1 : hP (wI h 124 0 0) 124 3 = some B := hB; have l1 : ML (wI h 124 0 0) B := l; have b1 : MB (wI h 124 0 0) B D := MB_wI l (by decide) b; have r1 : RW (wI h 124 0 0) 126 S := RW_wI (by decide) r
  have zs : nI (n + 1) - 1 = nI n := by
    have := w_sub (a := n + 1) (b := 1) (by omega)
    rw [Nat.add_sub_cancel] at this
    exact this
  have n0 : decide (nI (n + 1) = 0) = false := by
    rw [show (0 : Int32) = nI 0 from rfl]; exact dF (by rw [w_eq (by omega) (by decide)]; omega)
  have k0 := HM_0 kk
  have f0 : FR ma h (wI (wI h 124 0 0) 124 19 (nI n)) := FR_wI (FRma_0 h) _ (Or.inl (by omega))
  have i19 : hI (wI (wI h 124 0 0) 124 19 (nI n)) 124 19 = nI n := by rw [hI_wI, if_pos ⟨rfl, rfl⟩]
  have La : Ly (wI (wI h 124 0 0) 124 19 (nI n)) := L
  have e0 := loop_ix (fun j => R 272 21 [some (.ref 124), some (.int (nI j))] [] (wp (wI (wI h 124 0 0) 124 19 (nI n)) 126 (H n) j)) 18 (by
    intro j hj
    have z : (18 : Int32) * nI n + nI j = nI (18 * n + j) := by rw [show (18 : Int32) = nI 18 from rfl, w_mul, nI_add]
    have i1 : hI (wp (wI (wI h 124 0 0) 124 19 (nI n)) 126 (H n) j) 124 19 = nI n := by rw [hI_wp, if_neg (by omega)]; exact i19
    have i2 : hI (wp (wI (wI h 124 0 0) 124 19 (nI n)) 126 (H n) j) 128 (18 * n + j) = nI (H n j) := by rw [hI_wp, if_neg (by omega), hI_wI, if_neg (by omega)]; exact k0.2 n (by omega) j hj
    rw [b272_21, show decide ((18 : Int32) ≤ nI j) = false by rw [show (18 : Int32) = nI 18 from rfl]; exact dF (by rw [w_le (by omega) (by omega)]; omega)]
    simp only [cond_true, cond_false, decide_true, Bool.and_true, Bool.true_and, Bool.and_self, Bool.and_false, Bool.false_and, Bool.not_true, Bool.not_false, Bool.or_true, Bool.true_or, Bool.or_false, Bool.false_or, is_some, gd_some, bk_v, bk_u, hP_wp', isO_wp', isA_wp', y_124 La, y_P15 La, y_P17 La, i1, z, y_A128 La (show 18 * n + j < 288 by omega), v_A La (Or.inl rfl) hj, w_cl (show 18 * n + j < 2147483648 by omega), w_cl (show j < 2147483648 by omega), i2, b272_37, w_s]
    rw [wp_s' (S := H n) rfl])
  simp only [wp_0] at e0
  have f1 : FR (fun a _ => a = 126) (wI (wI h 124 0 0) 124 19 (nI n)) (wp (wI (wI h 124 0 0) 124 19 (nI n)) 126 (H n) 18) := FR_wp (P := fun a _ => a = 126) (FR_rfl _ _) _ (fun _ _ => rfl)
  have f2 : FR (fun a b => a = 124 ∧ (b = 1 ∨ b = 2)) (wp (wI (wI h 124 0 0) 124 19 (nI n)) 126 (H n) 18) (wI (wI (wp (wI (wI h 124 0 0) 124 19 (nI n)) 126 (H n) 18) 124 1 0) 124 2 (-1)) := FR_wI (P := fun a b => a = 124 ∧ (b = 1 ∨ b = 2)) (FR_wI (P := fun a b => a = 124 ∧ (b = 1 ∨ b = 2)) (FR_rfl _ _) _ (by omega)) _ (by omega)
  have L3 : Ly (wp (wI (wI h 124 0 0) 124 19 (nI n)) 126 (H n) 18) := L
  refine ⟨_, ?_, FR_tr (FR_tr f0 (FR_mo (fun a b q => Or.inr (Or.inl q)) f1)) (FR_mo (fun a b q => by unfold ma; omega) f2), fin_1 _ _, fin_2 _ _, fun j hj => (FR_I f2 (by omega)).trans (RW_wp _ 126 _ j hj), ⟨?_, fun i hi j hj => ?_⟩, fun b => ?_, ?_⟩
  · rw [e272]
    simp only [b272_0, b272_3, b272_19, cond_true, cond_false, decide_true, Bool.and_true, Bool.true_and, Bool.and_self, Bool.and_false, Bool.false_and, Bool.not_true, Bool.not_false, Bool.or_true, Bool.true_or, Bool.or_false, Bool.false_or, is_some, gd_some, bk_v, bk_u, hP_wI, isO_wI, isA_wI, hP_wp, isO_wp, isA_wp, y_124 L, y_P15 L, y_P16 L, hB, va_rf, a_isR, a_nul, k0.1, n0, zs]
    refine Eq.trans e0 ?_
    rw [b272_21, show decide ((18 : Int32) ≤ nI 18) = true from rfl]
    simp only [cond_true, cond_false, decide_true, Bool.and_true, Bool.true_and, Bool.and_self, Bool.and_false, Bool.false_and, Bool.not_true, Bool.not_false, Bool.or_true, Bool.true_or, Bool.or_false, Bool.false_or, is_some, gd_some, bk_v, bk_u, y_124 L3, d159 L3, b272_41, z_11]
  · exact (FR_I f2 (by omega)).trans ((FR_I f1 (by omega)).trans i19)
  · rw [FR_I f2 (by omega), FR_I f1 (by omega), hI_wI, if_neg (by omega)]; exact k0.2 i (by omega) j hj
  · rw [FR_I f2 (by omega), FR_I f1 (by omega), hI_wI, if_neg (by omega), hI_wI, if_neg (by omega)]
  · rw [FR_I f2 (by omega), FR_I f1 (by omega), hI_wI, if_neg (by omega), hI_wI, if_neg (by omega)]
theorem m272b {h : A_H} (L : Ly h) {H : Nat → Nat → Nat} (e : hP h 124 3 = none ∨ HM h 0 H) : Qe 272 [.ref 124] h 0 6 := by
  have L1 : Ly (wI h 124 0 0) := L
  refine Qe_of (h' := wI h 124 0 0) ?_ (QF_0 h)
  rw [e272]
  cases hp : hP h 124 3 with
  | none => simp only [b272_0, b272_3, b272_12, cond_true, cond_false, decide_true, Bool.and_true, Bool.true_and, Bool.and_self, Bool.and_false, Bool.false_and, Bool.not_true, Bool.not_false, Bool.or_true, Bool.true_or, Bool.or_false, Bool.false_or, is_some, gd_some, bk_v, bk_u, isO_wI, y_124 L, hP_wI, hp, va_rf, a_isR, a_nul, d157 L1, z_00]
  | some B =>
    rcases e with e | e
    · rw [hp] at e; cases e
    · have i19 : hI (wI h 124 0 0) 124 19 = 0 := by rw [hI_wI, if_neg (by omega)]; exact e.1
      simp only [b272_0, b272_3, b272_12, cond_true, cond_false, decide_true, Bool.and_true, Bool.true_and, Bool.and_self, Bool.and_false, Bool.false_and, Bool.not_true, Bool.not_false, Bool.or_true, Bool.true_or, Bool.or_false, Bool.false_or, is_some, gd_some, bk_v, bk_u, isO_wI, y_124 L, hP_wI, hp, va_rf, a_isR, a_nul, i19, d157 L1, z_00]
theorem m273 {h : A_H} {B : Nat} {D : Gh} {S : Nat → Nat} (L : Ly h) (hB : hP h 124 3 = some B) (l : ML h B) (w : WF D) (b : MB h B D) (u : WD D S) (r : RW h 126 S) {m : Nat} {K : Nat → Nat → Nat} (hm : m < 3) (kk : MM h m K) : ∃ h', C 273 [.ref 124] h = some (some (some (.int (nI m))), h') ∧ FR ma h h' ∧ hI h' 124 1 = 0 ∧ hI h' 124 2 = -1 ∧ MM h' (m + 1) (sH m K S) ∧ ∀ a b, ¬ a = 129 → ¬ (a = 124 ∧ (b ≤ 2 ∨ b = 20)) → hI h' a b = hI h a b := by
  have L1 : Ly (wI h 124 0 0) := L; have hB1 : hP (wI h 124 0 0) 124 3 = some B := hB; have l1 : ML (wI h 124 0 0) B := l; have b1 : MB (wI h 124 0 0) B D := MB_wI l (by decide) b; have r1 : RW (wI h 124 0 0) 126 S := RW_wI (by decide) r
  have i20 : hI (wI h 124 0 0) 124 20 = nI m := by rw [hI_wI, if_neg (by omega)]; exact kk.1
  have n3 : decide (nI m = 3) = false := by
    rw [show (3 : Int32) = nI 3 from rfl]; exact dF (by rw [w_eq (by omega) (by decide)]; omega)
  obtain ⟨h2, ⟨j1, j2, j3⟩, e⟩ := loop_inv (α := A_H) (fun j x => FR (fun a _ => a = 129) (wI h 124 0 0) x ∧ (∀ i, i < j → hI x 129 (18 * m + i) = nI (S i)) ∧ ∀ i, i < 18 * m → hI x 129 i = hI h 129 i) (fun j x => R 273 20 [some (.ref 124), some (.int (nI j))] [] x) 18 (by
    intro j x hj i
    obtain ⟨x1, x2, x3⟩ := i
    have Lx := FR_Ly x1 L1
    have z : (18 : Int32) * nI m + nI j = nI (18 * m + j) := by rw [show (18 : Int32) = nI 18 from rfl, w_mul, nI_add]
    have ix : hI x 124 20 = nI m := (FR_I x1 (by omega)).trans i20
    have rx : hI x 126 j = nI (S j) := (FR_I x1 (by omega)).trans (r1 j hj)
    rw [b273_20, show decide ((18 : Int32) ≤ nI j) = false by rw [show (18 : Int32) = nI 18 from rfl]; exact dF (by rw [w_le (by omega) (by omega)]; omega)]
    simp only [cond_true, cond_false, decide_true, Bool.and_true, Bool.true_and, Bool.and_self, Bool.and_false, Bool.false_and, Bool.not_true, Bool.not_false, Bool.or_true, Bool.true_or, Bool.or_false, Bool.false_or, is_some, gd_some, bk_v, bk_u, y_124 Lx, y_P18 Lx, y_P15 Lx, ix, z, v_A Lx (Or.inl rfl) hj, y_A129 Lx (show 18 * m + j < 54 by omega), w_cl (show 18 * m + j < 2147483648 by omega), w_cl (show j < 2147483648 by omega), rx, b273_36, w_s]
    refine ⟨_, ⟨FR_wI (P := fun a _ => a = 129) x1 _ rfl, fun i hi => ?_, fun i hi => ?_⟩, rfl⟩
    · rw [hI_wI]
      by_cases e : i = j
      · rw [if_pos ⟨rfl, by omega⟩, e]
      · rw [if_neg (by omega)]; exact x2 i (by omega)
    · rw [hI_wI, if_neg (by omega)]; exact x3 i hi) (wI h 124 0 0) ⟨FR_rfl _ _, fun i hi => absurd hi (Nat.not_lt_zero i), fun i _ => by rw [hI_wI, if_neg (by omega)]⟩
  have Lx := FR_Ly j1 L1
  have ix : hI h2 124 20 = nI m := (FR_I j1 (by omega)).trans i20
  have jx : hI (wI h2 124 20 (nI (m + 1))) 124 20 = nI (m + 1) := by rw [hI_wI, if_pos ⟨rfl, rfl⟩]
  have zs : nI (m + 1) - 1 = nI m := by
    have := w_sub (a := m + 1) (b := 1) (by omega)
    rw [Nat.add_sub_cancel] at this
    exact this
  have L3 : Ly (wI h2 124 20 (nI (m + 1))) := Lx
  have f3 : FR (fun a b => a = 124 ∧ (b = 1 ∨ b = 2)) (wI h2 124 20 (nI (m + 1))) (wI (wI (wI h2 124 20 (nI (m + 1))) 124 1 0) 124 2 (-1)) := FR_wI (P := fun a b => a = 124 ∧ (b = 1 ∨ b = 2)) (FR_wI (P := fun a b => a = 124 ∧ (b = 1 ∨ b = 2)) (FR_rfl _ _) _ (by omega)) _ (by omega)
  refine ⟨_, ?_, FR_tr (FR_wI (FR_tr (FRma_0 h) (FR_mo (fun a b q => Or.inr (Or.inr (Or.inr q))) j1)) _ (Or.inl (by omega))) (FR_mo (fun a b q => by unfold ma; omega) f3), fin_1 _ _, fin_2 _ _, ⟨(FR_I f3 (by omega)).trans jx, fun i hi j hj => ?_⟩, fun a b q1 q2 => ?_⟩
  · rw [e273]
    simp only [b273_0, b273_3, cond_true, cond_false, decide_true, Bool.and_true, Bool.true_and, Bool.and_self, Bool.and_false, Bool.false_and, Bool.not_true, Bool.not_false, Bool.or_true, Bool.true_or, Bool.or_false, Bool.false_or, is_some, gd_some, bk_v, bk_u, hP_wI, isO_wI, isA_wI, hP_wp, isO_wp, isA_wp, y_124 L, y_P15 L, y_P16 L, hB, va_rf, a_isR, a_nul, i20, n3]
    refine Eq.trans e ?_
    show R 273 20 [some (.ref 124), some (.int (nI 18))] [] h2 = _
    rw [b273_20, show decide ((18 : Int32) ≤ nI 18) = true from rfl]
    simp only [cond_true, cond_false, decide_true, Bool.and_true, Bool.true_and, Bool.and_self, Bool.and_false, Bool.false_and, Bool.not_true, Bool.not_false, Bool.or_true, Bool.true_or, Bool.or_false, Bool.false_or, is_some, gd_some, bk_v, bk_u, y_124 Lx, isO_wI, ix, w_s, b273_44, jx, zs, d158 L3, b273_50]
  · rw [FR_I f3 (by omega), hI_wI, if_neg (by omega)]
    show _ = nI ((if i = m then S else K i) j)
    by_cases e : i = m
    · rw [if_pos e, e]; exact j2 j hj
    · rw [if_neg e, j3 _ (by omega)]; exact kk.2 i (by omega) j hj
  · rw [FR_I f3 (by omega), hI_wI, if_neg (by omega), FR_I j1 q1, hI_wI, if_neg (by omega)]
theorem m273b {h : A_H} (L : Ly h) {m : Nat} {K : Nat → Nat → Nat} (kk : MM h m K) (e : hP h 124 3 = none ∨ m = 3) : Qe 273 [.ref 124] h (-1) (bif (hP h 124 3).isSome then 3 else 1) := by
  have L1 : Ly (wI h 124 0 0) := L
  refine Qe_of (h' := wI h 124 0 0) ?_ (QF_0 h)
  rw [e273]
  cases hp : hP h 124 3 with
  | none => simp only [b273_0, b273_3, b273_9, cond_true, cond_false, decide_true, Bool.and_true, Bool.true_and, Bool.and_self, Bool.and_false, Bool.false_and, Bool.not_true, Bool.not_false, Bool.or_true, Bool.true_or, Bool.or_false, Bool.false_or, is_some, gd_some, bk_v, bk_u, isO_wI, y_124 L, hP_wI, hp, va_rf, a_isR, a_nul, d155 L1]; rfl
  | some B =>
    rcases e with e | e
    · rw [hp] at e; cases e
    · subst e
      have i20 : hI (wI h 124 0 0) 124 20 = 3 := by rw [hI_wI, if_neg (by omega)]; exact kk.1
      simp only [b273_0, b273_3, b273_17, cond_true, cond_false, decide_true, Bool.and_true, Bool.true_and, Bool.and_self, Bool.and_false, Bool.false_and, Bool.not_true, Bool.not_false, Bool.or_true, Bool.true_or, Bool.or_false, Bool.false_or, is_some, gd_some, bk_v, bk_u, isO_wI, y_124 L, hP_wI, hp, va_rf, a_isR, a_nul, i20, d155 L1]
theorem m274 {h : A_H} {B : Nat} {D : Gh} {S : Nat → Nat} (L : Ly h) (hB : hP h 124 3 = some B) (l : ML h B) (w : WF D) (b : MB h B D) (u : WD D S) (r : RW h 126 S) {m i : Nat} {K : Nat → Nat → Nat} (hm : m ≤ 3) (kk : MM h m K) (hi : i < m) {H : Nat → Nat → Nat} : Qa 274 [.ref 124, .int (nI i)] h 1 0 (K i) 0 H := by
  have L1 : Ly (wI h 124 0 0) := L; have hB1 : hP (wI h 124 0 0) 124 3 = some B := hB; have l1 : ML (wI h 124 0 0) B := l; have b1 : MB (wI h 124 0 0) B D := MB_wI l (by decide) b; have r1 : RW (wI h 124 0 0) 126 S := RW_wI (by decide) r
  have i20 : hI (wI h 124 0 0) 124 20 = nI m := by rw [hI_wI, if_neg (by omega)]; exact kk.1
  have e0 := loop_ix (fun j => R 274 18 [some (.ref 124), some (.int (nI i)), some (.int (nI j))] [] (wp (wI h 124 0 0) 126 (K i) j)) 18 (by
    intro j hj
    have z : (18 : Int32) * nI i + nI j = nI (18 * i + j) := by rw [show (18 : Int32) = nI 18 from rfl, w_mul, nI_add]
    have i2 : hI (wp (wI h 124 0 0) 126 (K i) j) 129 (18 * i + j) = nI (K i j) := by rw [hI_wp, if_neg (by omega), hI_wI, if_neg (by omega)]; exact kk.2 i hi j hj
    rw [b274_18, show decide ((18 : Int32) ≤ nI j) = false by rw [show (18 : Int32) = nI 18 from rfl]; exact dF (by rw [w_le (by omega) (by omega)]; omega)]
    simp only [cond_true, cond_false, decide_true, Bool.and_true, Bool.true_and, Bool.and_self, Bool.and_false, Bool.false_and, Bool.not_true, Bool.not_false, Bool.or_true, Bool.true_or, Bool.or_false, Bool.false_or, is_some, gd_some, bk_v, bk_u, hP_wp', isO_wp', isA_wp', y_124 L1, y_P15 L1, y_P18 L1, z, y_A129 L1 (show 18 * i + j < 54 by omega), v_A L1 (Or.inl rfl) hj, w_cl (show 18 * i + j < 2147483648 by omega), w_cl (show j < 2147483648 by omega), i2, b274_33, w_s]
    rw [wp_s' (S := K i) rfl])
  simp only [wp_0] at e0
  have f1 : FR (fun a _ => a = 126) (wI h 124 0 0) (wp (wI h 124 0 0) 126 (K i) 18) := FR_wp (P := fun a _ => a = 126) (FR_rfl _ _) _ (fun _ _ => rfl)
  have L2 : Ly (wp (wI h 124 0 0) 126 (K i) 18) := L
  have L3 : Ly (wI (wp (wI h 124 0 0) 126 (K i) 18) 124 19 0) := L
  have f2 : FR (fun a b => a = 124 ∧ (b = 1 ∨ b = 2)) (wI (wp (wI h 124 0 0) 126 (K i) 18) 124 19 0) (wI (wI (wI (wp (wI h 124 0 0) 126 (K i) 18) 124 19 0) 124 1 0) 124 2 (-1)) := FR_wI (P := fun a b => a = 124 ∧ (b = 1 ∨ b = 2)) (FR_wI (P := fun a b => a = 124 ∧ (b = 1 ∨ b = 2)) (FR_rfl _ _) _ (by omega)) _ (by omega)
  refine ⟨_, ?_, FR_tr (FR_wI (FR_tr (FRma_0 h) (FR_mo (fun a b q => Or.inr (Or.inl q)) f1)) _ (Or.inl (by omega))) (FR_mo (fun a b q => by unfold ma; omega) f2), fin_1 _ _, fin_2 _ _, fun j hj => ?_, ⟨?_, fun i hi => absurd hi (Nat.not_lt_zero i)⟩, fun b => ?_, ?_⟩
  · rw [e274]
    simp only [b274_0, b274_3, cond_true, cond_false, decide_true, Bool.and_true, Bool.true_and, Bool.and_self, Bool.and_false, Bool.false_and, Bool.not_true, Bool.not_false, Bool.or_true, Bool.true_or, Bool.or_false, Bool.false_or, is_some, gd_some, bk_v, bk_u, hP_wI, isO_wI, isA_wI, hP_wp, isO_wp, isA_wp, y_124 L, y_P15 L, y_P16 L, hB, va_rf, a_isR, a_nul, dF (w_nn (show i < 2147483648 by omega)), i20, dT (show nI i < nI m by rw [w_lt (by omega) (by omega)]; exact hi)]
    refine Eq.trans e0 ?_
    rw [b274_18, show decide ((18 : Int32) ≤ nI 18) = true from rfl]
    simp only [cond_true, cond_false, decide_true, Bool.and_true, Bool.true_and, Bool.and_self, Bool.and_false, Bool.false_and, Bool.not_true, Bool.not_false, Bool.or_true, Bool.true_or, Bool.or_false, Bool.false_or, is_some, gd_some, bk_v, bk_u, y_124 L2, b274_38, isO_wI, d159 L3, b274_40, z_11]
  · rw [FR_I f2 (by omega), hI_wI, if_neg (by omega)]; exact RW_wp _ 126 _ j hj
  · rw [FR_I f2 (by omega), hI_wI, if_pos ⟨rfl, rfl⟩]; rfl
  · rw [FR_I f2 (by omega), hI_wI, if_neg (by omega), FR_I f1 (by omega), hI_wI, if_neg (by omega)]
  · rw [FR_I f2 (by omega), hI_wI, if_neg (by omega), FR_I f1 (by omega), hI_wI, if_neg (by omega)]
theorem m274b {h : A_H} (L : Ly h) {m : Nat} {K : Nat → Nat → Nat} (kk : MM h m K) {x : Int32} (e : hP h 124 3 = none ∨ vd m x = false) : Qe 274 [.ref 124, .int x] h 0 1 := by
  have L1 : Ly (wI h 124 0 0) := L
  refine Qe_of (h' := wI h 124 0 0) ?_ (QF_0 h)
  rw [e274]
  cases hp : hP h 124 3 with
  | none => simp only [b274_0, b274_3, b274_15, cond_true, cond_false, decide_true, Bool.and_true, Bool.true_and, Bool.and_self, Bool.and_false, Bool.false_and, Bool.not_true, Bool.not_false, Bool.or_true, Bool.true_or, Bool.or_false, Bool.false_or, is_some, gd_some, bk_v, bk_u, isO_wI, y_124 L, hP_wI, hp, va_rf, a_isR, a_nul, d157 L1, z_00]
  | some B =>
    rcases e with e | e
    · rw [hp] at e; cases e
    · have i20 : hI (wI h 124 0 0) 124 20 = nI m := by rw [hI_wI, if_neg (by omega)]; exact kk.1
      unfold vd at e
      cases h1 : decide (x < 0) with
      | true => simp only [b274_0, b274_3, b274_15, cond_true, cond_false, decide_true, Bool.and_true, Bool.true_and, Bool.and_self, Bool.and_false, Bool.false_and, Bool.not_true, Bool.not_false, Bool.or_true, Bool.true_or, Bool.or_false, Bool.false_or, is_some, gd_some, bk_v, bk_u, isO_wI, y_124 L, hP_wI, hp, va_rf, a_isR, a_nul, h1, d157 L1, z_00]
      | false =>
        rw [h1] at e
        have h2 : decide (x < nI m) = false := by
          rw [lt_le]
          cases c : decide (nI m ≤ x) with
          | true => rfl
          | false => rw [c] at e; cases e
        simp only [b274_0, b274_3, b274_15, cond_true, cond_false, decide_true, Bool.and_true, Bool.true_and, Bool.and_self, Bool.and_false, Bool.false_and, Bool.not_true, Bool.not_false, Bool.or_true, Bool.true_or, Bool.or_false, Bool.false_or, is_some, gd_some, bk_v, bk_u, isO_wI, y_124 L, hP_wI, hp, va_rf, a_isR, a_nul, h1, i20, h2, d157 L1, z_00]
