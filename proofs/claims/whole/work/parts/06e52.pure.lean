theorem dg_lt (m c : Nat) : dg m c < 4 := Nat.mod_lt _ (by decide)
theorem two_c {c : Nat} (hc : c < 6) : ((2 : Int32) * nI c) &&& 31 = nI (2 * c) &&& 31 := by
  rw [show (2 : Int32) = nI 2 from rfl, w_mul]
theorem bt_3 : ∀ j, j < 32 → bt (3 : Int32) j = decide (j < 2) := by decide
theorem c6 (h : A_H) (m : Nat) {c : Nat} (hc : c < 6) : C 6 [.int (nI m), .int (nI c)] h = some (some (some (.int (nI (dg m c)))), h) := by
  rw [e6, b6_0, two_c hc, w_31 (show 2 * c < 32 by omega)]
  refine congrArg (fun x => some (some (some (Value.int x)), h)) ?_
  apply i_ext
  intro j hj
  rw [bt_and, bt_3 j hj, bt_nI _ hj]
  unfold dg
  rw [show (4 : Nat) ^ c = 2 ^ (2 * c) by rw [Nat.pow_mul], show (4 : Nat) = 2 ^ 2 from rfl, Nat.testBit_mod_two_pow, Nat.testBit_div_two_pow]
  by_cases e : j < 2
  · rw [bt_shr _ (by omega) (by omega), bt_nI _ (by omega), dT e, Bool.and_true, Bool.true_and, Nat.add_comm]
  · rw [dF e, Bool.and_false, Bool.false_and]
theorem four_sh {n : Nat} (hn : n ≤ 5) : (1 : Int32) <<< (((2 : Int32) * nI n) &&& 31) = nI (4 ^ n) := by
  have : ∀ n : Fin 6, (1 : Int32) <<< (((2 : Int32) * nI n.val) &&& 31) = nI (4 ^ n.val) := by decide
  exact this ⟨n, by omega⟩
def mc (D : Gh) (c : Nat) : Nat := msk 4 (fun t => ex (D 0 5) (ows D (nI (D 22 c)) (D 23 c) t))
theorem mc_bt {D : Gh} {c t : Nat} (ht : t < 4) : bt (nI (mc D c)) t = myb D c t := by
  unfold mc myb
  rw [bt_msk _ (by omega), dT ht, Bool.true_and, ex_exf]
theorem nc_go {D : Gh} (w : WF D) {k : Nat} (hk : k < D 0 9) : decide (nI (D 0 9) ≤ nI k) = false := by
  have := f_nc w
  rw [dF (by rw [w_le (by omega) (by omega)]; omega)]
theorem nc_stop (D : Gh) : decide (nI (D 0 9) ≤ nI (D 0 9)) = true := dT (Int32.le_refl _)
theorem c5 {h : A_H} {T : Nat} {D : Gh} (L : Ly h) (hT : isT T) (w : WF D) (c : CT h T D) : C 5 [.ref (T + 6), .ref T] h = some (some none, wp h (T + 9) (mc D) (D 0 9)) := by
  have h5 := f_nc w
  rw [e5]
  simp only [b5_0]
  have e0 := loop_ix (fun k => R 5 2 [some (.ref (T + 6)), some (.ref T), some (.int (nI k))] [] (wp h (T + 9) (mc D) k)) (D 0 9) (by
    intro k hk
    have hk5 : k < 5 := by omega
    have L1 : Ly (wp h (T + 9) (mc D) k) := L
    have c1 : CT (wp h (T + 9) (mc D) k) T D := CT_fr w c (fun a b _ _ h3 => by rw [hI_wp, if_neg (fun e => h3 e.1)])
    have hd := f_cd w hk
    have a1 : isA (wp h (T + 9) (mc D) k) (T + 7) 0 (nI k) = true := t_AC L1 hT (i := 0) (by decide) hk5
    have a2 : isA (wp h (T + 9) (mc D) k) (T + 8) 0 (nI k) = true := t_AC L1 hT (i := 1) (by decide) hk5
    have a3 : isA (wp h (T + 9) (mc D) k) (T + 9) 0 (nI k) = true := t_AC L1 hT (i := 2) (by decide) hk5
    have h66 : C 66 [.ref T, .int (nI (D 22 k)), .int (nI (D 23 k))] (wp h (T + 9) (mc D) k) = some (some (some (.int (nI (mc D k)))), wp h (T + 9) (mc D) k) := c66 L1 hT w c1 (nI (D 22 k)) (show D 23 k ≤ 1000 by omega)
    rw [b5_2]
    simp only [cond_true, cond_false, decide_true, Bool.and_true, Bool.true_and, Bool.and_self, Bool.and_false, Bool.false_and, Bool.not_true, Bool.not_false, Bool.or_true, Bool.true_or, Bool.or_false, Bool.false_or, is_some, gd_some, bk_v, bk_u, t_OC L1 hT, c_nc c1, nc_go w hk, t_C3 L1 hT, t_C1 L1 hT, t_C2 L1 hT, a1, a2, a3, w_cl (show k < 2147483648 by omega), c_cm c1 hk, c_cd c1 hk, t_O L1 hT, h66, b5_19, b5_20, w_s]
    rw [wp_s' (S := mc D) (n := k) rfl])
  simp only [wp_0] at e0
  refine Eq.trans e0 ?_
  have L1 : Ly (wp h (T + 9) (mc D) (D 0 9)) := L
  have c1 : CT (wp h (T + 9) (mc D) (D 0 9)) T D := CT_fr w c (fun a b _ _ h3 => by rw [hI_wp, if_neg (fun e => h3 e.1)])
  rw [b5_2]
  simp only [cond_true, cond_false, decide_true, Bool.and_true, Bool.true_and, Bool.and_self, Bool.and_false, Bool.false_and, Bool.not_true, Bool.not_false, Bool.or_true, Bool.true_or, Bool.or_false, Bool.false_or, is_some, gd_some, bk_v, bk_u, t_OC L1 hT, c_nc c1, nc_stop]
theorem c7 {h : A_H} {T : Nat} {D : Gh} (L : Ly h) (hT : isT T) (w : WF D) (c : CT h T D) (hm : ∀ k, k < D 0 9 → hI h (T + 9) k = nI (mc D k)) (m : Nat) : C 7 [.ref (T + 6), .int (nI m)] h = some (some (some (.int (bI (al D 0 (D 0 9) (dg m))))), h) := by
  have h5 := f_nc w
  rw [e7]
  simp only [b7_0]
  have key : ∀ r c0, c0 + r = D 0 9 → ∀ l3 l4, R 7 2 [some (.ref (T + 6)), some (.int (nI m)), some (.int (nI c0)), l3, l4] [] h = some (some (some (.int (bI (al D c0 r (dg m))))), h) := by
    intro r
    induction r with
    | zero =>
      intro c0 hc l3 l4
      have : c0 = D 0 9 := by omega
      subst this
      rw [b7_2]
      simp only [cond_true, cond_false, decide_true, Bool.and_true, Bool.true_and, Bool.and_self, Bool.and_false, Bool.false_and, Bool.not_true, Bool.not_false, Bool.or_true, Bool.true_or, Bool.or_false, Bool.false_or, is_some, gd_some, bk_v, bk_u, t_OC L hT, c_nc c, nc_stop, z_11]; rfl
    | succ r ih =>
      intro c0 hc l3 l4
      have hc0 : c0 < D 0 9 := by omega
      have a3 : isA h (T + 9) 0 (nI c0) = true := t_AC L hT (i := 2) (by decide) (show c0 < 5 by omega)
      have a2 : ∀ b, b < 5 → isA h (T + 8) 0 (nI b) = true := fun b hb => t_AC L hT (i := 1) (by decide) hb
      have hd := dg_lt m c0
      have inn : ∀ f b0, b0 + f = c0 → R 7 23 [some (.ref (T + 6)), some (.int (nI m)), some (.int (nI c0)), some (.int (nI (dg m c0))), some (.int (nI b0))] [] h = some (some (some (.int (bI (!exf (dpl D (dg m) c0) f b0 && al D (c0 + 1) r (dg m))))), h) := by
        intro f
        induction f with
        | zero =>
          intro b0 hb
          have : b0 = c0 := by omega
          subst this
          rw [b7_23, dT (Int32.le_refl _), cond_true, w_s, ih (b0 + 1) (by omega)]
          rfl
        | succ f ihf =>
          intro b0 hb
          have hb0 : b0 < D 0 9 := by omega
          have k1 := f_cd w hb0
          have k2 := f_cd w hc0
          have k3 := dg_lt m b0
          rw [b7_23, dF (show ¬ nI c0 ≤ nI b0 by rw [w_le (by omega) (by omega)]; omega)]
          simp only [cond_true, cond_false, decide_true, Bool.and_true, Bool.true_and, Bool.and_self, Bool.and_false, Bool.false_and, Bool.not_true, Bool.not_false, Bool.or_true, Bool.true_or, Bool.or_false, Bool.false_or, is_some, gd_some, bk_v, bk_u, t_OC L hT, t_C2 L hT, a2 b0 (by omega), a2 c0 (by omega), w_cl (show b0 < 2147483648 by omega), w_cl (show c0 < 2147483648 by omega), c_cd c hb0, c_cd c hc0, w_eq (show D 23 b0 < 2147483648 by omega) (show D 23 c0 < 2147483648 by omega), c6 h m (show b0 < 6 by omega), b7_38, w_eq (show dg m b0 < 2147483648 by omega) (show dg m c0 < 2147483648 by omega), z_00, w_s]
          rw [ihf (b0 + 1) (by omega), exf_s]
          unfold dpl
          cases decide (D 23 b0 = D 23 c0) <;> cases decide (dg m b0 = dg m c0) <;> rfl
      rw [b7_2]
      simp only [cond_true, cond_false, decide_true, Bool.and_true, Bool.true_and, Bool.and_self, Bool.and_false, Bool.false_and, Bool.not_true, Bool.not_false, Bool.or_true, Bool.true_or, Bool.or_false, Bool.false_or, is_some, gd_some, bk_v, bk_u, t_OC L hT, c_nc c, nc_go w hc0, c6 h m (show c0 < 6 by omega), b7_9, t_C3 L hT, a3, w_cl (show c0 < 2147483648 by omega), hm c0 hc0, btz _ (show dg m c0 < 32 by omega), mc_bt hd, z_00]
      have i0 := inn c0 0 (Nat.zero_add _)
      rw [show nI 0 = 0 from rfl] at i0
      rw [i0, al_s]
      unfold okc
      cases myb D c0 (dg m c0) <;> rfl
  exact key (D 0 9) 0 (Nat.zero_add _) none none
theorem pow4_le {n : Nat} (hn : n ≤ 5) : 4 ^ n ≤ 1024 := Nat.le_trans (Nat.pow_le_pow_right (by decide) hn) (by decide)
theorem c3 {h : A_H} {T : Nat} {D : Gh} (L : Ly h) (hT : isT T) (w : WF D) (c : CT h T D) : C 3 [.ref (T + 6), .ref T] h = some (some (some (.int (nI (tT D g1 (4 ^ D 0 9))))), wp h (T + 9) (mc D) (D 0 9)) := by
  have h5 := f_nc w
  have hp := pow4_le h5
  have L1 : Ly (wp h (T + 9) (mc D) (D 0 9)) := L
  have c1 : CT (wp h (T + 9) (mc D) (D 0 9)) T D := CT_fr w c (fun a b _ _ h3 => by rw [hI_wp, if_neg (fun e => h3 e.1)])
  have m1 : ∀ k, k < D 0 9 → hI (wp h (T + 9) (mc D) (D 0 9)) (T + 9) k = nI (mc D k) := fun k hk => by rw [hI_wp, if_pos ⟨rfl, hk⟩]
  rw [e3]
  simp only [b3_0, b3_3, cond_true, cond_false, decide_true, Bool.and_true, Bool.true_and, Bool.and_self, Bool.and_false, Bool.false_and, Bool.not_true, Bool.not_false, Bool.or_true, Bool.true_or, Bool.or_false, Bool.false_or, is_some, gd_some, bk_v, bk_u, t_OC L hT, c5 L hT w c]
  refine (loop_ix (fun m => R 3 7 [some (.ref (T + 6)), some (.ref T), some (.int (nI (tT D g1 m))), some (.int (nI m))] [] (wp h (T + 9) (mc D) (D 0 9))) (4 ^ D 0 9) ?_).trans ?_
  · intro m hm
    rw [b3_7]
    simp only [cond_true, cond_false, decide_true, Bool.and_true, Bool.true_and, Bool.and_self, Bool.and_false, Bool.false_and, Bool.not_true, Bool.not_false, Bool.or_true, Bool.true_or, Bool.or_false, Bool.false_or, is_some, gd_some, bk_v, bk_u, t_OC L1 hT, c_nc c1, four_sh h5, dF (show ¬ nI (4 ^ D 0 9) ≤ nI m by rw [w_le (by omega) (by omega)]; omega), c7 L1 hT w c1 m1, b3_18, z_0, w_s]
    unfold tT
    rw [sm_s]
    cases al D 0 (D 0 9) (dg m) <;> rfl
  · rw [b3_7]
    simp only [cond_true, cond_false, decide_true, Bool.and_true, Bool.true_and, Bool.and_self, Bool.and_false, Bool.false_and, Bool.not_true, Bool.not_false, Bool.or_true, Bool.true_or, Bool.or_false, Bool.false_or, is_some, gd_some, bk_v, bk_u, t_OC L1 hT, c_nc c1, four_sh h5, dT (Int32.le_refl (nI (4 ^ D 0 9)))]
def cdM (D : Gh) (c n : Nat) : Nat := msk 4 (fun t => decide (0 < tT D (gc c t) n))
theorem cdM_s {D : Gh} {c n : Nat} : nI (cdM D c (n + 1)) = bif al D 0 (D 0 9) (dg n) then nI (cdM D c n) ||| ((1 : Int32) <<< (nI (dg n c) &&& 31)) else nI (cdM D c n) := by
  have hd := dg_lt n c
  have e : ∀ t, tT D (gc c t) (n + 1) = tT D (gc c t) n + bif al D 0 (D 0 9) (dg n) then gc c t (dg n) else 0 := fun t => rfl
  cases ha : al D 0 (D 0 9) (dg n) with
  | false =>
    rw [cond_false]
    unfold cdM
    congr 1
    apply msk_congr
    intro t _
    rw [e, ha]; rfl
  | true =>
    rw [cond_true]
    apply i_ext
    intro j hj
    unfold cdM
    rw [bt_or, bt_msk _ hj, bt_msk _ hj, bt_1 (by omega)]
    simp only [e, ha, cond_true]
    unfold gc
    by_cases e4 : j < 4
    · rw [dT e4, Bool.true_and, Bool.true_and]
      by_cases e5 : dg n c = j
      · rw [dT e5, dT e5.symm, Bool.or_true]; exact dT (Nat.succ_pos _)
      · rw [dF e5, dF (fun c : j = dg n _ => e5 c.symm), Bool.or_false]; rfl
    · rw [dF e4, dF (by omega : ¬ j = dg n c)]; rfl
theorem c4 {h : A_H} {T : Nat} {D : Gh} (L : Ly h) (hT : isT T) (w : WF D) (c : CT h T D) {c0 : Nat} (hc0 : c0 < D 0 9) : C 4 [.ref (T + 6), .ref T, .int (nI c0)] h = some (some (some (.int (nI (cdM D c0 (4 ^ D 0 9))))), wp h (T + 9) (mc D) (D 0 9)) := by
  have h5 := f_nc w
  have hp := pow4_le h5
  have L1 : Ly (wp h (T + 9) (mc D) (D 0 9)) := L
  have c1 : CT (wp h (T + 9) (mc D) (D 0 9)) T D := CT_fr w c (fun a b _ _ h3 => by rw [hI_wp, if_neg (fun e => h3 e.1)])
  have m1 : ∀ k, k < D 0 9 → hI (wp h (T + 9) (mc D) (D 0 9)) (T + 9) k = nI (mc D k) := fun k hk => by rw [hI_wp, if_pos ⟨rfl, hk⟩]
  rw [e4]
  simp only [b4_0, b4_3, cond_true, cond_false, decide_true, Bool.and_true, Bool.true_and, Bool.and_self, Bool.and_false, Bool.false_and, Bool.not_true, Bool.not_false, Bool.or_true, Bool.true_or, Bool.or_false, Bool.false_or, is_some, gd_some, bk_v, bk_u, t_OC L hT, c5 L hT w c]
  have z : nI (cdM D c0 0) = 0 := by
    have : cdM D c0 0 = 0 := by
      unfold cdM
      rw [msk_z]
      intro t _
      exact dF (Nat.lt_irrefl 0)
    rw [this]; rfl
  rw [← z]
  refine (loop_ix (fun m => R 4 7 [some (.ref (T + 6)), some (.ref T), some (.int (nI c0)), some (.int (nI (cdM D c0 m))), some (.int (nI m))] [] (wp h (T + 9) (mc D) (D 0 9))) (4 ^ D 0 9) ?_).trans ?_
  · intro m hm
    rw [b4_7]
    simp only [cond_true, cond_false, decide_true, Bool.and_true, Bool.true_and, Bool.and_self, Bool.and_false, Bool.false_and, Bool.not_true, Bool.not_false, Bool.or_true, Bool.true_or, Bool.or_false, Bool.false_or, is_some, gd_some, bk_v, bk_u, t_OC L1 hT, c_nc c1, four_sh h5, dF (show ¬ nI (4 ^ D 0 9) ≤ nI m by rw [w_le (by omega) (by omega)]; omega), c7 L1 hT w c1 m1, b4_18, z_0, c6 _ m (show c0 < 6 by omega), b4_24, w_s]
    rw [cdM_s]
    cases al D 0 (D 0 9) (dg m) <;> rfl
  · rw [b4_7]
    simp only [cond_true, cond_false, decide_true, Bool.and_true, Bool.true_and, Bool.and_self, Bool.and_false, Bool.false_and, Bool.not_true, Bool.not_false, Bool.or_true, Bool.true_or, Bool.or_false, Bool.false_or, is_some, gd_some, bk_v, bk_u, t_OC L1 hT, c_nc c1, four_sh h5, dT (Int32.le_refl (nI (4 ^ D 0 9)))]
theorem FR_may {h : A_H} {T n : Nat} {S : Nat → Nat} (hT : isT T) : FR cq h (wp h (T + 9) S n) := FR_wp (FR_rfl _ h) _ (fun b _ => by unfold cq; rcases hT with rfl | rfl <;> omega)
theorem may_8 {h : A_H} {T n : Nat} {S : Nat → Nat} (hT : isT T) : hI (wp h (T + 9) S n) 0 8 = hI h 0 8 := by rw [hI_wp, if_neg (by omega)]
theorem w_0 (h : A_H) (x : Int32) : hI (wI h 0 8 x) 0 8 = x := by rw [hI_wI, if_pos ⟨rfl, rfl⟩]
theorem le_00 {n : Nat} (hn : n < 1000) : decide (nI n ≤ 0) = decide (n = 0) := by
  rw [show (0 : Int32) = nI 0 from rfl]
  apply decide_eq_decide.mpr
  rw [w_le (by omega) (by omega)]; omega
theorem a117 {h : A_H} {T : Nat} {D : Gh} {S : Nat → Nat} (L : Ly h) (hT : isT T) (w : WF D) (c : CT h T D) (hQ : hP h 0 3 = some T) (s : CS h 77 D S) (u : WD D S) (hst : hI h 0 4 = 1) (h0 : 0 < D 0 9) : Ce 117 [.ref 0] h (nI (tT D g1 (4 ^ D 0 9))) 0 := by
  have L0 : Ly (wI h 0 8 0) := L; have c0 := CT_w0 hT w c 0; have s0 : CS (wI h 0 8 0) 77 D S := CS_w0 s 0; have Q0 : hP (wI h 0 8 0) 0 3 = some T := hQ
  have h5 := f_nc w
  refine ⟨wp (wI h 0 8 0) (T + 9) (mc D) (D 0 9), ?_, FR_tr (FR_0 h 0) (FR_may hT), (may_8 hT).trans (w_0 h 0)⟩
  rw [e117]
  simp only [b117_0, b117_12, b117_18, b117_19, b117_28, hP_wI, isO_wI, isA_wI, cond_true, decide_true, cond_false, Bool.and_true, Bool.true_and, Bool.and_self, Bool.and_false, Bool.false_and, Bool.not_true, Bool.not_false, Bool.or_true, Bool.true_or, Bool.or_false, Bool.false_or, is_some, gd_some, bk_v, bk_u, t_O L hT, t_P9 L hT, t_P10 L hT, t_P11 L hT, t_P12 L hT, t_P13 L hT, t_P14 L hT, t_OC L hT, t_C1 L hT, t_C2 L hT, t_C3 L hT, hQ, x_O L, x_P5 L, x_O77 L, s.1, s.2.1, s.2.2.1, s.2.2.2.1, s.2.2.2.2.1, s0.1, s0.2.1, s0.2.2.1, s0.2.2.2.1, s0.2.2.2.2.1, bI_T, bI_F, i1_0, c_nc c, le_00 (show D 0 9 < 1000 by omega), dF (show ¬ D 0 9 = 0 by omega), c136 L, hst, c135, c134 L, c3 L0 hT w c0]
theorem a117b {h : A_H} {T : Nat} {D : Gh} {S : Nat → Nat} (L : Ly h) (hT : isT T) (w : WF D) (c : CT h T D) (hQ : hP h 0 3 = some T) (s : CS h 77 D S) (u : WD D S) (hb : hI h 0 4 = 0 ∨ hI h 0 4 = 1) (e : hI h 0 4 = 0 ∨ D 0 9 = 0) : Ce 117 [.ref 0] h (-1) (bif decide (hI h 0 4 = 0) then 1 else 6) := by
  have h5 := f_nc w
  apply Ce_of
  rw [e117]
  rcases hb with hb | hb
  · rw [hb]
    by_cases e0 : D 0 9 = 0
    · simp only [b117_0, b117_12, b117_18, b117_19, cond_true, decide_true, cond_false, Bool.and_true, Bool.true_and, Bool.and_self, Bool.and_false, Bool.false_and, Bool.not_true, Bool.not_false, Bool.or_true, Bool.true_or, Bool.or_false, Bool.false_or, is_some, gd_some, bk_v, bk_u, t_O L hT, t_P9 L hT, t_P10 L hT, t_P11 L hT, t_P12 L hT, t_P13 L hT, t_P14 L hT, t_OC L hT, t_C1 L hT, t_C2 L hT, t_C3 L hT, hQ, x_O L, x_P5 L, x_O77 L, s.1, s.2.1, s.2.2.1, s.2.2.2.1, s.2.2.2.2.1, c_nc c, le_00 (show D 0 9 < 1000 by omega), dT e0, c136 L, hb, c135, c134 L, bI_T, i1_0]
    · simp only [b117_0, b117_12, b117_18, b117_19, cond_true, decide_true, cond_false, Bool.and_true, Bool.true_and, Bool.and_self, Bool.and_false, Bool.false_and, Bool.not_true, Bool.not_false, Bool.or_true, Bool.true_or, Bool.or_false, Bool.false_or, is_some, gd_some, bk_v, bk_u, t_O L hT, t_P9 L hT, t_P10 L hT, t_P11 L hT, t_P12 L hT, t_P13 L hT, t_P14 L hT, t_OC L hT, t_C1 L hT, t_C2 L hT, t_C3 L hT, hQ, x_O L, x_P5 L, x_O77 L, s.1, s.2.1, s.2.2.1, s.2.2.2.1, s.2.2.2.2.1, c_nc c, le_00 (show D 0 9 < 1000 by omega), dF e0, c136 L, hb, c135, c134 L, bI_T, i1_0]
  · rw [hb] at e ⊢
    have e0 : D 0 9 = 0 := by
      rcases e with e | e
      · exact absurd e (by decide)
      · exact e
    simp only [b117_0, b117_12, b117_18, b117_19, cond_true, decide_true, cond_false, Bool.and_true, Bool.true_and, Bool.and_self, Bool.and_false, Bool.false_and, Bool.not_true, Bool.not_false, Bool.or_true, Bool.true_or, Bool.or_false, Bool.false_or, is_some, gd_some, bk_v, bk_u, t_O L hT, t_P9 L hT, t_P10 L hT, t_P11 L hT, t_P12 L hT, t_P13 L hT, t_P14 L hT, t_OC L hT, t_C1 L hT, t_C2 L hT, t_C3 L hT, hQ, x_O L, x_P5 L, x_O77 L, s.1, s.2.1, s.2.2.1, s.2.2.2.1, s.2.2.2.2.1, c_nc c, le_00 (show D 0 9 < 1000 by omega), dT e0, c136 L, hb, c135, c134 L, bI_T, i1_0]
    rfl
theorem a118 {h : A_H} {T : Nat} {D : Gh} {S : Nat → Nat} (L : Ly h) (hT : isT T) (w : WF D) (c : CT h T D) (hQ : hP h 0 3 = some T) (s : CS h 77 D S) (u : WD D S) {k : Nat} (hk : k < D 0 9) : Ce 118 [.ref 0, .int (nI k)] h (nI (cdM D k (4 ^ D 0 9))) 0 := by
  have L0 : Ly (wI h 0 8 0) := L; have c0 := CT_w0 hT w c 0; have s0 : CS (wI h 0 8 0) 77 D S := CS_w0 s 0; have Q0 : hP (wI h 0 8 0) 0 3 = some T := hQ
  have h5 := f_nc w
  refine ⟨wp (wI h 0 8 0) (T + 9) (mc D) (D 0 9), ?_, FR_tr (FR_0 h 0) (FR_may hT), (may_8 hT).trans (w_0 h 0)⟩
  rw [e118]
  simp only [b118_0, b118_4, b118_5, b118_15, hP_wI, isO_wI, isA_wI, cond_true, decide_true, cond_false, Bool.and_true, Bool.true_and, Bool.and_self, Bool.and_false, Bool.false_and, Bool.not_true, Bool.not_false, Bool.or_true, Bool.true_or, Bool.or_false, Bool.false_or, is_some, gd_some, bk_v, bk_u, t_O L hT, t_P9 L hT, t_P10 L hT, t_P11 L hT, t_P12 L hT, t_P13 L hT, t_P14 L hT, t_OC L hT, t_C1 L hT, t_C2 L hT, t_C3 L hT, hQ, x_O L, x_P5 L, x_O77 L, s.1, s.2.1, s.2.2.1, s.2.2.2.1, s.2.2.2.2.1, s0.1, s0.2.1, s0.2.2.1, s0.2.2.2.1, s0.2.2.2.2.1, bI_T, bI_F, i1_0, c140 L hT w c hQ s u, gv_0 (show D 0 9 < 1000 by omega) hk, c134 L, c4 L0 hT w c0 hk]
theorem a118b {h : A_H} {T : Nat} {D : Gh} {S : Nat → Nat} (L : Ly h) (hT : isT T) (w : WF D) (c : CT h T D) (hQ : hP h 0 3 = some T) (s : CS h 77 D S) (u : WD D S) {x : Int32} (e : vd (D 0 9) x = false) : Ce 118 [.ref 0, .int x] h (-1) 1 := by
  apply Ce_of
  rw [e118]
  simp only [b118_0, b118_4, b118_5, cond_true, decide_true, cond_false, Bool.and_true, Bool.true_and, Bool.and_self, Bool.and_false, Bool.false_and, Bool.not_true, Bool.not_false, Bool.or_true, Bool.true_or, Bool.or_false, Bool.false_or, is_some, gd_some, bk_v, bk_u, t_O L hT, t_P9 L hT, t_P10 L hT, t_P11 L hT, t_P12 L hT, t_P13 L hT, t_P14 L hT, t_OC L hT, t_C1 L hT, t_C2 L hT, t_C3 L hT, hQ, x_O L, x_P5 L, x_O77 L, s.1, s.2.1, s.2.2.1, s.2.2.2.1, s.2.2.2.2.1, c140 L hT w c hQ s u, gv_1 e, c134 L, bI_T, i1_0]
def suV (D : Gh) (k : Nat) : Int32 := oI (fsm (fun t => decide (nI (cdM D k (4 ^ D 0 9)) = (1 : Int32) <<< (nI t &&& 31))) (D 0 3) 0)
theorem a119 {h : A_H} {T : Nat} {D : Gh} {S : Nat → Nat} (L : Ly h) (hT : isT T) (w : WF D) (c : CT h T D) (hQ : hP h 0 3 = some T) (s : CS h 77 D S) (u : WD D S) {k : Nat} (hk : k < D 0 9) : Ce 119 [.ref 0, .int (nI k)] h (suV D k) 0 := by
  have L0 : Ly (wI h 0 8 0) := L; have c0 := CT_w0 hT w c 0; have s0 : CS (wI h 0 8 0) 77 D S := CS_w0 s 0; have Q0 : hP (wI h 0 8 0) 0 3 = some T := hQ
  have h5 := f_nc w
  have h4 := f_nt w
  refine ⟨wp (wI h 0 8 0) (T + 9) (mc D) (D 0 9), ?_, FR_tr (FR_0 h 0) (FR_may hT), (may_8 hT).trans (w_0 h 0)⟩
  have L1 : Ly (wp (wI h 0 8 0) (T + 9) (mc D) (D 0 9)) := L
  have c1 : CT (wp (wI h 0 8 0) (T + 9) (mc D) (D 0 9)) T D := CT_fr w c0 (fun a b _ _ h3 => by rw [hI_wp, if_neg (fun e => h3 e.1)])
  have Q1 : hP (wp (wI h 0 8 0) (T + 9) (mc D) (D 0 9)) 0 3 = some T := hQ
  rw [e119]
  simp only [b119_0, b119_4, b119_5, b119_15, hP_wI, isO_wI, isA_wI, cond_true, decide_true, cond_false, Bool.and_true, Bool.true_and, Bool.and_self, Bool.and_false, Bool.false_and, Bool.not_true, Bool.not_false, Bool.or_true, Bool.true_or, Bool.or_false, Bool.false_or, is_some, gd_some, bk_v, bk_u, t_O L hT, t_P9 L hT, t_P10 L hT, t_P11 L hT, t_P12 L hT, t_P13 L hT, t_P14 L hT, t_OC L hT, t_C1 L hT, t_C2 L hT, t_C3 L hT, hQ, x_O L, x_P5 L, x_O77 L, s.1, s.2.1, s.2.2.1, s.2.2.2.1, s.2.2.2.2.1, s0.1, s0.2.1, s0.2.2.1, s0.2.2.2.1, s0.2.2.2.2.1, bI_T, bI_F, i1_0, c140 L hT w c hQ s u, gv_0 (show D 0 9 < 1000 by omega) hk, c134 L, c4 L0 hT w c0 hk]
  have key : ∀ f t, t + f = D 0 3 → R 119 18 [some (.ref 0), some (.int (nI k)), some (.int (nI (cdM D k (4 ^ D 0 9)))), some (.int (nI t))] [] (wp (wI h 0 8 0) (T + 9) (mc D) (D 0 9)) = some (some (some (.int (oI (fsm (fun t => decide (nI (cdM D k (4 ^ D 0 9)) = (1 : Int32) <<< (nI t &&& 31))) f t)))), wp (wI h 0 8 0) (T + 9) (mc D) (D 0 9)) := by
    intro f
    induction f with
    | zero =>
      intro t ht
      have : t = D 0 3 := by omega
      subst this
      rw [b119_18]
      simp only [cond_true, cond_false, decide_true, Bool.and_true, Bool.true_and, Bool.and_self, Bool.and_false, Bool.false_and, Bool.not_true, Bool.not_false, Bool.or_true, Bool.true_or, Bool.or_false, Bool.false_or, is_some, gd_some, bk_v, bk_u, x_O L1, Q1, t_O L1 hT, c_s3 c1, t_stop w]; rfl
    | succ f ih =>
      intro t ht
      rw [b119_18]
      simp only [cond_true, cond_false, decide_true, Bool.and_true, Bool.true_and, Bool.and_self, Bool.and_false, Bool.false_and, Bool.not_true, Bool.not_false, Bool.or_true, Bool.true_or, Bool.or_false, Bool.false_or, is_some, gd_some, bk_v, bk_u, x_O L1, Q1, t_O L1 hT, c_s3 c1, t_end w (show t < D 0 3 by omega), w_s]
      rw [ih (t + 1) (by omega), fsm_s]
      cases decide (nI (cdM D k (4 ^ D 0 9)) = (1 : Int32) <<< (nI t &&& 31)) <;> rfl
  exact key (D 0 3) 0 (Nat.zero_add _)
theorem a119b {h : A_H} {T : Nat} {D : Gh} {S : Nat → Nat} (L : Ly h) (hT : isT T) (w : WF D) (c : CT h T D) (hQ : hP h 0 3 = some T) (s : CS h 77 D S) (u : WD D S) {x : Int32} (e : vd (D 0 9) x = false) : Ce 119 [.ref 0, .int x] h (-1) 1 := by
  apply Ce_of
  rw [e119]
  simp only [b119_0, b119_4, b119_5, cond_true, decide_true, cond_false, Bool.and_true, Bool.true_and, Bool.and_self, Bool.and_false, Bool.false_and, Bool.not_true, Bool.not_false, Bool.or_true, Bool.true_or, Bool.or_false, Bool.false_or, is_some, gd_some, bk_v, bk_u, t_O L hT, t_P9 L hT, t_P10 L hT, t_P11 L hT, t_P12 L hT, t_P13 L hT, t_P14 L hT, t_OC L hT, t_C1 L hT, t_C2 L hT, t_C3 L hT, hQ, x_O L, x_P5 L, x_O77 L, s.1, s.2.1, s.2.2.1, s.2.2.2.1, s.2.2.2.2.1, c140 L hT w c hQ s u, gv_1 e, c134 L, bI_T, i1_0]
theorem y_P28 {h : A_H} (L : Ly h) : hP h 124 28 = some 131 := ly_P L rfl
theorem y_P29 {h : A_H} (L : Ly h) : hP h 124 29 = some 132 := ly_P L rfl
theorem y_A131 {h : A_H} {k : Nat} (L : Ly h) (hk : k < 5) : isA h 131 0 (nI k) = true := ly_A L (by decide) rfl hk (by decide)
theorem y_A132 {h : A_H} {k : Nat} (L : Ly h) (hk : k < 5) : isA h 132 0 (nI k) = true := ly_A L (by decide) rfl hk (by decide)
theorem d257 {h : A_H} {B : Nat} {D : Gh} {S : Nat → Nat} (L : Ly h) (hB : hP h 124 3 = some B) (l : ML h B) (w : WF D) (b : MB h B D) (u : WD D S) (r : RW h 126 S) {c t : Nat} (hc : c < D 0 9) (ht : t < 1000) : C 257 [.ref 124, .int (nI c), .int (nI t)] h = some (some (some (.int (bI (myb D c t)))), h) := by
  have h8 := f_nG w
  have h5 := f_nc w
  have h4 := f_nt w
  have hcd := f_cd w hc
  rw [e257]
  simp only [b257_0]
  have key : ∀ f g, g + f = D 0 5 → R 257 2 [some (.ref 124), some (.int (nI c)), some (.int (nI t)), some (.int (nI g))] [] h = some (some (some (.int (bI (exf (ows D (nI (D 22 c)) (D 23 c) t) f g)))), h) := by
    intro f
    induction f with
    | zero =>
      intro g hg
      have : g = D 0 5 := by omega
      subst this
      rw [b257_2]
      simp only [cond_true, cond_false, decide_true, Bool.and_true, Bool.true_and, Bool.and_self, Bool.and_false, Bool.false_and, Bool.not_true, Bool.not_false, Bool.or_true, Bool.true_or, Bool.or_false, Bool.false_or, is_some, gd_some, bk_v, bk_u, hB, y_124 L, mB_O l, m_p11 l, m_p12 l, m_p13 l, m_p14 l, m_p15 l, m_p16 l, m_p17 l, m_p18 l, m_p19 l, m_p20 l, m_p21 l, m_p22 l, m_p23 l, m_p24 l, m_p25 l, m_p26 l, m_p27 l, m_p28 l, m_p29 l, m_p30 l, m_p31 l, m_p32 l, m_p33 l, m_p34 l, b_s5 b, g_stop w, z_00]; rfl
    | succ f ih =>
      intro g hg
      have hg5 : g < D 0 5 := by omega
      have hg8 : g < 8 := by omega
      have ha := f_age w hg5
      have ho := f_own w hg5
      rw [b257_2]
      simp only [cond_true, cond_false, decide_true, Bool.and_true, Bool.true_and, Bool.and_self, Bool.and_false, Bool.false_and, Bool.not_true, Bool.not_false, Bool.or_true, Bool.true_or, Bool.or_false, Bool.false_or, is_some, gd_some, bk_v, bk_u, hB, y_124 L, mB_O l, m_p11 l, m_p12 l, m_p13 l, m_p14 l, m_p15 l, m_p16 l, m_p17 l, m_p18 l, m_p19 l, m_p20 l, m_p21 l, m_p22 l, m_p23 l, m_p24 l, m_p25 l, m_p26 l, m_p27 l, m_p28 l, m_p29 l, m_p30 l, m_p31 l, m_p32 l, m_p33 l, m_p34 l, b_s5 b, g_go w hg5, mA_12 l hg8, mA_11 l hg8, mA_13 l hg8, mA_20 l (show c < 5 by omega), mA_21 l (show c < 5 by omega), w_cl (show g < 2147483648 by omega), w_cl (show c < 2147483648 by omega), b_owner b hg5, b_by b hg5, b_age b hg5, b_cm b hc, b_cd b hc, w_eq (show D 14 g < 2147483648 by omega) (show t < 2147483648 by omega), nI_add, d152 L hB l (Or.inl rfl) w b (WS_S w u) r hg5 (show D 15 g + D 23 c ≤ 2000 by omega), b257_41, z_0, z_11, w_s]
      rw [ih (g + 1) (by omega), exf_s]
      unfold ows
      cases decide (D 14 g = t) <;> cases decide (byI D g = nI (D 22 c)) <;> cases tur D g (D 15 g + D 23 c) <;> rfl
  exact key (D 0 5) 0 (Nat.zero_add _)
theorem d258 {h : A_H} {B : Nat} {D : Gh} {S : Nat → Nat} (L : Ly h) (hB : hP h 124 3 = some B) (l : ML h B) (w : WF D) (b : MB h B D) (u : WD D S) (r : RW h 126 S) {c : Nat} {v : Nat → Nat} (hc : c < D 0 9) (hv : ∀ j, j ≤ c → v j < 100) (hr : ∀ j, j ≤ c → hI h 131 j = nI (v j)) : C 258 [.ref 124, .int (nI c)] h = some (some (some (.int (bI (okc D v c)))), h) := by
  have h5 := f_nc w
  have hvc := hv c (Nat.le_refl c)
  have key : ∀ f k, k + f = c → R 258 12 [some (.ref 124), some (.int (nI c)), some (.int (nI k))] [] h = some (some (some (.int (bI (!exf (dpl D v c) f k)))), h) := by
    intro f
    induction f with
    | zero =>
      intro k hk
      have : k = c := by omega
      subst this
      rw [b258_12, dT (Int32.le_refl _), cond_true, z_11]; rfl
    | succ f ih =>
      intro k hk
      have hk9 : k < D 0 9 := by omega
      have hvk := hv k (by omega)
      have k1 := f_cd w hk9
      have k2 := f_cd w hc
      rw [b258_12, dF (show ¬ nI c ≤ nI k by rw [w_le (by omega) (by omega)]; omega)]
      simp only [cond_true, cond_false, decide_true, Bool.and_true, Bool.true_and, Bool.and_self, Bool.and_false, Bool.false_and, Bool.not_true, Bool.not_false, Bool.or_true, Bool.true_or, Bool.or_false, Bool.false_or, is_some, gd_some, bk_v, bk_u, hB, y_124 L, mB_O l, m_p11 l, m_p12 l, m_p13 l, m_p14 l, m_p15 l, m_p16 l, m_p17 l, m_p18 l, m_p19 l, m_p20 l, m_p21 l, m_p22 l, m_p23 l, m_p24 l, m_p25 l, m_p26 l, m_p27 l, m_p28 l, m_p29 l, m_p30 l, m_p31 l, m_p32 l, m_p33 l, m_p34 l, y_P28 L, y_A131 L (show k < 5 by omega), y_A131 L (show c < 5 by omega), w_cl (show k < 2147483648 by omega), w_cl (show c < 2147483648 by omega), hr k (by omega), hr c (Nat.le_refl c), w_eq (show v k < 2147483648 by omega) (show v c < 2147483648 by omega), mA_21 l (show k < 5 by omega), mA_21 l (show c < 5 by omega), b_cd b hk9, b_cd b hc, w_eq (show D 23 k < 2147483648 by omega) (show D 23 c < 2147483648 by omega), z_00, w_s]
      rw [ih (k + 1) (by omega), exf_s]
      unfold dpl
      cases decide (D 23 k = D 23 c) <;> cases decide (v k = v c) <;> rfl
  have i0 := key c 0 (Nat.zero_add _)
  rw [show nI 0 = 0 from rfl] at i0
  rw [e258]
  simp only [b258_0, b258_7, cond_true, cond_false, decide_true, Bool.and_true, Bool.true_and, Bool.and_self, Bool.and_false, Bool.false_and, Bool.not_true, Bool.not_false, Bool.or_true, Bool.true_or, Bool.or_false, Bool.false_or, is_some, gd_some, bk_v, bk_u, y_124 L, y_P28 L, y_A131 L (show c < 5 by omega), w_cl (show c < 2147483648 by omega), hr c (Nat.le_refl c), d257 L hB l w b u r hc (show v c < 1000 by omega), z_0, z_00, i0]
  unfold okc
  cases myb D c (v c) <;> rfl
def fS (D : Gh) (h0 h : A_H) (c : Nat) (v : Nat → Nat) (a : Ac) : Prop := QF h0 h ∧ (∀ j, j < c → hI h 131 j = nI (v j)) ∧ hI h 124 30 = nI a.1 ∧ ∀ k, k < D 0 9 → hI h 132 k = a.2 k
theorem fS_131 {D : Gh} {h0 h : A_H} {c : Nat} {v : Nat → Nat} {a : Ac} (s : fS D h0 h c v a) (j : Nat) (hj : c ≤ j) (x : Int32) : fS D h0 (wI h 131 j x) c v a := ⟨QF_wI s.1 _ (by unfold qs; omega), fun k hk => by rw [hI_wI, if_neg (by omega)]; exact s.2.1 k hk, by rw [hI_wI, if_neg (by omega)]; exact s.2.2.1, fun k hk => by rw [hI_wI, if_neg (by omega)]; exact s.2.2.2 k hk⟩
theorem f22 {h : A_H} (L : Ly h) {c : Nat} (hc : c < 5) {x : Int32} (e : hI h 131 c = x) (l2 : Option Value) : R 259 22 [some (.ref 124), some (.int (nI c)), l2] [] h = R 259 32 [some (.ref 124), some (.int (nI c)), l2] [] (wI h 131 c (x + 1)) := by
  rw [b259_22, dF (w_nn (show c < 2147483648 by omega))]
  simp only [cond_true, cond_false, decide_true, Bool.and_true, Bool.true_and, Bool.and_self, Bool.and_false, Bool.false_and, Bool.not_true, Bool.not_false, Bool.or_true, Bool.true_or, Bool.or_false, Bool.false_or, is_some, gd_some, bk_v, bk_u, y_124 L, y_P28 L, y_A131 L hc, w_cl (show c < 2147483648 by omega), e]
theorem fit {h : A_H} {B : Nat} {D : Gh} {S : Nat → Nat} (L : Ly h) (hB : hP h 124 3 = some B) (l : ML h B) (w : WF D) (b : MB h B D) (u : WD D S) (r : RW h 126 S) (hN : 0 < D 0 9) {h0 : A_H} (q0 : QF h h0) : ∀ r c v, (∀ j, j < c → v j < D 0 3) → c + (r + 1) = D 0 9 → ∀ n t a h1 l2, t + n = D 0 3 → fS D h0 h1 c v a → hI h1 131 c = nI t → ∃ h' l', R 259 32 [some (.ref 124), some (.int (nI c)), l2] [] h1 = R 259 22 [some (.ref 124), some (.int (nI c + (-1))), l'] [] h' ∧ fS D h0 h' c v (fo (stp D r c v) n t a) := by
  have h5 := f_nc w
  have h4 := f_nt w
  intro r
  induction r with
  | zero =>
    intro c v hv hc n
    induction n with
    | zero =>
      intro t a h1 l2 ht s ec
      have : t = D 0 3 := by omega
      subst this
      have q1 := q0.trans' s.1
      have L1 := Ly_QF q1 L
      refine ⟨h1, l2, ?_, s⟩
      rw [b259_32]
      simp only [cond_true, cond_false, decide_true, Bool.and_true, Bool.true_and, Bool.and_self, Bool.and_false, Bool.false_and, Bool.not_true, Bool.not_false, Bool.or_true, Bool.true_or, Bool.or_false, Bool.false_or, is_some, gd_some, bk_v, bk_u, y_124 L1, y_P28 L1, y_A131 L1 (show c < 5 by omega), w_cl (show c < 2147483648 by omega), hB_QF q1 hB, mB_O (ML_QF q1 l), b_s3 (MB_QF q1 l b), ec, t_stop w, dF (show ¬ nI (D 0 3) < nI (D 0 3) by rw [w_lt (by omega) (by omega)]; omega)]
    | succ n ih =>
      intro t a h1 l2 ht s ec
      have q1 := q0.trans' s.1
      have L1 := Ly_QF q1 L
      have l1 := ML_QF q1 l
      have b1 := MB_QF q1 l b
      have h258 := d258 L1 (hB_QF q1 hB) l1 w b1 u (RW_QF q1 r) (c := c) (v := up v c t) (by omega) (fun j hj => by
        by_cases e : j = c
        · rw [e, up_eq]; omega
        · rw [up_ne e]; have := hv j (by omega); omega) (fun j hj => by
        by_cases e : j = c
        · rw [e, up_eq]; exact ec
        · rw [up_ne e]; exact s.2.1 j (by omega))
      rw [b259_32]
      simp only [cond_true, cond_false, decide_true, Bool.and_true, Bool.true_and, Bool.and_self, Bool.and_false, Bool.false_and, Bool.not_true, Bool.not_false, Bool.or_true, Bool.true_or, Bool.or_false, Bool.false_or, is_some, gd_some, bk_v, bk_u, y_124 L1, y_P28 L1, y_A131 L1 (show c < 5 by omega), w_cl (show c < 2147483648 by omega), hB_QF q1 hB, mB_O l1, b_s3 b1, ec, t_end w (show t < D 0 3 by omega), h258, b259_43, z_0, dT (show nI t < nI (D 0 3) by rw [w_lt (by omega) (by omega)]; omega), b_nc b1, w_s, dT (show nI (D 0 9) ≤ nI (c + 1) by rw [w_le (by omega) (by omega)]; omega)]
      rw [fo_s, stp_0]
      cases hk : okc D (up v c t) c with
      | false =>
        simp only [cond_true, cond_false, decide_true, Bool.and_true, Bool.true_and, Bool.and_self, Bool.and_false, Bool.false_and, Bool.not_true, Bool.not_false, Bool.or_true, Bool.true_or, Bool.or_false, Bool.false_or, is_some, gd_some, bk_v, bk_u, b259_52]
        exact ih (t + 1) a _ l2 (by omega) (fS_131 s c (Nat.le_refl c) _) (by rw [hI_wI, if_pos ⟨rfl, rfl⟩])
      | true =>
        simp only [cond_true, cond_false, decide_true, Bool.and_true, Bool.true_and, Bool.and_self, Bool.and_false, Bool.false_and, Bool.not_true, Bool.not_false, Bool.or_true, Bool.true_or, Bool.or_false, Bool.false_or, is_some, gd_some, bk_v, bk_u, b259_83, s.2.2.1, w_s]
       
        have q2 : QF h0 (wI h1 124 30 (nI (a.1 + 1))) := QF_wI s.1 _ (by unfold qs; omega)
        obtain ⟨h2, ⟨j1, j2, j3, j4⟩, e⟩ := loop_inv (α := A_H) (fun k x => QF h0 x ∧ (∀ j, hI x 131 j = hI h1 131 j) ∧ hI x 124 30 = nI (a.1 + 1) ∧ ∀ j, j < D 0 9 → hI x 132 j = if j < k then a.2 j ||| ((1 : Int32) <<< (nI (up v c t j) &&& 31)) else a.2 j) (fun k x => R 259 85 [some (.ref 124), some (.int (nI c)), some (.int (nI k))] [] x) (D 0 9) (by
          intro k x hk i
          obtain ⟨x1, x2, x3, x4⟩ := i
          have qx := q0.trans' x1
          have Lx := Ly_QF qx L
          have er : hI x 131 k = nI (up v c t k) := by
            rw [x2]
            by_cases e : k = c
            · rw [e, up_eq]; exact ec
            · rw [up_ne e]; exact s.2.1 k (by omega)
          have ek := x4 k hk
          rw [if_neg (Nat.lt_irrefl k)] at ek
          rw [b259_85]
          simp only [cond_true, cond_false, decide_true, Bool.and_true, Bool.true_and, Bool.and_self, Bool.and_false, Bool.false_and, Bool.not_true, Bool.not_false, Bool.or_true, Bool.true_or, Bool.or_false, Bool.false_or, is_some, gd_some, bk_v, bk_u, y_124 Lx, hB_QF qx hB, mB_O (ML_QF qx l), b_nc (MB_QF qx l b), nc_go w hk, y_P29 Lx, y_P28 Lx, y_A132 Lx (show k < 5 by omega), y_A131 Lx (show k < 5 by omega), w_cl (show k < 2147483648 by omega), er, ek, b259_103, w_s]
          refine ⟨_, ⟨QF_wI x1 _ (by unfold qs; omega), fun j => ?_, ?_, fun j hj => ?_⟩, rfl⟩
          · rw [hI_wI, if_neg (by omega)]; exact x2 j
          · rw [hI_wI, if_neg (by omega)]; exact x3
          · rw [hI_wI]
            by_cases e : j = k
            · rw [if_pos ⟨rfl, e⟩, if_pos (by omega), e]
            · rw [if_neg (fun c => e c.2), x4 j hj]
              by_cases e2 : j < k
              · rw [if_pos e2, if_pos (by omega)]
              · rw [if_neg e2, if_neg (by omega)]) (wI h1 124 30 (nI (a.1 + 1))) ⟨q2, fun j => by rw [hI_wI, if_neg (by omega)], by rw [hI_wI, if_pos ⟨rfl, rfl⟩], fun j hj => by rw [hI_wI, if_neg (by omega), if_neg (by omega)]; exact s.2.2.2 j hj⟩
        have e : R 259 85 [some (.ref 124), some (.int (nI c)), some (.int 0)] [] (wI h1 124 30 (nI (a.1 + 1))) = R 259 85 [some (.ref 124), some (.int (nI c)), some (.int (nI (D 0 9)))] [] h2 := e
        have qx := q0.trans' j1
        have Lx := Ly_QF qx L
        rw [e, b259_85]
        simp only [cond_true, cond_false, decide_true, Bool.and_true, Bool.true_and, Bool.and_self, Bool.and_false, Bool.false_and, Bool.not_true, Bool.not_false, Bool.or_true, Bool.true_or, Bool.or_false, Bool.false_or, is_some, gd_some, bk_v, bk_u, y_124 Lx, hB_QF qx hB, mB_O (ML_QF qx l), b_nc (MB_QF qx l b), nc_stop]
        rw [f22 Lx (show c < 5 by omega) ((j2 c).trans ec), w_s]
        have s2 : fS D h0 h2 c v (lf (D 0 9) (up v c t) a) := by
          refine ⟨j1, fun j hj => (j2 j).trans (s.2.1 j hj), j3, fun k hk => ?_⟩
          rw [j4 k hk, if_pos hk]
          show _ = if k < D 0 9 then _ else _
          rw [if_pos hk]
        exact ih (t + 1) _ _ _ (by omega) (fS_131 s2 c (Nat.le_refl c) _) (by rw [hI_wI, if_pos ⟨rfl, rfl⟩])
  | succ r ihr =>
    intro c v hv hc n
    induction n with
    | zero =>
      intro t a h1 l2 ht s ec
      have : t = D 0 3 := by omega
      subst this
      have q1 := q0.trans' s.1
      have L1 := Ly_QF q1 L
      refine ⟨h1, l2, ?_, s⟩
      rw [b259_32]
      simp only [cond_true, cond_false, decide_true, Bool.and_true, Bool.true_and, Bool.and_self, Bool.and_false, Bool.false_and, Bool.not_true, Bool.not_false, Bool.or_true, Bool.true_or, Bool.or_false, Bool.false_or, is_some, gd_some, bk_v, bk_u, y_124 L1, y_P28 L1, y_A131 L1 (show c < 5 by omega), w_cl (show c < 2147483648 by omega), hB_QF q1 hB, mB_O (ML_QF q1 l), b_s3 (MB_QF q1 l b), ec, t_stop w, dF (show ¬ nI (D 0 3) < nI (D 0 3) by rw [w_lt (by omega) (by omega)]; omega)]
    | succ n ih =>
      intro t a h1 l2 ht s ec
      have q1 := q0.trans' s.1
      have L1 := Ly_QF q1 L
      have l1 := ML_QF q1 l
      have b1 := MB_QF q1 l b
      have h258 := d258 L1 (hB_QF q1 hB) l1 w b1 u (RW_QF q1 ‹RW h 126 S›) (c := c) (v := up v c t) (by omega) (fun j hj => by
        by_cases e : j = c
        · rw [e, up_eq]; omega
        · rw [up_ne e]; have := hv j (by omega); omega) (fun j hj => by
        by_cases e : j = c
        · rw [e, up_eq]; exact ec
        · rw [up_ne e]; exact s.2.1 j (by omega))
      rw [b259_32]
      simp only [cond_true, cond_false, decide_true, Bool.and_true, Bool.true_and, Bool.and_self, Bool.and_false, Bool.false_and, Bool.not_true, Bool.not_false, Bool.or_true, Bool.true_or, Bool.or_false, Bool.false_or, is_some, gd_some, bk_v, bk_u, y_124 L1, y_P28 L1, y_A131 L1 (show c < 5 by omega), y_A131 L1 (show c + 1 < 5 by omega), w_cl (show c < 2147483648 by omega), w_cl (show c + 1 < 2147483648 by omega), hB_QF q1 hB, mB_O l1, b_s3 b1, ec, t_end w (show t < D 0 3 by omega), h258, b259_43, z_0, dT (show nI t < nI (D 0 3) by rw [w_lt (by omega) (by omega)]; omega), b_nc b1, w_s, dF (show ¬ nI (D 0 9) ≤ nI (c + 1) by rw [w_le (by omega) (by omega)]; omega)]
      rw [fo_s, stp_s]
      cases hk : okc D (up v c t) c with
      | false =>
        simp only [cond_true, cond_false, decide_true, Bool.and_true, Bool.true_and, Bool.and_self, Bool.and_false, Bool.false_and, Bool.not_true, Bool.not_false, Bool.or_true, Bool.true_or, Bool.or_false, Bool.false_or, is_some, gd_some, bk_v, bk_u, b259_52]
        exact ih (t + 1) a _ l2 (by omega) (fS_131 s c (Nat.le_refl c) _) (by rw [hI_wI, if_pos ⟨rfl, rfl⟩])
      | true =>
        simp only [cond_true, cond_false, decide_true, Bool.and_true, Bool.true_and, Bool.and_self, Bool.and_false, Bool.false_and, Bool.not_true, Bool.not_false, Bool.or_true, Bool.true_or, Bool.or_false, Bool.false_or, is_some, gd_some, bk_v, bk_u, b259_76]
        have L1' : Ly (wI h1 131 (c + 1) (-1)) := L1
        rw [f22 L1' (show c + 1 < 5 by omega) (x := -1) (by rw [hI_wI, if_pos ⟨rfl, rfl⟩])]
        have s1 : fS D h0 (wI (wI h1 131 (c + 1) (-1)) 131 (c + 1) (-1 + 1)) (c + 1) (up v c t) a := by
          refine ⟨QF_wI (QF_wI s.1 _ (by unfold qs; omega)) _ (by unfold qs; omega), fun j hj => ?_, ?_, fun k hk => ?_⟩
          · rw [hI_wI, if_neg (by omega), hI_wI, if_neg (by omega)]
            by_cases e : j = c
            · rw [e, up_eq]; exact ec
            · rw [up_ne e]; exact s.2.1 j (by omega)
          · rw [hI_wI, if_neg (by omega), hI_wI, if_neg (by omega)]; exact s.2.2.1
          · rw [hI_wI, if_neg (by omega), hI_wI, if_neg (by omega)]; exact s.2.2.2 k hk
        obtain ⟨h2, l3, e2, s2⟩ := ihr (c + 1) (up v c t) (fun j hj => by
          by_cases e : j = c
          · rw [e, up_eq]; omega
          · rw [up_ne e]; exact hv j (by omega)) (by omega) (D 0 3) 0 a _ l2 (Nat.zero_add _) s1 (by rw [hI_wI, if_pos ⟨rfl, rfl⟩]; rfl)
        rw [e2]
        have qx := q0.trans' s2.1
        have Lx := Ly_QF qx L
        have ecc : hI h2 131 c = nI t := by rw [s2.2.1 c (by omega), up_eq]
        rw [show nI (c + 1) + (-1 : Int32) = nI c by rw [← w_s, Int32.add_assoc, show (1 : Int32) + (-1) = 0 from rfl, Int32.add_zero]]
        rw [f22 Lx (show c < 5 by omega) ecc, w_s]
        have s3 : fS D h0 h2 c v (fo (stp D r (c + 1) (up v c t)) (D 0 3) 0 a) := ⟨s2.1, fun j hj => by rw [s2.2.1 j (by omega), up_ne (by omega)], s2.2.2.1, s2.2.2.2⟩
        exact ih (t + 1) _ _ _ (by omega) (fS_131 s3 c (Nat.le_refl c) _) (by rw [hI_wI, if_pos ⟨rfl, rfl⟩])
theorem d259 {h : A_H} {B : Nat} {D : Gh} {S : Nat → Nat} (L : Ly h) (hB : hP h 124 3 = some B) (l : ML h B) (w : WF D) (b : MB h B D) (u : WD D S) (r : RW h 126 S) (hN : 0 < D 0 9) : ∃ h', C 259 [.ref 124] h = some (some none, h') ∧ QF h h' ∧ hI h' 124 30 = nI (tT D g1 (4 ^ D 0 9)) ∧ ∀ k, k < D 0 9 → hI h' 132 k = nI (cdM D k (4 ^ D 0 9)) := by
  have h5 := f_nc w
  have h4 := f_nt w
  obtain ⟨r0, hr0⟩ : ∃ r0, D 0 9 = r0 + 1 := ⟨D 0 9 - 1, by omega⟩
  have q1 : QF h (wI h 124 30 0) := QF_wI (QF.rfl' h) _ (by unfold qs; omega)
  have L1 : Ly (wI h 124 30 0) := L
  have e0 := loop_ix (fun k => R 259 5 [some (.ref 124), some (.int (nI k)), none] [] (wp (wI h 124 30 0) 132 (fun _ => 0) k)) 5 (by
    intro k hk
    rw [b259_5, show (5 : Int32) = nI 5 from rfl, dF (show ¬ nI 5 ≤ nI k by rw [w_le (by omega) (by omega)]; omega)]
    simp only [cond_true, cond_false, decide_true, Bool.and_true, Bool.true_and, Bool.and_self, Bool.and_false, Bool.false_and, Bool.not_true, Bool.not_false, Bool.or_true, Bool.true_or, Bool.or_false, Bool.false_or, is_some, gd_some, bk_v, bk_u, hP_wp', isO_wp', isA_wp', y_124 L1, y_P29 L1, y_A132 L1 hk, w_cl (show k < 2147483648 by omega), b259_13, w_s]
    rw [wp_s' (v := 0) rfl])
  simp only [wp_0] at e0
  have q2 : QF h (wI (wp (wI h 124 30 0) 132 (fun _ => 0) 5) 131 0 (-1)) := QF_wI (FR_wp (P := qs) q1 _ (fun b _ => by unfold qs; omega)) _ (by unfold qs; omega)
  have L2 := Ly_QF q2 L
  have s0 : fS D h (wI (wI (wp (wI h 124 30 0) 132 (fun _ => 0) 5) 131 0 (-1)) 131 0 (-1 + 1)) 0 (fun _ => 0) (0, fun _ => 0) := by
    refine ⟨QF_wI q2 _ (by unfold qs; omega), fun j hj => absurd hj (Nat.not_lt_zero j), ?_, fun k hk => ?_⟩
    · rw [hI_wI, if_neg (by omega), hI_wI, if_neg (by omega), hI_wp, if_neg (by omega), hI_wI, if_pos ⟨rfl, rfl⟩]; rfl
    · rw [hI_wI, if_neg (by omega), hI_wI, if_neg (by omega), hI_wp, if_pos ⟨rfl, by omega⟩]; rfl
  obtain ⟨h', l', e1, s1⟩ := fit L hB l w b u r hN (QF.rfl' h) r0 0 (fun _ => 0) (fun j hj => absurd hj (Nat.not_lt_zero j)) (by omega) (D 0 3) 0 (0, fun _ => 0) _ none (Nat.zero_add _) s0 (by rw [hI_wI, if_pos ⟨rfl, rfl⟩]; rfl)
  refine ⟨h', ?_, s1.1, ?_, fun k hk => ?_⟩
  · have f := f22 L2 (c := 0) (by decide) (x := -1) (by rw [hI_wI, if_pos ⟨rfl, rfl⟩]) none
    rw [show nI 0 = 0 from rfl] at f e1
    rw [e259]
    simp only [b259_0, b259_3, cond_true, cond_false, decide_true, Bool.and_true, Bool.true_and, Bool.and_self, Bool.and_false, Bool.false_and, Bool.not_true, Bool.not_false, Bool.or_true, Bool.true_or, Bool.or_false, Bool.false_or, is_some, gd_some, bk_v, bk_u, y_124 L]
    refine Eq.trans e0 ?_
    have LL : Ly (wp (wI h 124 30 0) 132 (fun _ => 0) 5) := L
    have yA : isA (wp (wI h 124 30 0) 132 (fun _ => 0) 5) 131 0 0 = true := y_A131 LL (k := 0) (by decide)
    rw [b259_5, show (5 : Int32) = nI 5 from rfl, dT (Int32.le_refl _)]
    simp only [cond_true, cond_false, decide_true, Bool.and_true, Bool.true_and, Bool.and_self, Bool.and_false, Bool.false_and, Bool.not_true, Bool.not_false, Bool.or_true, Bool.true_or, Bool.or_false, Bool.false_or, is_some, gd_some, bk_v, bk_u, y_124 LL, y_P28 LL, yA, show (0 : Int32).toNatClampNeg = 0 from rfl]
    rw [f, e1, b259_22, dT (show (0 : Int32) + (-1) < 0 by decide)]
    rfl
  · rw [s1.2.2.1, fo_1 (fun t a => stp_1 r0 0 (fun _ => 0) t a), tT_E w (g1_c _) hN (fun _ => 0), hr0, Nat.add_sub_cancel]
    simp only [Nat.zero_add]
  · rw [s1.2.2.2 k hk]
    apply i_ext
    intro j hj
    rw [fo_2 (fun t a => stp_2 w rfl hk r0 0 (fun _ => 0) (fun j hj => absurd hj (Nat.not_lt_zero j)) (by omega) t a)]
    have hz : bt (0 : Int32) j = false := BitVec.getLsbD_zero
    rw [hz, Bool.false_or]
    simp only [Nat.zero_add]
    have ht := tT_E w (gc_c (t := j) hk) hN (fun _ => 0)
    rw [show D 0 9 - 1 = r0 by omega] at ht
    rw [← ht]
    unfold cdM
    rw [bt_msk _ hj]
    by_cases e4 : j < 4
    · rw [dT e4, Bool.true_and]
    · have : tT D (gc k j) (4 ^ D 0 9) = 0 := by
        unfold tT
        rw [sm_congr (g := fun _ => 0), sm_zero]
        intro m _
        have := dg_lt m k
        unfold gc
        rw [dF (by omega : ¬ dg m k = j)]
        cases al D 0 (D 0 9) (dg m) <;> rfl
      rw [this, dF e4]; rfl
theorem m260 {h : A_H} {B : Nat} {D : Gh} {S : Nat → Nat} (L : Ly h) (hB : hP h 124 3 = some B) (l : ML h B) (w : WF D) (b : MB h B D) (u : WD D S) (r : RW h 126 S) (hN : 0 < D 0 9) : Qe 260 [.ref 124] h (nI (tT D g1 (4 ^ D 0 9))) 0 := by
  have L1 : Ly (wI h 124 0 0) := L; have hB1 : hP (wI h 124 0 0) 124 3 = some B := hB; have l1 : ML (wI h 124 0 0) B := l; have b1 : MB (wI h 124 0 0) B D := MB_wI l (by decide) b; have r1 : RW (wI h 124 0 0) 126 S := RW_wI (by decide) r
  have h5 := f_nc w
  obtain ⟨h', e, q, e30, e132⟩ := d259 L1 hB1 l1 w b1 u r1 hN
  have q' := (QF_0 h).trans' q
  have L2 := Ly_QF q' L
  refine Qe_of (h' := h') ?_ q'
  have hz : decide (nI (D 0 9) = 0) = false := by
    rw [show (0 : Int32) = nI 0 from rfl]
    exact dF (by rw [w_eq (by omega) (by omega)]; omega)
  rw [e260]
  simp only [b260_0, b260_3, b260_20, b260_24, cond_true, cond_false, decide_true, Bool.and_true, Bool.true_and, Bool.and_self, Bool.and_false, Bool.false_and, Bool.not_true, Bool.not_false, Bool.or_true, Bool.true_or, Bool.or_false, Bool.false_or, is_some, gd_some, bk_v, bk_u, hP_wI, isO_wI, isA_wI, hP_wp, isO_wp, isA_wp, y_124 L, y_P15 L, y_P16 L, hB, va_rf, a_isR, a_nul, mB_O l, b_nc b1, hz, e, y_124 L2, e30, d158 L2]
theorem m260b {h : A_H} {D : Gh} (L : Ly h) (q : Mq h D) (e : hP h 124 3 = none ∨ D 0 9 = 0) : Qe 260 [.ref 124] h (-1) (bif (hP h 124 3).isSome then 6 else 1) := by
  have L1 : Ly (wI h 124 0 0) := L
  refine Qe_of (h' := wI h 124 0 0) ?_ (QF_0 h)
  rw [e260]
  rcases q with ⟨e0, -⟩ | ⟨B, hB, l, b⟩
  · rw [e0]
    simp only [b260_0, b260_3, b260_9, cond_true, cond_false, decide_true, Bool.and_true, Bool.true_and, Bool.and_self, Bool.and_false, Bool.false_and, Bool.not_true, Bool.not_false, Bool.or_true, Bool.true_or, Bool.or_false, Bool.false_or, is_some, gd_some, bk_v, bk_u, isO_wI, y_124 L, hP_wI, e0, va_rf, a_isR, a_nul, d155 L1]; rfl
  · have b1 : MB (wI h 124 0 0) B D := MB_wI l (by decide) b
    have e0 : D 0 9 = 0 := by
      rcases e with e | e
      · rw [hB] at e; cases e
      · exact e
    have hn := b_nc b1
    rw [e0] at hn
    rw [hB]
    simp only [b260_0, b260_3, b260_17, cond_true, cond_false, decide_true, Bool.and_true, Bool.true_and, Bool.and_self, Bool.and_false, Bool.false_and, Bool.not_true, Bool.not_false, Bool.or_true, Bool.true_or, Bool.or_false, Bool.false_or, is_some, gd_some, bk_v, bk_u, isO_wI, y_124 L, hP_wI, hB, va_rf, a_isR, a_nul, mB_O l, hn, show decide (nI 0 = 0) = true from rfl, d155 L1]
theorem q261 {h : A_H} {D : Gh} (L : Ly h) (q : Mq h D) (x : Int32) : C 261 [.ref 124, .int x] h = some (some (some (.int (bI (vd (D 0 9) x)))), h) := by
  rcases q with ⟨e, rfl⟩ | ⟨B, hB, l, b⟩
  · rw [e261, b261_0, y_124 L, e, vd_z]; rfl
  · rw [e261, b261_0]
    simp only [cond_true, cond_false, decide_true, Bool.and_true, Bool.true_and, Bool.and_self, Bool.and_false, Bool.false_and, Bool.not_true, Bool.not_false, Bool.or_true, Bool.true_or, Bool.or_false, Bool.false_or, is_some, gd_some, bk_v, bk_u, hB, y_124 L, mB_O l, m_p11 l, m_p12 l, m_p13 l, m_p14 l, m_p15 l, m_p16 l, m_p17 l, m_p18 l, m_p19 l, m_p20 l, m_p21 l, m_p22 l, m_p23 l, m_p24 l, m_p25 l, m_p26 l, m_p27 l, m_p28 l, m_p29 l, m_p30 l, m_p31 l, m_p32 l, m_p33 l, m_p34 l, b_nc b, va_rf, a_isR, a_nul]
    unfold vd
    cases decide (x < 0) <;> cases decide (nI (D 0 9) ≤ x) <;> rfl
theorem m262 {h : A_H} {B : Nat} {D : Gh} {S : Nat → Nat} (L : Ly h) (hB : hP h 124 3 = some B) (l : ML h B) (w : WF D) (b : MB h B D) (u : WD D S) (r : RW h 126 S) {k : Nat} (hk : k < D 0 9) : Qe 262 [.ref 124, .int (nI k)] h (nI (cdM D k (4 ^ D 0 9))) 0 := by
  have L1 : Ly (wI h 124 0 0) := L; have hB1 : hP (wI h 124 0 0) 124 3 = some B := hB; have l1 : ML (wI h 124 0 0) B := l; have b1 : MB (wI h 124 0 0) B D := MB_wI l (by decide) b; have r1 : RW (wI h 124 0 0) 126 S := RW_wI (by decide) r
  have h5 := f_nc w
  obtain ⟨h', e, q, e30, e132⟩ := d259 L1 hB1 l1 w b1 u r1 (by omega)
  have q' := (QF_0 h).trans' q
  have L2 := Ly_QF q' L
  refine Qe_of (h' := h') ?_ q'
  rw [e262]
  simp only [b262_0, b262_3, b262_6, b262_13, b262_19, cond_true, cond_false, decide_true, Bool.and_true, Bool.true_and, Bool.and_self, Bool.and_false, Bool.false_and, Bool.not_true, Bool.not_false, Bool.or_true, Bool.true_or, Bool.or_false, Bool.false_or, is_some, gd_some, bk_v, bk_u, hP_wI, isO_wI, isA_wI, hP_wp, isO_wp, isA_wp, y_124 L, y_P15 L, y_P16 L, hB, q261 L1 (Or.inr ⟨B, hB1, l1, b1⟩), vd_of (show D 0 9 < 2147483648 by omega) hk, bI_T, i1_0, e, y_124 L2, y_P29 L2, y_A132 L2 (show k < 5 by omega), w_cl (show k < 2147483648 by omega), e132 k hk, d158 L2]
theorem m262b {h : A_H} {D : Gh} (L : Ly h) (q : Mq h D) {x : Int32} (e : vd (D 0 9) x = false) : Qe 262 [.ref 124, .int x] h (-1) 1 := by
  have L1 : Ly (wI h 124 0 0) := L
  refine Qe_of (h' := wI h 124 0 0) ?_ (QF_0 h)
  rw [e262]
  simp only [b262_0, b262_3, b262_6, b262_10, cond_true, cond_false, decide_true, Bool.and_true, Bool.true_and, Bool.and_self, Bool.and_false, Bool.false_and, Bool.not_true, Bool.not_false, Bool.or_true, Bool.true_or, Bool.or_false, Bool.false_or, is_some, gd_some, bk_v, bk_u, isO_wI, y_124 L, q261 L1 (Mq_wI (by decide) q), e, bI_F, d155 L1]
theorem m263 {h : A_H} {B : Nat} {D : Gh} {S : Nat → Nat} (L : Ly h) (hB : hP h 124 3 = some B) (l : ML h B) (w : WF D) (b : MB h B D) (u : WD D S) (r : RW h 126 S) {k : Nat} (hk : k < D 0 9) : Qe 263 [.ref 124, .int (nI k)] h (suV D k) 0 := by
  have L1 : Ly (wI h 124 0 0) := L; have hB1 : hP (wI h 124 0 0) 124 3 = some B := hB; have l1 : ML (wI h 124 0 0) B := l; have b1 : MB (wI h 124 0 0) B D := MB_wI l (by decide) b; have r1 : RW (wI h 124 0 0) 126 S := RW_wI (by decide) r
  have h5 := f_nc w
  have h4 := f_nt w
  obtain ⟨h', e, q, e30, e132⟩ := d259 L1 hB1 l1 w b1 u r1 (by omega)
  have q' := (QF_0 h).trans' q
  have L2 := Ly_QF q' L
  refine Qe_of (h' := h') ?_ q'
  have key : ∀ f t, t + f = D 0 3 → R 263 15 [some (.ref 124), some (.int (nI k)), some (.int (nI t))] [] h' = some (some (some (.int (oI (fsm (fun t => decide (nI (cdM D k (4 ^ D 0 9)) = (1 : Int32) <<< (nI t &&& 31))) f t)))), wI (wI h' 124 1 0) 124 2 (-1)) := by
    intro f
    induction f with
    | zero =>
      intro t ht
      have : t = D 0 3 := by omega
      subst this
      rw [b263_15]
      simp only [cond_true, cond_false, decide_true, Bool.and_true, Bool.true_and, Bool.and_self, Bool.and_false, Bool.false_and, Bool.not_true, Bool.not_false, Bool.or_true, Bool.true_or, Bool.or_false, Bool.false_or, is_some, gd_some, bk_v, bk_u, y_124 L2, hB_QF q' hB, mB_O (ML_QF q' l), b_s3 (MB_QF q' l b), t_stop w, d158 L2, b263_37]; rfl
    | succ f ih =>
      intro t ht
      rw [b263_15]
      simp only [cond_true, cond_false, decide_true, Bool.and_true, Bool.true_and, Bool.and_self, Bool.and_false, Bool.false_and, Bool.not_true, Bool.not_false, Bool.or_true, Bool.true_or, Bool.or_false, Bool.false_or, is_some, gd_some, bk_v, bk_u, y_124 L2, hB_QF q' hB, mB_O (ML_QF q' l), b_s3 (MB_QF q' l b), t_end w (show t < D 0 3 by omega), y_P29 L2, y_A132 L2 (show k < 5 by omega), w_cl (show k < 2147483648 by omega), e132 k hk, d158 L2, b263_31, w_s]
      rw [ih (t + 1) (by omega), fsm_s]
      cases decide (nI (cdM D k (4 ^ D 0 9)) = (1 : Int32) <<< (nI t &&& 31)) <;> rfl
  rw [e263]
  simp only [b263_0, b263_3, b263_6, b263_13, cond_true, cond_false, decide_true, Bool.and_true, Bool.true_and, Bool.and_self, Bool.and_false, Bool.false_and, Bool.not_true, Bool.not_false, Bool.or_true, Bool.true_or, Bool.or_false, Bool.false_or, is_some, gd_some, bk_v, bk_u, hP_wI, isO_wI, isA_wI, hP_wp, isO_wp, isA_wp, y_124 L, y_P15 L, y_P16 L, hB, q261 L1 (Or.inr ⟨B, hB1, l1, b1⟩), vd_of (show D 0 9 < 2147483648 by omega) hk, bI_T, i1_0, e]
  exact key (D 0 3) 0 (Nat.zero_add _)
theorem m263b {h : A_H} {D : Gh} (L : Ly h) (q : Mq h D) {x : Int32} (e : vd (D 0 9) x = false) : Qe 263 [.ref 124, .int x] h (-1) 1 := by
  have L1 : Ly (wI h 124 0 0) := L
  refine Qe_of (h' := wI h 124 0 0) ?_ (QF_0 h)
  rw [e263]
  simp only [b263_0, b263_3, b263_6, b263_10, cond_true, cond_false, decide_true, Bool.and_true, Bool.true_and, Bool.and_self, Bool.and_false, Bool.false_and, Bool.not_true, Bool.not_false, Bool.or_true, Bool.true_or, Bool.or_false, Bool.false_or, is_some, gd_some, bk_v, bk_u, isO_wI, y_124 L, q261 L1 (Mq_wI (by decide) q), e, bI_F, d155 L1]
theorem l_eq {a b : Nat} (ha : a < 9223372036854775808) (hb : b < 9223372036854775808) : nL a = nL b ↔ a = b := by
  constructor
  · intro e
    have := congrArg Int64.toInt e
    rw [l_int ha, l_int hb] at this; omega
  · intro e; rw [e]
theorem l_lt {a b : Nat} (ha : a < 9223372036854775808) (hb : b < 9223372036854775808) : nL a < nL b ↔ a < b := by
  rw [Int64.lt_iff_toInt_lt, l_int ha, l_int hb]; omega
theorem lg0 {y : Nat} (hy : y < 9223372036854775808) : decide (lg_cmp (nL y) 0 = 0) = decide (y = 0) := by
  unfold lg_cmp
  rw [show (0 : Int64) = nL 0 from rfl]
  by_cases e : y = 0
  · subst e
    rw [if_neg (show ¬ nL 0 > nL 0 from fun c => by rw [gt_iff_lt, l_lt (by decide) (by decide)] at c; omega), if_pos rfl]; rfl
  · rw [if_pos (show nL y > nL 0 by rw [gt_iff_lt, l_lt (by decide) hy]; omega), dF e]; rfl
theorem l0 {y : Nat} (hy : y < 9223372036854775808) : decide (nL y = 0) = decide (y = 0) := by
  rw [show (0 : Int64) = nL 0 from rfl]
  simp only [l_eq hy (show 0 < 9223372036854775808 by decide)]
theorem gcd_st {x y : Nat} : Nat.gcd y (x % y) = Nat.gcd x y := by
  rw [Nat.gcd_comm y, ← Nat.gcd_rec, Nat.gcd_comm]
theorem d163 (h : A_H) {x y : Nat} (hx : x < 9223372036854775808) (hy : y < 9223372036854775808) : C 163 [.long (nL x), .long (nL y)] h = some (some (some (.long (nL (Nat.gcd x y)))), h) := by
  have key : ∀ f y x, y < f → x < 9223372036854775808 → y < 9223372036854775808 → ∀ a b l8 l9, R 163 4 [some (.long a), none, some (.long b), none, some (.long (nL x)), none, some (.long (nL y)), none, l8, l9] [] h = some (some (some (.long (nL (Nat.gcd x y)))), h) := by
    intro f
    induction f with
    | zero => intro y x hf; omega
    | succ f ih =>
      intro y x hf hx hy a b l8 l9
      rw [b163_4, lg0 hy, l0 hy, l_mod hx hy]
      by_cases e : y = 0
      · subst e; rw [dT rfl, Nat.gcd_zero_right]; rfl
      · have := Nat.mod_lt x (show 0 < y by omega)
        rw [dF e, ih (x % y) y (by omega) hy (by omega), gcd_st]
        rfl
  rw [e163]
  simp only [b163_0]
  exact key (y + 1) y x (by omega) hx hy _ _ _ _
theorem c121 (h : A_H) {x y : Nat} (hx : x < 9223372036854775808) (hy : y < 2 ^ 40) (h0 : 0 < y) : C 121 [.long (nL x), .long (nL y)] h = some (some (some (.long (nL (Nat.gcd x y)))), h) := by
  have key : ∀ k y x i, y < 2 ^ k → k ≤ 40 → i + 2 * k ≤ 200 → x < 9223372036854775808 → y < 9223372036854775808 → ∀ a b l9 l10, R 121 6 [some (.long a), none, some (.long b), none, some (.long (nL x)), none, some (.long (nL y)), none, some (.int (nI i)), l9, l10] [] h = some (some (some (.long (if nL (Nat.gcd x y) < 1 then 1 else nL (Nat.gcd x y)))), h) := by
    intro k
    induction k with
    | zero =>
      intro y x i hk _ _ hx hy a b l9 l10
      have : y = 0 := by rw [Nat.pow_zero] at hk; omega
      subst this
      rw [b121_6, lg0 hy, dT rfl, Nat.gcd_zero_right]
      cases decide ((200 : Int32) ≤ nI i) <;> rfl
    | succ k ih =>
      intro y x i hk h40 hi hx hy a b l9 l10
      rw [Nat.pow_succ] at hk
      have n200 : ∀ j, j < 200 → decide ((200 : Int32) ≤ nI j) = false := fun j hj => by
        rw [show (200 : Int32) = nI 200 from rfl]; exact dF (by rw [w_le (by omega) (by omega)]; omega)
      rw [b121_6, n200 i (by omega), lg0 hy, l0 hy, l_mod hx hy]
      by_cases e : y = 0
      · subst e; rw [dT rfl, Nat.gcd_zero_right]; rfl
      · have hm := Nat.mod_lt x (show 0 < y by omega)
        rw [dF e, ← gcd_st (x := x) (y := y)]
        simp only [cond_true, cond_false, decide_true, Bool.and_true, Bool.true_and, Bool.and_self, Bool.and_false, Bool.false_and, Bool.not_true, Bool.not_false, Bool.or_true, Bool.true_or, Bool.or_false, Bool.false_or, is_some, gd_some, bk_v, bk_u, w_s]
        rw [b121_6, n200 (i + 1) (by omega), lg0 (by omega), l0 (by omega), l_mod hy (by omega)]
        by_cases e2 : x % y = 0
        · rw [dT e2, e2, Nat.gcd_zero_right]; rfl
        · have hm2 := Nat.mod_lt y (show 0 < x % y by omega)
          have hhalf : y % (x % y) < 2 ^ k := by
            by_cases c : x % y ≤ y / 2
            · omega
            · have : y % (x % y) = y - x % y := by
                rw [Nat.mod_eq_sub_mod (by omega), Nat.mod_eq_of_lt (by omega)]
              omega
          rw [dF e2, ← gcd_st (x := y) (y := x % y)]
          simp only [cond_true, cond_false, decide_true, Bool.and_true, Bool.true_and, Bool.and_self, Bool.and_false, Bool.false_and, Bool.not_true, Bool.not_false, Bool.or_true, Bool.true_or, Bool.or_false, Bool.false_or, is_some, gd_some, bk_v, bk_u, w_s]
          exact ih (y % (x % y)) (x % y) (i + 2) hhalf (by omega) (by omega) (by omega) (by omega) _ _ _ _
  have hy' : y < 9223372036854775808 := Nat.lt_of_lt_of_le hy (by decide)
  have hg : 0 < Nat.gcd x y := Nat.gcd_pos_of_pos_right _ h0
  have hgy : Nat.gcd x y ≤ y := Nat.gcd_le_right _ h0
  rw [e121]
  simp only [b121_0]
  refine (key 40 y x 0 hy (by decide) (by decide) hx hy' _ _ _ _).trans ?_
  rw [if_neg (show ¬ nL (Nat.gcd x y) < 1 from fun c => by rw [show (1 : Int64) = nL 1 from rfl, l_lt (by omega) (by decide)] at c; omega)]
def abv (D : Gh) (x n : Nat) : Nat := x * (100 + D 0 1) ^ n
def blw (n : Nat) : Nat := 100 ^ n
def owV (D : Gh) (x n : Nat) (lo : Bool) : Nat := (bif lo then blw n else abv D x n) / Nat.gcd (abv D x n) (blw n)
theorem abv_le {D : Gh} (w : WF D) {x n : Nat} (hx : x < 1000) (hn : n ≤ 5) : abv D x n ≤ 999 * 75937500000 := by
  have h1 := f_int w
  unfold abv
  refine Nat.mul_le_mul (by omega) ?_
  exact Nat.le_trans (Nat.pow_le_pow_left (show 100 + D 0 1 ≤ 150 by omega) n) (Nat.le_trans (Nat.pow_le_pow_right (by decide) hn) (by decide))
theorem blw_le {n : Nat} (hn : n ≤ 5) : blw n ≤ 10000000000 := Nat.le_trans (Nat.pow_le_pow_right (by decide) hn) (by decide)
theorem blw_pos (n : Nat) : 0 < blw n := Nat.pow_pos (by decide)
def CeL (m : Nat) (as : List Value) (h : A_H) (v : Int64) (x : Int32) : Prop := ∃ h', C m as h = some (some (some (.long v)), h') ∧ FR cq h h' ∧ hI h' 0 8 = x
def QeL (m : Nat) (as : List Value) (h : A_H) (v : Int64) (x : Int32) : Prop := ∃ h', C m as h = some (some (some (.long v)), h') ∧ QF h h' ∧ hI h' 124 1 = x ∧ hI h' 124 2 = -1
theorem a120 {h : A_H} {T : Nat} {D : Gh} {S : Nat → Nat} (L : Ly h) (hT : isT T) (w : WF D) (c : CT h T D) (hQ : hP h 0 3 = some T) (s : CS h 77 D S) (u : WD D S) (hst : hI h 0 4 = 1) {x n : Nat} (hx : x < 1000) (hn : n ≤ 5) (lo : Bool) : CeL 120 [.ref 0, .int (nI x), .int (nI n), .int (bI lo)] h (nL (owV D x n lo)) 0 := by
  have L0 : Ly (wI h 0 8 0) := L; have c0 := CT_w0 hT w c 0; have s0 : CS (wI h 0 8 0) 77 D S := CS_w0 s 0; have Q0 : hP (wI h 0 8 0) 0 3 = some T := hQ
  have hi := f_int w
  have ha := abv_le w hx hn
  have hb := blw_le hn
  have hp := blw_pos n
  refine ⟨wI h 0 8 0, ?_, FR_0 h 0, w_0 h 0⟩
  have k1 : decide ((999 : Int32) < nI x) = false := by rw [show (999 : Int32) = nI 999 from rfl]; exact dF (by rw [w_lt (by omega) (by omega)]; omega)
  have k2 : decide ((5 : Int32) < nI n) = false := by rw [show (5 : Int32) = nI 5 from rfl]; exact dF (by rw [w_lt (by omega) (by omega)]; omega)
  rw [e120]
  simp only [b120_0, b120_17, b120_23, b120_24, dF (w_nn (show x < 2147483648 by omega)), dF (w_nn (show n < 2147483648 by omega)), k1, k2, hP_wI, isO_wI, isA_wI, cond_true, decide_true, cond_false, Bool.and_true, Bool.true_and, Bool.and_self, Bool.and_false, Bool.false_and, Bool.not_true, Bool.not_false, Bool.or_true, Bool.true_or, Bool.or_false, Bool.false_or, is_some, gd_some, bk_v, bk_u, t_O L hT, t_P9 L hT, t_P10 L hT, t_P11 L hT, t_P12 L hT, t_P13 L hT, t_P14 L hT, t_OC L hT, t_C1 L hT, t_C2 L hT, t_C3 L hT, hQ, x_O L, x_P5 L, x_O77 L, s.1, s.2.1, s.2.2.1, s.2.2.2.1, s.2.2.2.2.1, s0.1, s0.2.1, s0.2.2.1, s0.2.2.2.1, s0.2.2.2.2.1, bI_T, bI_F, i1_0, c136 L, hst, c135, c134 L, i_l (show x < 2147483648 by omega)]
  have z1 : nL x = nL (abv D x 0) := by unfold abv; rw [Nat.pow_zero, Nat.mul_one]
  have z2 : (1 : Int64) = nL (blw 0) := rfl
  rw [z1, z2]
  refine (loop_ix (fun k => R 120 34 [some (.ref 0), some (.int (nI x)), some (.int (nI n)), some (.int (bI lo)), some (.int 1), some (.long (nL (abv D x k))), none, some (.long (nL (blw k))), none, some (.int (nI k)), none] [] (wI h 0 8 0)) n ?_).trans ?_
  · intro k hk
    have e1 : nL (abv D x k) * ((100 : Int32) + nI (D 0 1)).toInt64 = nL (abv D x (k + 1)) := by
      rw [show (100 : Int32) = nI 100 from rfl, nI_add, i_l (by omega), l_mul]
      unfold abv
      rw [Nat.pow_succ, Nat.mul_assoc]
    have e2 : nL (blw k) * 100 = nL (blw (k + 1)) := by
      rw [show (100 : Int64) = nL 100 from rfl, l_mul]; rfl
    rw [b120_34]
    simp only [dF (show ¬ nI n ≤ nI k by rw [w_le (by omega) (by omega)]; omega), hP_wI, isO_wI, isA_wI, cond_true, decide_true, cond_false, Bool.and_true, Bool.true_and, Bool.and_self, Bool.and_false, Bool.false_and, Bool.not_true, Bool.not_false, Bool.or_true, Bool.true_or, Bool.or_false, Bool.false_or, is_some, gd_some, bk_v, bk_u, t_O L hT, t_P9 L hT, t_P10 L hT, t_P11 L hT, t_P12 L hT, t_P13 L hT, t_P14 L hT, t_OC L hT, t_C1 L hT, t_C2 L hT, t_C3 L hT, hQ, x_O L, x_P5 L, x_O77 L, s.1, s.2.1, s.2.2.1, s.2.2.2.1, s.2.2.2.2.1, s0.1, s0.2.1, s0.2.2.1, s0.2.2.2.1, s0.2.2.2.2.1, bI_T, bI_F, i1_0, c_s1 c0, e1, e2, w_s]
  · have hg : 0 < Nat.gcd (abv D x n) (blw n) := Nat.gcd_pos_of_pos_right _ hp
    have hgy : Nat.gcd (abv D x n) (blw n) ≤ blw n := Nat.gcd_le_right _ hp
    rw [b120_34]
    simp only [dT (Int32.le_refl (nI n)), cond_true, cond_false, decide_true, Bool.and_true, Bool.true_and, Bool.and_self, Bool.and_false, Bool.false_and, Bool.not_true, Bool.not_false, Bool.or_true, Bool.true_or, Bool.or_false, Bool.false_or, is_some, gd_some, bk_v, bk_u, c121 _ (show abv D x n < 9223372036854775808 by omega) (show blw n < 2 ^ 40 by omega) hp, b120_55, z_0, l0 (show Nat.gcd (abv D x n) (blw n) < 9223372036854775808 by omega), dF (show ¬ Nat.gcd (abv D x n) (blw n) = 0 by omega), l_div (show abv D x n < 9223372036854775808 by omega) (show Nat.gcd (abv D x n) (blw n) < 9223372036854775808 by omega), l_div (show blw n < 9223372036854775808 by omega) (show Nat.gcd (abv D x n) (blw n) < 9223372036854775808 by omega)]
    unfold owV
    cases lo <;> rfl
def owR (x y : Int32) : Int32 := bif vd 1000 x && vd 6 y then 0 else 2
theorem a120b {h : A_H} {T : Nat} {D : Gh} {S : Nat → Nat} (L : Ly h) (hT : isT T) (w : WF D) (c : CT h T D) (hQ : hP h 0 3 = some T) (s : CS h 77 D S) (u : WD D S) {x y z : Int32} (e : decide (eit (bif decide (hI h 0 4 = 0) then 1 else 0) (owR x y) = 0) = false) : CeL 120 [.ref 0, .int x, .int y, .int z] h (-1) (eit (bif decide (hI h 0 4 = 0) then 1 else 0) (owR x y)) := by
  refine ⟨wI h 0 8 (eit (bif decide (hI h 0 4 = 0) then 1 else 0) (owR x y)), ?_, FR_0 h _, w_0 h _⟩
  rw [e120]
  cases hx : vd 1000 x with
  | false =>
    have ho : owR x y = 2 := by unfold owR; rw [hx]; rfl
    rw [ho] at e ⊢
    rcases vd_6 (k := 999) (by decide) hx with h1 | ⟨h1, h2⟩
    · simp only [b120_0, b120_17, b120_23, b120_24, h1, cond_true, decide_true, cond_false, Bool.and_true, Bool.true_and, Bool.and_self, Bool.and_false, Bool.false_and, Bool.not_true, Bool.not_false, Bool.or_true, Bool.true_or, Bool.or_false, Bool.false_or, is_some, gd_some, bk_v, bk_u, t_O L hT, t_P9 L hT, t_P10 L hT, t_P11 L hT, t_P12 L hT, t_P13 L hT, t_P14 L hT, t_OC L hT, t_C1 L hT, t_C2 L hT, t_C3 L hT, hQ, x_O L, x_P5 L, x_O77 L, s.1, s.2.1, s.2.2.1, s.2.2.2.1, s.2.2.2.2.1, c136 L, c135, eit_e, c134 L, e, bI_T, i1_0]
    · rw [show nI 999 = 999 from rfl] at h2
      simp only [b120_0, b120_17, b120_23, b120_24, h1, h2, cond_true, decide_true, cond_false, Bool.and_true, Bool.true_and, Bool.and_self, Bool.and_false, Bool.false_and, Bool.not_true, Bool.not_false, Bool.or_true, Bool.true_or, Bool.or_false, Bool.false_or, is_some, gd_some, bk_v, bk_u, t_O L hT, t_P9 L hT, t_P10 L hT, t_P11 L hT, t_P12 L hT, t_P13 L hT, t_P14 L hT, t_OC L hT, t_C1 L hT, t_C2 L hT, t_C3 L hT, hQ, x_O L, x_P5 L, x_O77 L, s.1, s.2.1, s.2.2.1, s.2.2.2.1, s.2.2.2.2.1, c136 L, c135, eit_e, c134 L, e, bI_T, i1_0]
  | true =>
    obtain ⟨h1, h2⟩ := vd_7 (k := 999) (by decide) hx
    rw [show nI 999 = 999 from rfl] at h2
    cases hy : vd 6 y with
    | false =>
      have ho : owR x y = 2 := by unfold owR; rw [hx, hy]; rfl
      rw [ho] at e ⊢
      rcases vd_6 (k := 5) (by decide) hy with h3 | ⟨h3, h4⟩
      · simp only [b120_0, b120_17, b120_23, b120_24, h1, h2, h3, cond_true, decide_true, cond_false, Bool.and_true, Bool.true_and, Bool.and_self, Bool.and_false, Bool.false_and, Bool.not_true, Bool.not_false, Bool.or_true, Bool.true_or, Bool.or_false, Bool.false_or, is_some, gd_some, bk_v, bk_u, t_O L hT, t_P9 L hT, t_P10 L hT, t_P11 L hT, t_P12 L hT, t_P13 L hT, t_P14 L hT, t_OC L hT, t_C1 L hT, t_C2 L hT, t_C3 L hT, hQ, x_O L, x_P5 L, x_O77 L, s.1, s.2.1, s.2.2.1, s.2.2.2.1, s.2.2.2.2.1, c136 L, c135, eit_e, c134 L, e, bI_T, i1_0]
      · rw [show nI 5 = 5 from rfl] at h4
        simp only [b120_0, b120_17, b120_23, b120_24, h1, h2, h3, h4, cond_true, decide_true, cond_false, Bool.and_true, Bool.true_and, Bool.and_self, Bool.and_false, Bool.false_and, Bool.not_true, Bool.not_false, Bool.or_true, Bool.true_or, Bool.or_false, Bool.false_or, is_some, gd_some, bk_v, bk_u, t_O L hT, t_P9 L hT, t_P10 L hT, t_P11 L hT, t_P12 L hT, t_P13 L hT, t_P14 L hT, t_OC L hT, t_C1 L hT, t_C2 L hT, t_C3 L hT, hQ, x_O L, x_P5 L, x_O77 L, s.1, s.2.1, s.2.2.1, s.2.2.2.1, s.2.2.2.2.1, c136 L, c135, eit_e, c134 L, e, bI_T, i1_0]
    | true =>
      have ho : owR x y = 0 := by unfold owR; rw [hx, hy]; rfl
      obtain ⟨h3, h4⟩ := vd_7 (k := 5) (by decide) hy
      rw [show nI 5 = 5 from rfl] at h4
      rw [ho] at e ⊢
      simp only [b120_0, b120_17, b120_23, b120_24, h1, h2, h3, h4, cond_true, decide_true, cond_false, Bool.and_true, Bool.true_and, Bool.and_self, Bool.and_false, Bool.false_and, Bool.not_true, Bool.not_false, Bool.or_true, Bool.true_or, Bool.or_false, Bool.false_or, is_some, gd_some, bk_v, bk_u, t_O L hT, t_P9 L hT, t_P10 L hT, t_P11 L hT, t_P12 L hT, t_P13 L hT, t_P14 L hT, t_OC L hT, t_C1 L hT, t_C2 L hT, t_C3 L hT, hQ, x_O L, x_P5 L, x_O77 L, s.1, s.2.1, s.2.2.1, s.2.2.2.1, s.2.2.2.2.1, c136 L, c135, eit_e, c134 L, e, bI_T, i1_0]
theorem d160w (x : Int32) (h : A_H) : C 160 [.int x, .int 0, .int 999] h = some (some (some (.int (bI (vd 1000 x)))), h) := d160 x (k := 999) (by decide) h
theorem d160x (x : Int32) (h : A_H) : C 160 [.int x, .int 0, .int 5] h = some (some (some (.int (bI (vd 6 x)))), h) := d160 x (k := 5) (by decide) h
theorem m264 {h : A_H} {B : Nat} {D : Gh} {S : Nat → Nat} (L : Ly h) (hB : hP h 124 3 = some B) (l : ML h B) (w : WF D) (b : MB h B D) (u : WD D S) (r : RW h 126 S) {x n : Nat} (hx : x < 1000) (hn : n ≤ 5) (lo : Bool) : QeL 264 [.ref 124, .int (nI x), .int (nI n), .int (bI lo)] h (nL (owV D x n lo)) 0 := by
  have L1 : Ly (wI h 124 0 0) := L; have hB1 : hP (wI h 124 0 0) 124 3 = some B := hB; have l1 : ML (wI h 124 0 0) B := l; have b1 : MB (wI h 124 0 0) B D := MB_wI l (by decide) b; have r1 : RW (wI h 124 0 0) 126 S := RW_wI (by decide) r
  have hi := f_int w
  have ha := abv_le w hx hn
  have hb := blw_le hn
  have hp := blw_pos n
  refine ⟨_, ?_, QF_fin (QF_0 h) 0, fin_1 _ _, fin_2 _ _⟩
  rw [e264]
  simp only [b264_0, b264_3, b264_15, b264_20, cond_true, cond_false, decide_true, Bool.and_true, Bool.true_and, Bool.and_self, Bool.and_false, Bool.false_and, Bool.not_true, Bool.not_false, Bool.or_true, Bool.true_or, Bool.or_false, Bool.false_or, is_some, gd_some, bk_v, bk_u, hP_wI, isO_wI, isA_wI, hP_wp, isO_wp, isA_wp, y_124 L, y_P15 L, y_P16 L, hB, va_rf, a_isR, a_nul, d160w, d160x, vd_of (show 1000 < 2147483648 by decide) hx, vd_of (show 6 < 2147483648 by decide) (show n < 6 by omega), bI_T, i1_0, i_l (show x < 2147483648 by omega)]
  have z1 : nL x = nL (abv D x 0) := by unfold abv; rw [Nat.pow_zero, Nat.mul_one]
  have z2 : (1 : Int64) = nL (blw 0) := rfl
  rw [z1, z2]
  refine (loop_ix (fun k => R 264 33 [some (.ref 124), some (.int (nI x)), some (.int (nI n)), some (.int (bI lo)), some (.long (nL (abv D x k))), none, some (.long (nL (blw k))), none, some (.int (nI k))] [] (wI h 124 0 0)) n ?_).trans ?_
  · intro k hk
    have e1 : nL (abv D x k) * ((100 : Int32) + nI (D 0 1)).toInt64 = nL (abv D x (k + 1)) := by
      rw [show (100 : Int32) = nI 100 from rfl, nI_add, i_l (by omega), l_mul]
      unfold abv
      rw [Nat.pow_succ, Nat.mul_assoc]
    have e2 : nL (blw k) * 100 = nL (blw (k + 1)) := by
      rw [show (100 : Int64) = nL 100 from rfl, l_mul]; rfl
    rw [b264_33]
    simp only [dF (show ¬ nI n ≤ nI k by rw [w_le (by omega) (by omega)]; omega), cond_true, cond_false, decide_true, Bool.and_true, Bool.true_and, Bool.and_self, Bool.and_false, Bool.false_and, Bool.not_true, Bool.not_false, Bool.or_true, Bool.true_or, Bool.or_false, Bool.false_or, is_some, gd_some, bk_v, bk_u, hP_wI, isO_wI, isA_wI, hP_wp, isO_wp, isA_wp, y_124 L, y_P15 L, y_P16 L, hB, mB_O l, b_s1 b1, e1, e2, w_s]
  · have hg : 0 < Nat.gcd (abv D x n) (blw n) := Nat.gcd_pos_of_pos_right _ hp
    have hgy : Nat.gcd (abv D x n) (blw n) ≤ blw n := Nat.gcd_le_right _ hp
    rw [b264_33]
    simp only [dT (Int32.le_refl (nI n)), cond_true, cond_false, decide_true, Bool.and_true, Bool.true_and, Bool.and_self, Bool.and_false, Bool.false_and, Bool.not_true, Bool.not_false, Bool.or_true, Bool.true_or, Bool.or_false, Bool.false_or, is_some, gd_some, bk_v, bk_u, hP_wI, isO_wI, isA_wI, hP_wp, isO_wp, isA_wp, y_124 L, y_P15 L, y_P16 L, hB]
    rw [e164]
    simp only [b164_0, b164_3, b164_12, cond_true, cond_false, decide_true, Bool.and_true, Bool.true_and, Bool.and_self, Bool.and_false, Bool.false_and, Bool.not_true, Bool.not_false, Bool.or_true, Bool.true_or, Bool.or_false, Bool.false_or, is_some, gd_some, bk_v, bk_u, hP_wI, isO_wI, isA_wI, hP_wp, isO_wp, isA_wp, y_124 L, y_P15 L, y_P16 L, hB, d158 L1, z_0, d163 _ (show abv D x n < 9223372036854775808 by omega) (show blw n < 9223372036854775808 by omega), l0 (show Nat.gcd (abv D x n) (blw n) < 9223372036854775808 by omega), dF (show ¬ Nat.gcd (abv D x n) (blw n) = 0 by omega), l_div (show abv D x n < 9223372036854775808 by omega) (show Nat.gcd (abv D x n) (blw n) < 9223372036854775808 by omega), l_div (show blw n < 9223372036854775808 by omega) (show Nat.gcd (abv D x n) (blw n) < 9223372036854775808 by omega)]
    unfold owV
    cases lo
    · simp only [cond_true, cond_false, decide_true, Bool.and_true, Bool.true_and, Bool.and_self, Bool.and_false, Bool.false_and, Bool.not_true, Bool.not_false, Bool.or_true, Bool.true_or, Bool.or_false, Bool.false_or, is_some, gd_some, bk_v, bk_u, b264_56]
    · simp only [cond_true, cond_false, decide_true, Bool.and_true, Bool.true_and, Bool.and_self, Bool.and_false, Bool.false_and, Bool.not_true, Bool.not_false, Bool.or_true, Bool.true_or, Bool.or_false, Bool.false_or, is_some, gd_some, bk_v, bk_u, b264_56]
theorem m264b {h : A_H} {D : Gh} (L : Ly h) (q : Mq h D) {x y z : Int32} (e : hP h 124 3 = none ∨ (vd 1000 x && vd 6 y) = false) : QeL 264 [.ref 124, .int x, .int y, .int z] h (-1) (bif (hP h 124 3).isSome then 2 else 1) := by
  have L1 : Ly (wI h 124 0 0) := L
  refine ⟨wI (wI (wI h 124 0 0) 124 1 (bif (hP h 124 3).isSome then 2 else 1)) 124 2 (-1), ?_, QF_fin (QF_0 h) _, fin_1 _ _, fin_2 _ _⟩
  rw [e264]
  cases hp : hP h 124 3 with
  | none => simp only [b264_0, b264_3, b264_9, cond_true, cond_false, decide_true, Bool.and_true, Bool.true_and, Bool.and_self, Bool.and_false, Bool.false_and, Bool.not_true, Bool.not_false, Bool.or_true, Bool.true_or, Bool.or_false, Bool.false_or, is_some, gd_some, bk_v, bk_u, isO_wI, y_124 L, hP_wI, hp, va_rf, a_isR, a_nul, d155 L1]; rfl
  | some B =>
    rcases e with e | e
    · rw [hp] at e; cases e
    · cases hx : vd 1000 x with
      | false => simp only [b264_0, b264_3, b264_15, b264_24, cond_true, cond_false, decide_true, Bool.and_true, Bool.true_and, Bool.and_self, Bool.and_false, Bool.false_and, Bool.not_true, Bool.not_false, Bool.or_true, Bool.true_or, Bool.or_false, Bool.false_or, is_some, gd_some, bk_v, bk_u, isO_wI, y_124 L, hP_wI, hp, va_rf, a_isR, a_nul, d160w, hx, bI_F, d155 L1]; rfl
      | true =>
        rw [hx, Bool.true_and] at e
        simp only [b264_0, b264_3, b264_15, b264_20, b264_24, cond_true, cond_false, decide_true, Bool.and_true, Bool.true_and, Bool.and_self, Bool.and_false, Bool.false_and, Bool.not_true, Bool.not_false, Bool.or_true, Bool.true_or, Bool.or_false, Bool.false_or, is_some, gd_some, bk_v, bk_u, isO_wI, y_124 L, hP_wI, hp, va_rf, a_isR, a_nul, d160w, hx, bI_T, i1_0, d160x, e, bI_F, d155 L1]; rfl
