theorem m230b {h : A_H} {D : Gh} (L : Ly h) (q : Mq h D) {x y z : Int32} (e : decide (eit (eit (gv (D 0 3) x) (gv (D 0 4) y)) (dv z) = 0) = false) : C 230 [.ref 124, .int x, .int y, .int z] h = some (some (some (.int (-1))), wI (wI (wI h 124 0 0) 124 1 (eit (eit (gv (D 0 3) x) (gv (D 0 4) y)) (dv z))) 124 2 (-1)) := by
  have L1 : Ly (wI h 124 0 0) := L
  have q1 := Mq_wI (j := 0) (v := 0) (show 124 < 134 by decide) q
  rcases tgd_bad e with ⟨e1, e2⟩ | ⟨e1, e3, e2⟩ | ⟨e1, e3, e4, e2⟩
  · rw [e2, e230]
    simp only [b230_0, b230_3, b230_7, b230_11, b230_17, b230_23, b230_31, b230_47, b230_53, b230_57, b230_68, b230_74, b230_82, cond_true, cond_false, decide_true, Bool.and_true, Bool.true_and, Bool.and_self, Bool.and_false, Bool.false_and, Bool.not_true, Bool.not_false, Bool.or_true, Bool.true_or, Bool.or_false, Bool.false_or, is_some, gd_some, bk_v, bk_u, isO_wI, y_124 L, q200 L1 q1, e1, bI_F, d219y L1, c01, d155 L1]
  · rw [e2, e230]
    simp only [b230_0, b230_3, b230_7, b230_11, b230_17, b230_23, b230_31, b230_47, b230_53, b230_57, b230_68, b230_74, b230_82, cond_true, cond_false, decide_true, Bool.and_true, Bool.true_and, Bool.and_self, Bool.and_false, Bool.false_and, Bool.not_true, Bool.not_false, Bool.or_true, Bool.true_or, Bool.or_false, Bool.false_or, is_some, gd_some, bk_v, bk_u, isO_wI, y_124 L, q200 L1 q1, e1, bI_T, i1_0, q202 L1 q1, e3, bI_F, d219y L1, c01, d155 L1]
  · rw [e2, e230]
    simp only [b230_0, b230_3, b230_7, b230_11, b230_17, b230_23, b230_31, b230_47, b230_53, b230_57, b230_68, b230_74, b230_82, cond_true, cond_false, decide_true, Bool.and_true, Bool.true_and, Bool.and_self, Bool.and_false, Bool.false_and, Bool.not_true, Bool.not_false, Bool.or_true, Bool.true_or, Bool.or_false, Bool.false_or, is_some, gd_some, bk_v, bk_u, isO_wI, y_124 L, q200 L1 q1, e1, bI_T, i1_0, q202 L1 q1, e3, d219x L1 e4, c02, d155 L1]
theorem wor_le {D : Gh} (w : WF D) {g d : Nat} (hg : g < D 0 5) (hd : d ≤ 1000) : wor D g d ≤ 250 := by
  have h1 := f_wor w hg
  have h2 := f_age w hg
  unfold wor
  cases tur D g (D 15 g + d)
  · cases decide (D 12 g = 2)
    · simp only [cond_false]; omega
    · simp only [cond_false, cond_true]; omega
  · exact Nat.zero_le _
theorem hw_le {D : Gh} {S : Nat → Nat} (w : WF D) (u : WD D S) (m : Nat) : hw D S m ≤ 8000 := by
  have h17 := u.1
  have h8 := f_nG w
  have h4 := f_nt w
  unfold hw
  refine Nat.le_trans (sm_le (b := 2000) ?_) (Nat.le_trans (Nat.mul_le_mul_right _ h4) (by decide))
  intro t _
  cases m.testBit t
  · exact Nat.zero_le _
  · unfold hwt
    rw [cond_true]
    refine Nat.le_trans (sm_le (b := 250) ?_) (Nat.le_trans (Nat.mul_le_mul_right _ h8) (by decide))
    intro g hg
    cases (has D S t g && hid S g)
    · exact Nat.zero_le _
    · exact wor_le w hg (by omega)
theorem pc_ex : ∀ n, n ≤ 4 → ∀ y, y ≤ 4 → ∃ m, m < 2 ^ n ∧ pc m = min n y := by
  have key : ∀ n : Fin 5, ∀ y : Fin 5, ∃ m : Fin 16, m.val < 2 ^ n.val ∧ pc m.val = min n.val y.val := by decide +kernel
  intro n hn y hy
  obtain ⟨m, h1, h2⟩ := key ⟨n, by omega⟩ ⟨y, by omega⟩
  exact ⟨m.val, h1, h2⟩
def shI (D : Gh) (S : Nat → Nat) (n k : Nat) (q : Int32 × Int32) : Prop := (q = (0, -1) ∧ ∀ m, m < k → ¬ pc m = n) ∨ ∃ b, b < k ∧ q = (nI b, nI (hw D S b))
def shB (q : Int32 × Int32) : Int32 := bif decide (q.2 = -1) then -1 else q.1
theorem n_m1' {a : Nat} (ha : a < 100000) : decide (nI a = (-1 : Int32)) = false := by
  apply dF
  intro e
  have := congrArg Int32.toInt e
  rw [w_int (by omega)] at this
  have e2 : (-1 : Int32).toInt = -1 := rfl
  omega
theorem n_m1le' {a : Nat} (ha : a < 100000) : decide ((-1 : Int32) ≤ nI a) = true ∧ decide (nI a ≤ (-1 : Int32)) = false := by
  have e2 : (-1 : Int32).toInt = -1 := rfl
  constructor
  · apply dT; rw [Int32.le_iff_toInt_le, w_int (by omega)]; omega
  · apply dF; rw [Int32.le_iff_toInt_le, w_int (by omega)]; omega
theorem w_mnc {a b : Nat} (ha : a < 2147483648) (hb : b < 2147483648) {β : Type} (f : Int32 → β) : cond (decide (nI a ≤ nI b)) (f (nI a)) (f (nI b)) = f (nI (min a b)) := by
  by_cases e : a ≤ b
  · rw [dT ((w_le ha hb).mpr e), Nat.min_eq_left e]; rfl
  · rw [dF (by rw [w_le ha hb]; exact e), Nat.min_eq_right (by omega)]; rfl
theorem m250 {h : A_H} {B : Nat} {D : Gh} {S : Nat → Nat} (L : Ly h) (hB : hP h 124 3 = some B) (l : ML h B) (w : WF D) (b : MB h B D) (u : WD D S) (r : RW h 126 S) {y : Nat} (hy : y ≤ 4) : C 250 [.ref 124, .int (nI y)] h = some (some (some (.int (itr (shS D S (min (D 0 3) y)) (2 ^ D 0 3) (0, -1)).1)), wI (wI (wI h 124 0 0) 124 1 0) 124 2 (-1)) := by
  have L1 : Ly (wI h 124 0 0) := L; have hB1 : hP (wI h 124 0 0) 124 3 = some B := hB; have l1 : ML (wI h 124 0 0) B := l; have b1 : MB (wI h 124 0 0) B D := MB_wI l (by decide) b; have r1 : RW (wI h 124 0 0) 126 S := RW_wI (by decide) r
  have ht4 := f_nt w
  have h16 : 2 ^ D 0 3 ≤ 16 := Nat.le_trans (Nat.pow_le_pow_right (by decide) ht4) (by decide)
  have h160 := d160 (nI y) (k := 4) (by decide) (wI h 124 0 0)
  rw [show nI 4 = 4 from rfl, vd_of (by decide) (by omega)] at h160
  have h249 := fun m => d249 L1 hB1 l1 w b1 u r1 m
  simp only [hw_eq w] at h249
  rw [e250]
  simp only [b250_0, b250_3, b250_9, b250_14, b250_18, b250_43, b250_51, b250_54, b250_62, cond_true, cond_false, decide_true, Bool.and_true, Bool.true_and, Bool.and_self, Bool.and_false, Bool.false_and, Bool.not_true, Bool.not_false, Bool.or_true, Bool.true_or, Bool.or_false, Bool.false_or, is_some, gd_some, bk_v, bk_u, hP_wI, isO_wI, isA_wI, hP_wp, isO_wp, isA_wp, y_124 L, y_P15 L, y_P16 L, hB, va_rf, a_isR, a_nul, h160, bI_T, i1_0, mB_O l, b_s3 b1]
  rw [w_mnc (show D 0 3 < 2147483648 by omega) (show y < 2147483648 by omega) (fun x => R 250 34 [some (.ref 124), some (.int (nI y)), some (.int x), some (.int (-1)), some (.int 0)] [] (wI h 124 0 0))]
  have hn4 : min (D 0 3) y ≤ 4 := Nat.le_trans (Nat.min_le_left _ _) ht4
  obtain ⟨pm, pm1, pm2⟩ := pc_ex (D 0 3) ht4 y hy
  generalize min (D 0 3) y = n at hn4 pm2 ⊢
  obtain ⟨e, i⟩ := itr_loopI (shI D S n) (fun m (q : Int32 × Int32) => R 250 34 [some (.ref 124), some (.int (nI y)), some (.int (nI n)), some (.int (shB q)), some (.int (nI m))] [] (wI h 124 0 0)) (shS D S n) (2 ^ D 0 3) (by
    intro m q hm i
    have hp := pc_le m
    have hwm := hw_le w u m
    rw [b250_34]
    simp only [cond_true, cond_false, decide_true, Bool.and_true, Bool.true_and, Bool.and_self, Bool.and_false, Bool.false_and, Bool.not_true, Bool.not_false, Bool.or_true, Bool.true_or, Bool.or_false, Bool.false_or, is_some, gd_some, bk_v, bk_u, hP_wI, isO_wI, isA_wI, hP_wp, isO_wp, isA_wp, y_124 L, y_P15 L, y_P16 L, hB, mB_O l, b_s3 b1, two_sh ht4, dF (show ¬ nI (2 ^ D 0 3) ≤ nI m by rw [w_le (by omega) (by omega)]; omega), d162 _ (show m < 256 by omega), b250_43, w_eq (show pc m < 2147483648 by omega) (show n < 2147483648 by omega), h249, b250_51, b250_54, w_s]
    unfold shS
    rcases i with ⟨rfl, -⟩ | ⟨b', hb', rfl⟩
    · rw [show shB (0, -1) = -1 from rfl]
      cases decide (pc m = n)
      · rfl
      · simp only [cond_true, cond_false, decide_true, Bool.and_true, Bool.true_and, Bool.and_self, Bool.and_false, Bool.false_and, Bool.not_true, Bool.not_false, Bool.or_true, Bool.true_or, Bool.or_false, Bool.false_or, is_some, gd_some, bk_v, bk_u, (n_m1le' (show hw D S m < 100000 by omega)).2]
        unfold shB
        rw [n_m1' (show hw D S m < 100000 by omega)]
        rfl
    · have hwb := hw_le w u b'
      have e1 : shB (nI b', nI (hw D S b')) = nI b' := by unfold shB; rw [n_m1' (show hw D S b' < 100000 by omega)]; rfl
      rw [e1]
      cases decide (pc m = n)
      · simp only [cond_true, cond_false, decide_true, Bool.and_true, Bool.true_and, Bool.and_self, Bool.and_false, Bool.false_and, Bool.not_true, Bool.not_false, Bool.or_true, Bool.true_or, Bool.or_false, Bool.false_or, is_some, gd_some, bk_v, bk_u, (n_m1le' (show hw D S b' < 100000 by omega)).1, e1]
      · simp only [cond_true, cond_false, decide_true, Bool.and_true, Bool.true_and, Bool.and_self, Bool.and_false, Bool.false_and, Bool.not_true, Bool.not_false, Bool.or_true, Bool.true_or, Bool.or_false, Bool.false_or, is_some, gd_some, bk_v, bk_u, n_m1' (show b' < 100000 by omega), h249, b250_51, b250_54, cond_true, cond_false, decide_true, Bool.and_true, Bool.true_and, Bool.and_self, Bool.and_false, Bool.false_and, Bool.not_true, Bool.not_false, Bool.or_true, Bool.true_or, Bool.or_false, Bool.false_or, is_some, gd_some, bk_v, bk_u, hP_wI, isO_wI, isA_wI, hP_wp, isO_wp, isA_wp, y_124 L, y_P15 L, y_P16 L, hB, w_s]
        cases decide (nI (hw D S m) ≤ nI (hw D S b'))
        · unfold shB
          simp only [cond_true, cond_false, decide_true, Bool.and_true, Bool.true_and, Bool.and_self, Bool.and_false, Bool.false_and, Bool.not_true, Bool.not_false, Bool.or_true, Bool.true_or, Bool.or_false, Bool.false_or, is_some, gd_some, bk_v, bk_u, n_m1' (show hw D S m < 100000 by omega)]
        · simp only [cond_true, cond_false, decide_true, Bool.and_true, Bool.true_and, Bool.and_self, Bool.and_false, Bool.false_and, Bool.not_true, Bool.not_false, Bool.or_true, Bool.true_or, Bool.or_false, Bool.false_or, is_some, gd_some, bk_v, bk_u, e1]) (by
    intro m q hm i
    have hwm := hw_le w u m
    unfold shS
    rcases i with ⟨rfl, i⟩ | ⟨b', hb', rfl⟩
    · by_cases e : pc m = n
      · rw [dT e, cond_true, (n_m1le' (show hw D S m < 100000 by omega)).2]
        exact Or.inr ⟨m, by omega, rfl⟩
      · rw [dF e, cond_false]
        refine Or.inl ⟨rfl, fun m' hm' => ?_⟩
        by_cases e2 : m' = m
        · rw [e2]; exact e
        · exact i m' (by omega)
    · have hwb := hw_le w u b'
      right
      cases decide (pc m = n)
      · rw [cond_false, (n_m1le' (show hw D S b' < 100000 by omega)).1]
        exact ⟨b', by omega, rfl⟩
      · rw [cond_true]
        cases decide (nI (hw D S m) ≤ nI (hw D S b'))
        · exact ⟨m, by omega, rfl⟩
        · exact ⟨b', by omega, rfl⟩) (0, -1) (Or.inl ⟨rfl, fun m hm => absurd hm (Nat.not_lt_zero m)⟩)
  refine Eq.trans e ?_
  rcases i with ⟨-, i⟩ | ⟨b', hb', e2⟩
  · exact absurd pm2 (i pm pm1)
  · have hwb := hw_le w u b'
    rw [e2]
    have e1 : shB (nI b', nI (hw D S b')) = nI b' := by unfold shB; rw [n_m1' (show hw D S b' < 100000 by omega)]; rfl
    show R 250 34 [some (.ref 124), some (.int (nI y)), some (.int (nI n)), some (.int (shB (nI b', nI (hw D S b')))), some (.int (nI (2 ^ D 0 3)))] [] (wI h 124 0 0) = _
    rw [e1, b250_34]
    simp only [cond_true, cond_false, decide_true, Bool.and_true, Bool.true_and, Bool.and_self, Bool.and_false, Bool.false_and, Bool.not_true, Bool.not_false, Bool.or_true, Bool.true_or, Bool.or_false, Bool.false_or, is_some, gd_some, bk_v, bk_u, hP_wI, isO_wI, isA_wI, hP_wp, isO_wp, isA_wp, y_124 L, y_P15 L, y_P16 L, hB, mB_O l, b_s3 b1, two_sh ht4, dT (Int32.le_refl (nI (2 ^ D 0 3))), d158 L1, b250_62]
theorem m250b {h : A_H} {D : Gh} (L : Ly h) (q : Mq h D) {x : Int32} (e : hP h 124 3 = none ∨ vd 5 x = false) : C 250 [.ref 124, .int x] h = some (some (some (.int (-1))), wI (wI (wI h 124 0 0) 124 1 (bif (hP h 124 3).isSome then 2 else 1)) 124 2 (-1)) := by
  have L1 : Ly (wI h 124 0 0) := L
  have h160 := d160 x (k := 4) (by decide) (wI h 124 0 0)
  rw [show nI 4 = 4 from rfl] at h160
  rw [e250]
  cases hp : hP h 124 3 with
  | none => simp only [b250_0, b250_3, b250_9, b250_14, b250_18, b250_43, b250_51, b250_54, b250_62, cond_true, cond_false, decide_true, Bool.and_true, Bool.true_and, Bool.and_self, Bool.and_false, Bool.false_and, Bool.not_true, Bool.not_false, Bool.or_true, Bool.true_or, Bool.or_false, Bool.false_or, is_some, gd_some, bk_v, bk_u, isO_wI, y_124 L, hP_wI, hp, va_rf, a_isR, a_nul, d155 L1]; rfl
  | some B =>
    rcases e with e | e
    · rw [hp] at e; cases e
    · rw [e] at h160
      simp only [b250_0, b250_3, b250_9, b250_14, b250_18, b250_43, b250_51, b250_54, b250_62, cond_true, cond_false, decide_true, Bool.and_true, Bool.true_and, Bool.and_self, Bool.and_false, Bool.false_and, Bool.not_true, Bool.not_false, Bool.or_true, Bool.true_or, Bool.or_false, Bool.false_or, is_some, gd_some, bk_v, bk_u, isO_wI, y_124 L, hP_wI, hp, va_rf, a_isR, a_nul, h160, bI_F, d155 L1]
theorem nI_ofInt (a : Nat) : nI a = Int32.ofInt (a : Int) := rfl
theorem ti_ofInt {z : Int} (h1 : -1000000 ≤ z) (h2 : z ≤ 1000000) : (Int32.ofInt z).toInt = z := by
  have hz : (Int32.size : Int) = 4294967296 := rfl
  rw [Int32.toInt_ofInt, Int.bmod_eq_of_le] <;> omega
theorem dut_le2 {D : Gh} (w : WF D) {g d : Nat} (hg : g < D 0 5) (hd : d ≤ 360) : dut D 0 g d ≤ 5346 := by
  unfold dut
  by_cases e0 : D 12 g = 0
  · rw [dT e0]; exact Nat.zero_le _
  · have hm := f_by w hg e0
    have h1 := f_rate w hm
    have h3 := (f_wei w hg).2
    have h4 := f_age w hg
    cases (decide (D 12 g = 0) || tur D g (D 15 g + d))
    · rw [cond_false]
      have hr : D (1 + 0) (D 13 g) ≤ 9 := h1
      have ht : (D 15 g + d) / 10 ≤ 66 := by omega
      exact Nat.le_trans (Nat.mul_le_mul (Nat.mul_le_mul h3 hr) ht) (by decide)
    · exact Nat.zero_le _
theorem gai_gt {D : Gh} (w : WF D) {g d : Nat} (hg : g < D 0 5) (hd : d ≤ 360) : decide (gai D g d ≤ (-10000 : Int32)) = false := by
  have h3 := (f_wei w hg).2
  have hdu := dut_le2 w hg hd
  have key : ∀ z : Int, -9000 ≤ z → z ≤ 9000 → ¬ Int32.ofInt z ≤ (-10000 : Int32) := by
    intro z h1 h2 c
    rw [Int32.le_iff_toInt_le, ti_ofInt (by omega) (by omega)] at c
    have e2 : (-10000 : Int32).toInt = -10000 := rfl
    omega
  apply dF
  unfold gai
  by_cases e0 : D 12 g = 0
  · rw [dT e0]; exact key 0 (by decide) (by decide)
  · have hm := f_by w hg e0
    have h5 := f_here w hm
    have h6 := f_there w hm
    rw [dF e0, cond_false]
    obtain ⟨x, hx, ex⟩ : ∃ x : Nat, x ≤ 99 ∧ (bif decide (D 4 (D 13 g) = 0) then 0 else nI (D 5 (D 13 g))) = nI x := by
      cases decide (D 4 (D 13 g) = 0)
      · exact ⟨_, h5, rfl⟩
      · exact ⟨0, by decide, rfl⟩
    obtain ⟨y, hy, ey⟩ : ∃ y : Nat, y ≤ 99 ∧ (bif decide (D 4 (D 13 g) = 0) then 0 else nI (D 6 (D 13 g))) = nI y := by
      cases decide (D 4 (D 13 g) = 0)
      · exact ⟨_, h6, rfl⟩
      · exact ⟨0, by decide, rfl⟩
    rw [ex, ey]
    have hxx : D 16 g * x ≤ 9 * 99 := Nat.mul_le_mul h3 hx
    have hyy : D 16 g * y ≤ 9 * 99 := Nat.mul_le_mul h3 hy
    cases tur D g (D 15 g + d)
    · rw [cond_false]
      have e1 : nI (D 16 g) * (nI y - nI x) - nI (dut D 0 g d) = Int32.ofInt (((D 16 g * y : Nat) : Int) - ((D 16 g * x : Nat) : Int) - (dut D 0 g d : Int)) := by
        rw [nI_ofInt, nI_ofInt, nI_ofInt, nI_ofInt, ← Int32.ofInt_sub, ← Int32.ofInt_mul, ← Int32.ofInt_sub]
        congr 1
        rw [Int.mul_sub, Int.natCast_mul, Int.natCast_mul]
      rw [e1]
      exact key _ (by omega) (by omega)
    · rw [cond_true]
      have e1 : -(nI (D 16 g)) * nI x = Int32.ofInt (-((D 16 g * x : Nat) : Int)) := by
        rw [nI_ofInt, nI_ofInt, ← Int32.ofInt_neg, ← Int32.ofInt_mul]
        congr 1
        rw [Int.neg_mul, Int.natCast_mul]
      rw [e1]
      exact key _ (by omega) (by omega)
def bgM (q : Int32 × Int32) (p : Int32 × Int32) : Prop := p.1 = q.1 ∧ ((q.1 = -2 ∧ q.2 = -10000) ∨ (decide (q.1 = -2) = false ∧ p.2 = q.2))
theorem bg_in {h : A_H} {B : Nat} {D : Gh} {S : Nat → Nat} (L : Ly h) (hB : hP h 124 3 = some B) (l : ML h B) (w : WF D) (b : MB h B D) (u : WD D S) (r : RW h 126 S) {g : Nat} (hg : g < D 0 5) (q0 : Int32 × Int32) (p0 : Int32 × Int32) (hm : bgM q0 p0) {h0 : A_H} (f0 : QF h h0) : ∃ h' p', QF h h' ∧ bgM (itr (bgS D S g) 61 q0) p' ∧ R 248 31 [some (.ref 124), some (.int p0.1), some (.int p0.2), some (.int (nI g)), some (.int 0)] [] h0 = R 248 31 [some (.ref 124), some (.int p'.1), some (.int p'.2), some (.int (nI g)), some (.int (nI 61))] [] h' := by
  have h17 := u.1
  have h8' := f_nG w
  obtain ⟨a', ⟨i1, i2⟩, e⟩ := loop_inv (α := A_H × (Int32 × Int32)) (fun n a => QF h a.1 ∧ bgM (itr (bgS D S g) n q0) a.2) (fun n a => R 248 31 [some (.ref 124), some (.int a.2.1), some (.int a.2.2), some (.int (nI g)), some (.int (nI n))] [] a.1) 61 (by
    intro n a hn i
    obtain ⟨h', p⟩ := a
    obtain ⟨q, i⟩ : QF h h' ∧ bgM (itr (bgS D S g) n q0) p := i
    have hd : n ≤ 60 := by omega
    have La := Ly_QF q L
    have ra := RW_QF q r
    have q2 := QF_wp q (Sd S n) 18
    have L2 := Ly_QF q2 L
    have hB2 := hB_QF q2 hB
    have l2 := ML_QF q2 l
    have b2 := MB_QF q2 l b
    have v2 : isV 127 := Or.inr rfl
    have ws2 : WS (Sd S n) := WS_Sd w u hd
    have r2 := RW_wp h' 127 (Sd S n)
    have h246 := d246 L2 hB2 l2 v2 w b2 ws2 r2 hg
    rw [Sd_17] at h246
    have hgt := gai_gt w hg (show S 17 + n ≤ 360 by omega)
    show ∃ a' : A_H × (Int32 × Int32), (QF h a'.1 ∧ bgM (bgS D S g n (itr (bgS D S g) n q0)) a'.2) ∧ _
    generalize itr (bgS D S g) n q0 = Q at i ⊢
    rw [b248_31, show (60 : Int32) = nI 60 from rfl, dF (show ¬ nI 60 < nI n by rw [w_lt (by omega) (by omega)]; omega)]
    simp only [cond_true, cond_false, decide_true, Bool.and_true, Bool.true_and, Bool.and_self, Bool.and_false, Bool.false_and, Bool.not_true, Bool.not_false, Bool.or_true, Bool.true_or, Bool.or_false, Bool.false_or, is_some, gd_some, bk_v, bk_u, y_124 La, d219 La ra hd, b248_38, isO_wp, hP_wp, y_P16 La, h246, b248_47, b248_55, w_s]
    rw [show (100 : Int32) = nI 100 from rfl, w_mul, nI_add]
    obtain ⟨p1, p2⟩ := p
    obtain ⟨Q1, Q2⟩ := Q
    obtain ⟨i0, i⟩ := i
    simp only at i0 i
    subst i0
    unfold bgS
    rcases i with ⟨rfl, rfl⟩ | ⟨i1, rfl⟩
    · refine ⟨(_, (nI (100 * g + n), gai D g (S 17 + n))), ⟨q2, ?_⟩, rfl⟩
      rw [hgt]
      exact ⟨rfl, Or.inr ⟨n_m2 (by omega), rfl⟩⟩
    · rw [i1, lt_le]
      cases decide (gai D g (S 17 + n) ≤ p2)
      · refine ⟨(_, (nI (100 * g + n), gai D g (S 17 + n))), ⟨q2, ?_⟩, rfl⟩
        exact ⟨rfl, Or.inr ⟨n_m2 (by omega), rfl⟩⟩
      · exact ⟨(_, (p1, p2)), ⟨q2, ⟨rfl, Or.inr ⟨i1, rfl⟩⟩⟩, rfl⟩) (h0, p0) ⟨f0, hm⟩
  exact ⟨a'.1, a'.2, i1, i2, e⟩
theorem m248 {h : A_H} {B : Nat} {D : Gh} {S : Nat → Nat} (L : Ly h) (hB : hP h 124 3 = some B) (l : ML h B) (w : WF D) (b : MB h B D) (u : WD D S) (r : RW h 126 S) : Qe 248 [.ref 124] h (itr (bgO D S) (D 0 5) (-2, -10000)).1 0 := by
  have L1 : Ly (wI h 124 0 0) := L; have hB1 : hP (wI h 124 0 0) 124 3 = some B := hB; have l1 : ML (wI h 124 0 0) B := l; have b1 : MB (wI h 124 0 0) B D := MB_wI l (by decide) b; have r1 : RW (wI h 124 0 0) 126 S := RW_wI (by decide) r
  have h8' := f_nG w
  obtain ⟨a', ⟨i1, i2⟩, e⟩ := loop_inv (α := A_H × (Int32 × Int32) × Option Value) (fun g a => QF (wI h 124 0 0) a.1 ∧ bgM (itr (bgO D S) g (-2, -10000)) a.2.1) (fun g a => R 248 16 [some (.ref 124), some (.int a.2.1.1), some (.int a.2.1.2), some (.int (nI g)), a.2.2] [] a.1) (D 0 5) (by
    intro g a hg i
    obtain ⟨h', p, l4⟩ := a
    obtain ⟨q, i⟩ : QF (wI h 124 0 0) h' ∧ bgM (itr (bgO D S) g (-2, -10000)) p := i
    have h8 : g < 8 := by omega
    have La := Ly_QF q L1
    have ra := RW_QF q r1
    have hBa := hB_QF q hB1
    have la := ML_QF q l1
    have ba := MB_QF q l1 b1
    have hs := s_ne (WS_S w u) h8 (show 0 < 100 by decide)
    rw [show nI 0 = 0 from rfl] at hs
    rw [b248_16]
    simp only [cond_true, cond_false, decide_true, Bool.and_true, Bool.true_and, Bool.and_self, Bool.and_false, Bool.false_and, Bool.not_true, Bool.not_false, Bool.or_true, Bool.true_or, Bool.or_false, Bool.false_or, is_some, gd_some, bk_v, bk_u, y_124 La, hBa, mB_O la, b_s5 ba, g_go w hg, y_P15 La, Int32.zero_add, v_A La (Or.inl rfl) (show g < 18 by omega), w_cl (show g < 2147483648 by omega), ra g (show g < 18 by omega), hs, w_s]
    show ∃ a' : A_H × (Int32 × Int32) × Option Value, (QF (wI h 124 0 0) a'.1 ∧ bgM (bgO D S g (itr (bgO D S) g (-2, -10000))) a'.2.1) ∧ _
    unfold bgO
    rw [show decide (S g = 0) = has0 S g from rfl]
    cases has0 S g with
    | false => exact ⟨(h', p, l4), ⟨q, i⟩, rfl⟩
    | true =>
      obtain ⟨h2, p2, f2, m2, e2⟩ := bg_in L1 hB1 l1 w b1 u r1 hg _ p i q
      simp only [cond_true, cond_false, decide_true, Bool.and_true, Bool.true_and, Bool.and_self, Bool.and_false, Bool.false_and, Bool.not_true, Bool.not_false, Bool.or_true, Bool.true_or, Bool.or_false, Bool.false_or, is_some, gd_some, bk_v, bk_u]
      rw [e2, b248_31, show (60 : Int32) = nI 60 from rfl, dT (show nI 60 < nI 61 by rw [w_lt (by decide) (by decide)]; decide), cond_true, w_s]
      exact ⟨(h2, p2, _), ⟨f2, m2⟩, rfl⟩) (wI h 124 0 0, (-2, 0), none) ⟨QF.rfl' _, ⟨rfl, Or.inl ⟨rfl, rfl⟩⟩⟩
  have L2 := Ly_QF i1 L1
  refine Qe_of (h' := a'.1) ?_ ((QF_0 h).trans' i1)
  rw [e248]
  simp only [b248_0, b248_3, b248_9, b248_38, b248_47, b248_55, b248_69, cond_true, cond_false, decide_true, Bool.and_true, Bool.true_and, Bool.and_self, Bool.and_false, Bool.false_and, Bool.not_true, Bool.not_false, Bool.or_true, Bool.true_or, Bool.or_false, Bool.false_or, is_some, gd_some, bk_v, bk_u, hP_wI, isO_wI, isA_wI, hP_wp, isO_wp, isA_wp, y_124 L, y_P15 L, y_P16 L, hB, va_rf, a_isR, a_nul]
  refine Eq.trans e ?_
  rw [b248_16]
  simp only [cond_true, cond_false, decide_true, Bool.and_true, Bool.true_and, Bool.and_self, Bool.and_false, Bool.false_and, Bool.not_true, Bool.not_false, Bool.or_true, Bool.true_or, Bool.or_false, Bool.false_or, is_some, gd_some, bk_v, bk_u, y_124 L2, hB_QF i1 hB1, mB_O (ML_QF i1 l1), b_s5 (MB_QF i1 l1 b1), g_stop w, d158 L2, b248_69, i2.1]
theorem m248b {h : A_H} (L : Ly h) (e : hP h 124 3 = none) : Qe 248 [.ref 124] h (-1) 1 := by
  have L1 : Ly (wI h 124 0 0) := L
  refine Qe_of (h' := wI h 124 0 0) ?_ (QF_0 h)
  rw [e248]
  simp only [b248_0, b248_3, b248_9, b248_38, b248_47, b248_55, b248_69, cond_true, cond_false, decide_true, Bool.and_true, Bool.true_and, Bool.and_self, Bool.and_false, Bool.false_and, Bool.not_true, Bool.not_false, Bool.or_true, Bool.true_or, Bool.or_false, Bool.false_or, is_some, gd_some, bk_v, bk_u, isO_wI, y_124 L, hP_wI, e, va_rf, a_isR, a_nul, d155 L1]
theorem d235a {h : A_H} (L : Ly h) (e : hI h 124 22 = -1) (x y : Int32) : C 235 [.ref 124, .int x, .int y] h = some (some none, wI (wI h 124 22 y) 124 23 x) := by
  rw [e235]
  simp only [b235_0, b235_14, b235_17, b235_22, b235_25, cond_true, cond_false, decide_true, Bool.and_true, Bool.true_and, Bool.and_self, Bool.and_false, Bool.false_and, Bool.not_true, Bool.not_false, Bool.or_true, Bool.true_or, Bool.or_false, Bool.false_or, is_some, gd_some, bk_v, bk_u, isO_wI, y_124 L, e]
theorem d235 {h : A_H} (L : Ly h) {a m : Nat} {q : Nat × Nat} (ha : a < 1000000) (hm : m < 256) (hl : q.2 < 1000000) (hb : q.1 < 256) (e1 : hI h 124 22 = nI q.2) (e2 : hI h 124 23 = nI q.1) : C 235 [.ref 124, .int (nI m), .int (nI a)] h = some (some none, bif btr a m q.2 q.1 then wI (wI h 124 22 (nI a)) 124 23 (nI m) else h) := by
  have hne : decide (nI q.2 = (-1 : Int32)) = false := by
    apply dF
    intro e
    have := congrArg Int32.toInt e
    rw [w_int (by omega)] at this
    have e2 : (-1 : Int32).toInt = -1 := rfl
    omega
  have p1 := pc_le m
  have p2 := pc_le q.1
  rw [e235]
  simp only [b235_0, b235_14, b235_17, b235_22, b235_25, cond_true, cond_false, decide_true, Bool.and_true, Bool.true_and, Bool.and_self, Bool.and_false, Bool.false_and, Bool.not_true, Bool.not_false, Bool.or_true, Bool.true_or, Bool.or_false, Bool.false_or, is_some, gd_some, bk_v, bk_u, isO_wI, y_124 L, e1, e2, hne, w_lt (show q.2 < 2147483648 by omega) (show a < 2147483648 by omega), w_eq (show a < 2147483648 by omega) (show q.2 < 2147483648 by omega), d162 h hm, d162 h hb, w_lt (show pc m < 2147483648 by omega) (show pc q.1 < 2147483648 by omega)]
  unfold btr
  by_cases c1 : a < q.2
  · rw [dT c1, dF (by omega : ¬ q.2 < a), dF (by omega : ¬ a = q.2)]; rfl
  · by_cases c2 : a = q.2
    · rw [dF c1, dF (by omega : ¬ q.2 < a), dT c2]
      cases decide (pc m < pc q.1) <;> rfl
    · rw [dF c1, dF c2, dT (by omega : q.2 < a)]; rfl
def Se (S : Nat → Nat) (m n : Nat) : Nat → Nat := fun k => if k < n ∧ m.testBit k = true then 1 else S k
theorem Se_0 (S : Nat → Nat) (m : Nat) : Se S m 0 = S := by
  funext k
  exact if_neg (by omega)
theorem Se_s (S : Nat → Nat) (m n : Nat) : Se S m (n + 1) = bif m.testBit n then up (Se S m n) n 1 else Se S m n := by
  cases hb : m.testBit n with
  | true =>
    funext k
    show (if k < n + 1 ∧ m.testBit k = true then 1 else S k) = if k = n then 1 else if k < n ∧ m.testBit k = true then 1 else S k
    by_cases e : k = n
    · subst e; rw [if_pos ⟨by omega, hb⟩, if_pos rfl]
    · rw [if_neg e]
      by_cases e2 : k < n ∧ m.testBit k = true
      · rw [if_pos e2, if_pos ⟨by omega, e2.2⟩]
      · rw [if_neg e2, if_neg (fun c => e2 ⟨by omega, c.2⟩)]
  | false =>
    funext k
    show (if k < n + 1 ∧ m.testBit k = true then 1 else S k) = if k < n ∧ m.testBit k = true then 1 else S k
    by_cases e : k = n
    · subst e; rw [if_neg (fun c => by rw [hb] at c; exact absurd c.2 (by decide)), if_neg (by omega)]
    · by_cases e2 : k < n ∧ m.testBit k = true
      · rw [if_pos e2, if_pos ⟨by omega, e2.2⟩]
      · rw [if_neg e2, if_neg (fun c => e2 ⟨by omega, c.2⟩)]
theorem Se_g {S : Nat → Nat} {m n k : Nat} (h : n ≤ k) : Se S m n k = S k := if_neg (by omega)
theorem has_Se {D : Gh} {S : Nat → Nat} {m t g : Nat} (hg : g < D 0 5) : has D (Se S m (D 0 5)) t g = (has D S t g && !m.testBit g) := by
  unfold has Se
  cases hb : m.testBit g with
  | true => rw [if_pos ⟨hg, rfl⟩]; simp
  | false => rw [if_neg (fun c => absurd c.2 (by decide))]; simp
def eaI (D : Gh) (S : Nat → Nat) (d t k : Nat) (h : A_H) (n : Nat) (h' : A_H) : Prop := QF h h' ∧ ((n = 0 ∧ hI h' 124 22 = -1) ∨ (0 < n ∧ hI h' 124 22 = nI (eaR D S d t k (n - 1)).2 ∧ hI h' 124 23 = nI (eaR D S d t k (n - 1)).1))
theorem wpf (h : A_H) (S : Nat → Nat) {a b : Nat} (ha : ¬ a = 127) : hI (wp h 127 S 18) a b = hI h a b := by rw [hI_wp, if_neg (by omega)]
theorem d236 {h : A_H} {B : Nat} {D : Gh} {S : Nat → Nat} (L : Ly h) (hB : hP h 124 3 = some B) (l : ML h B) (w : WF D) (b : MB h B D) (u : WD D S) (r : RW h 126 S) {t k d : Nat} (ht : t < D 0 3) (hk : k < D 0 4) (hd : d ≤ 60) : ∃ h', C 236 [.ref 124, .int (nI t), .int (nI k), .int (nI d)] h = some (some none, h') ∧ QF h h' ∧ hI h' 124 22 = nI (eaR D S (S 17 + d) t k (msk (D 0 5) (has D S t))).2 ∧ hI h' 124 23 = nI (eaR D S (S 17 + d) t k (msk (D 0 5) (has D S t))).1 := by
  have h17 := u.1
  have hd' : S 17 + d ≤ 1000 := by omega
  have h8' := f_nG w
  have h4' := f_nt w
  have hH := msk_256 (f_nG w) (has D S t)
  have hh := hun_le w u ht
  have ws := WS_S w u
  have q1 : QF h (wI h 124 22 (-1)) := QF_wI (QF.rfl' h) _ (by unfold qs; omega)
  have h216 := d216 (Ly_QF q1 L) (hB_QF q1 hB) (ML_QF q1 l) w (MB_QF q1 l b) ws (RW_QF q1 r) (show t < 100 by omega)
  rw [e236]
  simp only [b236_0, b236_3, b236_6, cond_true, cond_false, decide_true, Bool.and_true, Bool.true_and, Bool.and_self, Bool.and_false, Bool.false_and, Bool.not_true, Bool.not_false, Bool.or_true, Bool.true_or, Bool.or_false, Bool.false_or, is_some, gd_some, bk_v, bk_u, isO_wI, y_124 L, h216]
  obtain ⟨a', ⟨i1, i2⟩, e⟩ := loop_inv (α := A_H × Option Value) (fun n a => eaI D S (S 17 + d) t k h n a.1) (fun n a => R 236 9 [some (.ref 124), some (.int (nI t)), some (.int (nI k)), some (.int (nI d)), some (.int (nI (msk (D 0 5) (has D S t)))), some (.int (nI n)), a.2] [] a.1) (msk (D 0 5) (has D S t) + 1) (by
    intro n a hn i
    obtain ⟨h', l6⟩ := a
    obtain ⟨q, i⟩ : eaI D S (S 17 + d) t k h n h' := i
    have hn8 : n < 256 := by omega
    have hpc := pc_le n
    have La := Ly_QF q L
    have ra := RW_QF q r
    have h8t : (8 : Int32) + nI t = nI (8 + t) := nI_add 8 t
    have q2 := QF_wp q (Se (Sd S d) n (D 0 5)) 18
    have L2 := Ly_QF q2 L
    have hB2 := hB_QF q2 hB
    have l2 := ML_QF q2 l
    have b2 := MB_QF q2 l b
    have v2 : isV 127 := Or.inr rfl
    have r2 := RW_wp h' 127 (Se (Sd S d) n (D 0 5))
    have wsd := WS_Sd w u hd
    have ws2 : WS (Se (Sd S d) n (D 0 5)) := by
      refine ⟨by rw [Se_g (by omega)]; exact wsd.1, fun g hg => ?_, by rw [Se_g (by omega)]; exact wsd.2.2⟩
      unfold Se
      by_cases c : g < D 0 5 ∧ n.testBit g = true
      · rw [if_pos c]; decide
      · rw [if_neg c]; exact wsd.2.1 g hg
    have h213 := d213 L2 hB2 l2 v2 w b2 ws2 r2 ht hk
    have e17 : Se (Sd S d) n (D 0 5) 17 = S 17 + d := by rw [Se_g (by omega)]; rfl
    have ehs : ∀ g, g < D 0 5 → has D (Se (Sd S d) n (D 0 5)) t g = (has D S t g && !n.testBit g) := by
      intro g hg
      rw [has_Se hg, hs_Sd w t g hg]
    have ehi : ∀ g, g < D 0 5 → hid (Se (Sd S d) n (D 0 5)) g = hid S g := by
      intro g _
      unfold hid
      rw [Se_g (by omega)]; rfl
    rw [e17, ask_congr (fun g hg => fnd_congr ehs ehi g hg) (q' := fun g => (has D S t g && !n.testBit g) && !hid S g) (fun g hg => by rw [ehs g hg, ehi g hg]), show ask D 0 (S 17 + d) t (fnd D (S 17 + d) (D 9 k) (fun g => has D S t g && !n.testBit g) (hid S) 0) (fun g => (has D S t g && !n.testBit g) && !hid S g) = eaA D S (S 17 + d) t k n from rfl] at h213
    have ha := eaA_le w hd' S t k n
   
    have walk : R 236 35 [some (.ref 124), some (.int (nI t)), some (.int (nI k)), some (.int (nI d)), some (.int (nI (msk (D 0 5) (has D S t)))), some (.int (nI n)), some (.int 0)] [] (wp h' 127 (Sd S d) 18) = R 236 35 [some (.ref 124), some (.int (nI t)), some (.int (nI k)), some (.int (nI d)), some (.int (nI (msk (D 0 5) (has D S t)))), some (.int (nI n)), some (.int (nI (D 0 5)))] [] (wp h' 127 (Se (Sd S d) n (D 0 5)) 18) := by
      have e0 := loop_ix (fun j => R 236 35 [some (.ref 124), some (.int (nI t)), some (.int (nI k)), some (.int (nI d)), some (.int (nI (msk (D 0 5) (has D S t)))), some (.int (nI n)), some (.int (nI j))] [] (wp h' 127 (Se (Sd S d) n j) 18)) (D 0 5) (by
        intro j hj
        have q3 := QF_wp q (Se (Sd S d) n j) 18
        have L3 := Ly_QF q3 L
        rw [b236_35]
        simp only [cond_true, cond_false, decide_true, Bool.and_true, Bool.true_and, Bool.and_self, Bool.and_false, Bool.false_and, Bool.not_true, Bool.not_false, Bool.or_true, Bool.true_or, Bool.or_false, Bool.false_or, is_some, gd_some, bk_v, bk_u, y_124 L3, hB_QF q3 hB, mB_O (ML_QF q3 l), b_s5 (MB_QF q3 l b), g_go w hj, d161 _ (show j < 32 by omega), bt_nI _ (show j < 32 by omega), b236_43, z_0, y_P16 L3, Int32.zero_add, v_A L3 (Or.inr rfl) (show j < 18 by omega), w_cl (show j < 2147483648 by omega), b236_51, w_s]
        rw [Se_s, show (1 : Int32) = nI 1 from rfl, wp_up h' 127 _ (show j < 18 by omega) 1]
        cases n.testBit j <;> rfl)
      rw [Se_0] at e0
      exact e0
    rw [b236_9]
    simp only [dF (show ¬ nI (msk (D 0 5) (has D S t)) < nI n by rw [w_lt (by omega) (by omega)]; omega), cond_true, cond_false, decide_true, Bool.and_true, Bool.true_and, Bool.and_self, Bool.and_false, Bool.false_and, Bool.not_true, Bool.not_false, Bool.or_true, Bool.true_or, Bool.or_false, Bool.false_or, is_some, gd_some, bk_v, bk_u, d162 h' hn8, b236_20, y_124 La, y_P15 La, h8t, v_A La (Or.inl rfl) (show 8 + t < 18 by omega), w_cl (show 8 + t < 2147483648 by omega), ra (8 + t) (by omega), w_le (show pc n < 2147483648 by omega) (show S (8 + t) < 2147483648 by omega), d219 La ra hd, b236_32, w_s]
    rw [walk, b236_35]
    simp only [cond_true, cond_false, decide_true, Bool.and_true, Bool.true_and, Bool.and_self, Bool.and_false, Bool.false_and, Bool.not_true, Bool.not_false, Bool.or_true, Bool.true_or, Bool.or_false, Bool.false_or, is_some, gd_some, bk_v, bk_u, y_124 L2, hB2, mB_O l2, b_s5 b2, g_stop w, y_P16 L2, h213, b236_61]
    rw [show decide (nI n &&& (nI (msk (D 0 5) (has D S t)) ^^^ (-1 : Int32)) = 0) = sbs n (msk (D 0 5) (has D S t)) from rfl]
    rcases i with ⟨i0, i2⟩ | ⟨i0, i2, i3⟩
    · subst i0
      have hz : sbs 0 (msk (D 0 5) (has D S t)) = true := sbs_0 _
      have hp0 : decide (pc 0 ≤ S (8 + t)) = true := dT (by rw [show pc 0 = 0 by decide]; exact Nat.zero_le _)
      have i2' : hI (wp h' 127 (Se (Sd S d) 0 (D 0 5)) 18) 124 22 = -1 := by rw [wpf _ _ (by decide)]; exact i2
      simp only [hz, hp0, cond_true, cond_false, decide_true, Bool.and_true, Bool.true_and, Bool.and_self, Bool.and_false, Bool.false_and, Bool.not_true, Bool.not_false, Bool.or_true, Bool.true_or, Bool.or_false, Bool.false_or, is_some, gd_some, bk_v, bk_u, d235a L2 i2', b236_62, w_s]
      refine ⟨(_, _), ⟨QF_wI (QF_wI q2 _ (by unfold qs; omega)) _ (by unfold qs; omega), Or.inr ⟨by omega, ?_, ?_⟩⟩, rfl⟩
      · show hI (wI (wI _ 124 22 _) 124 23 _) 124 22 = _
        rw [hI_wI, if_neg (by omega), hI_wI, if_pos ⟨rfl, rfl⟩]; rfl
      · show hI (wI (wI _ 124 22 _) 124 23 _) 124 23 = _
        rw [hI_wI, if_pos ⟨rfl, rfl⟩]; rfl
    · obtain ⟨p, rfl⟩ : ∃ p, n = p + 1 := ⟨n - 1, by omega⟩
      rw [Nat.add_sub_cancel] at i2 i3
      have hb := eaR_le w hd' S t k p
      have i2' : hI (wp h' 127 (Se (Sd S d) (p + 1) (D 0 5)) 18) 124 22 = nI (eaR D S (S 17 + d) t k p).2 := by rw [wpf _ _ (by decide)]; exact i2
      have i3' : hI (wp h' 127 (Se (Sd S d) (p + 1) (D 0 5)) 18) 124 23 = nI (eaR D S (S 17 + d) t k p).1 := by rw [wpf _ _ (by decide)]; exact i3
      simp only [d235 L2 (a := eaA D S (S 17 + d) t k (p + 1)) (m := p + 1) (q := eaR D S (S 17 + d) t k p) (by omega) hn8 (by omega) (by omega) i2' i3', bk_u, b236_62, w_s]
      have hst : eaR D S (S 17 + d) t k (p + 1) = eaS D S (S 17 + d) t k p (eaR D S (S 17 + d) t k p) := rfl
      unfold eaS tks2 at hst
      cases c1 : sbs (p + 1) (msk (D 0 5) (has D S t)) with
      | false =>
        rw [c1, Bool.false_and, cond_false] at hst
        exact ⟨(_, _), ⟨q, Or.inr ⟨by omega, by rw [Nat.add_sub_cancel, hst]; exact i2, by rw [Nat.add_sub_cancel, hst]; exact i3⟩⟩, rfl⟩
      | true =>
        cases c2 : decide (pc (p + 1) ≤ S (8 + t)) with
        | false =>
          rw [c2, Bool.and_false, cond_false] at hst
          exact ⟨(_, _), ⟨q, Or.inr ⟨by omega, by rw [Nat.add_sub_cancel, hst]; exact i2, by rw [Nat.add_sub_cancel, hst]; exact i3⟩⟩, rfl⟩
        | true =>
          rw [c1, c2, Bool.and_self, cond_true] at hst
          cases c3 : btr (eaA D S (S 17 + d) t k (p + 1)) (p + 1) (eaR D S (S 17 + d) t k p).2 (eaR D S (S 17 + d) t k p).1 with
          | false =>
            rw [c3, cond_false] at hst
            exact ⟨(_, _), ⟨q2, Or.inr ⟨by omega, by rw [Nat.add_sub_cancel, hst]; exact i2', by rw [Nat.add_sub_cancel, hst]; exact i3'⟩⟩, rfl⟩
          | true =>
            rw [c3, cond_true] at hst
            refine ⟨(_, _), ⟨QF_wI (QF_wI q2 _ (by unfold qs; omega)) _ (by unfold qs; omega), Or.inr ⟨by omega, ?_, ?_⟩⟩, rfl⟩
            · show hI (wI (wI _ 124 22 _) 124 23 _) 124 22 = _
              rw [Nat.add_sub_cancel, hst, hI_wI, if_neg (by omega), hI_wI, if_pos ⟨rfl, rfl⟩]
            · show hI (wI (wI _ 124 22 _) 124 23 _) 124 23 = _
              rw [Nat.add_sub_cancel, hst, hI_wI, if_pos ⟨rfl, rfl⟩]) (wI h 124 22 (-1), none) ⟨q1, Or.inl ⟨rfl, by rw [hI_wI, if_pos ⟨rfl, rfl⟩]⟩⟩
  rcases i2 with ⟨i0, -⟩ | ⟨-, i2, i3⟩
  · omega
  · rw [Nat.add_sub_cancel] at i2 i3
    refine ⟨a'.1, ?_, i1, i2, i3⟩
    refine Eq.trans e ?_
    show R 236 9 [some (.ref 124), some (.int (nI t)), some (.int (nI k)), some (.int (nI d)), some (.int (nI (msk (D 0 5) (has D S t)))), some (.int (nI (msk (D 0 5) (has D S t) + 1))), a'.2] [] a'.1 = _
    rw [b236_9, dT (show nI (msk (D 0 5) (has D S t)) < nI (msk (D 0 5) (has D S t) + 1) by rw [w_lt (by omega) (by omega)]; omega)]
    rfl
