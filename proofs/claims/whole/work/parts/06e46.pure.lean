theorem wp_id {h : A_H} {V : Nat} {S : Nat → Nat} (r : RW h V S) : wp h V S 18 = h := by
  obtain ⟨a1, a2, a3, a4, a5, a6, a7⟩ := h
  have : (fun a b => if a = V ∧ b < 18 then nI (S b) else a4 a b) = a4 := by
    funext a b
    by_cases e : a = V ∧ b < 18
    · rw [if_pos e, e.1]; exact (r b e.2).symm
    · rw [if_neg e]
  show (a1, a2, a3, (fun a b => if a = V ∧ b < 18 then nI (S b) else a4 a b), a5, a6, a7) = _
  rw [this]
theorem wp_ext {h : A_H} {V n : Nat} {S S' : Nat → Nat} (e : ∀ k, k < n → S k = S' k) : wp h V S n = wp h V S' n := by
  have : (fun a b => if a = V ∧ b < n then nI (S b) else hI h a b) = (fun a b => if a = V ∧ b < n then nI (S' b) else hI h a b) := by
    funext a b
    by_cases c : a = V ∧ b < n
    · rw [if_pos c, if_pos c, e b c.2]
    · rw [if_neg c, if_neg c]
  show (hn h, hs h, hsh h, (fun a b => if a = V ∧ b < n then nI (S b) else hI h a b), hL h, hP h, hX h) = _
  rw [this]; rfl
theorem d197 {h : A_H} {B V : Nat} {D : Gh} (L : Ly h) (hB : hP h 124 3 = some B) (l : ML h B) (hV : isV V) (w : WF D) (b : MB h B D) : C 197 [.ref 124, .ref V] h = some (some none, wp h V (S0 D) 18) := by
  have h4 := f_nt w
  have hV134 : V < 134 := by rcases hV with rfl | rfl <;> decide
  rw [e197]
  simp only [b197_0]
  have e0 := loop_ix (fun k => R 197 2 [some (.ref 124), some (.ref V), some (.int (nI k))] [] (wp h V (fun _ => 0) k)) 18 (by
    intro k hk
    rw [b197_2, show (18 : Int32) = nI 18 from rfl, dF (show ¬ nI 18 ≤ nI k by rw [w_le (by omega) (by omega)]; omega)]
    simp only [cond_true, cond_false, decide_true, Bool.and_true, Bool.true_and, Bool.and_self, Bool.and_false, Bool.false_and, Bool.not_true, Bool.not_false, Bool.or_true, Bool.true_or, Bool.or_false, Bool.false_or, is_some, gd_some, bk_v, bk_u, isA_wp', v_A L hV hk, w_cl (show k < 2147483648 by omega), b197_9, w_s]
    rw [wp_s' (v := 0) rfl])
  simp only [wp_0] at e0
  refine Eq.trans e0 ?_
  rw [b197_2, show (18 : Int32) = nI 18 from rfl, dT (Int32.le_refl _), cond_true]
  have e1 := loop_ix (fun t => R 197 13 [some (.ref 124), some (.ref V), some (.int (nI t))] [] (wp h V (S0t D t) 18)) (D 0 3) (by
    intro t ht
    have b1 : MB (wp h V (S0t D t) 18) B D := MB_wp l hV134 b
    have h8 : (8 : Int32) + nI t = nI (8 + t) := nI_add 8 t
    rw [b197_13]
    simp only [cond_true, cond_false, decide_true, Bool.and_true, Bool.true_and, Bool.and_self, Bool.and_false, Bool.false_and, Bool.not_true, Bool.not_false, Bool.or_true, Bool.true_or, Bool.or_false, Bool.false_or, is_some, gd_some, bk_v, bk_u, hP_wp', isO_wp', isA_wp', y_124 L, hB, mB_O l, b_s3 b1, t_end w ht, m_p16 l, mA_6 l (show t < 4 by omega), w_cl (show t < 2147483648 by omega), h8, v_A L hV (show 8 + t < 18 by omega), w_cl (show 8 + t < 2147483648 by omega), b_hun b1 ht, b197_28, w_s]
    rw [wp_up h V _ (show 8 + t < 18 by omega)]
    have : up (S0t D t) (8 + t) (D 8 t) = S0t D (t + 1) := by
      funext k
      show (if k = 8 + t then D 8 t else if 8 ≤ k ∧ k < 8 + t then D 8 (k - 8) else 0) = if 8 ≤ k ∧ k < 8 + (t + 1) then D 8 (k - 8) else 0
      by_cases e : k = 8 + t
      · rw [if_pos e, if_pos (by omega), show k - 8 = t by omega]
      · rw [if_neg e]
        by_cases e2 : 8 ≤ k ∧ k < 8 + t
        · rw [if_pos e2, if_pos (by omega)]
        · rw [if_neg e2, if_neg (by omega)]
    rw [this])
  have z : wp h V (fun _ => 0) 18 = wp h V (S0t D 0) 18 := wp_ext (fun k _ => (if_neg (by omega)).symm)
  rw [z]
  refine Eq.trans e1 ?_
  have b1 : MB (wp h V (S0t D (D 0 3)) 18) B D := MB_wp l hV134 b
  show R 197 13 [some (.ref 124), some (.ref V), some (.int (nI (D 0 3)))] [] (wp h V (S0t D (D 0 3)) 18) = _
  rw [b197_13]
  simp only [cond_true, cond_false, decide_true, Bool.and_true, Bool.true_and, Bool.and_self, Bool.and_false, Bool.false_and, Bool.not_true, Bool.not_false, Bool.or_true, Bool.true_or, Bool.or_false, Bool.false_or, is_some, gd_some, bk_v, bk_u, hP_wp', isO_wp', isA_wp', y_124 L, hB, mB_O l, b_s3 b1, t_stop w, v_16 L hV, i_16, b_hid b1, b197_36]
  rw [wp_up h V _ (show 16 < 18 by decide)]
  rfl
theorem crk_s (D : Gh) (S : Nat → Nat) (t : Nat) (f : Int32) (n : Nat) : crk D S t f (n + 1) = bif has D S t n then up (crk D S t f n) n (bif bt f n then 3 else 2) else crk D S t f n := by
  cases hb : has D S t n with
  | true =>
    funext k
    show (if k < n + 1 ∧ has D S t k = true then _ else S k) = if k = n then _ else if k < n ∧ has D S t k = true then _ else S k
    by_cases e : k = n
    · subst e; rw [if_pos ⟨by omega, hb⟩, if_pos rfl]
    · rw [if_neg e]
      by_cases e2 : k < n ∧ has D S t k = true
      · rw [if_pos e2, if_pos ⟨by omega, e2.2⟩]
      · rw [if_neg e2, if_neg (fun c => e2 ⟨by omega, c.2⟩)]
  | false =>
    funext k
    show (if k < n + 1 ∧ has D S t k = true then _ else S k) = if k < n ∧ has D S t k = true then _ else S k
    by_cases e : k = n
    · subst e; rw [if_neg (fun c => by rw [hb] at c; exact absurd c.2 (by decide)), if_neg (by omega)]
    · by_cases e2 : k < n ∧ has D S t k = true
      · rw [if_pos e2, if_pos ⟨by omega, e2.2⟩]
      · rw [if_neg e2, if_neg (fun c => e2 ⟨by omega, c.2⟩)]
theorem d214 {h : A_H} {B V : Nat} {D : Gh} {S : Nat → Nat} (L : Ly h) (hB : hP h 124 3 = some B) (l : ML h B) (hV : isV V) (w : WF D) (b : MB h B D) (ws : WS S) (r : RW h V S) {t : Nat} (ht : t < D 0 3) (f : Int32) {a : Nat} (ea : ask D 0 (S 17) t (fun g => has D S t g && bt f g) (fun g => has D S t g && !bt f g && !hid S g) = a) : C 214 [.ref 124, .ref V, .int (nI t), .int f] h = some (some (some (.int (nI a))), wp h V (crs D S t f a) 18) := by
  have h4 := f_nt w
  have h8 := f_nG w
  have hV134 : V < 134 := by rcases hV with rfl | rfl <;> decide
  have h212 := d212 L hB l hV w b ws r ht f false
  rw [bI_F, cond_false, ea] at h212
  have h12 : (12 : Int32) + nI t = nI (12 + t) := nI_add 12 t
  rw [e214]
  simp only [b214_0, b214_6, cond_true, cond_false, decide_true, Bool.and_true, Bool.true_and, Bool.and_self, Bool.and_false, Bool.false_and, Bool.not_true, Bool.not_false, Bool.or_true, Bool.true_or, Bool.or_false, Bool.false_or, is_some, gd_some, bk_v, bk_u, y_124 L, h212]
  have e1 := loop_ix (fun g => R 214 9 [some (.ref 124), some (.ref V), some (.int (nI t)), some (.int f), some (.int (nI a)), some (.int (nI g))] [] (wp h V (crk D S t f g) 18)) (D 0 5) (by
    intro g hg
    have h8g : g < 8 := by omega
    have b1 : MB (wp h V (crk D S t f g) 18) B D := MB_wp l hV134 b
    have ws1 : WS (crk D S t f g) := by
      refine ⟨?_, fun k hk => ?_, ?_⟩
      · show (if 17 < g ∧ _ then _ else S 17) ≤ 1000
        rw [if_neg (by omega)]; exact ws.1
      · show (if k < g ∧ has D S t k = true then _ else S k) ≤ 3
        by_cases c : k < g ∧ has D S t k = true
        · rw [if_pos c]; cases bt f k <;> decide
        · rw [if_neg c]; exact ws.2.1 k hk
      · show (if 16 < g ∧ _ then _ else S 16) < 256
        rw [if_neg (by omega)]; exact ws.2.2
    have h205 := d205 (h := wp h V (crk D S t f g) 18) L hB l hV w b1 ws1 (RW_wp h V _) hg (show t < 100 by omega)
    have hgg : crk D S t f g g = S g := if_neg (by omega)
    have hhg : has D (crk D S t f g) t g = has D S t g := by unfold has; rw [hgg]
    rw [hhg] at h205
    rw [b214_9]
    simp only [cond_true, cond_false, decide_true, Bool.and_true, Bool.true_and, Bool.and_self, Bool.and_false, Bool.false_and, Bool.not_true, Bool.not_false, Bool.or_true, Bool.true_or, Bool.or_false, Bool.false_or, is_some, gd_some, bk_v, bk_u, hP_wp', isO_wp', isA_wp', y_124 L, hB, mB_O l, b_s5 b1, g_go w hg, h205, b214_19, z_0, d161 _ (show g < 32 by omega), b214_27, Int32.zero_add, v_A L hV (show g < 18 by omega), w_cl (show g < 2147483648 by omega), b214_32, w_s]
    rw [crk_s, show (2 : Int32) = nI 2 from rfl, show (3 : Int32) = nI 3 from rfl, wp_up h V _ (show g < 18 by omega), wp_up h V _ (show g < 18 by omega)]
    cases has D S t g
    · rfl
    · cases bt f g <;> rfl)
  have z : wp h V (crk D S t f 0) 18 = h := by
    refine Eq.trans (wp_ext (S' := S) (fun k _ => ?_)) (wp_id r)
    show (if k < 0 ∧ has D S t k = true then _ else S k) = S k
    exact if_neg (by omega)
  rw [z] at e1
  refine Eq.trans e1 ?_
  have b1 : MB (wp h V (crk D S t f (D 0 5)) 18) B D := MB_wp l hV134 b
  show R 214 9 [some (.ref 124), some (.ref V), some (.int (nI t)), some (.int f), some (.int (nI a)), some (.int (nI (D 0 5)))] [] (wp h V (crk D S t f (D 0 5)) 18) = _
  have hrd : hI (wp h V (crk D S t f (D 0 5)) 18) V (12 + t) = nI (S (12 + t)) := by
    rw [hI_wp, if_pos ⟨rfl, by omega⟩]
    show nI (if 12 + t < D 0 5 ∧ _ then _ else S (12 + t)) = _
    rw [if_neg (by omega)]
  rw [b214_9]
  simp only [cond_true, cond_false, decide_true, Bool.and_true, Bool.true_and, Bool.and_self, Bool.and_false, Bool.false_and, Bool.not_true, Bool.not_false, Bool.or_true, Bool.true_or, Bool.or_false, Bool.false_or, is_some, gd_some, bk_v, bk_u, hP_wp', isO_wp', isA_wp', y_124 L, hB, mB_O l, b_s5 b1, g_stop w, h12, v_A L hV (show 12 + t < 18 by omega), w_cl (show 12 + t < 2147483648 by omega), hrd, nI_add, b214_43]
  rw [wp_up h V _ (show 12 + t < 18 by omega)]
  rfl
theorem d160n {a b c : Nat} (ha : a < 2147483648) (hb : b < 2147483648) (hc : c < 2147483648) (h : A_H) : C 160 [.int (nI a), .int (nI b), .int (nI c)] h = some (some (some (.int (bI (decide (b ≤ a) && decide (a ≤ c))))), h) := by
  rw [e160, b160_0]
  simp only [w_lt ha hb, w_lt hc ha]
  by_cases e1 : b ≤ a
  · by_cases e2 : a ≤ c
    · rw [dF (by omega : ¬ a < b), dF (by omega : ¬ c < a), dT e1, dT e2]; rfl
    · rw [dF (by omega : ¬ a < b), dT (by omega : c < a), dT e1, dF e2]; rfl
  · rw [dT (by omega : a < b), dF e1]; rfl
theorem d251 {h : A_H} {B : Nat} {D : Gh} (L : Ly h) (hB : hP h 124 3 = some B) (l : ML h B) (w : WF D) (b : MB h B D) {k : Nat} (hk : k < D 0 6) : C 251 [.ref 124, .int (nI k)] h = some (some (some (.int (bI (opn D k)))), h) := by
  have h6 : k < 6 := Nat.lt_of_lt_of_le hk (f_nx w)
  have hg := f_gat w hk
  have hg3 : D 19 k < 3 := Nat.lt_of_lt_of_le hg (f_ng w)
  have h1 := f_op w hg
  have h2 := f_sh w hg
  have h3 := f_hour w hk
  rw [e251]
  simp only [b251_0, b251_24, cond_true, cond_false, decide_true, Bool.and_true, Bool.true_and, Bool.and_self, Bool.and_false, Bool.false_and, Bool.not_true, Bool.not_false, Bool.or_true, Bool.true_or, Bool.or_false, Bool.false_or, is_some, gd_some, bk_v, bk_u, hB, y_124 L, mB_O l, m_p11 l, m_p12 l, m_p13 l, m_p14 l, m_p15 l, m_p16 l, m_p17 l, m_p18 l, m_p19 l, m_p20 l, m_p21 l, m_p22 l, m_p23 l, m_p24 l, m_p25 l, m_p26 l, m_p27 l, m_p28 l, m_p29 l, m_p30 l, m_p31 l, m_p32 l, m_p33 l, m_p34 l, mA_19 l h6, mA_17 l h6, w_cl (show k < 2147483648 by omega), b_gat b hk, b_hour b hk, mA_8 l hg3, mA_9 l hg3, w_cl (show D 19 k < 2147483648 by omega), b_op b hg, b_sh b hg, d160n (show D 21 k < 2147483648 by omega) (show D 10 (D 19 k) < 2147483648 by omega) (show D 11 (D 19 k) < 2147483648 by omega), z_b]
  rfl
def nx (s : Nat) : Nat := (75 * s + 74) % 65537
theorem nx_lt (s : Nat) : nx s < 65537 := Nat.mod_lt _ (by decide)
theorem w_mod {a b : Nat} (ha : a < 2147483648) (hb : b < 2147483648) : nI a - nI a / nI b * nI b = nI (a % b) := by
  rw [w_div ha hb, w_mul, w_sub (Nat.div_mul_le_self a b)]
  congr 1
  have := Nat.div_add_mod a b
  rw [Nat.mul_comm] at this
  omega
theorem nx_I {s : Nat} (hs : s < 65537) : ((75 * nI s) + 74) - ((75 * nI s) + 74) / 65537 * 65537 = nI (nx s) := by
  rw [show (75 : Int32) = nI 75 from rfl, show (74 : Int32) = nI 74 from rfl, show (65537 : Int32) = nI 65537 from rfl, w_mul, nI_add, w_mod (by omega) (by decide)]
  rfl
def nL (n : Nat) : Int64 := Int64.ofNat n
theorem l_int {n : Nat} (h : n < 9223372036854775808) : (nL n).toInt = n := by
  unfold nL; exact Int64.toInt_ofNat_of_lt h
theorem l_add (a b : Nat) : nL a + nL b = nL (a + b) := (Int64.ofNat_add a b).symm
theorem l_mul (a b : Nat) : nL a * nL b = nL (a * b) := (Int64.ofNat_mul a b).symm
theorem l_sub {a b : Nat} (h : b ≤ a) : nL a - nL b = nL (a - b) := by
  have := l_add (a - b) b
  rw [Nat.sub_add_cancel h] at this
  rw [← this, Int64.add_sub_cancel]
theorem l_div {a b : Nat} (ha : a < 9223372036854775808) (hb : b < 9223372036854775808) : nL a / nL b = nL (a / b) := by
  apply Int64.toInt.inj
  have hd : a / b ≤ a := Nat.div_le_self a b
  rw [l_int (by omega : a / b < 9223372036854775808)]
  by_cases h0 : b = 0
  · subst h0; rw [Nat.div_zero]; show (nL a / 0).toInt = 0; simp
  · rw [Int64.toInt_div, l_int ha, l_int hb, Int.tdiv_eq_ediv_of_nonneg (by omega)]
    have hz := Int.ediv_nonneg (a := (a : Int)) (b := (b : Int)) (by omega) (by omega)
    rw [Int.bmod_eq_of_le] <;> omega
theorem l_mod {a b : Nat} (ha : a < 9223372036854775808) (hb : b < 9223372036854775808) : nL a - nL a / nL b * nL b = nL (a % b) := by
  rw [l_div ha hb, l_mul, l_sub (Nat.div_mul_le_self a b)]
  congr 1
  have := Nat.div_add_mod a b
  rw [Nat.mul_comm] at this
  omega
theorem i_l {n : Nat} (h : n < 2147483648) : (nI n).toInt64 = nL n := by
  apply Int64.toInt.inj
  rw [Int32.toInt_toInt64, w_int h, l_int (by omega)]
theorem l_i {n : Nat} (h : n < 2147483648) : (nL n).toInt32 = nI n := by
  apply Int32.toInt.inj
  rw [Int64.toInt_toInt32, l_int (by omega), w_int h, Int.bmod_eq_of_le] <;> omega
theorem nx_L {s : Nat} (hs : s < 65537) : (((75 * (nI s).toInt64) + 74) - ((75 * (nI s).toInt64) + 74) / 65537 * 65537).toInt32 = nI (nx s) := by
  rw [i_l (by omega), show (75 : Int64) = nL 75 from rfl, show (74 : Int64) = nL 74 from rfl, show (65537 : Int64) = nL 65537 from rfl, l_mul, l_add, l_mod (by omega) (by decide)]
  have := nx_lt s
  exact l_i (by unfold nx at this; omega)
def drS (D : Gh) (S : Nat → Nat) (d t g : Nat) (q : Int32 × Nat) : Int32 × Nat := bif has D S t g && hid S g then (bif decide (sme D d g (has0 S) 0 ≤ nx q.2 % 100) then (q.1, nx q.2) else (q.1 ||| ((1 : Int32) <<< (nI g &&& 31)), nx q.2)) else q
def drI (D : Gh) (S : Nat → Nat) (t g : Nat) (q : Int32 × Nat) : Prop := q.2 < 65537 ∧ ∀ j, j < 32 → bt q.1 j = true → j < g ∧ has D S t j = true ∧ hid S j = true
theorem drS_I {D : Gh} {S : Nat → Nat} {d t g : Nat} (hg : g < 32) {q : Int32 × Nat} (i : drI D S t g q) : drI D S t (g + 1) (drS D S d t g q) := by
  unfold drS
  cases hc : (has D S t g && hid S g) with
  | false =>
    refine ⟨i.1, fun j hj hb => ?_⟩
    have := i.2 j hj hb
    exact ⟨by omega, this.2⟩
  | true =>
    rw [Bool.and_eq_true] at hc
    rw [cond_true]
    cases decide (sme D d g (has0 S) 0 ≤ nx q.2 % 100) with
    | true =>
      refine ⟨nx_lt _, fun j hj hb => ?_⟩
      have := i.2 j hj hb
      exact ⟨by omega, this.2⟩
    | false =>
      refine ⟨nx_lt _, fun j hj hb => ?_⟩
      have hb' : (bt q.1 j || decide (j = g)) = true := by rw [← bt_1 hg, ← bt_or]; exact hb
      by_cases e : j = g
      · rw [e]; exact ⟨by omega, hc⟩
      · rw [dF e, Bool.or_false] at hb'
        have := i.2 j hj hb'
        exact ⟨by omega, this.2⟩
theorem dr_I {D : Gh} {S : Nat → Nat} (w : WF D) {d t s : Nat} (hs : s < 65537) {n : Nat} (hn : n ≤ 8) : drI D S t n (itr (drS D S d t) n (0, s)) := by
  apply itr_inv (drI D S t)
  · refine ⟨hs, fun j _ hb => ?_⟩
    have h0 : bt (0 : Int32) j = false := BitVec.getLsbD_zero
    rw [h0] at hb; cases hb
  · intro k a hk i
    exact drS_I (by omega) i
theorem p_O {h : A_H} (L : Ly h) : isO h 120 6 = true := ly_O L (by decide) rfl
theorem p_P0 {h : A_H} (L : Ly h) : hP h 120 0 = some 121 := ly_P L rfl
theorem p_P1 {h : A_H} (L : Ly h) : hP h 120 1 = some 123 := ly_P L rfl
theorem x_P7 {h : A_H} (L : Ly h) : hP h 0 7 = some 120 := ly_P L rfl
theorem p_A {h : A_H} {k : Nat} (L : Ly h) (hk : k < 6) : isA h 123 0 (nI k) = true := ly_A L (by decide) rfl hk (by decide)
theorem p_in : 121 ∈ stN := by decide
theorem p_O1 {h : A_H} (L : Ly h) : isO h 121 8 = true := n_O L p_in
def sdP (a b : Nat) : Prop := a = 120 ∧ b = 2
def sdM (a b : Nat) : Prop := a = 124 ∧ b = 27
theorem c20 {h : A_H} {T : Nat} {D : Gh} {S : Nat → Nat} (L : Ly h) (hT : isT T) (w : WF D) (c : CT h T D) (s : CS h 121 D S) {t d sd : Nat} (hd : d ≤ 1000) (hsd : sd < 65537) (es : hI h 120 2 = nI sd) : ∃ h', C 20 [.ref 120, .ref T, .int (nI d), .int (nI (msk (D 0 5) (has D S t)))] h = some (some (some (.int (itr (drS D S d t) (D 0 5) (0, sd)).1)), h') ∧ FR sdP h h' ∧ hI h' 120 2 = nI (itr (drS D S d t) (D 0 5) (0, sd)).2 := by
  have h8 := f_nG w
  rw [e20]
  simp only [b20_0]
  obtain ⟨a', ⟨i1, i2⟩, e⟩ := loop_inv (α := A_H) (fun g a => FR sdP h a ∧ hI a 120 2 = nI (itr (drS D S d t) g (0, sd)).2) (fun g a => R 20 4 [some (.ref 120), some (.ref T), some (.int (nI d)), some (.int (nI (msk (D 0 5) (has D S t)))), some (.int (itr (drS D S d t) g (0, sd)).1), some (.int (nI g))] [] a) (D 0 5) (by
    intro g h1 hg i
    obtain ⟨f1, es1⟩ : FR sdP h h1 ∧ hI h1 120 2 = nI (itr (drS D S d t) g (0, sd)).2 := i
    have hg8 : g < 8 := by omega
    have L1 := FR_Ly f1 L
    have c1 : CT h1 T D := FR_CT f1 w c (fun k b h1 h2 _ => by unfold sdP; rcases hT with rfl | rfl <;> omega)
    have s1 : CS h1 121 D S := FR_CS f1 s (fun k b _ _ => by unfold sdP; omega)
    have q := (dr_I (d := d) w hsd (S := S) (t := t) (show g ≤ 8 by omega)).1
    have hn := nx_lt (itr (drS D S d t) g (0, sd)).2
    show ∃ a' : A_H, (FR sdP h a' ∧ hI a' 120 2 = nI (drS D S d t g (itr (drS D S d t) g (0, sd))).2) ∧ _ = R 20 4 [_, _, _, _, some (.int (drS D S d t g (itr (drS D S d t) g (0, sd))).1), _] [] a'
    generalize itr (drS D S d t) g (0, sd) = Q at es1 q hn ⊢
    have hse := sme_le w hg hd (has0 S) 0
    rw [b20_4]
    simp only [cond_true, cond_false, decide_true, Bool.and_true, Bool.true_and, Bool.and_self, Bool.and_false, Bool.false_and, Bool.not_true, Bool.not_false, Bool.or_true, Bool.true_or, Bool.or_false, Bool.false_or, is_some, gd_some, bk_v, bk_u, t_O L1 hT, c_s5 c1, g_go w hg, p_O L1, p_P0 L1, p_O1 L1, s1.2.2.2.2.1, bit_0 _ (show g < 32 by omega), bt_and, hb_ w t g hg, hh_ w g hg, es1, nx_I q, b20_28, isO_wI, hI_wI, and_self, if_true, w_s]
    have L2 : Ly (wI h1 120 2 (nI (nx Q.2))) := L1
    have c2 : CT (wI h1 120 2 (nI (nx Q.2))) T D := CT_fr w c1 (fun k b h1 h2 _ => by rw [hI_wI, if_neg (by rcases hT with rfl | rfl <;> omega)])
    rw [show (100 : Int32) = nI 100 from rfl, w_mod (by omega) (by decide)]
    simp only [c62 L2 hT w c2 hg hd, bk_v, b20_37, w_s]
    unfold drS
    cases hc : (has D S t g && hid S g) with
    | false => exact ⟨h1, ⟨f1, es1⟩, rfl⟩
    | true =>
      rw [Bool.and_eq_true] at hc
      rw [sme_congr (hb_ w t), sme_has (has_t hc.1)]
      simp only [cond_true, cond_false, decide_true, Bool.and_true, Bool.true_and, Bool.and_self, Bool.and_false, Bool.false_and, Bool.not_true, Bool.not_false, Bool.or_true, Bool.true_or, Bool.or_false, Bool.false_or, is_some, gd_some, bk_v, bk_u, w_le (show sme D d g (has0 S) 0 < 2147483648 by omega) (show nx Q.2 % 100 < 2147483648 by omega)]
      refine ⟨wI h1 120 2 (nI (nx Q.2)), ⟨FR_wI f1 _ ⟨rfl, rfl⟩, ?_⟩, ?_⟩
      · rw [hI_wI, if_pos ⟨rfl, rfl⟩]
        cases decide (sme D d g (has0 S) 0 ≤ nx Q.2 % 100) <;> rfl
      · cases decide (sme D d g (has0 S) 0 ≤ nx Q.2 % 100) <;> rfl) h ⟨FR_rfl _ h, es⟩
  refine ⟨a', ?_, i1, i2⟩
  refine Eq.trans e ?_
  have L1 := FR_Ly i1 L
  have c1 : CT a' T D := FR_CT i1 w c (fun k b h1 h2 _ => by unfold sdP; rcases hT with rfl | rfl <;> omega)
  show R 20 4 [_, _, _, _, _, some (.int (nI (D 0 5)))] [] a' = _
  rw [b20_4]
  simp only [cond_true, cond_false, decide_true, Bool.and_true, Bool.true_and, Bool.and_self, Bool.and_false, Bool.false_and, Bool.not_true, Bool.not_false, Bool.or_true, Bool.true_or, Bool.or_false, Bool.false_or, is_some, gd_some, bk_v, bk_u, t_O L1 hT, c_s5 c1, g_stop w]
theorem d252 {h : A_H} {B V : Nat} {D : Gh} {S : Nat → Nat} (L : Ly h) (hB : hP h 124 3 = some B) (l : ML h B) (hV : isV V) (w : WF D) (b : MB h B D) (ws : WS S) (r : RW h V S) (hV7 : V = 127) {t sd : Nat} (ht : t < 100) (hsd : sd < 65537) (es : hI h 124 27 = nI sd) : ∃ h', C 252 [.ref 124, .int (nI t)] h = some (some (some (.int (itr (drS D S (S 17) t) (D 0 5) (0, sd)).1)), h') ∧ FR sdM h h' ∧ hI h' 124 27 = nI (itr (drS D S (S 17) t) (D 0 5) (0, sd)).2 := by
  subst hV7
  have h8 := f_nG w
  have hd := ws.1
  rw [e252]
  simp only [b252_0]
  obtain ⟨a', ⟨i1, i2⟩, e⟩ := loop_inv (α := A_H) (fun g a => FR sdM h a ∧ hI a 124 27 = nI (itr (drS D S (S 17) t) g (0, sd)).2) (fun g a => R 252 4 [some (.ref 124), some (.int (nI t)), some (.int (itr (drS D S (S 17) t) g (0, sd)).1), some (.int (nI g))] [] a) (D 0 5) (by
    intro g h1 hg i
    obtain ⟨f1, es1⟩ : FR sdM h h1 ∧ hI h1 124 27 = nI (itr (drS D S (S 17) t) g (0, sd)).2 := i
    have hg8 : g < 8 := by omega
    have L1 := FR_Ly f1 L
    have hB1 : hP h1 124 3 = some B := by rw [FR_P f1]; exact hB
    have l1 := FR_ML f1 l
    have b1 : MB h1 B D := FR_MB f1 b (fun k j hk => by unfold sdM; have := m_134 l; omega)
    have r1 : RW h1 127 S := fun j hj => (FR_I f1 (by unfold sdM; omega)).trans (r j hj)
    have q := (dr_I (d := S 17) w hsd (S := S) (t := t) (show g ≤ 8 by omega)).1
    have hn := nx_lt (itr (drS D S (S 17) t) g (0, sd)).2
    show ∃ a' : A_H, (FR sdM h a' ∧ hI a' 124 27 = nI (drS D S (S 17) t g (itr (drS D S (S 17) t) g (0, sd))).2) ∧ _ = R 252 4 [_, _, some (.int (drS D S (S 17) t g (itr (drS D S (S 17) t) g (0, sd))).1), _] [] a'
    generalize itr (drS D S (S 17) t) g (0, sd) = Q at es1 q hn ⊢
    have hse := sme_le w hg hd (has0 S) 0
    have L2 : Ly (wI h1 124 27 (nI (nx Q.2))) := L1
    have hB2 : hP (wI h1 124 27 (nI (nx Q.2))) 124 3 = some B := hB1
    have l2 : ML (wI h1 124 27 (nI (nx Q.2))) B := l1
    have b2 : MB (wI h1 124 27 (nI (nx Q.2))) B D := MB_wI l1 (by decide) b1
    have r2 : RW (wI h1 124 27 (nI (nx Q.2))) 127 S := RW_wI (by decide) r1
    have h209 := d209 L2 hB2 l2 hV w b2 ws r2 hg (m := 0) (by decide)
    rw [show nI 0 = 0 from rfl] at h209
    rw [b252_4]
    simp only [cond_true, cond_false, decide_true, Bool.and_true, Bool.true_and, Bool.and_self, Bool.and_false, Bool.false_and, Bool.not_true, Bool.not_false, Bool.or_true, Bool.true_or, Bool.or_false, Bool.false_or, is_some, gd_some, bk_v, bk_u, y_124 L1, hB1, mB_O l1, b_s5 b1, g_go w hg, y_P16 L1, d205 L1 hB1 l1 hV w b1 ws r1 hg ht, b252_15, z_0, d210 L1 hB1 l1 hV w b1 ws r1 (show g < 32 by omega), b252_21, es1, nx_L q, b252_35, isO_wI, hP_wI, hI_wI, and_self, if_true, h209, b252_46, w_s, Int32.or_zero]
    rw [show (100 : Int32) = nI 100 from rfl, w_mod (by omega) (by decide), show (S 16).testBit g = hid S g from rfl]
    simp only [w_le (show sme D (S 17) g (has0 S) 0 < 2147483648 by omega) (show nx Q.2 % 100 < 2147483648 by omega)]
    unfold drS
    cases has D S t g with
    | false => exact ⟨h1, ⟨f1, es1⟩, rfl⟩
    | true =>
      cases hid S g with
      | false => exact ⟨h1, ⟨f1, es1⟩, rfl⟩
      | true =>
        refine ⟨wI h1 124 27 (nI (nx Q.2)), ⟨FR_wI f1 _ ⟨rfl, rfl⟩, ?_⟩, ?_⟩
        · rw [hI_wI, if_pos ⟨rfl, rfl⟩]
          cases decide (sme D (S 17) g (has0 S) 0 ≤ nx Q.2 % 100) <;> rfl
        · cases decide (sme D (S 17) g (has0 S) 0 ≤ nx Q.2 % 100) <;> rfl) h ⟨FR_rfl _ h, es⟩
  refine ⟨a', ?_, i1, i2⟩
  refine Eq.trans e ?_
  have L1 := FR_Ly i1 L
  have l1 := FR_ML i1 l
  have hB1 : hP a' 124 3 = some B := by rw [FR_P i1]; exact hB
  have b1 : MB a' B D := FR_MB i1 b (fun k j hk => by unfold sdM; have := m_134 l; omega)
  show R 252 4 [_, _, _, some (.int (nI (D 0 5)))] [] a' = _
  rw [b252_4]
  simp only [cond_true, cond_false, decide_true, Bool.and_true, Bool.true_and, Bool.and_self, Bool.and_false, Bool.false_and, Bool.not_true, Bool.not_false, Bool.or_true, Bool.true_or, Bool.or_false, Bool.false_or, is_some, gd_some, bk_v, bk_u, y_124 L1, hB1, mB_O l1, b_s5 b1, g_stop w]
def plF (D : Gh) (dr : Bool) (S : Nat → Nat) (s k : Nat) : Int32 × Nat := bif dr then itr (drS D S (D 20 k) (D 18 k)) (D 0 5) (0, s) else (nI (msk (D 0 5) (fnd D (D 20 k) (D 9 (D 19 k)) (has D S (D 18 k)) (hid S) 0)), s)
def plA (D : Gh) (dr : Bool) (S : Nat → Nat) (s k : Nat) : Nat := ask D 0 (D 20 k) (D 18 k) (bt (plF D dr S s k).1) (fun g => has D S (D 18 k) g && !hid S g)
theorem plF_I {D : Gh} (w : WF D) {dr : Bool} {S : Nat → Nat} {s k : Nat} (hs : s < 65537) : (plF D dr S s k).2 < 65537 ∧ ∀ j, j < 32 → bt (plF D dr S s k).1 j = true → j < D 0 5 ∧ has D S (D 18 k) j = true ∧ hid S j = true := by
  unfold plF
  cases dr with
  | true => exact dr_I w hs (f_nG w)
  | false =>
    refine ⟨hs, fun j hj hb => ?_⟩
    have hb' : bt (nI (msk (D 0 5) (fnd D (D 20 k) (D 9 (D 19 k)) (has D S (D 18 k)) (hid S) 0))) j = true := hb
    rw [bt_msk _ hj, Bool.and_eq_true] at hb'
    have h2 := hb'.2
    unfold fnd at h2
    rw [Bool.and_eq_true, Bool.and_eq_true] at h2
    exact ⟨of_decide_eq_true hb'.1, h2.1⟩
abbrev PlT : Type := (Nat → Nat) × Nat × Nat × (Nat → Int32)
def plS (D : Gh) (dr : Bool) (k : Nat) (p : PlT) : PlT := bif opn D k then (crs D p.1 (D 18 k) (plF D dr p.1 p.2.1 k).1 (plA D dr p.1 p.2.1 k), (plF D dr p.1 p.2.1 k).2, p.2.2.1 + plA D dr p.1 p.2.1 k, fun j => if j = k then nI (plA D dr p.1 p.2.1 k) else p.2.2.2 j) else (p.1, p.2.1, p.2.2.1, fun j => if j = k then -2 else p.2.2.2 j)
def plI (D : Gh) (p : PlT) : Prop := WD D p.1 ∧ p.1 17 = 0 ∧ p.2.1 < 65537 ∧ sm 4 (fun t => p.1 (12 + t)) = p.2.2.1
def plR (D : Gh) (dr : Bool) (s n : Nat) : PlT := itr (plS D dr) n (S0 D, s, 0, fun _ => 0)
theorem sm_up {n t a : Nat} {f f' : Nat → Nat} (ht : t < n) (e1 : f' t = f t + a) (e2 : ∀ k, ¬ k = t → f' k = f k) : sm n f' = sm n f + a := by
  have key : ∀ m, m ≤ n → sm m f' = sm m f + (if t < m then a else 0) := by
    intro m
    induction m with
    | zero => intro _; rw [if_neg (by omega)]; rfl
    | succ m ih =>
      intro hm
      rw [sm_s, sm_s, ih (by omega)]
      by_cases e : m = t
      · subst e; rw [e1, if_neg (by omega), if_pos (by omega)]; omega
      · rw [e2 m e]
        by_cases e3 : t < m
        · rw [if_pos e3, if_pos (by omega)]; omega
        · rw [if_neg e3, if_neg (by omega)]; omega
  rw [key n (Nat.le_refl n), if_pos ht]
theorem plS_I {D : Gh} (w : WF D) {dr : Bool} {k : Nat} (hk : k < D 0 6) {p : PlT} (i : plI D p) : plI D (plS D dr k p) := by
  obtain ⟨i1, i2, i3, i4⟩ := i
  have h8 := f_nG w
  have h4 := f_nt w
  have ht := f_cro w hk
  unfold plS
  cases opn D k with
  | false => exact ⟨i1, i2, i3, i4⟩
  | true =>
    refine ⟨WD_crs w i1 ht, ?_, (plF_I w i3).1, ?_⟩
    · show crs D p.1 (D 18 k) _ _ 17 = 0
      rw [crs_n (by omega) (by omega)]; exact i2
    · show sm 4 (fun t => crs D p.1 (D 18 k) _ _ (12 + t)) = p.2.2.1 + _
      rw [← i4]
      refine sm_up (t := D 18 k) (by omega) crs_12 (fun k' hk' => crs_n (by omega) (by omega))
theorem plR_I {D : Gh} (w : WF D) {dr : Bool} {s : Nat} (hs : s < 65537) {n : Nat} (hn : n ≤ D 0 6) : plI D (plR D dr s n) := by
  apply itr_inv (fun _ p => plI D p)
  · refine ⟨WD_S0 w, S0_17 w, hs, ?_⟩
    show sm 4 (fun t => S0 D (12 + t)) = 0
    rw [sm_congr (g := fun _ => 0) (fun k hk => S0_12 w hk), sm_zero]
  · intro k a hk i
    exact plS_I w (by omega) i
theorem had_eq' {D : Gh} {S : Nat → Nat} (w : WF D) (u : WD D S) (t : Nat) : nI (own D t) &&& (((nI (msk (D 0 5) (is S 1)) ||| nI (msk (D 0 5) (is S 2))) ||| nI (msk (D 0 5) (is S 3))) ^^^ (-1 : Int32)) = nI (msk (D 0 5) (has D S t)) := had_eq w u t
def plP (a b : Nat) : Prop := sdP a b ∨ a = 121 ∨ a = 122 ∨ a = 123
theorem plP_T {T k b : Nat} (hT : isT T) (h : k < T + 35) : ¬ plP k b := by unfold plP sdP; rcases hT with rfl | rfl <;> omega
theorem c19 {h : A_H} {T : Nat} {D : Gh} {S : Nat → Nat} (L : Ly h) (hT : isT T) (w : WF D) (c : CT h T D) (u : WD D S) (s : CS h 121 D S) {k sd : Nat} (hk : k < D 0 6) (hsd : sd < 65537) {dr : Bool} (es : dr = true → hI h 120 2 = nI sd) : ∃ h', C 19 [.ref 120, .ref T, .ref (T + 29 + k), .int (bI dr)] h = some (some (some (.int (nI (plA D dr S sd k)))), h') ∧ FR plP h h' ∧ CS h' 121 D (crs D S (D 18 k) (plF D dr S sd k).1 (plA D dr S sd k)) ∧ (dr = true → hI h' 120 2 = nI (plF D dr S sd k).2) ∧ ∀ j, hI h' 123 j = hI h 123 j := by
  have h8 := f_nG w
  have h6 : k < 6 := Nat.lt_of_lt_of_le hk (f_nx w)
  have ht := f_cro w hk
  have ht4 : D 18 k < 4 := Nat.lt_of_lt_of_le ht (f_nt w)
  have hg := f_gat w hk
  have hd := f_day w hk
  have fI := plF_I w (dr := dr) (S := S) (k := k) hsd
 
  have fin : ∀ h1, FR sdP h h1 → R 19 48 [some (.ref 120), some (.ref T), some (.ref (T + 29 + k)), some (.int (bI dr)), some (.int (nI (msk (D 0 5) (has D S (D 18 k))))), some (.int (plF D dr S sd k).1), none] [.int (nI (plA D dr S sd k))] h1 = R 19 48 [some (.ref 120), some (.ref T), some (.ref (T + 29 + k)), some (.int (bI dr)), some (.int (nI (msk (D 0 5) (has D S (D 18 k))))), some (.int (plF D dr S sd k).1), none] [.int (nI (plA D dr S sd k))] h1 → ∃ h', R 19 48 [some (.ref 120), some (.ref T), some (.ref (T + 29 + k)), some (.int (bI dr)), some (.int (nI (msk (D 0 5) (has D S (D 18 k))))), some (.int (plF D dr S sd k).1), none] [.int (nI (plA D dr S sd k))] h1 = some (some (some (.int (nI (plA D dr S sd k)))), h') ∧ FR plP h h' ∧ CS h' 121 D (crs D S (D 18 k) (plF D dr S sd k).1 (plA D dr S sd k)) ∧ hI h' 120 2 = hI h1 120 2 ∧ ∀ j, hI h' 123 j = hI h 123 j := by
    intro h1 f1 _
    have L1 := FR_Ly f1 L
    have s1 : CS h1 121 D S := FR_CS f1 s (fun k b _ _ => by unfold sdP; omega)
    have c1 : CT h1 T D := FR_CT f1 w c (fun k b h1 h2 _ => by unfold sdP; rcases hT with rfl | rfl <;> omega)
    obtain ⟨h', e', s', f'⟩ := c53 L1 p_in w u s1 (a := plA D dr S sd k) ht (f := (plF D dr S sd k).1) (fun j hj hb => ⟨(fI.2 j hj hb).1, (fI.2 j hj hb).2.1⟩)
    refine ⟨h', ?_, FR_tr (FR_mo (fun a b q => Or.inl q) f1) (FR_mo (fun a b q => by unfold stF at q; unfold plP; omega) f'), s', FR_I f' (by unfold stF; omega), fun j => (FR_I f' (by unfold stF; omega)).trans (FR_I f1 (by unfold sdP; omega))⟩
    rw [b19_48]
    simp only [cond_true, cond_false, decide_true, Bool.and_true, Bool.true_and, Bool.and_self, Bool.and_false, Bool.false_and, Bool.not_true, Bool.not_false, Bool.or_true, Bool.true_or, Bool.or_false, Bool.false_or, is_some, gd_some, bk_v, bk_u, p_O L1, p_P0 L1, p_O1 L1, t_Ox L1 hT h6, c_cro c1 hk, e', b19_57]
  have hah : ∀ h1, FR sdP h h1 → C 70 [.ref T, .int (nI (D 18 k)), .int (plF D dr S sd k).1, .int (nI (msk (D 0 5) (has D S (D 18 k))) &&& (nI (S 16) ^^^ (-1 : Int32))), .int (nI (D 20 k)), .int 0] h1 = some (some (some (.int (nI (plA D dr S sd k)))), h1) := by
    intro h1 f1
    have L1 := FR_Ly f1 L
    have c1 : CT h1 T D := FR_CT f1 w c (fun k b h1 h2 _ => by unfold sdP; rcases hT with rfl | rfl <;> omega)
    have h70 := c70 L1 hT w c1 ht (plF D dr S sd k).1 (nI (msk (D 0 5) (has D S (D 18 k))) &&& (nI (S 16) ^^^ (-1 : Int32))) (show D 20 k ≤ 1000 by omega) false
    rw [bI_F, cond_false, ask_congr (p' := bt (plF D dr S sd k).1) (q' := fun g => has D S (D 18 k) g && !hid S g) (fun _ _ => rfl) (fun g hg => by
      have := f_nG w
      rw [bt_and, hb_ w _ g hg, bt_xm _ (by omega), hh_ w g hg])] at h70
    exact h70
  rw [e19]
  simp only [b19_0, cond_true, cond_false, decide_true, Bool.and_true, Bool.true_and, Bool.and_self, Bool.and_false, Bool.false_and, Bool.not_true, Bool.not_false, Bool.or_true, Bool.true_or, Bool.or_false, Bool.false_or, is_some, gd_some, bk_v, bk_u, t_O L hT, t_P10 L hT, t_Ox L hT h6, c_cro c hk, t_At L hT ht4, w_cl (show D 18 k < 2147483648 by omega), t_Et L hT ht4, t_Ot L hT ht4, c_own c ht4, p_O L, p_P0 L, p_O1 L, c51 L p_in s, b19_9, had_eq w u, c_gat c hk, c_day c hk, s.2.2.2.2.1, z_0]
  cases dr with
  | false =>
    have h69 := c69 L hT w c hg (show D 20 k ≤ 1000 by omega) (nI (msk (D 0 5) (has D S (D 18 k)))) (nI (S 16))
    rw [msk_congr (fun g hg => fnd_congr (hb_ w _) (hh_ w) g hg)] at h69
    obtain ⟨h', e1, e2, e3, e4, e5⟩ := fin h (FR_rfl _ h) rfl
    refine ⟨h', ?_, e2, e3, (fun c => by cases c), e5⟩
    simp only [cond_true, cond_false, decide_true, Bool.and_true, Bool.true_and, Bool.and_self, Bool.and_false, Bool.false_and, Bool.not_true, Bool.not_false, Bool.or_true, Bool.true_or, Bool.or_false, Bool.false_or, is_some, gd_some, bk_v, bk_u, h69, b19_32, t_O L hT, t_Ox L hT h6, c_cro c hk, p_O L, p_P0 L, p_O1 L, s.2.2.2.2.1, c_day c hk]
    have := hah h (FR_rfl _ h)
    unfold plF at this e1
    simp only [cond_false] at this e1
    simp only [this, bk_v]
    exact e1
  | true =>
    obtain ⟨h1, g1, f1, es1⟩ := c20 L hT w c s (t := D 18 k) (d := D 20 k) (by omega) hsd (es rfl)
    have L1 := FR_Ly f1 L
    have s1 : CS h1 121 D S := FR_CS f1 s (fun k b _ _ => by unfold sdP; omega)
    have c1 : CT h1 T D := FR_CT f1 w c (fun k b h1 h2 _ => by unfold sdP; rcases hT with rfl | rfl <;> omega)
    obtain ⟨h', e1, e2, e3, e4, e5⟩ := fin h1 f1 rfl
    refine ⟨h', ?_, e2, e3, fun _ => e4.trans es1, e5⟩
    simp only [cond_true, cond_false, decide_true, Bool.and_true, Bool.true_and, Bool.and_self, Bool.and_false, Bool.false_and, Bool.not_true, Bool.not_false, Bool.or_true, Bool.true_or, Bool.or_false, Bool.false_or, is_some, gd_some, bk_v, bk_u, g1, b19_21, t_O L1 hT, t_Ox L1 hT h6, c_cro c1 hk, p_O L1, p_P0 L1, p_O1 L1, s1.2.2.2.2.1, c_day c1 hk]
    have := hah h1 f1
    unfold plF at this e1
    simp only [cond_true] at this e1
    simp only [this, bk_v]
    exact e1
theorem x_end {D : Gh} (w : WF D) {k : Nat} (hk : k < D 0 6) : decide (nI (D 0 6) ≤ nI k) = false := by
  have := f_nx w
  rw [dF (by rw [w_le (by omega) (by omega)]; omega)]
theorem x_stop (D : Gh) : decide (nI (D 0 6) ≤ nI (D 0 6)) = true := dT (Int32.le_refl _)
theorem c18 {h : A_H} {T : Nat} {D : Gh} (L : Ly h) (hT : isT T) (w : WF D) (c : CT h T D) {sd : Nat} (hsd : sd < 65537) {dr : Bool} (es : dr = true → hI h 120 2 = nI sd) : ∃ h', C 18 [.ref 120, .ref T, .int (bI dr)] h = some (some none, h') ∧ FR plP h h' ∧ CS h' 121 D (plR D dr sd (D 0 6)).1 ∧ (dr = true → hI h' 120 2 = nI (plR D dr sd (D 0 6)).2.1) ∧ ∀ j, j < D 0 6 → hI h' 123 j = (plR D dr sd (D 0 6)).2.2.2 j := by
  have hx := f_nx w
  obtain ⟨h1, g1, s1, f1⟩ := c49 L p_in hT w c
  have L1 := FR_Ly f1 L
  obtain ⟨a', ⟨i1, i2, i3, i4⟩, e⟩ := loop_inv (α := A_H × Option Value) (fun k a => FR plP h a.1 ∧ CS a.1 121 D (plR D dr sd k).1 ∧ (dr = true → hI a.1 120 2 = nI (plR D dr sd k).2.1) ∧ ∀ j, j < k → hI a.1 123 j = (plR D dr sd k).2.2.2 j) (fun k a => R 18 6 [some (.ref 120), some (.ref T), some (.int (bI dr)), some (.int (nI k)), a.2] [] a.1) (D 0 6) (by
    intro k a hk i
    obtain ⟨ha, l4⟩ := a
    obtain ⟨f, s, es, as⟩ : FR plP h ha ∧ CS ha 121 D (plR D dr sd k).1 ∧ (dr = true → hI ha 120 2 = nI (plR D dr sd k).2.1) ∧ ∀ j, j < k → hI ha 123 j = (plR D dr sd k).2.2.2 j := i
    have La := FR_Ly f L
    have ca : CT ha T D := FR_CT f w c (fun k b _ h2 _ => plP_T hT h2)
    have h6 : k < 6 := by omega
    obtain ⟨p1, p2, p3, p4⟩ := plR_I w (dr := dr) hsd (show k ≤ D 0 6 by omega)
    obtain ⟨h2, g2, f2, s2, es2, as2⟩ := c19 La hT w ca p1 s hk p3 es
    rw [b18_6]
    simp only [cond_true, cond_false, decide_true, Bool.and_true, Bool.true_and, Bool.and_self, Bool.and_false, Bool.false_and, Bool.not_true, Bool.not_false, Bool.or_true, Bool.true_or, Bool.or_false, Bool.false_or, is_some, gd_some, bk_v, bk_u, t_O La hT, c_s6 ca, x_end w hk, t_P13 La hT, t_Ax La hT h6, w_cl (show k < 2147483648 by omega), t_Ex La hT h6, p_O La, p_P1 La, c72 La hT w ca hk, b18_21, z_0, p_A La h6, g2, b18_30, w_s]
    have hst : plR D dr sd (k + 1) = plS D dr k (plR D dr sd k) := rfl
    unfold plS at hst
    cases ho : opn D k with
    | false =>
      rw [ho, cond_false] at hst
      refine ⟨(_, _), ⟨FR_wI f _ (Or.inr (Or.inr (Or.inr rfl))), ?_, ?_, ?_⟩, rfl⟩
      · rw [hst]
        exact FR_CS (P := fun a _ => a = 123) (FR_wI (FR_rfl _ ha) _ rfl) s (fun k b _ _ => by omega)
      · intro hd
        rw [hst]
        show hI (wI ha 123 k (-2)) 120 2 = _
        rw [hI_wI, if_neg (by omega)]; exact es hd
      · intro j hj
        rw [hst]
        show hI (wI ha 123 k (-2)) 123 j = if j = k then -2 else _
        rw [hI_wI]
        by_cases e : j = k
        · rw [if_pos ⟨rfl, e⟩, if_pos e]
        · rw [if_neg (fun c => e c.2), if_neg e]; exact as j (by omega)
    | true =>
      rw [ho, cond_true] at hst
      have L2 := FR_Ly f2 La
      simp only [cond_true, cond_false, decide_true, Bool.and_true, Bool.true_and, Bool.and_self, Bool.and_false, Bool.false_and, Bool.not_true, Bool.not_false, Bool.or_true, Bool.true_or, Bool.or_false, Bool.false_or, is_some, gd_some, bk_v, bk_u, b18_27, p_A L2 h6, w_cl (show k < 2147483648 by omega), b18_30, w_s]
      refine ⟨(_, _), ⟨FR_wI (FR_tr f f2) _ (Or.inr (Or.inr (Or.inr rfl))), ?_, ?_, ?_⟩, rfl⟩
      · rw [hst]
        exact FR_CS (P := fun a _ => a = 123) (FR_wI (FR_rfl _ h2) _ rfl) s2 (fun k b _ _ => by omega)
      · intro hd
        rw [hst]
        show hI (wI h2 123 k _) 120 2 = _
        rw [hI_wI, if_neg (by omega)]; exact es2 hd
      · intro j hj
        rw [hst]
        show hI (wI h2 123 k _) 123 j = if j = k then _ else _
        rw [hI_wI]
        by_cases e : j = k
        · rw [if_pos ⟨rfl, e⟩, if_pos e]
        · rw [if_neg (fun c => e c.2), if_neg e, as2]; exact as j (by omega)) (h1, none) ⟨FR_mo (fun a b q => by unfold stF at q; unfold plP; omega) f1, s1, fun hd => (FR_I f1 (by unfold stF; omega)).trans (es hd), fun j hj => absurd hj (Nat.not_lt_zero j)⟩
  refine ⟨a'.1, ?_, i1, i2, i3, i4⟩
  rw [e18]
  simp only [b18_0, cond_true, cond_false, decide_true, Bool.and_true, Bool.true_and, Bool.and_self, Bool.and_false, Bool.false_and, Bool.not_true, Bool.not_false, Bool.or_true, Bool.true_or, Bool.or_false, Bool.false_or, is_some, gd_some, bk_v, bk_u, p_O L, p_P0 L, p_O1 L, g1, b18_4]
  refine Eq.trans e ?_
  have La := FR_Ly i1 L
  have ca : CT a'.1 T D := FR_CT i1 w c (fun k b _ h2 _ => plP_T hT h2)
  show R 18 6 [_, _, _, some (.int (nI (D 0 6))), _] [] a'.1 = _
  rw [b18_6]
  simp only [cond_true, cond_false, decide_true, Bool.and_true, Bool.true_and, Bool.and_self, Bool.and_false, Bool.false_and, Bool.not_true, Bool.not_false, Bool.or_true, Bool.true_or, Bool.or_false, Bool.false_or, is_some, gd_some, bk_v, bk_u, t_O La hT, c_s6 ca, x_stop]
theorem has_u17 {D : Gh} {S : Nat → Nat} {e : Nat} (w : WF D) (t : Nat) : ∀ g, g < D 0 5 → has D (up S 17 e) t g = has D S t g := by
  intro g hg
  have := f_nG w
  unfold has up
  rw [if_neg (by omega)]
theorem h0_u17 {D : Gh} {S : Nat → Nat} {e : Nat} (w : WF D) : ∀ g, g < D 0 5 → has0 (up S 17 e) g = has0 S g := by
  intro g hg
  have := f_nG w
  unfold has0 up
  rw [if_neg (by omega)]
theorem WS_u17 {D : Gh} {S : Nat → Nat} (w : WF D) (u : WD D S) {e : Nat} (he : e ≤ 1000) : WS (up S 17 e) := by
  have h3 := (WS_S w u).2.2
  refine ⟨he, fun g hg => ?_, h3⟩
  show (if g = 17 then e else S g) ≤ 3
  rw [if_neg (by omega)]; exact u.2.1 g hg
theorem crs_u17 {D : Gh} {S : Nat → Nat} {e t a : Nat} {f : Int32} (w : WF D) (ht : t < D 0 3) : crs D (up S 17 e) t f a = up (crs D S t f a) 17 e := by
  have h8 := f_nG w
  have h4 := f_nt w
  funext k
  by_cases e1 : k < D 0 5
  · rw [crs_g e1 h8, has_u17 w t k e1]
    show _ = if k = 17 then e else crs D S t f a k
    rw [if_neg (by omega), crs_g e1 h8]
    show (bif _ then _ else if k = 17 then e else S k) = _
    rw [if_neg (by omega)]
  · by_cases e2 : k = 12 + t
    · rw [e2, crs_12]
      show (if 12 + t = 17 then e else S (12 + t)) + a = if 12 + t = 17 then e else crs D S t f a (12 + t)
      rw [if_neg (by omega), if_neg (by omega), crs_12]
    · rw [crs_n (by omega) e2]
      show (if k = 17 then e else S k) = if k = 17 then e else crs D S t f a k
      rw [crs_n (by omega) e2]
theorem dr_u17 {D : Gh} {S : Nat → Nat} {e d t s : Nat} (w : WF D) : itr (drS D (up S 17 e) d t) (D 0 5) (0, s) = itr (drS D S d t) (D 0 5) (0, s) := by
  apply itr_congr
  intro k a hk
  unfold drS
  rw [has_u17 w t k hk, sme_congr (h0_u17 w)]
  rfl
theorem d253 {h : A_H} {B : Nat} {D : Gh} {S : Nat → Nat} (L : Ly h) (hB : hP h 124 3 = some B) (l : ML h B) (w : WF D) (b : MB h B D) (u : WD D S) (r : RW h 126 S) {sd : Nat} (hsd : sd < 65537) {dr : Bool} (es : dr = true → hI h 124 27 = nI sd) : ∃ h' e, C 253 [.ref 124, .int (bI dr)] h = some (some (some (.int (nI (plR D dr sd (D 0 6)).2.2.1))), h') ∧ QF h h' ∧ e ≤ 60 ∧ RW h' 127 (up (plR D dr sd (D 0 6)).1 17 e) ∧ (dr = true → hI h' 124 27 = nI (plR D dr sd (D 0 6)).2.1) ∧ ∀ j, j < D 0 6 → hI h' 130 j = (plR D dr sd (D 0 6)).2.2.2 j := by
  have hx := f_nx w
  have v2 : isV 127 := Or.inr rfl
  have y_P26 : ∀ {h : A_H}, Ly h → hP h 124 26 = some 130 := fun L => ly_P L rfl
  have y_A : ∀ {h : A_H} {k : Nat}, Ly h → k < 6 → isA h 130 0 (nI k) = true := fun L hk => ly_A L (by decide) rfl hk (by decide)
  obtain ⟨a', ⟨i1, ⟨ex, ix, i2⟩, i3, i4⟩, e⟩ := loop_inv (α := A_H × Option Value) (fun k a => QF h a.1 ∧ (∃ e, e ≤ 60 ∧ RW a.1 127 (up (plR D dr sd k).1 17 e)) ∧ (dr = true → hI a.1 124 27 = nI (plR D dr sd k).2.1) ∧ ∀ j, j < k → hI a.1 130 j = (plR D dr sd k).2.2.2 j) (fun k a => R 253 8 [some (.ref 124), some (.int (bI dr)), some (.int (nI (plR D dr sd k).2.2.1)), some (.int (nI k)), a.2] [] a.1) (D 0 6) (by
    intro k a hk i
    obtain ⟨ha, l4⟩ := a
    obtain ⟨q, ⟨e0, he0, r0⟩, es0, as0⟩ : QF h ha ∧ (∃ e, e ≤ 60 ∧ RW ha 127 (up (plR D dr sd k).1 17 e)) ∧ (dr = true → hI ha 124 27 = nI (plR D dr sd k).2.1) ∧ ∀ j, j < k → hI ha 130 j = (plR D dr sd k).2.2.2 j := i
    have h6 : k < 6 := by omega
    obtain ⟨p1, p2, p3, p4⟩ := plR_I w (dr := dr) hsd (show k ≤ D 0 6 by omega)
    have hst : plR D dr sd (k + 1) = plS D dr k (plR D dr sd k) := rfl
    unfold plS at hst
    have ht := f_cro w hk
    have hg := f_gat w hk
    have hd := f_day w hk
    have ht4 := f_nt w
    have La := Ly_QF q L
    have hBa := hB_QF q hB
    have la := ML_QF q l
    have ba := MB_QF q l b
    have q1 : QF h (wI ha 130 k (-2)) := QF_wI q _ (by unfold qs; omega)
    have L1 := Ly_QF q1 L
    have hB1 := hB_QF q1 hB
    have l1 := ML_QF q1 l
    have b1 := MB_QF q1 l b
    rw [b253_8]
    simp only [cond_true, cond_false, decide_true, Bool.and_true, Bool.true_and, Bool.and_self, Bool.and_false, Bool.false_and, Bool.not_true, Bool.not_false, Bool.or_true, Bool.true_or, Bool.or_false, Bool.false_or, is_some, gd_some, bk_v, bk_u, y_124 La, hBa, mB_O la, b_s6 ba, x_end w hk, y_P26 La, y_A La h6, w_cl (show k < 2147483648 by omega), b253_18, isO_wI, d251 L1 hB1 l1 w b1 hk, b253_21, z_0, hP_wI, isA_wI, w_s]
    cases ho : opn D k with
    | false =>
      rw [ho, cond_false] at hst
      simp only [cond_true, cond_false, decide_true, Bool.and_true, Bool.true_and, Bool.and_self, Bool.and_false, Bool.false_and, Bool.not_true, Bool.not_false, Bool.or_true, Bool.true_or, Bool.or_false, Bool.false_or, is_some, gd_some, bk_v, bk_u]
      refine ⟨(wI ha 130 k (-2), l4), ⟨q1, ⟨e0, he0, ?_⟩, ?_, ?_⟩, ?_⟩
      · rw [hst]; exact RW_wI (by decide) r0
      · intro hd; rw [hst]; show hI (wI ha 130 k (-2)) 124 27 = _
        rw [hI_wI, if_neg (by omega)]; exact es0 hd
      · intro j hj
        rw [hst]
        show hI (wI ha 130 k (-2)) 130 j = if j = k then -2 else _
        rw [hI_wI]
        by_cases e : j = k
        · rw [if_pos ⟨rfl, e⟩, if_pos e]
        · rw [if_neg (fun c => e c.2), if_neg e]; exact as0 j (by omega)
      · rw [hst]
    | true =>
      rw [ho, cond_true] at hst
      generalize plR D dr sd k = p at *
      have q2 : QF h (wI (wI ha 130 k (-2)) 127 17 (nI (D 20 k))) := QF_wI q1 _ (by unfold qs; omega)
      have L2 := Ly_QF q2 L
      have hB2 := hB_QF q2 hB
      have l2 := ML_QF q2 l
      have b2 := MB_QF q2 l b
      have r2 : RW (wI (wI ha 130 k (-2)) 127 17 (nI (D 20 k))) 127 (up p.1 17 (D 20 k)) := by
        intro j hj
        rw [hI_wI]
        by_cases e : j = 17
        · rw [if_pos ⟨rfl, e⟩, e]; rfl
        · rw [if_neg (fun c => e c.2), hI_wI, if_neg (by omega), r0 j hj]
          show nI (if j = 17 then e0 else p.1 j) = nI (if j = 17 then D 20 k else p.1 j)
          rw [if_neg e, if_neg e]
      have ws2 := WS_u17 w p1 (show D 20 k ≤ 1000 by omega)
      have fI := plF_I w (dr := dr) (S := p.1) (k := k) p3
     
      have fin : ∀ h3, QF h h3 → RW h3 127 (up p.1 17 (D 20 k)) → (dr = true → hI h3 124 27 = nI (plF D dr p.1 p.2.1 k).2) → (∀ j, ¬ j = k → hI h3 130 j = hI ha 130 j) → ∃ a' : A_H × Option Value, (QF h a'.1 ∧ (∃ e, e ≤ 60 ∧ RW a'.1 127 (up (plR D dr sd (k + 1)).1 17 e)) ∧ (dr = true → hI a'.1 124 27 = nI (plR D dr sd (k + 1)).2.1) ∧ ∀ j, j < k + 1 → hI a'.1 130 j = (plR D dr sd (k + 1)).2.2.2 j) ∧ a_back R 253 (214, [.ref 124, .ref 127, .int (nI (D 18 k)), .int (plF D dr p.1 p.2.1 k).1], h3, true, none, 63, [some (.ref 124), some (.int (bI dr)), some (.int (nI p.2.2.1)), some (.int (nI k)), some (.int (nI (D 18 k)))], [.int (nI k), .ref 130]) (C 214 [.ref 124, .ref 127, .int (nI (D 18 k)), .int (plF D dr p.1 p.2.1 k).1] h3) = R 253 8 [some (.ref 124), some (.int (bI dr)), some (.int (nI (plR D dr sd (k + 1)).2.2.1)), some (.int (nI (k + 1))), a'.2] [] a'.1 := by
        intro h3 q3 r3 es3 as3
        have L3 := Ly_QF q3 L
        have hB3 := hB_QF q3 hB
        have l3 := ML_QF q3 l
        have b3 := MB_QF q3 l b
        have hqa : ask D 0 (up p.1 17 (D 20 k) 17) (D 18 k) (fun g => has D (up p.1 17 (D 20 k)) (D 18 k) g && bt (plF D dr p.1 p.2.1 k).1 g) (fun g => has D (up p.1 17 (D 20 k)) (D 18 k) g && !bt (plF D dr p.1 p.2.1 k).1 g && !hid (up p.1 17 (D 20 k)) g) = plA D dr p.1 p.2.1 k := by
          apply ask_congr
          · intro g hg
            have := f_nG w
            rw [has_u17 w _ g hg]
            cases hb : bt (plF D dr p.1 p.2.1 k).1 g with
            | false => rw [Bool.and_false]
            | true => rw [(fI.2 g (by omega) hb).2.1]; rfl
          · intro g hg
            have := f_nG w
            rw [has_u17 w _ g hg, show hid (up p.1 17 (D 20 k)) g = hid p.1 g from rfl]
            cases hb : bt (plF D dr p.1 p.2.1 k).1 g with
            | false => rw [Bool.not_false, Bool.and_true]
            | true => rw [(fI.2 g (by omega) hb).2.2]; simp
        have h214 := d214 L3 hB3 l3 v2 w b3 ws2 r3 ht (plF D dr p.1 p.2.1 k).1 hqa
        rw [crs_u17 w ht] at h214
        have q4 := QF_wp q3 (up (crs D p.1 (D 18 k) (plF D dr p.1 p.2.1 k).1 (plA D dr p.1 p.2.1 k)) 17 (D 20 k)) 18
        have L4 := Ly_QF q4 L
        simp only [h214, bk_v, b253_63, y_A L4 h6, cond_true, w_cl (show k < 2147483648 by omega), b253_64, cond_true, cond_false, decide_true, Bool.and_true, Bool.true_and, Bool.and_self, Bool.and_false, Bool.false_and, Bool.not_true, Bool.not_false, Bool.or_true, Bool.true_or, Bool.or_false, Bool.false_or, is_some, gd_some, bk_v, bk_u, isO_wI, hP_wI, isA_wI, y_124 L4, y_P26 L4, hI_wI, and_self, if_true, nI_add, w_s]
        refine ⟨(wI (wp h3 127 (up (crs D p.1 (D 18 k) (plF D dr p.1 p.2.1 k).1 (plA D dr p.1 p.2.1 k)) 17 (D 20 k)) 18) 130 k (nI (plA D dr p.1 p.2.1 k)), some (.int (nI (D 18 k)))), ⟨QF_wI (k := 130) (j := k) q4 _ (by unfold qs; omega), ⟨D 20 k, by omega, ?_⟩, ?_, ?_⟩, ?_⟩
        rotate_left 3
        · rw [hst]
        · rw [hst]
          exact RW_wI (by decide) (RW_wp h3 127 _)
        · intro hd; rw [hst]
          show hI (wI (wp h3 127 _ 18) 130 k _) 124 27 = _
          rw [hI_wI, if_neg (by omega), hI_wp, if_neg (by omega)]; exact es3 hd
        · intro j hj
          rw [hst]
          show hI (wI (wp h3 127 _ 18) 130 k _) 130 j = if j = k then _ else _
          rw [hI_wI]
          by_cases e : j = k
          · rw [if_pos ⟨rfl, e⟩, if_pos e]
          · rw [if_neg (fun c => e c.2), if_neg e, hI_wp, if_neg (by omega), as3 j e]; exact as0 j (by omega)
      have as2 : ∀ j, ¬ j = k → hI (wI (wI ha 130 k (-2)) 127 17 (nI (D 20 k))) 130 j = hI ha 130 j := fun j hj => by rw [hI_wI, if_neg (by omega), hI_wI, if_neg (fun c => hj c.2)]
      simp only [cond_true, cond_false, decide_true, Bool.and_true, Bool.true_and, Bool.and_self, Bool.and_false, Bool.false_and, Bool.not_true, Bool.not_false, Bool.or_true, Bool.true_or, Bool.or_false, Bool.false_or, is_some, gd_some, bk_v, bk_u, y_124 La, hBa, mB_O la, m_p26 la, m_p28 la, mA_16 la h6, mA_18 la h6, y_P16 La, v_17 La v2, i_17, w_cl (show k < 2147483648 by omega), b_cro b1 hk, b_day b1 hk, b253_38, isO_wI, hP_wI, isA_wI, y_P26 La, z_0]
      cases dr with
      | false =>
        have h211 := d211 L2 hB2 l2 v2 w b2 ws2 r2 (show D 18 k < 100 by omega) hg (m := 0) (by decide)
        rw [msk_congr (fun g hg => fnd_congr (has_u17 w _) (fun _ _ => rfl) g hg), show nI 0 = 0 from rfl] at h211
        obtain ⟨a', ia, ea⟩ := fin _ q2 r2 (fun c => by cases c) as2
        refine ⟨a', ia, ?_⟩
        have h211' : C 211 [.ref 124, .ref 127, .int (nI (D 18 k)), .int (nI (D 19 k)), .int 0] (wI (wI ha 130 k (-2)) 127 17 (nI (D 20 k))) = some (some (some (.int (plF D false p.1 p.2.1 k).1)), wI (wI ha 130 k (-2)) 127 17 (nI (D 20 k))) := h211
        simp only [cond_true, cond_false, decide_true, Bool.and_true, Bool.true_and, Bool.and_self, Bool.and_false, Bool.false_and, Bool.not_true, Bool.not_false, Bool.or_true, Bool.true_or, Bool.or_false, Bool.false_or, is_some, gd_some, bk_v, bk_u, y_124 La, hBa, mB_O la, m_p27 la, mA_17 la h6, w_cl (show k < 2147483648 by omega), b_gat b2 hk, h211', b253_62, isO_wI, isA_wI, hP_wI]
        exact ea
      | true =>
        have es2 : hI (wI (wI ha 130 k (-2)) 127 17 (nI (D 20 k))) 124 27 = nI p.2.1 := by
          rw [hI_wI, if_neg (by omega), hI_wI, if_neg (by omega)]; exact es0 rfl
        obtain ⟨h3, g3, f3, es3⟩ := d252 L2 hB2 l2 v2 w b2 ws2 r2 rfl (show D 18 k < 100 by omega) p3 es2
        rw [dr_u17 w] at g3 es3
        have q3 : QF h h3 := q2.trans' (FR_mo (Q := qs) (fun a b q => by unfold sdM at q; unfold qs; omega) f3)
        obtain ⟨a', ia, ea⟩ := fin h3 q3 (fun j hj => (FR_I f3 (by unfold sdM; omega)).trans (r2 j hj)) (fun _ => es3) (fun j hj => (FR_I f3 (by unfold sdM; omega)).trans (as2 j hj))
        refine ⟨a', ia, ?_⟩
        have g3' : C 252 [.ref 124, .int (nI (D 18 k))] (wI (wI ha 130 k (-2)) 127 17 (nI (D 20 k))) = some (some (some (.int (plF D true p.1 p.2.1 k).1)), h3) := g3
        simp only [cond_true, cond_false, decide_true, Bool.and_true, Bool.true_and, Bool.and_self, Bool.and_false, Bool.false_and, Bool.not_true, Bool.not_false, Bool.or_true, Bool.true_or, Bool.or_false, Bool.false_or, is_some, gd_some, bk_v, bk_u, g3', b253_50, y_124 (Ly_QF q3 L)]
        exact ea) (wp h 127 (S0 D) 18, none) ⟨QF_wp (QF.rfl' h) _ _, ⟨0, by decide, by
          have : up (S0 D) 17 0 = S0 D := by
            funext k
            show (if k = 17 then 0 else S0 D k) = S0 D k
            by_cases e : k = 17
            · rw [if_pos e, e, S0_17 w]
            · rw [if_neg e]
          show RW _ 127 (up (S0 D) 17 0)
          rw [this]; exact RW_wp h 127 _⟩, fun hd => by
            show hI (wp h 127 (S0 D) 18) 124 27 = _
            rw [wpf _ _ (by decide)]; exact es hd, fun j hj => absurd hj (Nat.not_lt_zero j)⟩
  refine ⟨a'.1, ex, ?_, i1, ix, i2, i3, i4⟩
  have La := Ly_QF i1 L
  rw [e253]
  simp only [b253_0, cond_true, cond_false, decide_true, Bool.and_true, Bool.true_and, Bool.and_self, Bool.and_false, Bool.false_and, Bool.not_true, Bool.not_false, Bool.or_true, Bool.true_or, Bool.or_false, Bool.false_or, is_some, gd_some, bk_v, bk_u, y_124 L, y_P16 L, d197 L hB l v2 w b, b253_6]
  refine Eq.trans e ?_
  show R 253 8 [_, _, _, some (.int (nI (D 0 6))), _] [] a'.1 = _
  rw [b253_8]
  simp only [cond_true, cond_false, decide_true, Bool.and_true, Bool.true_and, Bool.and_self, Bool.and_false, Bool.false_and, Bool.not_true, Bool.not_false, Bool.or_true, Bool.true_or, Bool.or_false, Bool.false_or, is_some, gd_some, bk_v, bk_u, y_124 La, hB_QF i1 hB, mB_O (ML_QF i1 l), b_s6 (MB_QF i1 l b), x_stop]
