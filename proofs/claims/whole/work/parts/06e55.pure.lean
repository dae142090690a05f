theorem x_P6 {h : A_H} (L : Ly h) : hP h 0 6 = some 79 := ly_P L rfl
theorem k_O {h : A_H} (L : Ly h) : isO h 79 4 = true := ly_O L (by decide) rfl
theorem k_P0 {h : A_H} (L : Ly h) : hP h 79 0 = some 80 := ly_P L rfl
theorem k_P3 {h : A_H} (L : Ly h) : hP h 79 3 = some 81 := ly_P L rfl
theorem k_A {h : A_H} {i : Nat} (L : Ly h) (hi : i < 16) : isA h 80 8 (nI i) = true := ly_A L (by decide) rfl hi (by decide)
theorem k_B {h : A_H} {i : Nat} (L : Ly h) (hi : i < 3) : isA h 81 8 (nI i) = true := ly_A L (by decide) rfl hi (by decide)
theorem k_E {h : A_H} {i : Nat} (L : Ly h) (hi : i < 16) : hP h 80 i = some (82 + 2 * i) := by
  have : ∀ i : Fin 16, (lyP.getD 80 []).getD i.val none = some (82 + 2 * i.val) := by decide
  exact ly_P L (this ⟨i, hi⟩)
theorem k_F {h : A_H} {i : Nat} (L : Ly h) (hi : i < 3) : hP h 81 i = some (114 + 2 * i) := by
  have : ∀ i : Fin 3, (lyP.getD 81 []).getD i.val none = some (114 + 2 * i.val) := by decide
  exact ly_P L (this ⟨i, hi⟩)
theorem k_in {i : Nat} (hi : i < 16) : 82 + 2 * i ∈ stN := by
  have : ∀ i : Fin 16, 82 + 2 * i.val ∈ stN := by decide
  exact this ⟨i, hi⟩
theorem k_in3 {i : Nat} (hi : i < 3) : 114 + 2 * i ∈ stN := by
  have : ∀ i : Fin 3, 114 + 2 * i.val ∈ stN := by decide
  exact this ⟨i, hi⟩
def HC (h : A_H) (D : Gh) (o n : Nat) (H : Nat → Nat → Nat) : Prop := hI h 79 1 = nI o ∧ o < 16 ∧ hI h 79 2 = nI n ∧ n ≤ 16 ∧ ∀ i, i < n → CS h (82 + 2 * ((o + i) % 16)) D (H i)
def MC (h : A_H) (D : Gh) (m : Nat) (K : Nat → Nat → Nat) : Prop := hI h 79 4 = nI m ∧ m ≤ 3 ∧ ∀ i, i < m → CS h (114 + 2 * i) D (K i)
def HM (h : A_H) (n : Nat) (H : Nat → Nat → Nat) : Prop := hI h 124 19 = nI n ∧ ∀ i, i < n → ∀ j, j < 18 → hI h 128 (18 * i + j) = nI (H i j)
def MM (h : A_H) (m : Nat) (K : Nat → Nat → Nat) : Prop := hI h 124 20 = nI m ∧ ∀ i, i < m → ∀ j, j < 18 → hI h 129 (18 * i + j) = nI (K i j)
def pN (n : Nat) : Nat := if n = 16 then 16 else n + 1
def pH (n : Nat) (H : Nat → Nat → Nat) (S : Nat → Nat) : Nat → Nat → Nat := fun i => if n = 16 then (if i = 15 then S else H (i + 1)) else (if i = n then S else H i)
def hF (a b : Nat) : Prop := (a = 79 ∧ (b = 1 ∨ b = 2)) ∨ (82 ≤ a ∧ a < 114)
theorem w_m16 {a b : Nat} (ha : a < 1000) (hb : b < 1000) : (nI a + nI b) - (nI a + nI b) / 16 * 16 = nI ((a + b) % 16) := by
  rw [nI_add, show (16 : Int32) = nI 16 from rfl, w_mod (by omega) (by decide)]
theorem c12 {h : A_H} {D : Gh} {S : Nat → Nat} {o n : Nat} {H : Nat → Nat → Nat} (L : Ly h) (s : CS h 77 D S) (k : HC h D o n H) : ∃ h' o', C 12 [.ref 79, .ref 77] h = some (some none, h') ∧ FR hF h h' ∧ HC h' D o' (pN n) (pH n H S) := by
  obtain ⟨k1, k2, k3, k4, k5⟩ := k
  by_cases e : n = 16
  · subst e
    have L1 : Ly (wI (wI h 79 1 (nI ((o + 1) % 16))) 79 2 (nI 15)) := L
    have f1 : FR hF h (wI (wI h 79 1 (nI ((o + 1) % 16))) 79 2 (nI 15)) := FR_wI (FR_wI (FR_rfl _ h) _ (Or.inl (by omega))) _ (Or.inl (by omega))
    have s1 : CS (wI (wI h 79 1 (nI ((o + 1) % 16))) 79 2 (nI 15)) 77 D S := FR_CS f1 s (fun k b _ _ => by unfold hF; omega)
    have ho : ((o + 1) % 16 + 15) % 16 = o := by omega
    obtain ⟨h2, g2, s2, f2⟩ := c50 (N := 82 + 2 * o) (M := 77) L1 (k_in k2) w_in (by omega) s1
    have L2 := FR_Ly f2 L1
    have r1 : hI h2 79 2 = nI 15 := (FR_I f2 (by unfold stF; omega)).trans (by rw [hI_wI, if_pos ⟨rfl, rfl⟩])
    have r2 : hI h2 79 1 = nI ((o + 1) % 16) := (FR_I f2 (by unfold stF; omega)).trans (by rw [hI_wI, if_neg (by omega), hI_wI, if_pos ⟨rfl, rfl⟩])
    have f3 : FR hF h (wI h2 79 2 (nI 16)) := FR_wI (FR_tr f1 (FR_mo (fun a b q => by unfold stF at q; unfold hF; omega) f2)) _ (Or.inl (by omega))
    have i1 : hI (wI h 79 1 (nI ((o + 1) % 16))) 79 2 = nI 16 := by rw [hI_wI, if_neg (by omega)]; exact k3
    have i2 : hI (wI (wI h 79 1 (nI ((o + 1) % 16))) 79 2 (nI 15)) 79 1 = nI ((o + 1) % 16) := by rw [hI_wI, if_neg (by omega), hI_wI, if_pos ⟨rfl, rfl⟩]
    have i3 : hI (wI (wI h 79 1 (nI ((o + 1) % 16))) 79 2 (nI 15)) 79 2 = nI 15 := by rw [hI_wI, if_pos ⟨rfl, rfl⟩]
    have z1 : (nI o + 1) - (nI o + 1) / 16 * 16 = nI ((o + 1) % 16) := w_m16 (b := 1) (by omega) (by decide)
    have z2 := w_m16 (a := (o + 1) % 16) (b := 15) (by omega) (by decide)
    rw [ho] at z2
    refine ⟨wI h2 79 2 (nI 16), (o + 1) % 16, ?_, f3, ?_⟩
    · rw [e12]
      simp only [b12_0, b12_12, b12_18, b12_30, b12_36, cond_true, cond_false, decide_true, Bool.and_true, Bool.true_and, Bool.and_self, Bool.and_false, Bool.false_and, Bool.not_true, Bool.not_false, Bool.or_true, Bool.true_or, Bool.or_false, Bool.false_or, is_some, gd_some, bk_v, bk_u, isO_wI, hP_wI, isA_wI, k_O L, k3, show decide (nI 16 = 16) = true from rfl, k1, z1, i1, show nI 16 - 1 = nI 15 from rfl, i2, i3, z2, k_P0 L, k_A L k2, w_cl (show o < 2147483648 by omega), k_E L k2, n_O L (k_in k2), g2, k_O L2, r1, show nI 15 + 1 = nI 16 from rfl]
    · refine ⟨?_, by omega, ?_, by decide, ?_⟩
      · rw [hI_wI, if_neg (by omega)]; exact r2
      · rw [hI_wI, if_pos ⟨rfl, rfl⟩]; rfl
      · intro i hi
        have hi : i < 16 := hi
        show CS _ _ D (if 16 = 16 then (if i = 15 then S else H (i + 1)) else (if i = 16 then S else H i))
        rw [if_pos rfl]
        by_cases e : i = 15
        · subst e
          rw [if_pos rfl, ho]
          exact FR_CS (P := fun a b => a = 79 ∧ b = 2) (FR_wI (FR_rfl _ h2) _ ⟨rfl, rfl⟩) s2 (fun k b _ _ => by omega)
        · rw [if_neg e]
          have hs : ((o + 1) % 16 + i) % 16 = (o + (i + 1)) % 16 := by omega
          rw [hs]
          have hne : ¬ (o + (i + 1)) % 16 = o := by omega
          have t1 : CS (wI (wI h 79 1 (nI ((o + 1) % 16))) 79 2 (nI 15)) (82 + 2 * ((o + (i + 1)) % 16)) D (H (i + 1)) := FR_CS (P := fun a _ => a = 79) (FR_wI (P := fun a _ => a = 79) (FR_wI (P := fun a _ => a = 79) (FR_rfl _ h) _ rfl) _ rfl) (k5 (i + 1) (by omega)) (fun k b _ _ => by omega)
          have t2 := FR_CS f2 t1 (fun k b _ _ => by unfold stF; omega)
          exact FR_CS (P := fun a b => a = 79 ∧ b = 2) (FR_wI (FR_rfl _ h2) _ ⟨rfl, rfl⟩) t2 (fun k b _ _ => by omega)
  · have z2 := w_m16 (a := o) (b := n) (by omega) (by omega)
    have hsl : (o + n) % 16 < 16 := by omega
    obtain ⟨h2, g2, s2, f2⟩ := c50 (N := 82 + 2 * ((o + n) % 16)) (M := 77) L (k_in hsl) w_in (by omega) s
    have L2 := FR_Ly f2 L
    have r1 : hI h2 79 2 = nI n := (FR_I f2 (by unfold stF; omega)).trans k3
    have r2 : hI h2 79 1 = nI o := (FR_I f2 (by unfold stF; omega)).trans k1
    have n16 : decide (nI n = 16) = false := by
      rw [show (16 : Int32) = nI 16 from rfl]; exact dF (by rw [w_eq (by omega) (by decide)]; exact e)
    refine ⟨wI h2 79 2 (nI (n + 1)), o, ?_, FR_wI (FR_mo (fun a b q => by unfold stF at q; unfold hF; omega) f2) _ (Or.inl (by omega)), ?_⟩
    · rw [e12]
      simp only [b12_0, b12_30, b12_36, cond_true, cond_false, decide_true, Bool.and_true, Bool.true_and, Bool.and_self, Bool.and_false, Bool.false_and, Bool.not_true, Bool.not_false, Bool.or_true, Bool.true_or, Bool.or_false, Bool.false_or, is_some, gd_some, bk_v, bk_u, isO_wI, k_O L, k3, n16, k1, z2, k_P0 L, k_A L hsl, w_cl (show (o + n) % 16 < 2147483648 by omega), k_E L hsl, n_O L (k_in hsl), g2, k_O L2, r1, w_s]
    · have pn : pN n = n + 1 := if_neg e
      refine ⟨?_, k2, ?_, by rw [pn]; omega, ?_⟩
      · rw [hI_wI, if_neg (by omega)]; exact r2
      · rw [hI_wI, if_pos ⟨rfl, rfl⟩, pn]
      · intro i hi
        rw [pn] at hi
        show CS _ _ D (if n = 16 then (if i = 15 then S else H (i + 1)) else (if i = n then S else H i))
        rw [if_neg e]
        by_cases e2 : i = n
        · subst e2
          rw [if_pos rfl]
          exact FR_CS (P := fun a b => a = 79 ∧ b = 2) (FR_wI (FR_rfl _ h2) _ ⟨rfl, rfl⟩) s2 (fun k b _ _ => by omega)
        · rw [if_neg e2]
          have hne : ¬ (o + i) % 16 = (o + n) % 16 := by omega
          have t2 := FR_CS f2 (k5 i (by omega)) (fun k b _ _ => by unfold stF; omega)
          exact FR_CS (P := fun a b => a = 79 ∧ b = 2) (FR_wI (FR_rfl _ h2) _ ⟨rfl, rfl⟩) t2 (fun k b _ _ => by omega)
def uF (a b : Nat) : Prop := (a = 79 ∧ b = 2) ∨ a = 77 ∨ a = 78
theorem c13 {h : A_H} {D : Gh} {o n : Nat} {H : Nat → Nat → Nat} (L : Ly h) (k : HC h D o (n + 1) H) : ∃ h', C 13 [.ref 79, .ref 77] h = some (some (some (.int 1)), h') ∧ FR uF h h' ∧ HC h' D o n H ∧ CS h' 77 D (H n) := by
  obtain ⟨k1, k2, k3, k4, k5⟩ := k
  have hsl : (o + n) % 16 < 16 := by omega
  have L1 : Ly (wI h 79 2 (nI n)) := L
  have z2 := w_m16 (a := o) (b := n) (by omega) (by omega)
  have t1 : CS (wI h 79 2 (nI n)) (82 + 2 * ((o + n) % 16)) D (H n) := FR_CS (P := fun a b => a = 79) (FR_wI (FR_rfl _ h) _ rfl) (k5 n (by omega)) (fun k b _ _ => by omega)
  obtain ⟨h2, g2, s2, f2⟩ := c50 (N := 77) (M := 82 + 2 * ((o + n) % 16)) L1 w_in (k_in hsl) (by omega) t1
  have n0 : decide (nI (n + 1) = 0) = false := by
    rw [show (0 : Int32) = nI 0 from rfl]; exact dF (by rw [w_eq (by omega) (by decide)]; omega)
  have i1 : hI (wI h 79 2 (nI n)) 79 1 = nI o := by rw [hI_wI, if_neg (by omega)]; exact k1
  have i2 : hI (wI h 79 2 (nI n)) 79 2 = nI n := by rw [hI_wI, if_pos ⟨rfl, rfl⟩]
  have z3 : nI (n + 1) - 1 = nI n := by
    have := w_sub (a := n + 1) (b := 1) (by omega)
    rw [Nat.add_sub_cancel] at this
    exact this
  refine ⟨h2, ?_, FR_tr (FR_wI (FR_rfl _ h) _ (Or.inl ⟨rfl, rfl⟩)) (FR_mo (fun a b q => by unfold stF at q; unfold uF; omega) f2), ⟨?_, k2, ?_, by omega, ?_⟩, s2⟩
  · rw [e13]
    simp only [b13_0, b13_11, b13_23, cond_true, cond_false, decide_true, Bool.and_true, Bool.true_and, Bool.and_self, Bool.and_false, Bool.false_and, Bool.not_true, Bool.not_false, Bool.or_true, Bool.true_or, Bool.or_false, Bool.false_or, is_some, gd_some, bk_v, bk_u, isO_wI, hP_wI, isA_wI, k_O L, k3, n0, z3, k_P0 L, i1, i2, z2, k_A L hsl, w_cl (show (o + n) % 16 < 2147483648 by omega), k_E L hsl, n_O L w_in, g2, z_11]
  · exact (FR_I f2 (by unfold stF; omega)).trans i1
  · exact (FR_I f2 (by unfold stF; omega)).trans i2
  · intro i hi
    have t2 : CS (wI h 79 2 (nI n)) (82 + 2 * ((o + i) % 16)) D (H i) := FR_CS (P := fun a b => a = 79) (FR_wI (FR_rfl _ h) _ rfl) (k5 i (by omega)) (fun k b _ _ => by omega)
    exact FR_CS f2 t2 (fun k b _ _ => by unfold stF; omega)
theorem c13b {h : A_H} {D : Gh} {o : Nat} {H : Nat → Nat → Nat} (L : Ly h) (k : HC h D o 0 H) : C 13 [.ref 79, .ref 77] h = some (some (some (.int 0)), h) := by
  rw [e13]
  simp only [b13_0, cond_true, cond_false, decide_true, Bool.and_true, Bool.true_and, Bool.and_self, Bool.and_false, Bool.false_and, Bool.not_true, Bool.not_false, Bool.or_true, Bool.true_or, Bool.or_false, Bool.false_or, is_some, gd_some, bk_v, bk_u, k_O L, k.2.2.1, show decide (nI 0 = 0) = true from rfl, z_00]
def sF (a b : Nat) : Prop := (a = 79 ∧ b = 4) ∨ (114 ≤ a ∧ a < 120)
def sH (m : Nat) (K : Nat → Nat → Nat) (S : Nat → Nat) : Nat → Nat → Nat := fun i => if i = m then S else K i
theorem c14 {h : A_H} {D : Gh} {S : Nat → Nat} {m : Nat} {K : Nat → Nat → Nat} (L : Ly h) (s : CS h 77 D S) (k : MC h D m K) (hm : m < 3) : ∃ h', C 14 [.ref 79, .ref 77] h = some (some (some (.int (nI m))), h') ∧ FR sF h h' ∧ MC h' D (m + 1) (sH m K S) := by
  obtain ⟨k1, k2, k3⟩ := k
  obtain ⟨h2, g2, s2, f2⟩ := c50 (N := 114 + 2 * m) (M := 77) L (k_in3 hm) w_in (by omega) s
  have L2 := FR_Ly f2 L
  have r1 : hI h2 79 4 = nI m := (FR_I f2 (by unfold stF; omega)).trans k1
  have l3 : decide (nI m < 3) = true := by rw [show (3 : Int32) = nI 3 from rfl]; exact dT (by rw [w_lt (by omega) (by decide)]; exact hm)
  have i1 : hI (wI h2 79 4 (nI (m + 1))) 79 4 = nI (m + 1) := by rw [hI_wI, if_pos ⟨rfl, rfl⟩]
  have z3 : nI (m + 1) - 1 = nI m := by
    have := w_sub (a := m + 1) (b := 1) (by omega)
    rw [Nat.add_sub_cancel] at this
    exact this
  refine ⟨wI h2 79 4 (nI (m + 1)), ?_, FR_wI (FR_mo (fun a b q => by unfold stF at q; unfold sF; omega) f2) _ (Or.inl ⟨rfl, rfl⟩), i1, by omega, ?_⟩
  · rw [e14]
    simp only [b14_0, b14_13, b14_19, cond_true, cond_false, decide_true, Bool.and_true, Bool.true_and, Bool.and_self, Bool.and_false, Bool.false_and, Bool.not_true, Bool.not_false, Bool.or_true, Bool.true_or, Bool.or_false, Bool.false_or, is_some, gd_some, bk_v, bk_u, isO_wI, k_O L, k1, l3, k_P3 L, k_B L hm, w_cl (show m < 2147483648 by omega), k_F L hm, n_O L (k_in3 hm), g2, k_O L2, r1, w_s, i1, z3]
  · intro i hi
    show CS _ _ D (if i = m then S else K i)
    by_cases e : i = m
    · subst e
      rw [if_pos rfl]
      exact FR_CS (P := fun a b => a = 79 ∧ b = 4) (FR_wI (FR_rfl _ h2) _ ⟨rfl, rfl⟩) s2 (fun k b _ _ => by omega)
    · rw [if_neg e]
      have t2 := FR_CS f2 (k3 i (by omega)) (fun k b _ _ => by unfold stF; omega)
      exact FR_CS (P := fun a b => a = 79 ∧ b = 4) (FR_wI (FR_rfl _ h2) _ ⟨rfl, rfl⟩) t2 (fun k b _ _ => by omega)
theorem c15 {h : A_H} {D : Gh} {m i : Nat} {K : Nat → Nat → Nat} (L : Ly h) (k : MC h D m K) (hi : i < m) : ∃ h', C 15 [.ref 79, .int (nI i), .ref 77] h = some (some (some (.int 1)), h') ∧ FR uF h h' ∧ CS h' 77 D (K i) ∧ hI h' 79 2 = 0 := by
  obtain ⟨k1, k2, k3⟩ := k
  obtain ⟨h2, g2, s2, f2⟩ := c50 (N := 77) (M := 114 + 2 * i) L w_in (k_in3 (by omega)) (by omega) (k3 i hi)
  have L2 := FR_Ly f2 L
  refine ⟨wI h2 79 2 0, ?_, FR_wI (FR_mo (fun a b q => by unfold stF at q; unfold uF; omega) f2) _ (Or.inl ⟨rfl, rfl⟩), FR_CS (P := fun a b => a = 79 ∧ b = 2) (FR_wI (FR_rfl _ h2) _ ⟨rfl, rfl⟩) s2 (fun k b _ _ => by omega), by rw [hI_wI, if_pos ⟨rfl, rfl⟩]⟩
  rw [e15]
  simp only [b15_0, b15_14, b15_17, cond_true, cond_false, decide_true, Bool.and_true, Bool.true_and, Bool.and_self, Bool.and_false, Bool.false_and, Bool.not_true, Bool.not_false, Bool.or_true, Bool.true_or, Bool.or_false, Bool.false_or, is_some, gd_some, bk_v, bk_u, dF (w_nn (show i < 2147483648 by omega)), k_O L, k1, dT (show nI i < nI m by rw [w_lt (by omega) (by omega)]; exact hi), k_P3 L, k_B L (show i < 3 by omega), w_cl (show i < 2147483648 by omega), k_F L (show i < 3 by omega), n_O L w_in, g2, k_O L2, z_11]
theorem c15b {h : A_H} {D : Gh} {m : Nat} {K : Nat → Nat → Nat} (L : Ly h) (k : MC h D m K) {x : Int32} (e : vd m x = false) : C 15 [.ref 79, .int x, .ref 77] h = some (some (some (.int 0)), h) := by
  rw [e15]
  unfold vd at e
  cases h1 : decide (x < 0) with
  | true => simp only [b15_0, cond_true, cond_false, decide_true, Bool.and_true, Bool.true_and, Bool.and_self, Bool.and_false, Bool.false_and, Bool.not_true, Bool.not_false, Bool.or_true, Bool.true_or, Bool.or_false, Bool.false_or, is_some, gd_some, bk_v, bk_u, h1, z_00]
  | false =>
    rw [h1] at e
    have h2 : decide (x < nI m) = false := by
      rw [lt_le]
      cases c : decide (nI m ≤ x) with
      | true => rfl
      | false => rw [c] at e; cases e
    simp only [b15_0, cond_true, cond_false, decide_true, Bool.and_true, Bool.true_and, Bool.and_self, Bool.and_false, Bool.false_and, Bool.not_true, Bool.not_false, Bool.or_true, Bool.true_or, Bool.or_false, Bool.false_or, is_some, gd_some, bk_v, bk_u, h1, k_O L, k.1, h2, z_00]
theorem y_P17 {h : A_H} (L : Ly h) : hP h 124 17 = some 128 := ly_P L rfl
theorem y_P18 {h : A_H} (L : Ly h) : hP h 124 18 = some 129 := ly_P L rfl
theorem y_A128 {h : A_H} {k : Nat} (L : Ly h) (hk : k < 288) : isA h 128 0 (nI k) = true := ly_A L (by decide) rfl hk (by decide)
theorem y_A129 {h : A_H} {k : Nat} (L : Ly h) (hk : k < 54) : isA h 129 0 (nI k) = true := ly_A L (by decide) rfl hk (by decide)
def rF (a b : Nat) : Prop := (a = 124 ∧ b = 19) ∨ a = 128
theorem d267 {h : A_H} {S : Nat → Nat} {n : Nat} {H : Nat → Nat → Nat} (L : Ly h) (r : RW h 126 S) (hn : n ≤ 16) (k : HM h n H) : ∃ h', C 267 [.ref 124] h = some (some none, h') ∧ FR rF h h' ∧ HM h' (pN n) (pH n H S) := by
  obtain ⟨k1, k2⟩ := k
 
  have put : ∀ (n' : Nat) (hn' : n' < 16) (h1 : A_H), FR rF h h1 → hI h1 124 19 = nI n' → ∃ h', R 267 29 [some (.ref 124), some (.int 0)] [] h1 = some (some none, h') ∧ FR rF h h' ∧ hI h' 124 19 = nI (n' + 1) ∧ (∀ j, j < 18 → hI h' 128 (18 * n' + j) = nI (S j)) ∧ ∀ i, i < 18 * n' → hI h' 128 i = hI h1 128 i := by
    intro n' hn' h1 f1 e1
    obtain ⟨h2, ⟨j1, j2, j3, j4⟩, e⟩ := loop_inv (α := A_H) (fun k x => FR rF h x ∧ hI x 124 19 = nI n' ∧ (∀ j, j < k → hI x 128 (18 * n' + j) = nI (S j)) ∧ ∀ i, i < 18 * n' → hI x 128 i = hI h1 128 i) (fun k x => R 267 29 [some (.ref 124), some (.int (nI k))] [] x) 18 (by
      intro k x hk i
      obtain ⟨x1, x2, x3, x4⟩ := i
      have Lx := FR_Ly x1 L
      have rx : hI x 126 k = nI (S k) := (FR_I x1 (by unfold rF; omega)).trans (r k hk)
      have z : (18 : Int32) * nI n' + nI k = nI (18 * n' + k) := by rw [show (18 : Int32) = nI 18 from rfl, w_mul, nI_add]
      rw [b267_29, show decide ((18 : Int32) ≤ nI k) = false by rw [show (18 : Int32) = nI 18 from rfl]; exact dF (by rw [w_le (by omega) (by omega)]; omega)]
      simp only [cond_true, cond_false, decide_true, Bool.and_true, Bool.true_and, Bool.and_self, Bool.and_false, Bool.false_and, Bool.not_true, Bool.not_false, Bool.or_true, Bool.true_or, Bool.or_false, Bool.false_or, is_some, gd_some, bk_v, bk_u, y_124 Lx, y_P17 Lx, y_P15 Lx, x2, z, v_A Lx (Or.inl rfl) hk, y_A128 Lx (show 18 * n' + k < 288 by omega), w_cl (show 18 * n' + k < 2147483648 by omega), w_cl (show k < 2147483648 by omega), rx, b267_45, w_s]
      refine ⟨_, ⟨FR_wI x1 _ (Or.inr rfl), ?_, ?_, ?_⟩, rfl⟩
      · rw [hI_wI, if_neg (by omega)]; exact x2
      · intro j hj
        rw [hI_wI]
        by_cases e : j = k
        · rw [if_pos ⟨rfl, by omega⟩, e]
        · rw [if_neg (by omega)]; exact x3 j (by omega)
      · intro i hi
        rw [hI_wI, if_neg (by omega)]; exact x4 i hi) h1 ⟨f1, e1, fun j hj => absurd hj (Nat.not_lt_zero j), fun _ _ => rfl⟩
    have Lx := FR_Ly j1 L
    refine ⟨wI h2 124 19 (nI (n' + 1)), ?_, FR_wI j1 _ (Or.inl ⟨rfl, rfl⟩), by rw [hI_wI, if_pos ⟨rfl, rfl⟩], fun j hj => by rw [hI_wI, if_neg (by omega)]; exact j3 j hj, fun i hi => by rw [hI_wI, if_neg (by omega)]; exact j4 i hi⟩
    refine Eq.trans e ?_
    show R 267 29 [some (.ref 124), some (.int (nI 18))] [] h2 = _
    rw [b267_29, show decide ((18 : Int32) ≤ nI 18) = true from rfl]
    simp only [cond_true, cond_false, decide_true, Bool.and_true, Bool.true_and, Bool.and_self, Bool.and_false, Bool.false_and, Bool.not_true, Bool.not_false, Bool.or_true, Bool.true_or, Bool.or_false, Bool.false_or, is_some, gd_some, bk_v, bk_u, y_124 Lx, isO_wI, j2, w_s, b267_53]
  by_cases e : n = 16
  · subst e
    obtain ⟨h2, ⟨j1, j2, j3⟩, e⟩ := loop_inv (α := A_H) (fun k x => FR rF h x ∧ hI x 124 19 = nI 16 ∧ ∀ j, j < 288 → hI x 128 j = if j < k then hI h 128 (j + 18) else hI h 128 j) (fun k x => R 267 6 [some (.ref 124), some (.int (nI k))] [] x) 270 (by
      intro k x hk i
      obtain ⟨x1, x2, x3⟩ := i
      have Lx := FR_Ly x1 L
      have z : nI k + 18 = nI (k + 18) := nI_add k 18
      have ek := x3 (k + 18) (by omega)
      rw [if_neg (by omega)] at ek
      rw [b267_6, show decide ((270 : Int32) ≤ nI k) = false by rw [show (270 : Int32) = nI 270 from rfl]; exact dF (by rw [w_le (by omega) (by omega)]; omega)]
      simp only [cond_true, cond_false, decide_true, Bool.and_true, Bool.true_and, Bool.and_self, Bool.and_false, Bool.false_and, Bool.not_true, Bool.not_false, Bool.or_true, Bool.true_or, Bool.or_false, Bool.false_or, is_some, gd_some, bk_v, bk_u, y_124 Lx, y_P17 Lx, z, y_A128 Lx (show k + 18 < 288 by omega), y_A128 Lx (show k < 288 by omega), w_cl (show k + 18 < 2147483648 by omega), w_cl (show k < 2147483648 by omega), ek, b267_19, w_s]
      refine ⟨_, ⟨FR_wI x1 _ (Or.inr rfl), by rw [hI_wI, if_neg (by omega)]; exact x2, fun j hj => ?_⟩, rfl⟩
      rw [hI_wI]
      by_cases e : j = k
      · rw [if_pos ⟨rfl, e⟩, if_pos (by omega), e]
      · rw [if_neg (by omega), x3 j hj]
        by_cases e2 : j < k
        · rw [if_pos e2, if_pos (by omega)]
        · rw [if_neg e2, if_neg (by omega)]) h ⟨FR_rfl _ h, k1, fun j _ => by rw [if_neg (by omega)]⟩
    have Lx := FR_Ly j1 L
    have f3 : FR rF h (wI h2 124 19 (nI 15)) := FR_wI j1 _ (Or.inl ⟨rfl, rfl⟩)
    obtain ⟨h', g1, g2, g3, g4, g5⟩ := put 15 (by decide) (wI h2 124 19 (nI 15)) f3 (by rw [hI_wI, if_pos ⟨rfl, rfl⟩])
    refine ⟨h', ?_, g2, g3, fun i hi j hj => ?_⟩
    · rw [e267]
      simp only [b267_0, cond_true, cond_false, decide_true, Bool.and_true, Bool.true_and, Bool.and_self, Bool.and_false, Bool.false_and, Bool.not_true, Bool.not_false, Bool.or_true, Bool.true_or, Bool.or_false, Bool.false_or, is_some, gd_some, bk_v, bk_u, y_124 L, k1, show decide (nI 16 = 16) = true from rfl]
      refine Eq.trans e ?_
      show R 267 6 [some (.ref 124), some (.int (nI 270))] [] h2 = _
      rw [b267_6, show decide ((270 : Int32) ≤ nI 270) = true from rfl]
      simp only [cond_true, cond_false, decide_true, Bool.and_true, Bool.true_and, Bool.and_self, Bool.and_false, Bool.false_and, Bool.not_true, Bool.not_false, Bool.or_true, Bool.true_or, Bool.or_false, Bool.false_or, is_some, gd_some, bk_v, bk_u, y_124 Lx, isO_wI, j2, show nI 16 - 1 = nI 15 from rfl, b267_27]
      exact g1
    · have hi : i < 16 := hi
      show hI h' 128 (18 * i + j) = nI ((if 16 = 16 then (if i = 15 then S else H (i + 1)) else (if i = 16 then S else H i)) j)
      rw [if_pos rfl]
      by_cases e : i = 15
      · rw [if_pos e, e]; exact g4 j hj
      · rw [if_neg e, g5 (18 * i + j) (by omega), hI_wI, if_neg (by omega), j3 (18 * i + j) (by omega), if_pos (by omega)]
        have := k2 (i + 1) (by omega) j hj
        rw [show 18 * (i + 1) + j = 18 * i + j + 18 by omega] at this
        exact this
  · obtain ⟨h', g1, g2, g3, g4, g5⟩ := put n (by omega) h (FR_rfl _ h) k1
    have pn : pN n = n + 1 := if_neg e
    have n16 : decide (nI n = 16) = false := by
      rw [show (16 : Int32) = nI 16 from rfl]; exact dF (by rw [w_eq (by omega) (by decide)]; exact e)
    refine ⟨h', ?_, g2, by rw [pn]; exact g3, fun i hi j hj => ?_⟩
    · rw [e267]
      simp only [b267_0, cond_true, cond_false, decide_true, Bool.and_true, Bool.true_and, Bool.and_self, Bool.and_false, Bool.false_and, Bool.not_true, Bool.not_false, Bool.or_true, Bool.true_or, Bool.or_false, Bool.false_or, is_some, gd_some, bk_v, bk_u, y_124 L, k1, n16]
      exact g1
    · rw [pn] at hi
      show hI h' 128 (18 * i + j) = nI ((if n = 16 then (if i = 15 then S else H (i + 1)) else (if i = n then S else H i)) j)
      rw [if_neg e]
      by_cases e2 : i = n
      · rw [if_pos e2, e2]; exact g4 j hj
      · rw [if_neg e2, g5 (18 * i + j) (by omega)]; exact k2 i (by omega) j hj
def ca (a b : Nat) : Prop := (a = 0 ∧ b = 8) ∨ a = 77 ∨ a = 78 ∨ (a = 79 ∧ (b = 1 ∨ b = 2)) ∨ (82 ≤ a ∧ a < 114)
def cm (a b : Nat) : Prop := (a = 0 ∧ b = 8) ∨ sF a b
def Ca (m : Nat) (as : List Value) (h : A_H) (v x : Int32) (D : Gh) (S : Nat → Nat) (n : Nat) (H : Nat → Nat → Nat) : Prop := ∃ h' o, C m as h = some (some (some (.int v)), h') ∧ FR ca h h' ∧ hI h' 0 8 = x ∧ CS h' 77 D S ∧ HC h' D o n H
theorem hF_ca {a b : Nat} (q : hF a b) : ca a b := by unfold hF at q; unfold ca; omega
theorem FRca_0 (h : A_H) (x : Int32) : FR ca h (wI h 0 8 x) := FR_wI (FR_rfl _ h) _ (Or.inl ⟨rfl, rfl⟩)
theorem HC_w0 {h : A_H} {D : Gh} {o n : Nat} {H : Nat → Nat → Nat} (k : HC h D o n H) (x : Int32) : HC (wI h 0 8 x) D o n H := by
  have f : FR (fun a _ => a = 0) h (wI h 0 8 x) := FR_wI (FR_rfl _ h) _ rfl
  exact ⟨(FR_I f (by omega)).trans k.1, k.2.1, (FR_I f (by omega)).trans k.2.2.1, k.2.2.2.1, fun i hi => FR_CS f (k.2.2.2.2 i hi) (fun a b _ _ => by omega)⟩
theorem HC_77 {h : A_H} {D : Gh} {o n j : Nat} {H : Nat → Nat → Nat} (k : HC h D o n H) (x : Int32) : HC (wI h 77 j x) D o n H := by
  have f : FR (fun a _ => a = 77) h (wI h 77 j x) := FR_wI (FR_rfl _ h) _ rfl
  exact ⟨(FR_I f (by omega)).trans k.1, k.2.1, (FR_I f (by omega)).trans k.2.2.1, k.2.2.2.1, fun i hi => FR_CS f (k.2.2.2.2 i hi) (fun a b _ _ => by omega)⟩
theorem c145g {h : A_H} {T : Nat} {D : Gh} {S : Nat → Nat} (L : Ly h) (hT : isT T) (w : WF D) (c : CT h T D) (hQ : hP h 0 3 = some T) (s : CS h 77 D S) (u : WD D S) (x : Int32) : ∃ y, C 145 [.ref 0, .int x] h = some (some (some (.int y)), h) := by
  rw [e145, b145_0]
  simp only [cond_true, decide_true, cond_false, Bool.and_true, Bool.true_and, Bool.and_self, Bool.and_false, Bool.false_and, Bool.not_true, Bool.not_false, Bool.or_true, Bool.true_or, Bool.or_false, Bool.false_or, is_some, gd_some, bk_v, bk_u, t_O L hT, t_P9 L hT, t_P10 L hT, t_P11 L hT, t_P12 L hT, t_P13 L hT, t_P14 L hT, t_OC L hT, t_C1 L hT, t_C2 L hT, t_C3 L hT, hQ, x_O L, x_P5 L, x_O77 L, s.1, s.2.1, s.2.2.1, s.2.2.2.1, s.2.2.2.2.1, c51 L w_in s, b145_3]
  cases decide (((((nI (msk (D 0 5) (is S 1)) ||| nI (msk (D 0 5) (is S 2))) ||| nI (msk (D 0 5) (is S 3))) >>> ((x &&& 31) &&& 31)) &&& 1) = 0)
  · exact ⟨_, rfl⟩
  · exact ⟨_, rfl⟩
def eS (D : Gh) (S : Nat → Nat) (g : Nat) : Nat → Nat := up (up S g 1) (8 + D 14 g) (S (8 + D 14 g) - 1)
theorem eS_g {D : Gh} {S : Nat → Nat} {g k : Nat} (hk : k < 8) : eS D S g k = if k = g then 1 else S k := by
  show (if k = 8 + D 14 g then _ else if k = g then 1 else S k) = _
  rw [if_neg (by omega)]
theorem eS_8 {D : Gh} {S : Nat → Nat} {g t : Nat} (hg : g < 8) : eS D S g (8 + t) = if t = D 14 g then S (8 + t) - 1 else S (8 + t) := by
  show (if 8 + t = 8 + D 14 g then _ else if 8 + t = g then 1 else S (8 + t)) = _
  by_cases e : t = D 14 g
  · rw [if_pos (by omega), if_pos e, e]
  · rw [if_neg (by omega), if_neg (by omega), if_neg e]
theorem eS_12 {D : Gh} {S : Nat → Nat} {g k : Nat} (hg : g < 8) (ho : D 14 g < 4) (hk : 12 ≤ k) : eS D S g k = S k := by
  show (if k = 8 + D 14 g then _ else if k = g then 1 else S k) = _
  rw [if_neg (by omega), if_neg (by omega)]
theorem cnt_up {n g : Nat} {p q : Nat → Bool} (hg : g < n) (h1 : p g = true) (h2 : q g = false) (h3 : ∀ k, k < n → ¬ k = g → p k = q k) : cnt n p = cnt n q + 1 := by
  have key : ∀ m, m ≤ n → cnt m p = cnt m q + if g < m then 1 else 0 := by
    intro m
    induction m with
    | zero => intro _; rw [if_neg (by omega)]; rfl
    | succ m ih =>
      intro hm
      rw [cnt_s, cnt_s, ih (by omega)]
      by_cases e : m = g
      · subst e; rw [h1, h2, if_neg (by omega), if_pos (by omega)]; rfl
      · rw [h3 m (by omega) e]
        by_cases e2 : g < m
        · rw [if_pos e2, if_pos (by omega)]; omega
        · rw [if_neg e2, if_neg (by omega)]; omega
  rw [key n (Nat.le_refl n), if_pos hg]
theorem WD_eS {D : Gh} {S : Nat → Nat} (w : WF D) (u : WD D S) {g : Nat} (hg : g < D 0 5) (h0 : has0 S g = true) (hh : 0 < S (8 + D 14 g)) : WD D (eS D S g) := by
  have h8 := f_nG w
  have h4 := f_nt w
  have ho := f_own w hg
  have hS0 : S g = 0 := of_decide_eq_true h0
  obtain ⟨u1, u2, u3, u4, u5⟩ := u
  refine ⟨by rw [eS_12 (by omega) (by omega) (by omega)]; exact u1, fun k hk => ?_, by rw [eS_12 (by omega) (by omega) (by omega)]; exact u3, fun k h1 h2 => by rw [eS_g h2, if_neg (by omega)]; exact u4 k h1 h2, fun t ht => ?_⟩
  · rw [eS_g hk]
    by_cases e : k = g
    · rw [if_pos e]; decide
    · rw [if_neg e]; exact u2 k hk
  · have hu := u5 t ht
    rw [eS_8 (by omega)]
    by_cases e : t = D 14 g
    · rw [if_pos e]
      have : cnt (D 0 5) (fun k => decide (D 14 k = t) && is (eS D S g) 1 k) = cnt (D 0 5) (fun k => decide (D 14 k = t) && is S 1 k) + 1 := by
        apply cnt_up hg
        · simp only [is, eS_g (show g < 8 by omega), if_true, dT e.symm]; rfl
        · simp only [is, hS0]; simp
        · intro k hk hne
          simp only [is, eS_g (show k < 8 by omega), if_neg hne]
      rw [this]
      rw [e] at hu ⊢
      omega
    · rw [if_neg e, cnt_congr (q := fun k => decide (D 14 k = t) && is S 1 k)]
      · exact hu
      · intro k hk
        by_cases e2 : k = g
        · rw [e2, dF (fun c => e c.symm), Bool.false_and, Bool.false_and]
        · simp only [is, eS_g (show k < 8 by omega), if_neg e2]
theorem CS_eS {h : A_H} {D : Gh} {S : Nat → Nat} (w : WF D) (s : CS h 77 D S) {g : Nat} (hg : g < D 0 5) (h0 : has0 S g = true) : CS (wI h 77 1 (nI (msk (D 0 5) (is S 1)) ||| ((1 : Int32) <<< (nI g &&& 31)))) 77 D (eS D S g) := by
  have h8 := f_nG w
  have h4 := f_nt w
  have ho := f_own w hg
  have hS0 : S g = 0 := of_decide_eq_true h0
  have em : ∀ x, ¬ x = 0 → ¬ x = 1 → msk (D 0 5) (is (eS D S g) x) = msk (D 0 5) (is S x) := by
    intro x hx0 hx1
    apply msk_congr
    intro k hk
    unfold is
    rw [eS_g (by omega)]
    by_cases e : k = g
    · rw [if_pos e, e, hS0, dF (fun c => hx1 c.symm), dF (fun c => hx0 c.symm)]
    · rw [if_neg e]
  refine ⟨?_, ?_, ?_, ?_, ?_, fun t ht => ?_⟩
  · rw [eS_12 (by omega) (by omega) (by omega), hI_wI, if_neg (by omega)]; exact s.1
  · rw [hI_wI, if_pos ⟨rfl, rfl⟩]
    apply i_ext
    intro j hj
    rw [bt_or, bt_msk _ hj, bt_msk _ hj, bt_1 (by omega)]
    unfold is
    by_cases e : j < D 0 5
    · rw [dT e, eS_g (by omega)]
      by_cases e2 : j = g
      · rw [if_pos e2, dT e2]; simp
      · rw [if_neg e2, dF e2, Bool.or_false]
    · rw [dF e, dF (by omega : ¬ j = g)]; rfl
  · rw [em 2 (by decide) (by decide), hI_wI, if_neg (by omega)]; exact s.2.2.1
  · rw [em 3 (by decide) (by decide), hI_wI, if_neg (by omega)]; exact s.2.2.2.1
  · rw [eS_12 (by omega) (by omega) (by omega), hI_wI, if_neg (by omega)]; exact s.2.2.2.2.1
  · rw [eS_12 (by omega) (by omega) (by omega), hI_wI, if_neg (by omega)]; exact s.2.2.2.2.2 t ht
theorem ww_0 (h : A_H) (x y : Int32) : wI (wI h 0 8 x) 0 8 y = wI h 0 8 y := by
  have : u2 (u2 (hI h) 0 8 x) 0 8 y = u2 (hI h) 0 8 y := by
    funext a b
    unfold u2
    by_cases e : a = 0 ∧ b = 8
    · rw [if_pos e, if_pos e]
    · rw [if_neg e, if_neg e]
      rw [if_neg e]
  show (hn h, hs h, hsh h, u2 (u2 (hI h) 0 8 x) 0 8 y, hL h, hP h, hX h) = _
  rw [this]; rfl
theorem a124 {h : A_H} {T : Nat} {D : Gh} {S : Nat → Nat} (L : Ly h) (hT : isT T) (w : WF D) (c : CT h T D) (hQ : hP h 0 3 = some T) (s : CS h 77 D S) (u : WD D S) {o n : Nat} {H : Nat → Nat → Nat} (k : HC h D o n H) {g : Nat} (hg : g < D 0 5) (h0 : has0 S g = true) (hh : 0 < S (8 + D 14 g)) : Ca 124 [.ref 0, .int (nI g)] h 1 0 D (eS D S g) (pN n) (pH n H S) := by
  have L0 : Ly (wI h 0 8 0) := L; have c0 := CT_w0 hT w c 0; have s0 : CS (wI h 0 8 0) 77 D S := CS_w0 s 0; have Q0 : hP (wI h 0 8 0) 0 3 = some T := hQ
  have h8 : g < 8 := Nat.lt_of_lt_of_le hg (f_nG w)
  have ho := f_own w hg
  have h4 := f_nt w
  have hu := hun_le w u ho
  obtain ⟨h1, o1, g1, f1, k1⟩ := c12 L0 s0 (HC_w0 k 0)
  have L1 := FR_Ly f1 L0
  have s1 : CS h1 77 D S := FR_CS f1 s0 (fun a b _ _ => by unfold hF; omega)
  refine ⟨wI h1 77 1 (nI (msk (D 0 5) (is S 1)) ||| ((1 : Int32) <<< (nI g &&& 31))), o1, ?_, FR_wI (FR_tr (FRca_0 h 0) (FR_mo (fun a b q => hF_ca q) f1)) _ (Or.inr (Or.inl rfl)), ?_, CS_eS w s1 hg h0, HC_77 k1 _⟩
  · have c147' := c147 L0 hT w c0 Q0 s0 u ho
    have hz : decide (nI (S (8 + D 14 g)) ≤ 0) = false := by rw [le_00 (by omega)]; exact dF (by omega)
    rw [e124]
    simp only [b124_0, b124_4, b124_7, b124_8, b124_9, b124_21, b124_26, b124_34, b124_43, hP_wI, isO_wI, isA_wI, cond_true, decide_true, cond_false, Bool.and_true, Bool.true_and, Bool.and_self, Bool.and_false, Bool.false_and, Bool.not_true, Bool.not_false, Bool.or_true, Bool.true_or, Bool.or_false, Bool.false_or, is_some, gd_some, bk_v, bk_u, t_O L hT, t_P9 L hT, t_P10 L hT, t_P11 L hT, t_P12 L hT, t_P13 L hT, t_P14 L hT, t_OC L hT, t_C1 L hT, t_C2 L hT, t_C3 L hT, hQ, x_O L, x_P5 L, x_O77 L, s.1, s.2.1, s.2.2.1, s.2.2.2.1, s.2.2.2.2.1, s0.1, s0.2.1, s0.2.2.1, s0.2.2.2.1, s0.2.2.2.2.1, bI_T, bI_F, i1_0, c137 L hT w c hQ s u, gv_0 (show D 0 5 < 1000 by have := f_nG w; omega) hg, c145 L hT w c hQ s u hg, h0, c135, c134 L, t_AG L hT h8, w_cl (show g < 2147483648 by omega), t_EG L hT h8, t_OG L hT h8, c_owner c0 hg, c147', hz, c134 L0, ww_0, x_P6 L, k_O L, g1, x_O L1, x_P5 L1, x_O77 L1, s1.2.1, z_11]
  · rw [hI_wI, if_neg (by omega)]
    exact (FR_I f1 (by unfold hF; omega)).trans (w_0 h 0)
theorem a124b {h : A_H} {T : Nat} {D : Gh} {S : Nat → Nat} (L : Ly h) (hT : isT T) (w : WF D) (c : CT h T D) (hQ : hP h 0 3 = some T) (s : CS h 77 D S) (u : WD D S) {x : Int32} (e : vd (D 0 5) x = false) : Ce 124 [.ref 0, .int x] h 0 1 := by
  apply Ce_of
  obtain ⟨y, hy⟩ := c145g L hT w c hQ s u x
  rw [e124]
  simp only [b124_0, b124_4, b124_7, b124_8, b124_9, cond_true, decide_true, cond_false, Bool.and_true, Bool.true_and, Bool.and_self, Bool.and_false, Bool.false_and, Bool.not_true, Bool.not_false, Bool.or_true, Bool.true_or, Bool.or_false, Bool.false_or, is_some, gd_some, bk_v, bk_u, t_O L hT, t_P9 L hT, t_P10 L hT, t_P11 L hT, t_P12 L hT, t_P13 L hT, t_P14 L hT, t_OC L hT, t_C1 L hT, t_C2 L hT, t_C3 L hT, hQ, x_O L, x_P5 L, x_O77 L, s.1, s.2.1, s.2.2.1, s.2.2.2.1, s.2.2.2.2.1, c137 L hT w c hQ s u, gv_1 e, hy, c135, c134 L, bI_T, i1_0, z_00]
theorem a124c {h : A_H} {T : Nat} {D : Gh} {S : Nat → Nat} (L : Ly h) (hT : isT T) (w : WF D) (c : CT h T D) (hQ : hP h 0 3 = some T) (s : CS h 77 D S) (u : WD D S) {g : Nat} (hg : g < D 0 5) (e : (has0 S g && decide (0 < S (8 + D 14 g))) = false) : Ce 124 [.ref 0, .int (nI g)] h 0 5 := by
  have L0 : Ly (wI h 0 8 0) := L; have c0 := CT_w0 hT w c 0; have s0 : CS (wI h 0 8 0) 77 D S := CS_w0 s 0; have Q0 : hP (wI h 0 8 0) 0 3 = some T := hQ
  have h8 : g < 8 := Nat.lt_of_lt_of_le hg (f_nG w)
  have ho := f_own w hg
  have h4 := f_nt w
  have hu := hun_le w u ho
  apply Ce_of
  rw [e124]
  cases h0 : has0 S g with
  | false =>
    simp only [b124_0, b124_4, b124_7, b124_8, b124_9, cond_true, decide_true, cond_false, Bool.and_true, Bool.true_and, Bool.and_self, Bool.and_false, Bool.false_and, Bool.not_true, Bool.not_false, Bool.or_true, Bool.true_or, Bool.or_false, Bool.false_or, is_some, gd_some, bk_v, bk_u, t_O L hT, t_P9 L hT, t_P10 L hT, t_P11 L hT, t_P12 L hT, t_P13 L hT, t_P14 L hT, t_OC L hT, t_C1 L hT, t_C2 L hT, t_C3 L hT, hQ, x_O L, x_P5 L, x_O77 L, s.1, s.2.1, s.2.2.1, s.2.2.2.1, s.2.2.2.2.1, c137 L hT w c hQ s u, gv_0 (show D 0 5 < 1000 by have := f_nG w; omega) hg, c145 L hT w c hQ s u hg, h0, c135, c134 L, show decide ((5 : Int32) = 0) = false from rfl, bI_T, i1_0, z_00]
  | true =>
    rw [h0, Bool.true_and] at e
    have c147' := c147 L0 hT w c0 Q0 s0 u ho
    have hz : decide (nI (S (8 + D 14 g)) ≤ 0) = true := by rw [le_00 (by omega)]; exact dT (by have := of_decide_eq_false e; omega)
    simp only [b124_0, b124_4, b124_7, b124_8, b124_9, b124_21, b124_26, hP_wI, isO_wI, isA_wI, cond_true, decide_true, cond_false, Bool.and_true, Bool.true_and, Bool.and_self, Bool.and_false, Bool.false_and, Bool.not_true, Bool.not_false, Bool.or_true, Bool.true_or, Bool.or_false, Bool.false_or, is_some, gd_some, bk_v, bk_u, t_O L hT, t_P9 L hT, t_P10 L hT, t_P11 L hT, t_P12 L hT, t_P13 L hT, t_P14 L hT, t_OC L hT, t_C1 L hT, t_C2 L hT, t_C3 L hT, hQ, x_O L, x_P5 L, x_O77 L, s.1, s.2.1, s.2.2.1, s.2.2.2.1, s.2.2.2.2.1, s0.1, s0.2.1, s0.2.2.1, s0.2.2.2.1, s0.2.2.2.2.1, bI_T, bI_F, i1_0, c137 L hT w c hQ s u, gv_0 (show D 0 5 < 1000 by have := f_nG w; omega) hg, c145 L hT w c hQ s u hg, h0, c135, c134 L, t_AG L hT h8, w_cl (show g < 2147483648 by omega), t_EG L hT h8, t_OG L hT h8, c_owner c0 hg, c147', hz, c134 L0, ww_0, show decide ((5 : Int32) = 0) = false from rfl, z_00]
def hdS (S : Nat → Nat) (g : Nat) : Nat → Nat := up S 16 (S 16 ^^^ 2 ^ g)
theorem hd_I {S : Nat → Nat} {g : Nat} (hg : g < 32) : nI (S 16) ^^^ ((1 : Int32) <<< (nI g &&& 31)) = nI (S 16 ^^^ 2 ^ g) := by
  apply i_ext
  intro j hj
  rw [bt_xor, bt_1 hg, bt_nI _ hj, bt_nI _ hj, Nat.testBit_xor, Nat.testBit_two_pow]
  congr 1
  exact decide_eq_decide.mpr eq_comm
theorem WD_hd {D : Gh} {S : Nat → Nat} (w : WF D) (u : WD D S) {g : Nat} (hg : g < D 0 5) : WD D (hdS S g) := by
  have h8 := f_nG w
  have h4 := f_nt w
  obtain ⟨u1, u2, u3, u4, u5⟩ := u
  refine ⟨u1, fun k hk => ?_, ?_, fun k h1 h2 => ?_, fun t ht => ?_⟩
  · show (if k = 16 then _ else S k) ≤ 3
    rw [if_neg (by omega)]; exact u2 k hk
  · show (if 16 = 16 then S 16 ^^^ 2 ^ g else S 16) < 2 ^ D 0 5
    rw [if_pos rfl]
    exact Nat.xor_lt_two_pow u3 (Nat.pow_lt_pow_right (by decide) hg)
  · show (if k = 16 then _ else S k) = 0
    rw [if_neg (by omega)]; exact u4 k h1 h2
  · show (if 8 + t = 16 then _ else S (8 + t)) + _ = _
    rw [if_neg (by omega), cnt_congr (q := fun g => decide (D 14 g = t) && is S 1 g)]
    · exact u5 t ht
    · intro k hk
      unfold is
      show (_ && decide ((if k = 16 then _ else S k) = 1)) = _
      rw [if_neg (by omega)]
theorem CS_hd {h : A_H} {D : Gh} {S : Nat → Nat} (w : WF D) (s : CS h 77 D S) {g : Nat} (hg : g < D 0 5) : CS (wI h 77 4 (nI (S 16) ^^^ ((1 : Int32) <<< (nI g &&& 31)))) 77 D (hdS S g) := by
  have h8 := f_nG w
  have em : ∀ x, msk (D 0 5) (is (hdS S g) x) = msk (D 0 5) (is S x) := by
    intro x
    apply msk_congr
    intro k hk
    unfold is
    show decide ((if k = 16 then _ else S k) = x) = _
    rw [if_neg (by omega)]
  refine ⟨?_, ?_, ?_, ?_, ?_, fun t ht => ?_⟩
  · rw [hI_wI, if_neg (by omega)]; exact s.1
  · rw [em, hI_wI, if_neg (by omega)]; exact s.2.1
  · rw [em, hI_wI, if_neg (by omega)]; exact s.2.2.1
  · rw [em, hI_wI, if_neg (by omega)]; exact s.2.2.2.1
  · rw [hI_wI, if_pos ⟨rfl, rfl⟩, hd_I (by omega)]; rfl
  · rw [hI_wI, if_neg (by omega)]
    show _ = nI (if 12 + t = 16 then _ else S (12 + t))
    rw [if_neg (by omega)]; exact s.2.2.2.2.2 t ht
theorem a125 {h : A_H} {T : Nat} {D : Gh} {S : Nat → Nat} (L : Ly h) (hT : isT T) (w : WF D) (c : CT h T D) (hQ : hP h 0 3 = some T) (s : CS h 77 D S) (u : WD D S) {o n : Nat} {H : Nat → Nat → Nat} (k : HC h D o n H) {g : Nat} (hg : g < D 0 5) (h0 : has0 S g = true) {z : Bool} (hz : hid S g = !z) : Ca 125 [.ref 0, .int (nI g), .int (bI z)] h 1 0 D (hdS S g) (pN n) (pH n H S) := by
  have L0 : Ly (wI h 0 8 0) := L; have c0 := CT_w0 hT w c 0; have s0 : CS (wI h 0 8 0) 77 D S := CS_w0 s 0; have Q0 : hP (wI h 0 8 0) 0 3 = some T := hQ
  have h8 : g < 8 := Nat.lt_of_lt_of_le hg (f_nG w)
  obtain ⟨h1, o1, g1, f1, k1⟩ := c12 L0 s0 (HC_w0 k 0)
  have L1 := FR_Ly f1 L0
  have s1 : CS h1 77 D S := FR_CS f1 s0 (fun a b _ _ => by unfold hF; omega)
  refine ⟨wI h1 77 4 (nI (S 16) ^^^ ((1 : Int32) <<< (nI g &&& 31))), o1, ?_, FR_wI (FR_tr (FRca_0 h 0) (FR_mo (fun a b q => hF_ca q) f1)) _ (Or.inr (Or.inl rfl)), ?_, CS_hd w s1 hg, HC_77 k1 _⟩
  · have hb : bt (nI (S 16)) g = !z := (hh_ w g hg).trans hz
    rw [e125]
    cases z with
    | false =>
      simp only [b125_0, b125_4, b125_7, b125_8, b125_9, b125_32, b125_40, b125_49, hP_wI, isO_wI, isA_wI, cond_true, decide_true, cond_false, Bool.and_true, Bool.true_and, Bool.and_self, Bool.and_false, Bool.false_and, Bool.not_true, Bool.not_false, Bool.or_true, Bool.true_or, Bool.or_false, Bool.false_or, is_some, gd_some, bk_v, bk_u, t_O L hT, t_P9 L hT, t_P10 L hT, t_P11 L hT, t_P12 L hT, t_P13 L hT, t_P14 L hT, t_OC L hT, t_C1 L hT, t_C2 L hT, t_C3 L hT, hQ, x_O L, x_P5 L, x_O77 L, s.1, s.2.1, s.2.2.1, s.2.2.2.1, s.2.2.2.2.1, s0.1, s0.2.1, s0.2.2.1, s0.2.2.2.1, s0.2.2.2.2.1, bI_T, bI_F, i1_0, c137 L hT w c hQ s u, gv_0 (show D 0 5 < 1000 by have := f_nG w; omega) hg, c145 L hT w c hQ s u hg, h0, c135, c134 L, btz _ (show g < 32 by omega), hb, show decide ((1 : Int32) = 0) = false from rfl, c134 L0, ww_0, x_P6 L, k_O L, g1, x_O L1, x_P5 L1, x_O77 L1, s1.2.2.2.2.1, z_11]
    | true =>
      simp only [b125_0, b125_4, b125_7, b125_8, b125_9, b125_32, b125_40, b125_49, hP_wI, isO_wI, isA_wI, cond_true, decide_true, cond_false, Bool.and_true, Bool.true_and, Bool.and_self, Bool.and_false, Bool.false_and, Bool.not_true, Bool.not_false, Bool.or_true, Bool.true_or, Bool.or_false, Bool.false_or, is_some, gd_some, bk_v, bk_u, t_O L hT, t_P9 L hT, t_P10 L hT, t_P11 L hT, t_P12 L hT, t_P13 L hT, t_P14 L hT, t_OC L hT, t_C1 L hT, t_C2 L hT, t_C3 L hT, hQ, x_O L, x_P5 L, x_O77 L, s.1, s.2.1, s.2.2.1, s.2.2.2.1, s.2.2.2.2.1, s0.1, s0.2.1, s0.2.2.1, s0.2.2.2.1, s0.2.2.2.2.1, bI_T, bI_F, i1_0, c137 L hT w c hQ s u, gv_0 (show D 0 5 < 1000 by have := f_nG w; omega) hg, c145 L hT w c hQ s u hg, h0, c135, c134 L, btz _ (show g < 32 by omega), hb, show decide ((0 : Int32) = 1) = false from rfl, c134 L0, ww_0, x_P6 L, k_O L, g1, x_O L1, x_P5 L1, x_O77 L1, s1.2.2.2.2.1, z_11]
  · rw [hI_wI, if_neg (by omega)]
    exact (FR_I f1 (by unfold hF; omega)).trans (w_0 h 0)
theorem a125b {h : A_H} {T : Nat} {D : Gh} {S : Nat → Nat} (L : Ly h) (hT : isT T) (w : WF D) (c : CT h T D) (hQ : hP h 0 3 = some T) (s : CS h 77 D S) (u : WD D S) {x z : Int32} (e : vd (D 0 5) x = false) : Ce 125 [.ref 0, .int x, .int z] h 0 1 := by
  apply Ce_of
  obtain ⟨y, hy⟩ := c145g L hT w c hQ s u x
  rw [e125]
  simp only [b125_0, b125_4, b125_7, b125_8, b125_9, cond_true, decide_true, cond_false, Bool.and_true, Bool.true_and, Bool.and_self, Bool.and_false, Bool.false_and, Bool.not_true, Bool.not_false, Bool.or_true, Bool.true_or, Bool.or_false, Bool.false_or, is_some, gd_some, bk_v, bk_u, t_O L hT, t_P9 L hT, t_P10 L hT, t_P11 L hT, t_P12 L hT, t_P13 L hT, t_P14 L hT, t_OC L hT, t_C1 L hT, t_C2 L hT, t_C3 L hT, hQ, x_O L, x_P5 L, x_O77 L, s.1, s.2.1, s.2.2.1, s.2.2.2.1, s.2.2.2.2.1, c137 L hT w c hQ s u, gv_1 e, hy, c135, c134 L, bI_T, i1_0, z_00]
theorem a125c {h : A_H} {T : Nat} {D : Gh} {S : Nat → Nat} (L : Ly h) (hT : isT T) (w : WF D) (c : CT h T D) (hQ : hP h 0 3 = some T) (s : CS h 77 D S) (u : WD D S) {g : Nat} (hg : g < D 0 5) {z : Bool} (e : (has0 S g && (hid S g ^^ z)) = false) : Ce 125 [.ref 0, .int (nI g), .int (bI z)] h 0 5 := by
  have L0 : Ly (wI h 0 8 0) := L; have c0 := CT_w0 hT w c 0; have s0 : CS (wI h 0 8 0) 77 D S := CS_w0 s 0; have Q0 : hP (wI h 0 8 0) 0 3 = some T := hQ
  have h8 : g < 8 := Nat.lt_of_lt_of_le hg (f_nG w)
  apply Ce_of
  rw [e125]
  cases h0 : has0 S g with
  | false =>
    simp only [b125_0, b125_4, b125_7, b125_8, b125_9, cond_true, decide_true, cond_false, Bool.and_true, Bool.true_and, Bool.and_self, Bool.and_false, Bool.false_and, Bool.not_true, Bool.not_false, Bool.or_true, Bool.true_or, Bool.or_false, Bool.false_or, is_some, gd_some, bk_v, bk_u, t_O L hT, t_P9 L hT, t_P10 L hT, t_P11 L hT, t_P12 L hT, t_P13 L hT, t_P14 L hT, t_OC L hT, t_C1 L hT, t_C2 L hT, t_C3 L hT, hQ, x_O L, x_P5 L, x_O77 L, s.1, s.2.1, s.2.2.1, s.2.2.2.1, s.2.2.2.2.1, c137 L hT w c hQ s u, gv_0 (show D 0 5 < 1000 by have := f_nG w; omega) hg, c145 L hT w c hQ s u hg, h0, c135, c134 L, show decide ((5 : Int32) = 0) = false from rfl, bI_T, i1_0, z_00]
  | true =>
    rw [h0, Bool.true_and] at e
    have hb : bt (nI (S 16)) g = z := (hh_ w g hg).trans (by revert e; cases hid S g <;> cases z <;> intro e <;> first | rfl | cases e)
    cases z with
    | false =>
      simp only [b125_0, b125_4, b125_7, b125_8, b125_9, b125_32, hP_wI, isO_wI, isA_wI, cond_true, decide_true, cond_false, Bool.and_true, Bool.true_and, Bool.and_self, Bool.and_false, Bool.false_and, Bool.not_true, Bool.not_false, Bool.or_true, Bool.true_or, Bool.or_false, Bool.false_or, is_some, gd_some, bk_v, bk_u, t_O L hT, t_P9 L hT, t_P10 L hT, t_P11 L hT, t_P12 L hT, t_P13 L hT, t_P14 L hT, t_OC L hT, t_C1 L hT, t_C2 L hT, t_C3 L hT, hQ, x_O L, x_P5 L, x_O77 L, s.1, s.2.1, s.2.2.1, s.2.2.2.1, s.2.2.2.2.1, s0.1, s0.2.1, s0.2.2.1, s0.2.2.2.1, s0.2.2.2.2.1, bI_T, bI_F, i1_0, c137 L hT w c hQ s u, gv_0 (show D 0 5 < 1000 by have := f_nG w; omega) hg, c145 L hT w c hQ s u hg, h0, c135, c134 L, btz _ (show g < 32 by omega), hb, c134 L0, ww_0, show decide ((5 : Int32) = 0) = false from rfl, z_00]
    | true =>
      simp only [b125_0, b125_4, b125_7, b125_8, b125_9, b125_32, hP_wI, isO_wI, isA_wI, cond_true, decide_true, cond_false, Bool.and_true, Bool.true_and, Bool.and_self, Bool.and_false, Bool.false_and, Bool.not_true, Bool.not_false, Bool.or_true, Bool.true_or, Bool.or_false, Bool.false_or, is_some, gd_some, bk_v, bk_u, t_O L hT, t_P9 L hT, t_P10 L hT, t_P11 L hT, t_P12 L hT, t_P13 L hT, t_P14 L hT, t_OC L hT, t_C1 L hT, t_C2 L hT, t_C3 L hT, hQ, x_O L, x_P5 L, x_O77 L, s.1, s.2.1, s.2.2.1, s.2.2.2.1, s.2.2.2.2.1, s0.1, s0.2.1, s0.2.2.1, s0.2.2.2.1, s0.2.2.2.2.1, bI_T, bI_F, i1_0, c137 L hT w c hQ s u, gv_0 (show D 0 5 < 1000 by have := f_nG w; omega) hg, c145 L hT w c hQ s u hg, h0, c135, c134 L, btz _ (show g < 32 by omega), hb, c134 L0, ww_0, show decide ((5 : Int32) = 0) = false from rfl, z_00]
def crF (D : Gh) (S : Nat → Nat) (t k : Nat) : Int32 := nI (msk (D 0 5) (fnd D (S 17) (D 9 k) (has D S t) (hid S) 0))
theorem crF_I {D : Gh} {S : Nat → Nat} {t k : Nat} : ∀ j, j < 32 → bt (crF D S t k) j = true → j < D 0 5 ∧ has D S t j = true := by
  intro j hj hb
  unfold crF at hb
  rw [bt_msk _ hj, Bool.and_eq_true] at hb
  have h2 := hb.2
  unfold fnd at h2
  rw [Bool.and_eq_true, Bool.and_eq_true] at h2
  exact ⟨of_decide_eq_true hb.1, h2.1.1⟩
theorem HC_FR {P : Nat → Nat → Prop} {h h' : A_H} {D : Gh} {o n : Nat} {H : Nat → Nat → Nat} (f : FR P h h') (k : HC h D o n H) (np : ∀ a b, (79 ≤ a ∧ a < 114) → ¬ P a b) : HC h' D o n H := ⟨(FR_I f (np _ _ (by omega))).trans k.1, k.2.1, (FR_I f (np _ _ (by omega))).trans k.2.2.1, k.2.2.2.1, fun i hi => FR_CS f (k.2.2.2.2 i hi) (fun a b _ _ => np a b (by have := k.2.1; omega))⟩
theorem a126 {h : A_H} {T : Nat} {D : Gh} {S : Nat → Nat} (L : Ly h) (hT : isT T) (w : WF D) (c : CT h T D) (hQ : hP h 0 3 = some T) (s : CS h 77 D S) (u : WD D S) {o n : Nat} {H : Nat → Nat → Nat} (kk : HC h D o n H) {t k : Nat} (ht : t < D 0 3) (hk : k < D 0 4) (hne : ¬ msk (D 0 5) (has D S t) = 0) : Ca 126 [.ref 0, .int (nI t), .int (nI k)] h (nI (asS D S 0 t k)) 0 D (crs D S t (crF D S t k) (asS D S 0 t k)) (pN n) (pH n H S) := by
  have L0 : Ly (wI h 0 8 0) := L; have c0 := CT_w0 hT w c 0; have s0 : CS (wI h 0 8 0) 77 D S := CS_w0 s 0; have Q0 : hP (wI h 0 8 0) 0 3 = some T := hQ
  have h17 := u.1
  have hm := msk_256 (f_nG w) (has D S t)
  obtain ⟨h1, o1, g1, f1, k1⟩ := c12 L0 s0 (HC_w0 kk 0)
  have L1 := FR_Ly f1 L0
  have s1 : CS h1 77 D S := FR_CS f1 s0 (fun a b _ _ => by unfold hF; omega)
  have c1 : CT h1 T D := FR_CT f1 w c0 (fun a b _ _ _ => by unfold hF; rcases hT with rfl | rfl <;> omega)
  have Q1 : hP h1 0 3 = some T := by rw [FR_P f1]; exact Q0
  have h69 : C 69 [.ref T, .int (nI k), .int (nI (S 17)), .int (nI (msk (D 0 5) (has D S t))), .int (nI (S 16))] h1 = some (some (some (.int (crF D S t k))), h1) := by
    have := c69 L1 hT w c1 hk (show S 17 ≤ 1000 by omega) (nI (msk (D 0 5) (has D S t))) (nI (S 16))
    rw [msk_congr (fun g hg => fnd_congr (hb_ w t) (hh_ w) g hg)] at this
    exact this
  have h70 : C 70 [.ref T, .int (nI t), .int (crF D S t k), .int (nI (msk (D 0 5) (has D S t)) &&& (nI (S 16) ^^^ (-1 : Int32))), .int (nI (S 17)), .int 0] h1 = some (some (some (.int (nI (asS D S 0 t k)))), h1) := by
    have := c70 L1 hT w c1 ht (crF D S t k) (nI (msk (D 0 5) (has D S t)) &&& (nI (S 16) ^^^ (-1 : Int32))) (show S 17 ≤ 1000 by omega) false
    rw [bI_F, cond_false, ask_congr (p' := fnd D (S 17) (D 9 k) (has D S t) (hid S) 0) (q' := fun g => has D S t g && !hid S g) (fun g hg => by
      have := f_nG w
      unfold crF
      rw [bt_msk _ (by omega), dT hg, Bool.true_and]) (fun g hg => by
      have := f_nG w
      rw [bt_and, hb_ w t g hg, bt_xm _ (by omega), hh_ w g hg])] at this
    exact this
  obtain ⟨h2, g2, s2, f2⟩ := c53 L1 w_in w u s1 (a := asS D S 0 t k) ht (f := crF D S t k) crF_I
  have z0 : decide (nI (msk (D 0 5) (has D S t)) = 0) = false := by
    rw [show (0 : Int32) = nI 0 from rfl]; exact dF (by rw [w_eq (by omega) (by decide)]; exact hne)
  refine ⟨h2, o1, ?_, FR_tr (FR_tr (FRca_0 h 0) (FR_mo (fun a b q => hF_ca q) f1)) (FR_mo (fun a b q => by unfold stF at q; unfold ca; omega) f2), ?_, s2, HC_FR f2 k1 (fun a b q => by unfold stF; omega)⟩
  · rw [e126]
    simp only [b126_0, b126_6, b126_7, b126_13, b126_21, b126_29, b126_40, b126_57, b126_65, hP_wI, isO_wI, isA_wI, cond_true, decide_true, cond_false, Bool.and_true, Bool.true_and, Bool.and_self, Bool.and_false, Bool.false_and, Bool.not_true, Bool.not_false, Bool.or_true, Bool.true_or, Bool.or_false, Bool.false_or, is_some, gd_some, bk_v, bk_u, t_O L hT, t_P9 L hT, t_P10 L hT, t_P11 L hT, t_P12 L hT, t_P13 L hT, t_P14 L hT, t_OC L hT, t_C1 L hT, t_C2 L hT, t_C3 L hT, hQ, x_O L, x_P5 L, x_O77 L, s.1, s.2.1, s.2.2.1, s.2.2.2.1, s.2.2.2.2.1, s0.1, s0.2.1, s0.2.2.1, s0.2.2.2.1, s0.2.2.2.2.1, bI_T, bI_F, i1_0, c144 L hT w c hQ s u, gTG w ht hk, c134 L, c146 L0 hT w c0 Q0 s0 u ht, z0, c134 L0, ww_0, x_P6 L, k_O L, g1, x_O L1, x_P5 L1, x_O77 L1, Q1, t_O L1 hT, s1.1, s1.2.2.2.2.1, h69, h70, g2]
  · exact (FR_I f2 (by unfold stF; omega)).trans ((FR_I f1 (by unfold hF; omega)).trans (w_0 h 0))
theorem a126b {h : A_H} {T : Nat} {D : Gh} {S : Nat → Nat} (L : Ly h) (hT : isT T) (w : WF D) (c : CT h T D) (hQ : hP h 0 3 = some T) (s : CS h 77 D S) (u : WD D S) {x y : Int32} (e : decide (eit (eit (gv (D 0 3) x) (gv (D 0 4) y)) (dv 0) = 0) = false) : Ce 126 [.ref 0, .int x, .int y] h (-1) (eit (eit (gv (D 0 3) x) (gv (D 0 4) y)) (dv 0)) := by
  apply Ce_of
  rw [e126]
  simp only [b126_0, b126_6, b126_7, cond_true, decide_true, cond_false, Bool.and_true, Bool.true_and, Bool.and_self, Bool.and_false, Bool.false_and, Bool.not_true, Bool.not_false, Bool.or_true, Bool.true_or, Bool.or_false, Bool.false_or, is_some, gd_some, bk_v, bk_u, t_O L hT, t_P9 L hT, t_P10 L hT, t_P11 L hT, t_P12 L hT, t_P13 L hT, t_P14 L hT, t_OC L hT, t_C1 L hT, t_C2 L hT, t_C3 L hT, hQ, x_O L, x_P5 L, x_O77 L, s.1, s.2.1, s.2.2.1, s.2.2.2.1, s.2.2.2.2.1, c144 L hT w c hQ s u, c134 L, e, bI_T, i1_0]
theorem a126c {h : A_H} {T : Nat} {D : Gh} {S : Nat → Nat} (L : Ly h) (hT : isT T) (w : WF D) (c : CT h T D) (hQ : hP h 0 3 = some T) (s : CS h 77 D S) (u : WD D S) {t k : Nat} (ht : t < D 0 3) (hk : k < D 0 4) (hne : msk (D 0 5) (has D S t) = 0) : Ce 126 [.ref 0, .int (nI t), .int (nI k)] h (-1) 5 := by
  have L0 : Ly (wI h 0 8 0) := L; have c0 := CT_w0 hT w c 0; have s0 : CS (wI h 0 8 0) 77 D S := CS_w0 s 0; have Q0 : hP (wI h 0 8 0) 0 3 = some T := hQ
  apply Ce_of
  rw [e126]
  simp only [b126_0, b126_6, b126_7, b126_13, b126_21, hP_wI, isO_wI, isA_wI, cond_true, decide_true, cond_false, Bool.and_true, Bool.true_and, Bool.and_self, Bool.and_false, Bool.false_and, Bool.not_true, Bool.not_false, Bool.or_true, Bool.true_or, Bool.or_false, Bool.false_or, is_some, gd_some, bk_v, bk_u, t_O L hT, t_P9 L hT, t_P10 L hT, t_P11 L hT, t_P12 L hT, t_P13 L hT, t_P14 L hT, t_OC L hT, t_C1 L hT, t_C2 L hT, t_C3 L hT, hQ, x_O L, x_P5 L, x_O77 L, s.1, s.2.1, s.2.2.1, s.2.2.2.1, s.2.2.2.2.1, s0.1, s0.2.1, s0.2.2.1, s0.2.2.2.1, s0.2.2.2.2.1, bI_T, bI_F, i1_0, c144 L hT w c hQ s u, gTG w ht hk, c134 L, c146 L0 hT w c0 Q0 s0 u ht, hne, show decide (nI 0 = 0) = true from rfl, c134 L0, ww_0, show decide ((5 : Int32) = 0) = false from rfl]
def nd (x : Int32) : Int32 := bif decide (x < 1) then 2 else bif decide ((60 : Int32) < x) then 2 else 0
theorem nd_T {x : Int32} (e : decide (nd x = 0) = true) : ∃ n, x = nI n ∧ 1 ≤ n ∧ n ≤ 60 := by
  unfold nd at e
  cases h1 : decide (x < 1) with
  | true => rw [h1, cond_true] at e; exact absurd e (by decide)
  | false =>
    rw [h1] at e
    cases h2 : decide ((60 : Int32) < x) with
    | true => rw [h2] at e; exact absurd e (by decide)
    | false =>
      have h1 := of_decide_eq_false h1
      have h2 := of_decide_eq_false h2
      rw [Int32.lt_iff_toInt_lt] at h1 h2
      have e1 : (1 : Int32).toInt = 1 := rfl
      have e2 : (60 : Int32).toInt = 60 := rfl
      obtain ⟨n, hn, rfl⟩ := w_ex (x := x) (by rw [Int32.le_iff_toInt_le]; have : (0 : Int32).toInt = 0 := rfl; omega)
      rw [w_int hn] at h1 h2
      exact ⟨n, rfl, by omega, by omega⟩
theorem nd_of {n : Nat} (h1 : 1 ≤ n) (h2 : n ≤ 60) : decide (nI n < 1) = false ∧ decide ((60 : Int32) < nI n) = false := by
  rw [show (1 : Int32) = nI 1 from rfl, show (60 : Int32) = nI 60 from rfl]
  exact ⟨dF (by rw [w_lt (by omega) (by omega)]; omega), dF (by rw [w_lt (by omega) (by omega)]; omega)⟩
theorem le300 {a b : Nat} (ha : a ≤ 300) (hb : b ≤ 60) : decide (nI a + nI b ≤ 300) = decide (a + b ≤ 300) := by
  rw [nI_add, show (300 : Int32) = nI 300 from rfl]
  simp only [w_le (show a + b < 2147483648 by omega) (show 300 < 2147483648 by decide)]
theorem WD_dy {D : Gh} {S : Nat → Nat} (w : WF D) (u : WD D S) {n : Nat} (hn : S 17 + n ≤ 300) : WD D (Sd S n) := by
  have h8 := f_nG w
  have h4 := f_nt w
  obtain ⟨u1, u2, u3, u4, u5⟩ := u
  refine ⟨hn, fun k hk => by rw [Sd_g (by omega)]; exact u2 k hk, by rw [Sd_g (by decide)]; exact u3, fun k h1 h2 => by rw [Sd_g (by omega)]; exact u4 k h1 h2, fun t ht => ?_⟩
  rw [Sd_g (by omega), cnt_congr (q := fun g => decide (D 14 g = t) && is S 1 g)]
  · exact u5 t ht
  · intro k hk
    unfold is
    rw [Sd_g (by omega)]
theorem a127 {h : A_H} {T : Nat} {D : Gh} {S : Nat → Nat} (L : Ly h) (hT : isT T) (w : WF D) (c : CT h T D) (hQ : hP h 0 3 = some T) (s : CS h 77 D S) (u : WD D S) (hst : hI h 0 4 = 1) {o n : Nat} {H : Nat → Nat → Nat} (kk : HC h D o n H) {d : Nat} (h1 : 1 ≤ d) (h2 : d ≤ 60) (hd : S 17 + d ≤ 300) : Ca 127 [.ref 0, .int (nI d)] h (nI (S 17 + d)) 0 D (Sd S d) (pN n) (pH n H S) := by
  have L0 : Ly (wI h 0 8 0) := L; have c0 := CT_w0 hT w c 0; have s0 : CS (wI h 0 8 0) 77 D S := CS_w0 s 0; have Q0 : hP (wI h 0 8 0) 0 3 = some T := hQ
  have h17 := u.1
  have h8 := f_nG w
  obtain ⟨v1, v2⟩ := nd_of h1 h2
  have z3 := le300 h17 h2
  rw [nI_add, dT hd] at z3
  obtain ⟨h1', o1, g1, f1, k1⟩ := c12 L0 s0 (HC_w0 kk 0)
  have L1 := FR_Ly f1 L0
  have s1 : CS h1' 77 D S := FR_CS f1 s0 (fun a b _ _ => by unfold hF; omega)
  have i1 : hI (wI h1' 77 0 (nI (S 17 + d))) 77 0 = nI (S 17 + d) := by rw [hI_wI, if_pos ⟨rfl, rfl⟩]
  refine ⟨wI h1' 77 0 (nI (S 17 + d)), o1, ?_, FR_wI (FR_tr (FRca_0 h 0) (FR_mo (fun a b q => hF_ca q) f1)) _ (Or.inr (Or.inl rfl)), ?_, ?_, HC_77 k1 _⟩
  · rw [e127]
    simp only [b127_0, b127_3, b127_13, b127_14, b127_29, b127_37, b127_44, v1, v2, hP_wI, isO_wI, isA_wI, cond_true, decide_true, cond_false, Bool.and_true, Bool.true_and, Bool.and_self, Bool.and_false, Bool.false_and, Bool.not_true, Bool.not_false, Bool.or_true, Bool.true_or, Bool.or_false, Bool.false_or, is_some, gd_some, bk_v, bk_u, t_O L hT, t_P9 L hT, t_P10 L hT, t_P11 L hT, t_P12 L hT, t_P13 L hT, t_P14 L hT, t_OC L hT, t_C1 L hT, t_C2 L hT, t_C3 L hT, hQ, x_O L, x_P5 L, x_O77 L, s.1, s.2.1, s.2.2.1, s.2.2.2.1, s.2.2.2.2.1, s0.1, s0.2.1, s0.2.2.1, s0.2.2.2.1, s0.2.2.2.2.1, bI_T, bI_F, i1_0, c136 L, hst, c135, c134 L, z3, c134 L0, ww_0, x_P6 L, k_O L, g1, x_O L1, x_P5 L1, x_O77 L1, s1.1, nI_add, i1]
  · rw [hI_wI, if_neg (by omega)]
    exact (FR_I f1 (by unfold hF; omega)).trans (w_0 h 0)
  · have em : ∀ x, msk (D 0 5) (is (Sd S d) x) = msk (D 0 5) (is S x) := by
      intro x
      apply msk_congr
      intro k hk
      unfold is
      rw [Sd_g (by omega)]
    refine ⟨i1, ?_, ?_, ?_, ?_, fun t ht => ?_⟩
    · rw [em, hI_wI, if_neg (by omega)]; exact s1.2.1
    · rw [em, hI_wI, if_neg (by omega)]; exact s1.2.2.1
    · rw [em, hI_wI, if_neg (by omega)]; exact s1.2.2.2.1
    · rw [Sd_g (by decide), hI_wI, if_neg (by omega)]; exact s1.2.2.2.2.1
    · rw [Sd_g (by omega), hI_wI, if_neg (by omega)]; exact s1.2.2.2.2.2 t ht
theorem a127b {h : A_H} {T : Nat} {D : Gh} {S : Nat → Nat} (L : Ly h) (hT : isT T) (w : WF D) (c : CT h T D) (hQ : hP h 0 3 = some T) (s : CS h 77 D S) (u : WD D S) {x : Int32} (e : decide (eit (bif decide (hI h 0 4 = 0) then 1 else 0) (nd x) = 0) = false) : Ce 127 [.ref 0, .int x] h (-1) (eit (bif decide (hI h 0 4 = 0) then 1 else 0) (nd x)) := by
  apply Ce_of
  rw [e127]
  unfold nd at e ⊢
  cases h1 : decide (x < 1) with
  | true =>
    rw [h1, cond_true] at e
    simp only [b127_0, b127_3, b127_13, b127_14, h1, cond_true, decide_true, cond_false, Bool.and_true, Bool.true_and, Bool.and_self, Bool.and_false, Bool.false_and, Bool.not_true, Bool.not_false, Bool.or_true, Bool.true_or, Bool.or_false, Bool.false_or, is_some, gd_some, bk_v, bk_u, t_O L hT, t_P9 L hT, t_P10 L hT, t_P11 L hT, t_P12 L hT, t_P13 L hT, t_P14 L hT, t_OC L hT, t_C1 L hT, t_C2 L hT, t_C3 L hT, hQ, x_O L, x_P5 L, x_O77 L, s.1, s.2.1, s.2.2.1, s.2.2.2.1, s.2.2.2.2.1, c136 L, c135, eit_e, c134 L, e, bI_T, i1_0]
  | false =>
    rw [h1, cond_false] at e
    cases h2 : decide ((60 : Int32) < x) with
    | true =>
      rw [h2, cond_true] at e
      simp only [b127_0, b127_3, b127_13, b127_14, h1, h2, cond_true, decide_true, cond_false, Bool.and_true, Bool.true_and, Bool.and_self, Bool.and_false, Bool.false_and, Bool.not_true, Bool.not_false, Bool.or_true, Bool.true_or, Bool.or_false, Bool.false_or, is_some, gd_some, bk_v, bk_u, t_O L hT, t_P9 L hT, t_P10 L hT, t_P11 L hT, t_P12 L hT, t_P13 L hT, t_P14 L hT, t_OC L hT, t_C1 L hT, t_C2 L hT, t_C3 L hT, hQ, x_O L, x_P5 L, x_O77 L, s.1, s.2.1, s.2.2.1, s.2.2.2.1, s.2.2.2.2.1, c136 L, c135, eit_e, c134 L, e, bI_T, i1_0]
    | false =>
      rw [h2, cond_false] at e
      simp only [b127_0, b127_3, b127_13, b127_14, h1, h2, cond_true, decide_true, cond_false, Bool.and_true, Bool.true_and, Bool.and_self, Bool.and_false, Bool.false_and, Bool.not_true, Bool.not_false, Bool.or_true, Bool.true_or, Bool.or_false, Bool.false_or, is_some, gd_some, bk_v, bk_u, t_O L hT, t_P9 L hT, t_P10 L hT, t_P11 L hT, t_P12 L hT, t_P13 L hT, t_P14 L hT, t_OC L hT, t_C1 L hT, t_C2 L hT, t_C3 L hT, hQ, x_O L, x_P5 L, x_O77 L, s.1, s.2.1, s.2.2.1, s.2.2.2.1, s.2.2.2.2.1, c136 L, c135, eit_e, c134 L, e, bI_T, i1_0]
theorem a127c {h : A_H} {T : Nat} {D : Gh} {S : Nat → Nat} (L : Ly h) (hT : isT T) (w : WF D) (c : CT h T D) (hQ : hP h 0 3 = some T) (s : CS h 77 D S) (u : WD D S) (hst : hI h 0 4 = 1) {d : Nat} (h1 : 1 ≤ d) (h2 : d ≤ 60) (hd : ¬ S 17 + d ≤ 300) : Ce 127 [.ref 0, .int (nI d)] h (-1) 3 := by
  have L0 : Ly (wI h 0 8 0) := L; have c0 := CT_w0 hT w c 0; have s0 : CS (wI h 0 8 0) 77 D S := CS_w0 s 0; have Q0 : hP (wI h 0 8 0) 0 3 = some T := hQ
  have h17 := u.1
  obtain ⟨v1, v2⟩ := nd_of h1 h2
  apply Ce_of
  rw [e127]
  simp only [b127_0, b127_3, b127_13, b127_14, b127_29, v1, v2, hP_wI, isO_wI, isA_wI, cond_true, decide_true, cond_false, Bool.and_true, Bool.true_and, Bool.and_self, Bool.and_false, Bool.false_and, Bool.not_true, Bool.not_false, Bool.or_true, Bool.true_or, Bool.or_false, Bool.false_or, is_some, gd_some, bk_v, bk_u, t_O L hT, t_P9 L hT, t_P10 L hT, t_P11 L hT, t_P12 L hT, t_P13 L hT, t_P14 L hT, t_OC L hT, t_C1 L hT, t_C2 L hT, t_C3 L hT, hQ, x_O L, x_P5 L, x_O77 L, s.1, s.2.1, s.2.2.1, s.2.2.2.1, s.2.2.2.2.1, s0.1, s0.2.1, s0.2.2.1, s0.2.2.2.1, s0.2.2.2.2.1, bI_T, bI_F, i1_0, c136 L, hst, c135, c134 L, le300 h17 h2, dF hd, c134 L0, ww_0, show decide ((3 : Int32) = 0) = false from rfl]
theorem a128 {h : A_H} {D : Gh} {o n : Nat} {H : Nat → Nat → Nat} (L : Ly h) (k : HC h D o (n + 1) H) : Ca 128 [.ref 0] h 1 0 D (H n) n H := by
  obtain ⟨h1, g1, f1, k1, s1⟩ := c13 L k
  have L1 := FR_Ly f1 L
  refine ⟨wI h1 0 8 0, o, ?_, FR_wI (FR_mo (fun a b q => by unfold uF at q; unfold ca; omega) f1) _ (Or.inl ⟨rfl, rfl⟩), w_0 _ _, FR_CS (P := fun a _ => a = 0) (FR_wI (P := fun a _ => a = 0) (FR_rfl _ h1) _ rfl) s1 (fun a b _ _ => by omega), HC_w0 k1 0⟩
  rw [e128]
  simp only [b128_0, b128_6, b128_11, cond_true, cond_false, decide_true, Bool.and_true, Bool.true_and, Bool.and_self, Bool.and_false, Bool.false_and, Bool.not_true, Bool.not_false, Bool.or_true, Bool.true_or, Bool.or_false, Bool.false_or, is_some, gd_some, bk_v, bk_u, x_O L, x_P6 L, x_P5 L, k_O L, g1, i1_0, x_O L1, c134 L1, bI_F, z_11]
theorem a128b {h : A_H} {D : Gh} {o : Nat} {H : Nat → Nat → Nat} (L : Ly h) (k : HC h D o 0 H) : Ce 128 [.ref 0] h 0 6 := by
  apply Ce_of
  rw [e128]
  simp only [b128_0, b128_6, b128_11, cond_true, cond_false, decide_true, Bool.and_true, Bool.true_and, Bool.and_self, Bool.and_false, Bool.false_and, Bool.not_true, Bool.not_false, Bool.or_true, Bool.true_or, Bool.or_false, Bool.false_or, is_some, gd_some, bk_v, bk_u, x_O L, x_P6 L, x_P5 L, k_O L, c13b L k, c134 L, show decide ((6 : Int32) = 0) = false from rfl, bI_T, i1_0, z_00]
theorem a129 {h : A_H} {D : Gh} {S : Nat → Nat} (L : Ly h) (s : CS h 77 D S) (hst : hI h 0 4 = 1) {m : Nat} {K : Nat → Nat → Nat} (k : MC h D m K) (hm : m < 3) : ∃ h', C 129 [.ref 0] h = some (some (some (.int (nI m))), h') ∧ FR cm h h' ∧ hI h' 0 8 = 0 ∧ MC h' D (m + 1) (sH m K S) ∧ ∀ a b, ¬ sF a b → ¬ (a = 0 ∧ b = 8) → hI h' a b = hI h a b := by
  have L0 : Ly (wI h 0 8 0) := L
  have f0 : FR (fun a _ => a = 0) h (wI h 0 8 0) := FR_wI (P := fun a _ => a = 0) (FR_rfl _ h) _ rfl
  have k0 : MC (wI h 0 8 0) D m K := ⟨(FR_I f0 (by omega)).trans k.1, k.2.1, fun i hi => FR_CS f0 (k.2.2 i hi) (fun a b _ _ => by omega)⟩
  have s0 : CS (wI h 0 8 0) 77 D S := CS_w0 s 0
  obtain ⟨h1, g1, f1, k1⟩ := c14 L0 s0 k0 hm
  have l3 : decide ((3 : Int32) ≤ nI m) = false := by rw [show (3 : Int32) = nI 3 from rfl]; exact dF (by rw [w_le (by decide) (by omega)]; omega)
  refine ⟨h1, ?_, FR_tr (FR_wI (P := cm) (FR_rfl _ h) _ (Or.inl ⟨rfl, rfl⟩)) (FR_mo (fun a b q => Or.inr q) f1), (FR_I f1 (by unfold sF; omega)).trans (w_0 h 0), k1, fun a b q1 q2 => (FR_I f1 q1).trans (by rw [hI_wI, if_neg q2])⟩
  rw [e129]
  simp only [b129_0, b129_12, b129_18, b129_19, b129_27, cond_true, cond_false, decide_true, Bool.and_true, Bool.true_and, Bool.and_self, Bool.and_false, Bool.false_and, Bool.not_true, Bool.not_false, Bool.or_true, Bool.true_or, Bool.or_false, Bool.false_or, is_some, gd_some, bk_v, bk_u, isO_wI, hP_wI, x_O L, x_P6 L, k_O L, k.1, l3, c136 L, hst, i1_0, c135, c134 L, bI_F, x_P5 L, g1, decide_true, bI, cond_true, cond_false]
theorem a129b {h : A_H} {D : Gh} (L : Ly h) (hb : hI h 0 4 = 0 ∨ hI h 0 4 = 1) {m : Nat} {K : Nat → Nat → Nat} (k : MC h D m K) (e : hI h 0 4 = 0 ∨ m = 3) : Ce 129 [.ref 0] h (-1) (bif decide (hI h 0 4 = 0) then 1 else 3) := by
  have hm := k.2.1
  apply Ce_of
  rw [e129]
  rcases hb with hb | hb
  · rw [hb]
    cases l3 : decide ((3 : Int32) ≤ nI m) with
    | true => simp only [b129_0, b129_12, b129_18, b129_19, cond_true, cond_false, decide_true, Bool.and_true, Bool.true_and, Bool.and_self, Bool.and_false, Bool.false_and, Bool.not_true, Bool.not_false, Bool.or_true, Bool.true_or, Bool.or_false, Bool.false_or, is_some, gd_some, bk_v, bk_u, x_O L, x_P6 L, k_O L, k.1, l3, c136 L, hb, i1_0, c135, c134 L, bI_T]
    | false => simp only [b129_0, b129_12, b129_18, b129_19, cond_true, cond_false, decide_true, Bool.and_true, Bool.true_and, Bool.and_self, Bool.and_false, Bool.false_and, Bool.not_true, Bool.not_false, Bool.or_true, Bool.true_or, Bool.or_false, Bool.false_or, is_some, gd_some, bk_v, bk_u, x_O L, x_P6 L, k_O L, k.1, l3, c136 L, hb, i1_0, c135, c134 L, bI_T]
  · rw [hb] at e ⊢
    have e0 : m = 3 := by
      rcases e with e | e
      · exact absurd e (by decide)
      · exact e
    subst e0
    simp only [b129_0, b129_12, b129_18, b129_19, cond_true, cond_false, decide_true, Bool.and_true, Bool.true_and, Bool.and_self, Bool.and_false, Bool.false_and, Bool.not_true, Bool.not_false, Bool.or_true, Bool.true_or, Bool.or_false, Bool.false_or, is_some, gd_some, bk_v, bk_u, x_O L, x_P6 L, k_O L, k.1, show decide ((3 : Int32) ≤ nI 3) = true from rfl, c136 L, hb, i1_0, c135, c134 L, show decide ((3 : Int32) = 0) = false from rfl, bI_T]
theorem a130 {h : A_H} {D : Gh} (L : Ly h) {m i : Nat} {K : Nat → Nat → Nat} (k : MC h D m K) (hi : i < m) {o n : Nat} {H : Nat → Nat → Nat} (kk : HC h D o n H) : Ca 130 [.ref 0, .int (nI i)] h 1 0 D (K i) 0 H := by
  obtain ⟨h1, g1, f1, s1, z1⟩ := c15 L k hi
  have L1 := FR_Ly f1 L
  refine ⟨wI h1 0 8 0, o, ?_, FR_wI (FR_mo (fun a b q => by unfold uF at q; unfold ca; omega) f1) _ (Or.inl ⟨rfl, rfl⟩), w_0 _ _, FR_CS (P := fun a _ => a = 0) (FR_wI (P := fun a _ => a = 0) (FR_rfl _ h1) _ rfl) s1 (fun a b _ _ => by omega), HC_w0 ⟨(FR_I f1 (by unfold uF; omega)).trans kk.1, kk.2.1, z1, by decide, fun j hj => absurd hj (Nat.not_lt_zero j)⟩ 0⟩
  rw [e130]
  simp only [b130_0, b130_7, b130_12, cond_true, cond_false, decide_true, Bool.and_true, Bool.true_and, Bool.and_self, Bool.and_false, Bool.false_and, Bool.not_true, Bool.not_false, Bool.or_true, Bool.true_or, Bool.or_false, Bool.false_or, is_some, gd_some, bk_v, bk_u, x_O L, x_P6 L, x_P5 L, k_O L, g1, i1_0, x_O L1, c134 L1, bI_F, z_11]
theorem a130b {h : A_H} {D : Gh} (L : Ly h) {m : Nat} {K : Nat → Nat → Nat} (k : MC h D m K) {x : Int32} (e : vd m x = false) : Ce 130 [.ref 0, .int x] h 0 1 := by
  apply Ce_of
  rw [e130]
  simp only [b130_0, b130_7, b130_12, cond_true, cond_false, decide_true, Bool.and_true, Bool.true_and, Bool.and_self, Bool.and_false, Bool.false_and, Bool.not_true, Bool.not_false, Bool.or_true, Bool.true_or, Bool.or_false, Bool.false_or, is_some, gd_some, bk_v, bk_u, x_O L, x_P6 L, x_P5 L, k_O L, c15b L k e, c134 L, i1_0, bI_T, z_00]
