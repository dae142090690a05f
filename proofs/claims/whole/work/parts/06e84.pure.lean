def P0 : Gh := fun _ _ => 0
set_option maxRecDepth 16384 in
theorem WF_0 : WF P0 := ⟨Nat.zero_le _, Nat.zero_le _, Nat.zero_le _, Nat.zero_le _, Nat.zero_le _, Nat.zero_le _, Nat.zero_le _, Nat.zero_le _, by decide, Nat.zero_le _, fun {i} hi => absurd hi (Nat.not_lt_zero i), fun {i} hi => absurd hi (Nat.not_lt_zero i), fun {i} hi => absurd hi (Nat.not_lt_zero i), fun {i} hi => absurd hi (Nat.not_lt_zero i), fun {i} hi => absurd hi (Nat.not_lt_zero i), fun {i} hi => absurd hi (Nat.not_lt_zero i), fun {i} hi => absurd hi (Nat.not_lt_zero i), fun {i} hi => absurd hi (Nat.not_lt_zero i), fun {i} hi => absurd hi (Nat.not_lt_zero i), fun {i} hi => absurd hi (Nat.not_lt_zero i), fun {i} hi => absurd hi (Nat.not_lt_zero i), fun {i} hi => absurd hi (Nat.not_lt_zero i), fun {i} hi => absurd hi (Nat.not_lt_zero i), fun {i} hi => absurd hi (Nat.not_lt_zero i), fun {i} hi => absurd hi (Nat.not_lt_zero i), fun {i} hi => absurd hi (Nat.not_lt_zero i), fun {i} hi => absurd hi (Nat.not_lt_zero i), fun {i} hi => absurd hi (Nat.not_lt_zero i), fun {i} hi => absurd hi (Nat.not_lt_zero i), fun {i} hi => absurd hi (Nat.not_lt_zero i), fun {i} hi => absurd hi (Nat.not_lt_zero i), fun {i} hi => absurd hi (Nat.not_lt_zero i), fun {i} hi => absurd hi (Nat.not_lt_zero i)⟩
set_option maxRecDepth 16384 in
theorem NC_0 : NC P0 := ⟨rfl, fun i hi => absurd hi (Nat.not_lt_zero i), rfl, fun i hi => absurd hi (Nat.not_lt_zero i)⟩
set_option maxRecDepth 16384 in
theorem CT_0 {h : A_H} {T : Nat} (e0 : hI h T 0 = 0) (e1 : hI h T 1 = 0) (e2 : hI h T 2 = 0) (e3 : hI h T 3 = 0) (e4 : hI h T 4 = 0) (e5 : hI h T 5 = 0) (e6 : hI h T 6 = 0) (e7 : hI h T 7 = 0) (e8 : hI h T 8 = 0) (en0 : hI h (T + 6) 0 = 0) (eo : ∀ i, i < 4 → hI h (T + 14 + i) 2 = 0) : CT h T P0 := ⟨e0, e1, e2, e3, e4, e5, e6, e7, e8, en0, fun {i} hi => absurd hi (Nat.not_lt_zero i), fun {i} hi => absurd hi (Nat.not_lt_zero i), fun {i} hi => absurd hi (Nat.not_lt_zero i), fun {i} hi => absurd hi (Nat.not_lt_zero i), fun {i} hi => absurd hi (Nat.not_lt_zero i), fun {i} hi => absurd hi (Nat.not_lt_zero i), fun {i} hi => absurd hi (Nat.not_lt_zero i), fun {i} hi => absurd hi (Nat.not_lt_zero i), fun {i} hi => (eo i hi), fun {i} hi => absurd hi (Nat.not_lt_zero i), fun {i} hi => absurd hi (Nat.not_lt_zero i), fun {i} hi => absurd hi (Nat.not_lt_zero i), fun {i} hi => absurd hi (Nat.not_lt_zero i), fun {i} hi => absurd hi (Nat.not_lt_zero i), fun {i} hi => absurd hi (Nat.not_lt_zero i), fun {i} hi => absurd hi (Nat.not_lt_zero i), fun {i} hi => absurd hi (Nat.not_lt_zero i), fun {i} hi => absurd hi (Nat.not_lt_zero i), fun {i} hi => absurd hi (Nat.not_lt_zero i), fun {i} hi => absurd hi (Nat.not_lt_zero i), fun {i} hi => absurd hi (Nat.not_lt_zero i), fun {i} hi => absurd hi (Nat.not_lt_zero i), fun {i} hi => absurd hi (Nat.not_lt_zero i), fun {i} hi => absurd hi (Nat.not_lt_zero i), fun {i} hi => absurd hi (Nat.not_lt_zero i)⟩
set_option maxRecDepth 16384 in
theorem MB_0 {h : A_H} {B : Nat} (e0 : hI h B 0 = 0) (e1 : hI h B 1 = 0) (e2 : hI h B 2 = 0) (e3 : hI h B 3 = 0) (e4 : hI h B 4 = 0) (e5 : hI h B 5 = 0) (e6 : hI h B 6 = 0) (e7 : hI h B 7 = 0) (e8 : hI h B 8 = 0) (e9 : hI h B 9 = 0) : MB h B P0 := ⟨e0, e1, e2, e3, e4, e5, e6, e7, e8, e9, fun {i} hi => absurd hi (Nat.not_lt_zero i), fun {i} hi => absurd hi (Nat.not_lt_zero i), fun {i} hi => absurd hi (Nat.not_lt_zero i), fun {i} hi => absurd hi (Nat.not_lt_zero i), fun {i} hi => absurd hi (Nat.not_lt_zero i), fun {i} hi => absurd hi (Nat.not_lt_zero i), fun {i} hi => absurd hi (Nat.not_lt_zero i), fun {i} hi => absurd hi (Nat.not_lt_zero i), fun {i} hi => absurd hi (Nat.not_lt_zero i), fun {i} hi => absurd hi (Nat.not_lt_zero i), fun {i} hi => absurd hi (Nat.not_lt_zero i), fun {i} hi => absurd hi (Nat.not_lt_zero i), fun {i} hi => absurd hi (Nat.not_lt_zero i), fun {i} hi => absurd hi (Nat.not_lt_zero i), fun {i} hi => absurd hi (Nat.not_lt_zero i), fun {i} hi => absurd hi (Nat.not_lt_zero i), fun {i} hi => absurd hi (Nat.not_lt_zero i), fun {i} hi => absurd hi (Nat.not_lt_zero i), fun {i} hi => absurd hi (Nat.not_lt_zero i), fun {i} hi => absurd hi (Nat.not_lt_zero i), fun {i} hi => absurd hi (Nat.not_lt_zero i), fun {i} hi => absurd hi (Nat.not_lt_zero i)⟩
set_option maxRecDepth 16384 in
theorem s56a {h : A_H} {T i : Nat} (L : Ly h) (hT : isT T) (hi : i < 4) : R 56 27 [some (.ref T), some (.int (nI i))] [] h = R 56 27 [some (.ref T), some (.int (nI (i + 1)))] [] (wI h (T + 10 + i) 3 0) := by
  have d : decide ((4 : Int32) ≤ nI i) = false := by rw [show (4 : Int32) = nI 4 from rfl, (nI_le9 (k := i) (m := 4) (by omega) (by decide)).1]; exact dF (by omega)
  rw [b56_27]
  simp only [b56_36, cond_true, decide_true, cond_false, Bool.and_true, Bool.true_and, Bool.and_self, Bool.and_false, Bool.false_and, Bool.not_true, Bool.not_false, Bool.or_true, Bool.true_or, Bool.or_false, Bool.false_or, is_some, gd_some, bk_v, bk_u, t_O L hT, t_P9 L hT, t_P10 L hT, t_P11 L hT, t_P12 L hT, t_P13 L hT, t_P14 L hT, t_OC L hT, t_C1 L hT, t_C2 L hT, t_C3 L hT, d, t_Am L hT hi, w_cl (show i < 2147483648 by omega), t_Em L hT hi, t_Om L hT hi, w_s]
set_option maxRecDepth 16384 in
theorem s56b {h : A_H} {T i : Nat} (L : Ly h) (hT : isT T) (hi : i < 4) : R 56 40 [some (.ref T), some (.int (nI i))] [] h = R 56 40 [some (.ref T), some (.int (nI (i + 1)))] [] (wI h (T + 14 + i) 2 0) := by
  have d : decide ((4 : Int32) ≤ nI i) = false := by rw [show (4 : Int32) = nI 4 from rfl, (nI_le9 (k := i) (m := 4) (by omega) (by decide)).1]; exact dF (by omega)
  rw [b56_40]
  simp only [b56_49, cond_true, decide_true, cond_false, Bool.and_true, Bool.true_and, Bool.and_self, Bool.and_false, Bool.false_and, Bool.not_true, Bool.not_false, Bool.or_true, Bool.true_or, Bool.or_false, Bool.false_or, is_some, gd_some, bk_v, bk_u, t_O L hT, t_P9 L hT, t_P10 L hT, t_P11 L hT, t_P12 L hT, t_P13 L hT, t_P14 L hT, t_OC L hT, t_C1 L hT, t_C2 L hT, t_C3 L hT, d, t_At L hT hi, w_cl (show i < 2147483648 by omega), t_Et L hT hi, t_Ot L hT hi, w_s]
set_option maxRecDepth 16384 in
theorem c56 {h : A_H} {T : Nat} (L : Ly h) (hT : isT T) : ∃ h', C 56 [.ref T] h = some (some none, h') ∧ FR (fun a _ => T ≤ a ∧ a < T + 35) h h' ∧ CT (wI (wI h' T 0 (nI (P0 0 0))) T 1 (nI (P0 0 1))) T P0 ∧ CL h' T P0 := by
  refine ⟨(wI (wI (wI (wI (wI (wI (wI (wI (wI (wI (wI (wI (wI (wI (wI (wI h (T) 2 0) (T) 3 0) (T) 4 0) (T) 5 0) (T) 6 0) (T) 7 0) (T) 8 0) (T + 6) 0 0) (T + 10 + 0) 3 0) (T + 10 + 1) 3 0) (T + 10 + 2) 3 0) (T + 10 + 3) 3 0) (T + 14 + 0) 2 0) (T + 14 + 1) 2 0) (T + 14 + 2) 2 0) (T + 14 + 3) 2 0), ?_, FR_wI (FR_wI (FR_wI (FR_wI (FR_wI (FR_wI (FR_wI (FR_wI (FR_wI (FR_wI (FR_wI (FR_wI (FR_wI (FR_wI (FR_wI (FR_wI (FR_rfl _ h) 0 ⟨by omega, by omega⟩) 0 ⟨by omega, by omega⟩) 0 ⟨by omega, by omega⟩) 0 ⟨by omega, by omega⟩) 0 ⟨by omega, by omega⟩) 0 ⟨by omega, by omega⟩) 0 ⟨by omega, by omega⟩) 0 ⟨by omega, by omega⟩) 0 ⟨by omega, by omega⟩) 0 ⟨by omega, by omega⟩) 0 ⟨by omega, by omega⟩) 0 ⟨by omega, by omega⟩) 0 ⟨by omega, by omega⟩) 0 ⟨by omega, by omega⟩) 0 ⟨by omega, by omega⟩) 0 ⟨by omega, by omega⟩, ?_, ?_⟩
  · rw [e56]
    simp only [b56_0, b56_3, b56_6, b56_9, b56_12, b56_15, b56_18, b56_21, b56_25, cond_true, decide_true, cond_false, Bool.and_true, Bool.true_and, Bool.and_self, Bool.and_false, Bool.false_and, Bool.not_true, Bool.not_false, Bool.or_true, Bool.true_or, Bool.or_false, Bool.false_or, is_some, gd_some, bk_v, bk_u, t_O L hT, t_P9 L hT, t_P10 L hT, t_P11 L hT, t_P12 L hT, t_P13 L hT, t_P14 L hT, t_OC L hT, t_C1 L hT, t_C2 L hT, t_C3 L hT, isO_wI, hP_wI]
    generalize hh : (wI (wI (wI (wI (wI (wI (wI (wI h (T) 2 0) (T) 3 0) (T) 4 0) (T) 5 0) (T) 6 0) (T) 7 0) (T) 8 0) (T + 6) 0 0) = hA
    have LA : Ly hA := by rw [← hh]; exact Ly_wI (Ly_wI (Ly_wI (Ly_wI (Ly_wI (Ly_wI (Ly_wI (Ly_wI L _ _ _) _ _ _) _ _ _) _ _ _) _ _ _) _ _ _) _ _ _) _ _ _
    have q : ∀ hB, Ly hB → R 56 27 [some (.ref T), some (.int 0)] [] hB = R 56 40 [some (.ref T), some (.int 0)] [] (wI (wI (wI (wI hB (T + 10 + 0) 3 0) (T + 10 + 1) 3 0) (T + 10 + 2) 3 0) (T + 10 + 3) 3 0) := fun hB LB => by
      refine (s56a (i := 0) LB hT (by decide)).trans ?_
      refine (s56a (i := 1) (Ly_wI LB _ _ _) hT (by decide)).trans ?_
      refine (s56a (i := 2) (Ly_wI (Ly_wI LB _ _ _) _ _ _) hT (by decide)).trans ?_
      refine (s56a (i := 3) (Ly_wI (Ly_wI (Ly_wI LB _ _ _) _ _ _) _ _ _) hT (by decide)).trans ?_
      rw [b56_27, show decide ((4 : Int32) ≤ nI (3 + 1)) = true from rfl, cond_true]
    have q2 : ∀ hB, Ly hB → R 56 40 [some (.ref T), some (.int 0)] [] hB = some (some none, wI (wI (wI (wI hB (T + 14 + 0) 2 0) (T + 14 + 1) 2 0) (T + 14 + 2) 2 0) (T + 14 + 3) 2 0) := fun hB LB => by
      refine (s56b (i := 0) LB hT (by decide)).trans ?_
      refine (s56b (i := 1) (Ly_wI LB _ _ _) hT (by decide)).trans ?_
      refine (s56b (i := 2) (Ly_wI (Ly_wI LB _ _ _) _ _ _) hT (by decide)).trans ?_
      refine (s56b (i := 3) (Ly_wI (Ly_wI (Ly_wI LB _ _ _) _ _ _) _ _ _) hT (by decide)).trans ?_
      rw [b56_40, show decide ((4 : Int32) ≤ nI (3 + 1)) = true from rfl, cond_true]
    rw [q hA LA]
    exact q2 _ (Ly_wI (Ly_wI (Ly_wI (Ly_wI LA _ _ _) _ _ _) _ _ _) _ _ _)
  · refine CT_0 (by rw [hI_wI, if_neg (by omega), hI_wI, if_pos ⟨rfl, rfl⟩]; rfl) (by rw [hI_wI, if_pos ⟨rfl, rfl⟩]; rfl) (by rw [hI_wI, if_neg (by omega), hI_wI, if_neg (by omega), hI_wI, if_neg (by omega), hI_wI, if_neg (by omega), hI_wI, if_neg (by omega), hI_wI, if_neg (by omega), hI_wI, if_neg (by omega), hI_wI, if_neg (by omega), hI_wI, if_neg (by omega), hI_wI, if_neg (by omega), hI_wI, if_neg (by omega), hI_wI, if_neg (by omega), hI_wI, if_neg (by omega), hI_wI, if_neg (by omega), hI_wI, if_neg (by omega), hI_wI, if_neg (by omega), hI_wI, if_neg (by omega), hI_wI, if_pos ⟨rfl, rfl⟩]) (by rw [hI_wI, if_neg (by omega), hI_wI, if_neg (by omega), hI_wI, if_neg (by omega), hI_wI, if_neg (by omega), hI_wI, if_neg (by omega), hI_wI, if_neg (by omega), hI_wI, if_neg (by omega), hI_wI, if_neg (by omega), hI_wI, if_neg (by omega), hI_wI, if_neg (by omega), hI_wI, if_neg (by omega), hI_wI, if_neg (by omega), hI_wI, if_neg (by omega), hI_wI, if_neg (by omega), hI_wI, if_neg (by omega), hI_wI, if_neg (by omega), hI_wI, if_pos ⟨rfl, rfl⟩]) (by rw [hI_wI, if_neg (by omega), hI_wI, if_neg (by omega), hI_wI, if_neg (by omega), hI_wI, if_neg (by omega), hI_wI, if_neg (by omega), hI_wI, if_neg (by omega), hI_wI, if_neg (by omega), hI_wI, if_neg (by omega), hI_wI, if_neg (by omega), hI_wI, if_neg (by omega), hI_wI, if_neg (by omega), hI_wI, if_neg (by omega), hI_wI, if_neg (by omega), hI_wI, if_neg (by omega), hI_wI, if_neg (by omega), hI_wI, if_pos ⟨rfl, rfl⟩]) (by rw [hI_wI, if_neg (by omega), hI_wI, if_neg (by omega), hI_wI, if_neg (by omega), hI_wI, if_neg (by omega), hI_wI, if_neg (by omega), hI_wI, if_neg (by omega), hI_wI, if_neg (by omega), hI_wI, if_neg (by omega), hI_wI, if_neg (by omega), hI_wI, if_neg (by omega), hI_wI, if_neg (by omega), hI_wI, if_neg (by omega), hI_wI, if_neg (by omega), hI_wI, if_neg (by omega), hI_wI, if_pos ⟨rfl, rfl⟩]) (by rw [hI_wI, if_neg (by omega), hI_wI, if_neg (by omega), hI_wI, if_neg (by omega), hI_wI, if_neg (by omega), hI_wI, if_neg (by omega), hI_wI, if_neg (by omega), hI_wI, if_neg (by omega), hI_wI, if_neg (by omega), hI_wI, if_neg (by omega), hI_wI, if_neg (by omega), hI_wI, if_neg (by omega), hI_wI, if_neg (by omega), hI_wI, if_neg (by omega), hI_wI, if_pos ⟨rfl, rfl⟩]) (by rw [hI_wI, if_neg (by omega), hI_wI, if_neg (by omega), hI_wI, if_neg (by omega), hI_wI, if_neg (by omega), hI_wI, if_neg (by omega), hI_wI, if_neg (by omega), hI_wI, if_neg (by omega), hI_wI, if_neg (by omega), hI_wI, if_neg (by omega), hI_wI, if_neg (by omega), hI_wI, if_neg (by omega), hI_wI, if_neg (by omega), hI_wI, if_pos ⟨rfl, rfl⟩]) (by rw [hI_wI, if_neg (by omega), hI_wI, if_neg (by omega), hI_wI, if_neg (by omega), hI_wI, if_neg (by omega), hI_wI, if_neg (by omega), hI_wI, if_neg (by omega), hI_wI, if_neg (by omega), hI_wI, if_neg (by omega), hI_wI, if_neg (by omega), hI_wI, if_neg (by omega), hI_wI, if_neg (by omega), hI_wI, if_pos ⟨rfl, rfl⟩]) (by rw [hI_wI, if_neg (by omega), hI_wI, if_neg (by omega), hI_wI, if_neg (by omega), hI_wI, if_neg (by omega), hI_wI, if_neg (by omega), hI_wI, if_neg (by omega), hI_wI, if_neg (by omega), hI_wI, if_neg (by omega), hI_wI, if_neg (by omega), hI_wI, if_neg (by omega), hI_wI, if_pos ⟨rfl, rfl⟩]) (fun i hi => ?_)
    have : i = 0 ∨ i = 1 ∨ i = 2 ∨ i = 3 := by omega
    rcases this with rfl | rfl | rfl | rfl
    · rw [hI_wI, if_neg (by omega), hI_wI, if_neg (by omega), hI_wI, if_neg (by omega), hI_wI, if_neg (by omega), hI_wI, if_neg (by omega), hI_wI, if_pos ⟨rfl, rfl⟩]
    · rw [hI_wI, if_neg (by omega), hI_wI, if_neg (by omega), hI_wI, if_neg (by omega), hI_wI, if_neg (by omega), hI_wI, if_pos ⟨rfl, rfl⟩]
    · rw [hI_wI, if_neg (by omega), hI_wI, if_neg (by omega), hI_wI, if_neg (by omega), hI_wI, if_pos ⟨rfl, rfl⟩]
    · rw [hI_wI, if_neg (by omega), hI_wI, if_neg (by omega), hI_wI, if_pos ⟨rfl, rfl⟩]
  · intro i _ hi
    have : i = 0 ∨ i = 1 ∨ i = 2 ∨ i = 3 := by omega
    rcases this with rfl | rfl | rfl | rfl
    · rw [hI_wI, if_neg (by omega), hI_wI, if_neg (by omega), hI_wI, if_neg (by omega), hI_wI, if_neg (by omega), hI_wI, if_neg (by omega), hI_wI, if_neg (by omega), hI_wI, if_neg (by omega), hI_wI, if_pos ⟨rfl, rfl⟩]
    · rw [hI_wI, if_neg (by omega), hI_wI, if_neg (by omega), hI_wI, if_neg (by omega), hI_wI, if_neg (by omega), hI_wI, if_neg (by omega), hI_wI, if_neg (by omega), hI_wI, if_pos ⟨rfl, rfl⟩]
    · rw [hI_wI, if_neg (by omega), hI_wI, if_neg (by omega), hI_wI, if_neg (by omega), hI_wI, if_neg (by omega), hI_wI, if_neg (by omega), hI_wI, if_pos ⟨rfl, rfl⟩]
    · rw [hI_wI, if_neg (by omega), hI_wI, if_neg (by omega), hI_wI, if_neg (by omega), hI_wI, if_neg (by omega), hI_wI, if_pos ⟨rfl, rfl⟩]
def lpT (bs : Nat → Int32) (n : Nat) : Nat → Gh → (Nat → Nat) → (Nat → Nat) × Gh
  | 0, P, τ => (τ, P)
  | f + 1, P, τ => if τ 4 = 0 ∧ τ 0 = 3 then lpT bs n f (sLP bs n P (sSt bs n τ)) (sL1 bs n true P (sSt bs n τ)) else (τ, P)
def sEd (P : Gh) (τ : Nat → Nat) : Nat → Nat := if τ 0 = 0 then (if P 0 3 = 0 ∨ P 0 4 = 0 then sFa 6 τ else τ) else sFa 1 τ
set_option maxRecDepth 16384 in
theorem sEd_1 {P : Gh} {τ : Nat → Nat} (h : ¬ τ 4 = 0) : sEd P τ = τ := by
  unfold sEd
  rw [sFa_1 h, sFa_1 h]
  split
  · split <;> rfl
  · rfl
def RS (h : A_H) (T : Nat) (bs : Nat → Int32) (n : Nat) (P : Gh) (τ : Nat → Nat) : Prop := Ly h ∧ hP h 2 2 = some T ∧ CRs h ∧ CKt h bs n τ ∧ (τ 4 = 0 → CT h T P ∧ CN h P ∧ CL h T P ∧ hI h 2 3 = 1 ∧ WF P ∧ NC P)
set_option maxRecDepth 16384 in
theorem RB_P {T : Nat} {h h' : A_H} (f : RB T h h') : hP h' = hP h := FG_P f
set_option maxRecDepth 16384 in
theorem CRs_RB {T : Nat} {h h' : A_H} (f : RB T h h') (r : CRs h) : CRs h' := fun i hi => by rw [FG_L f (by unfold rQ; omega)]; exact r i hi
set_option maxRecDepth 16384 in
theorem RB_B {T : Nat} {h h' h'' : A_H} (a : RB T h h') (f : FB TF h' h'') : RB T h h'' := FG_tr a (RB_of (RD_B (RD_rfl T h') f))
set_option maxRecDepth 16384 in
theorem d_kd {h : A_H} {bs : Nat → Int32} {n : Nat} {τ : Nat → Nat} (t : CKt h bs n τ) (e : τ 4 = 0) (m : Nat) (hm : m < 100) : decide (hI h 2 6 = nI m) = decide (τ 0 = m) := by
  rw [(t.2.1 e).2.1]
  exact nk (t.2.1 e).2.2.2.2.2.1 hm
set_option maxRecDepth 16384 in
theorem d_fa {h : A_H} {bs : Nat → Int32} {n : Nat} {τ : Nat → Nat} (t : CKt h bs n τ) : decide (hI h 2 4 = 0) = decide (τ 4 = 0) := by
  by_cases e : τ 4 = 0
  · rw [(t.2.1 e).1, dT e]; rfl
  · rw [(t.2.2.1 e).1, dF e, nz e (by have := (t.2.2.1 e).2.1; omega)]
set_option maxRecDepth 16384 in
theorem d_n {h : A_H} {bs : Nat → Int32} {n : Nat} {τ : Nat → Nat} (t : CKt h bs n τ) {i : Nat} (hi : i < 100000) : decide (hI h 2 1 ≤ nI i) = decide (n ≤ i) := by
  have := t.1.2.1
  rw [t.1.1]
  exact decide_eq_decide.mpr (w_le (by omega) (by omega))
set_option maxRecDepth 16384 in
theorem c23s {h : A_H} {T : Nat} {bs : Nat → Int32} {n : Nat} {P : Gh} {τ : Nat → Nat} (hT : isT T) (x1 : Int32) : ∀ f i h P τ, RS h T bs n P τ → f = n - i → i < 10000 → MO n i τ → ∃ h' j, R 23 31 [some (.ref 2), some (.int x1), some (.int (nI i))] [] h = R 23 31 [some (.ref 2), some (.int x1), some (.int (nI j))] [] h' ∧ j < 20000 ∧ RB T h h' ∧ RS h' T bs n (lpT bs n f P τ).2 (lpT bs n f P τ).1 ∧ (n ≤ j ∨ ¬ (lpT bs n f P τ).1 4 = 0 ∨ ¬ (lpT bs n f P τ).1 0 = 3) := by
  intro f
  induction f with
  | zero => exact fun i h P τ s e hi m => ⟨h, i, rfl, by omega, RB_of (RD_rfl T h), s, Or.inl (by omega)⟩
  | succ f ih =>
    intro i h P τ s e hi m
    have hn := s.2.2.2.1.1.2.1
    by_cases c : τ 4 = 0 ∧ τ 0 = 3
    · have eq : lpT bs n (f + 1) P τ = lpT bs n f (sLP bs n P (sSt bs n τ)) (sL1 bs n true P (sSt bs n τ)) := by
        show (if τ 4 = 0 ∧ τ 0 = 3 then _ else _) = _
        rw [if_pos c]
      rw [eq]
      obtain ⟨L, p, r, t, q⟩ := s
      obtain ⟨ct, cn, cl, u3, w, nc⟩ := q c.1
      obtain ⟨tk, ti, t3⟩ := m c.1
      have t3 := t3 c.2
      obtain ⟨h1, g1, f1, t1⟩ := c25' L t
      have L1 := FB_Ly f1 L
      have p1 : hP h1 2 2 = some T := by rw [FB_P f1]; exact p
      have z1 : (sSt bs n τ) 4 = 0 := sSt_z c.1
      have ct1 : CT h1 T P := CT_fr w ct (fun a b i1 i2 _ => TR_B hT f1 i1 i2)
      have cl1 : CL h1 T P := fun k i1 i2 => by rw [TR_B hT f1 (by omega) (by omega)]; exact cl k i1 i2
      have u1 : hI h1 2 3 = bI true := by rw [FB_I f1 nTF, u3]; rfl
      obtain ⟨h2, g2, f2, t2, q2⟩ := c36 L1 t1 z1 hT p1 (CRs_FB f1 r) (CN_FB f1 cn) (told := true) ⟨fun _ => ct1, fun q => absurd q (by decide)⟩ w cl1 nc u1
      have tk1 := tok_st (bs := bs) tk.2.2.1 c.1
      have s2 : RS h2 T bs n (sLP bs n P (sSt bs n τ)) (sL1 bs n true P (sSt bs n τ)) := ⟨FG_Ly f2 L1, by rw [RB_P f2]; exact p1, CRs_RB f2 (CRs_FB f1 r), t2, fun z => ⟨(q2 z).1, (q2 z).2.1, (q2 z).2.2.1, (q2 z).2.2.2, (sL_W z1 w nc tk1.2.2.1 z).1, (sL_W z1 w nc tk1.2.2.1 z).2⟩⟩
      have m2 : MO n (i + 1) (sL1 bs n true P (sSt bs n τ)) := by
        intro z
        obtain ⟨m1, m2, m3⟩ := sL_M (bs := bs) (n := n) (told := true) (P := P) z1 tk1.2.2.1 z
        have a1 : τ 2 ≤ (sSt bs n τ) 1 := by rw [sSt_0 c.1]; exact tS_le bs tk.2.2.1
        have a2 := tk1.2.1
        exact ⟨m1, by omega, m3⟩
      obtain ⟨h', j, e1, e2, e3, e4, e5⟩ := ih (i + 1) h2 _ _ s2 (by omega) (by omega) m2
      refine ⟨h', j, ?_, e2, FG_tr (FG_tr (RB_of (RD_B (RD_rfl T h) f1)) f2) e3, e4, e5⟩
      rw [← e1, b23_31]
      have d1 := d_n t (i := i) (by omega)
      rw [dF (show ¬ n ≤ i by omega)] at d1
      have d2 := d_fa t
      rw [dT c.1] at d2
      have d3 := d_kd t c.1 3 (by decide)
      rw [dT c.2] at d3
      have d3 : decide (hI h 2 6 = 3) = true := d3
      simp only [b23_44, b23_46, cond_true, cond_false, decide_true, Bool.and_true, Bool.true_and, Bool.and_self, Bool.and_false, Bool.false_and, Bool.not_true, Bool.not_false, Bool.or_true, Bool.true_or, Bool.or_false, Bool.false_or, is_some, gd_some, bk_v, bk_u, x_O2 L, x_O2 L1, d1, d2, d3, g1, g2, w_s]
    · have eq : lpT bs n (f + 1) P τ = (τ, P) := by
        show (if τ 4 = 0 ∧ τ 0 = 3 then _ else _) = _
        rw [if_neg c]
      rw [eq]
      refine ⟨h, i, rfl, by omega, RB_of (RD_rfl T h), s, Or.inr ?_⟩
      by_cases z : τ 4 = 0
      · exact Or.inr (fun q => c ⟨z, q⟩)
      · exact Or.inl z
set_option maxRecDepth 16384 in
theorem c23e {h : A_H} {T : Nat} {bs : Nat → Int32} {n : Nat} {P : Gh} {τ : Nat → Nat} (hT : isT T) (x1 : Int32) (s : RS h T bs n P τ) {j : Nat} (hj : j < 100000) (ex : n ≤ j ∨ ¬ τ 4 = 0 ∨ ¬ τ 0 = 3) : ∃ h', R 23 31 [some (.ref 2), some (.int x1), some (.int (nI j))] [] h = some (some (some (.int (bI (decide ((sEd P τ) 4 = 0))))), h') ∧ FB TF h h' ∧ CKt h' bs n (sEd P τ) := by
  obtain ⟨L, p, r, t, q⟩ := s
  have d1 := d_n t hj
  have d2 := d_fa t
 
  have key : ∃ h', (bif decide (hI h 2 6 = 0) then (bif decide (hI h T 3 = 0) then a_back R 23 (24, [.ref 2, .int 6], h, false, none, 66, [some (.ref 2), some (.int x1), some (.int (nI j))], []) (C 24 [.ref 2, .int 6] h) else (bif !decide (hI h T 4 = 0) then (bif !decide (hI h 2 4 = 0) then (some (some (some (.int 0)), h) : Option (Option (Option Value) × A_H)) else some (some (some (.int 1)), h)) else a_back R 23 (24, [.ref 2, .int 6], h, false, none, 66, [some (.ref 2), some (.int x1), some (.int (nI j))], []) (C 24 [.ref 2, .int 6] h))) else a_back R 23 (24, [.ref 2, .int 1], h, false, none, 54, [some (.ref 2), some (.int x1), some (.int (nI j))], []) (C 24 [.ref 2, .int 1] h)) = some (some (some (.int (bI (decide ((sEd P τ) 4 = 0))))), h') ∧ FB TF h h' ∧ CKt h' bs n (sEd P τ) := by
    have fl : ∀ k, ¬ k = 0 → k < 100 → ∃ h', C 24 [.ref 2, .int (nI k)] h = some (some none, h') ∧ FB TF h h' ∧ CKt h' bs n (sFa k τ) ∧ Ly h' ∧ decide (hI h' 2 4 = 0) = false := fun k h0 h1 => by
      obtain ⟨h', g, f, t'⟩ := c24 L t h0 h1
      refine ⟨h', g, f, t', FB_Ly f L, ?_⟩
      rw [d_fa t']
      by_cases z : τ 4 = 0
      · exact dF (sFa_n z h0)
      · rw [sFa_1 z]; exact dF z
    obtain ⟨ha, ga, fa, ta, La, da⟩ := fl 6 (by decide) (by decide)
    obtain ⟨hb, gb, fb, tb, Lb, db⟩ := fl 1 (by decide) (by decide)
    have ga : C 24 [.ref 2, .int 6] h = some (some none, ha) := ga
    have gb : C 24 [.ref 2, .int 1] h = some (some none, hb) := gb
    have ra : R 23 66 [some (.ref 2), some (.int x1), some (.int (nI j))] [] ha = some (some (some (.int 0)), ha) := by
      simp only [b23_66, cond_true, cond_false, decide_true, Bool.and_true, Bool.true_and, Bool.and_self, Bool.and_false, Bool.false_and, Bool.not_true, Bool.not_false, Bool.or_true, Bool.true_or, Bool.or_false, Bool.false_or, is_some, gd_some, bk_v, bk_u, x_O2 La, da, show decide ((0 : Int32) = 0) = true from rfl]
    have rb : R 23 54 [some (.ref 2), some (.int x1), some (.int (nI j))] [] hb = some (some (some (.int 0)), hb) := by
      simp only [b23_54, cond_true, cond_false, decide_true, Bool.and_true, Bool.true_and, Bool.and_self, Bool.and_false, Bool.false_and, Bool.not_true, Bool.not_false, Bool.or_true, Bool.true_or, Bool.or_false, Bool.false_or, is_some, gd_some, bk_v, bk_u, x_O2 Lb, db, show decide ((0 : Int32) = 0) = true from rfl]
    rw [ga, gb, bk_u, bk_u, ra, rb]
    by_cases z : τ 4 = 0
    · obtain ⟨ct, -⟩ := q z
      obtain ⟨-, -, -, -, w, -⟩ := q z
      have d3 : decide (hI h 2 6 = 0) = decide (τ 0 = 0) := d_kd t z 0 (by decide)
      have k3 : decide (hI h T 3 = 0) = decide (P 0 3 = 0) := by rw [c_s3 ct]; exact nk (f_nt w) (by decide)
      have k4 : decide (hI h T 4 = 0) = decide (P 0 4 = 0) := by rw [c_s4 ct]; exact nk (Nat.le_trans (f_ng w) (by decide)) (by decide)
      rw [d3, k3, k4, d2, dT z]
      have n1 : decide ((sFa 1 τ) 4 = 0) = false := dF (sFa_n z (by decide))
      have n6 : decide ((sFa 6 τ) 4 = 0) = false := dF (sFa_n z (by decide))
      unfold sEd
      by_cases e0 : τ 0 = 0
      · rw [if_pos e0, dT e0]
        by_cases e3 : P 0 3 = 0
        · rw [if_pos (Or.inl e3), dT e3, n6]
          exact ⟨ha, rfl, fa, ta⟩
        · by_cases e4 : P 0 4 = 0
          · rw [if_pos (Or.inr e4), dF e3, dT e4, n6]
            exact ⟨ha, rfl, fa, ta⟩
          · rw [if_neg (fun q => q.elim e3 e4), dF e3, dF e4, dT z]
            exact ⟨h, rfl, FB_rfl _ _, t⟩
      · rw [if_neg e0, dF e0, n1]
        exact ⟨hb, rfl, fb, tb⟩
    · rw [sEd_1 z, dF z]
      rw [sFa_1 z] at ta tb
      rw [d2, dF z]
      cases decide (hI h 2 6 = 0) with
      | false => exact ⟨hb, rfl, fb, tb⟩
      | true =>
        cases decide (hI h T 3 = 0) with
        | true => exact ⟨ha, rfl, fa, ta⟩
        | false =>
          cases decide (hI h T 4 = 0) with
          | true => exact ⟨ha, rfl, fa, ta⟩
          | false => exact ⟨h, rfl, FB_rfl _ _, t⟩
  obtain ⟨h', k1, k2, k3⟩ := key
  refine ⟨h', ?_, k2, k3⟩
  rw [← k1, b23_31]
  have i0 : (decide ((0 : Int32) = 0) || decide ((0 : Int32) = 1)) = true := rfl
  have i1 : (decide ((1 : Int32) = 0) || decide ((1 : Int32) = 1)) = true := rfl
  by_cases e1 : n ≤ j
  · rw [dT e1] at d1
    simp only [cond_true, cond_false, decide_true, Bool.and_true, Bool.true_and, Bool.and_self, Bool.and_false, Bool.false_and, Bool.not_true, Bool.not_false, Bool.or_true, Bool.true_or, Bool.or_false, Bool.false_or, is_some, gd_some, bk_v, bk_u, x_O2 L, d1, p, t_O L hT, i0, i1]
  · rw [dF e1] at d1
    by_cases z : τ 4 = 0
    · have e3 : ¬ τ 0 = 3 := by
        rcases ex with x | x | x
        · exact absurd x e1
        · exact absurd z x
        · exact x
      have d3 := d_kd t z 3 (by decide)
      rw [dF e3] at d3
      have d3 : decide (hI h 2 6 = 3) = false := d3
      rw [dT z] at d2
      simp only [cond_true, cond_false, decide_true, Bool.and_true, Bool.true_and, Bool.and_self, Bool.and_false, Bool.false_and, Bool.not_true, Bool.not_false, Bool.or_true, Bool.true_or, Bool.or_false, Bool.false_or, is_some, gd_some, bk_v, bk_u, x_O2 L, d1, d2, d3, p, t_O L hT, i0, i1]
    · rw [dF z] at d2
      simp only [cond_true, cond_false, decide_true, Bool.and_true, Bool.true_and, Bool.and_self, Bool.and_false, Bool.false_and, Bool.not_true, Bool.not_false, Bool.or_true, Bool.true_or, Bool.or_false, Bool.false_or, is_some, gd_some, bk_v, bk_u, x_O2 L, d1, d2, p, t_O L hT, i0, i1]
