set_option maxRecDepth 16384 in
theorem hn_nw (h : A_H) (t N s : Nat) : hn (nw h t N s) = hn h + 1 := rfl
set_option maxRecDepth 16384 in
theorem hs_nw (h : A_H) (t N s : Nat) : hs (nw h t N s) = hs h + s := rfl
set_option maxRecDepth 16384 in
theorem hX_nw (h : A_H) (t N s : Nat) : hX (nw h t N s) = hX h := rfl
set_option maxRecDepth 16384 in
theorem hsh_nw (h : A_H) (t N s k : Nat) : hsh (nw h t N s) k = if k = hn h then (t, N) else hsh h k := rfl
set_option maxRecDepth 16384 in
theorem hI_nw (h : A_H) (t N s a b : Nat) : hI (nw h t N s) a b = if a = hn h then 0 else hI h a b := rfl
set_option maxRecDepth 16384 in
theorem hL_nw (h : A_H) (t N s a b : Nat) : hL (nw h t N s) a b = if a = hn h then 0 else hL h a b := rfl
set_option maxRecDepth 16384 in
theorem hP_nw (h : A_H) (t N s a b : Nat) : hP (nw h t N s) a b = if a = hn h then none else hP h a b := rfl
set_option maxRecDepth 16384 in
theorem isO_nw {h : A_H} {t N s k ci : Nat} (e : isO h k ci = true) : isO (nw h t N s) k ci = true := by
  unfold isO at e ⊢
  rw [Bool.and_eq_true] at e ⊢
  obtain ⟨e1, e2⟩ := e
  have e1 := of_decide_eq_true e1
  refine ⟨decide_eq_true (by rw [hn_nw]; omega), ?_⟩
  rw [hsh_nw, if_neg (by omega)]
  exact e2
def mkB (B : Nat) : List (Nat × Nat) → Nat → A_H → A_H
  | [], _, h => h
  | (t, N) :: l, j, h => mkB B l (j + 1) (wP (nw h t N N) B j (some (hn h)))
def mkS : List (Nat × Nat) → Nat
  | [] => 0
  | (_, N) :: l => N + mkS l
set_option maxRecDepth 16384 in
theorem mkB_f (B : Nat) : ∀ l j h, B < hn h → hn (mkB B l j h) = hn h + l.length ∧ hs (mkB B l j h) = hs h + mkS l ∧ hX (mkB B l j h) = hX h ∧ (∀ a, a < hn h → hsh (mkB B l j h) a = hsh h a) ∧ (∀ a b, a < hn h → hI (mkB B l j h) a b = hI h a b ∧ hL (mkB B l j h) a b = hL h a b) ∧ (∀ a b, a < hn h → ¬ (a = B ∧ j ≤ b ∧ b < j + l.length) → hP (mkB B l j h) a b = hP h a b) ∧ (∀ i, i < l.length → hsh (mkB B l j h) (hn h + i) = l.getD i (0, 0) ∧ hP (mkB B l j h) B (j + i) = some (hn h + i) ∧ ∀ b, hI (mkB B l j h) (hn h + i) b = 0 ∧ hL (mkB B l j h) (hn h + i) b = 0) := by
  intro l
  induction l with
  | nil => exact fun j h hb => ⟨rfl, rfl, rfl, fun _ _ => rfl, fun _ _ _ => ⟨rfl, rfl⟩, fun _ _ _ _ => rfl, fun i hi => absurd hi (Nat.not_lt_zero i)⟩
  | cons x l ih =>
    intro j h hb
    obtain ⟨t, N⟩ := x
    obtain ⟨a1, a2, a3, a4, a5, a6, a7⟩ := ih (j + 1) (wP (nw h t N N) B j (some (hn h))) (by show B < hn h + 1; omega)
    have n0 : hn (wP (nw h t N N) B j (some (hn h))) = hn h + 1 := rfl
    rw [n0] at a1 a4 a5 a6 a7
    show hn (mkB B l (j + 1) (wP (nw h t N N) B j (some (hn h)))) = hn h + (l.length + 1) ∧ hs (mkB B l (j + 1) (wP (nw h t N N) B j (some (hn h)))) = hs h + (N + mkS l) ∧ hX (mkB B l (j + 1) (wP (nw h t N N) B j (some (hn h)))) = hX h ∧ (∀ a, a < hn h → hsh (mkB B l (j + 1) (wP (nw h t N N) B j (some (hn h)))) a = hsh h a) ∧ (∀ a b, a < hn h → hI (mkB B l (j + 1) (wP (nw h t N N) B j (some (hn h)))) a b = hI h a b ∧ hL (mkB B l (j + 1) (wP (nw h t N N) B j (some (hn h)))) a b = hL h a b) ∧ (∀ a b, a < hn h → ¬ (a = B ∧ j ≤ b ∧ b < j + (l.length + 1)) → hP (mkB B l (j + 1) (wP (nw h t N N) B j (some (hn h)))) a b = hP h a b) ∧ (∀ i, i < l.length + 1 → hsh (mkB B l (j + 1) (wP (nw h t N N) B j (some (hn h)))) (hn h + i) = ((t, N) :: l).getD i (0, 0) ∧ hP (mkB B l (j + 1) (wP (nw h t N N) B j (some (hn h)))) B (j + i) = some (hn h + i) ∧ ∀ b, hI (mkB B l (j + 1) (wP (nw h t N N) B j (some (hn h)))) (hn h + i) b = 0 ∧ hL (mkB B l (j + 1) (wP (nw h t N N) B j (some (hn h)))) (hn h + i) b = 0)
    refine ⟨by omega, ?_, a3, fun a ha => ?_, fun a b ha => ?_, fun a b ha hq => ?_, fun i hi => ?_⟩
    · rw [a2]; show hs h + N + mkS l = _; omega
    · rw [a4 a (by omega)]
      show (if a = hn h then (t, N) else hsh h a) = _
      rw [if_neg (by omega)]
    · obtain ⟨b1, b2⟩ := a5 a b (by omega)
      rw [b1, b2]
      show (if a = hn h then 0 else hI h a b) = _ ∧ (if a = hn h then 0 else hL h a b) = _
      rw [if_neg (by omega), if_neg (by omega)]
      exact ⟨rfl, rfl⟩
    · rw [a6 a b (by omega) (by omega), hP_wP, if_neg (by omega), hP_nw, if_neg (by omega)]
    · cases i with
      | zero =>
        refine ⟨?_, ?_, fun b => ?_⟩
        · rw [a4 (hn h + 0) (by omega)]
          show (if hn h + 0 = hn h then (t, N) else _) = _
          rw [if_pos (by omega)]; rfl
        · rw [a6 B (j + 0) (by omega) (by omega), hP_wP, if_pos ⟨rfl, rfl⟩]; rfl
        · obtain ⟨b1, b2⟩ := a5 (hn h + 0) b (by omega)
          rw [b1, b2]
          show (if hn h + 0 = hn h then 0 else _) = _ ∧ (if hn h + 0 = hn h then 0 else _) = _
          rw [if_pos (by omega), if_pos (by omega)]
          exact ⟨rfl, rfl⟩
      | succ i =>
        obtain ⟨b1, b2, b3⟩ := a7 i (by omega)
        rw [show hn h + (i + 1) = hn h + 1 + i by omega, show j + (i + 1) = j + 1 + i by omega]
        exact ⟨b1, b2, b3⟩
def bSh : List (Nat × Nat) := [(100, 8), (100, 4), (100, 4), (100, 4), (100, 4), (100, 4), (100, 3), (100, 3), (100, 3), (100, 8), (100, 8), (100, 8), (100, 8), (100, 8), (100, 8), (100, 6), (100, 6), (100, 6), (100, 6), (100, 5), (100, 5), (102, 19), (100, 19), (100, 19)]
set_option maxRecDepth 16384 in
theorem isO_st {h : A_H} {B t N j k ci : Nat} {v : Option Nat} (e : isO h k ci = true) : isO (wP (nw h t N N) B j v) k ci = true := isO_nw (s := N) e
set_option maxRecDepth 16384 in
theorem k149_5 {h : A_H} {B : Nat} (o : isO h B 12 = true) : R 149 5 [some (.ref B)] [] h = R 149 9 [some (.ref B)] [] (wP (nw h 100 8 8) B 11 (some (hn h))) := by
  rw [b149_5, b149_8, isO_nw o, cond_true]
set_option maxRecDepth 16384 in
theorem k149_9 {h : A_H} {B : Nat} (o : isO h B 12 = true) : R 149 9 [some (.ref B)] [] h = R 149 13 [some (.ref B)] [] (wP (nw h 100 4 4) B 12 (some (hn h))) := by
  rw [b149_9, b149_12, isO_nw o, cond_true]
set_option maxRecDepth 16384 in
theorem k149_13 {h : A_H} {B : Nat} (o : isO h B 12 = true) : R 149 13 [some (.ref B)] [] h = R 149 17 [some (.ref B)] [] (wP (nw h 100 4 4) B 13 (some (hn h))) := by
  rw [b149_13, b149_16, isO_nw o, cond_true]
set_option maxRecDepth 16384 in
theorem k149_17 {h : A_H} {B : Nat} (o : isO h B 12 = true) : R 149 17 [some (.ref B)] [] h = R 149 21 [some (.ref B)] [] (wP (nw h 100 4 4) B 14 (some (hn h))) := by
  rw [b149_17, b149_20, isO_nw o, cond_true]
set_option maxRecDepth 16384 in
theorem k149_21 {h : A_H} {B : Nat} (o : isO h B 12 = true) : R 149 21 [some (.ref B)] [] h = R 149 25 [some (.ref B)] [] (wP (nw h 100 4 4) B 15 (some (hn h))) := by
  rw [b149_21, b149_24, isO_nw o, cond_true]
set_option maxRecDepth 16384 in
theorem k149_25 {h : A_H} {B : Nat} (o : isO h B 12 = true) : R 149 25 [some (.ref B)] [] h = R 149 29 [some (.ref B)] [] (wP (nw h 100 4 4) B 16 (some (hn h))) := by
  rw [b149_25, b149_28, isO_nw o, cond_true]
set_option maxRecDepth 16384 in
theorem k149_29 {h : A_H} {B : Nat} (o : isO h B 12 = true) : R 149 29 [some (.ref B)] [] h = R 149 33 [some (.ref B)] [] (wP (nw h 100 3 3) B 17 (some (hn h))) := by
  rw [b149_29, b149_32, isO_nw o, cond_true]
set_option maxRecDepth 16384 in
theorem k149_33 {h : A_H} {B : Nat} (o : isO h B 12 = true) : R 149 33 [some (.ref B)] [] h = R 149 37 [some (.ref B)] [] (wP (nw h 100 3 3) B 18 (some (hn h))) := by
  rw [b149_33, b149_36, isO_nw o, cond_true]
set_option maxRecDepth 16384 in
theorem k149_37 {h : A_H} {B : Nat} (o : isO h B 12 = true) : R 149 37 [some (.ref B)] [] h = R 149 41 [some (.ref B)] [] (wP (nw h 100 3 3) B 19 (some (hn h))) := by
  rw [b149_37, b149_40, isO_nw o, cond_true]
set_option maxRecDepth 16384 in
theorem k149_41 {h : A_H} {B : Nat} (o : isO h B 12 = true) : R 149 41 [some (.ref B)] [] h = R 149 45 [some (.ref B)] [] (wP (nw h 100 8 8) B 20 (some (hn h))) := by
  rw [b149_41, b149_44, isO_nw o, cond_true]
set_option maxRecDepth 16384 in
theorem k149_45 {h : A_H} {B : Nat} (o : isO h B 12 = true) : R 149 45 [some (.ref B)] [] h = R 149 49 [some (.ref B)] [] (wP (nw h 100 8 8) B 21 (some (hn h))) := by
  rw [b149_45, b149_48, isO_nw o, cond_true]
set_option maxRecDepth 16384 in
theorem k149_49 {h : A_H} {B : Nat} (o : isO h B 12 = true) : R 149 49 [some (.ref B)] [] h = R 149 53 [some (.ref B)] [] (wP (nw h 100 8 8) B 22 (some (hn h))) := by
  rw [b149_49, b149_52, isO_nw o, cond_true]
set_option maxRecDepth 16384 in
theorem k149_53 {h : A_H} {B : Nat} (o : isO h B 12 = true) : R 149 53 [some (.ref B)] [] h = R 149 57 [some (.ref B)] [] (wP (nw h 100 8 8) B 23 (some (hn h))) := by
  rw [b149_53, b149_56, isO_nw o, cond_true]
set_option maxRecDepth 16384 in
theorem k149_57 {h : A_H} {B : Nat} (o : isO h B 12 = true) : R 149 57 [some (.ref B)] [] h = R 149 61 [some (.ref B)] [] (wP (nw h 100 8 8) B 24 (some (hn h))) := by
  rw [b149_57, b149_60, isO_nw o, cond_true]
set_option maxRecDepth 16384 in
theorem k149_61 {h : A_H} {B : Nat} (o : isO h B 12 = true) : R 149 61 [some (.ref B)] [] h = R 149 65 [some (.ref B)] [] (wP (nw h 100 8 8) B 25 (some (hn h))) := by
  rw [b149_61, b149_64, isO_nw o, cond_true]
set_option maxRecDepth 16384 in
theorem k149_65 {h : A_H} {B : Nat} (o : isO h B 12 = true) : R 149 65 [some (.ref B)] [] h = R 149 69 [some (.ref B)] [] (wP (nw h 100 6 6) B 26 (some (hn h))) := by
  rw [b149_65, b149_68, isO_nw o, cond_true]
set_option maxRecDepth 16384 in
theorem k149_69 {h : A_H} {B : Nat} (o : isO h B 12 = true) : R 149 69 [some (.ref B)] [] h = R 149 73 [some (.ref B)] [] (wP (nw h 100 6 6) B 27 (some (hn h))) := by
  rw [b149_69, b149_72, isO_nw o, cond_true]
set_option maxRecDepth 16384 in
theorem k149_73 {h : A_H} {B : Nat} (o : isO h B 12 = true) : R 149 73 [some (.ref B)] [] h = R 149 77 [some (.ref B)] [] (wP (nw h 100 6 6) B 28 (some (hn h))) := by
  rw [b149_73, b149_76, isO_nw o, cond_true]
set_option maxRecDepth 16384 in
theorem k149_77 {h : A_H} {B : Nat} (o : isO h B 12 = true) : R 149 77 [some (.ref B)] [] h = R 149 81 [some (.ref B)] [] (wP (nw h 100 6 6) B 29 (some (hn h))) := by
  rw [b149_77, b149_80, isO_nw o, cond_true]
set_option maxRecDepth 16384 in
theorem k149_81 {h : A_H} {B : Nat} (o : isO h B 12 = true) : R 149 81 [some (.ref B)] [] h = R 149 85 [some (.ref B)] [] (wP (nw h 100 5 5) B 30 (some (hn h))) := by
  rw [b149_81, b149_84, isO_nw o, cond_true]
set_option maxRecDepth 16384 in
theorem k149_85 {h : A_H} {B : Nat} (o : isO h B 12 = true) : R 149 85 [some (.ref B)] [] h = R 149 89 [some (.ref B)] [] (wP (nw h 100 5 5) B 31 (some (hn h))) := by
  rw [b149_85, b149_88, isO_nw o, cond_true]
set_option maxRecDepth 16384 in
theorem k149_89 {h : A_H} {B : Nat} (o : isO h B 12 = true) : R 149 89 [some (.ref B)] [] h = R 149 93 [some (.ref B)] [] (wP (nw h 102 19 19) B 32 (some (hn h))) := by
  rw [b149_89, b149_92, isO_nw o, cond_true]
set_option maxRecDepth 16384 in
theorem k149_93 {h : A_H} {B : Nat} (o : isO h B 12 = true) : R 149 93 [some (.ref B)] [] h = R 149 97 [some (.ref B)] [] (wP (nw h 100 19 19) B 33 (some (hn h))) := by
  rw [b149_93, b149_96, isO_nw o, cond_true]
set_option maxRecDepth 16384 in
theorem k149_97 {h : A_H} {B : Nat} (o : isO h B 12 = true) : R 149 97 [some (.ref B)] [] h = R 149 101 [some (.ref B)] [] (wP (nw h 100 19 19) B 34 (some (hn h))) := by
  rw [b149_97, b149_100, isO_nw o, cond_true]
set_option maxRecDepth 16384 in
theorem mkB_c (B t N j : Nat) (l : List (Nat × Nat)) (h : A_H) : mkB B ((t, N) :: l) j h = mkB B l (j + 1) (wP (nw h t N N) B j (some (hn h))) := rfl
set_option maxRecDepth 16384 in
theorem mkB_n (B j : Nat) (h : A_H) : mkB B [] j h = h := rfl
set_option maxRecDepth 16384 in
theorem m149_101 {h : A_H} {B : Nat} : R 149 101 [some (.ref B)] [] h = some (some none, mkB B [] 35 h) := by rw [b149_101, mkB_n]
set_option maxRecDepth 16384 in
theorem m149_97 {h : A_H} {B : Nat} (o : isO h B 12 = true) : R 149 97 [some (.ref B)] [] h = some (some none, mkB B [(100, 19)] 34 h) := by
  rw [mkB_c, k149_97 o]
  exact m149_101
set_option maxRecDepth 16384 in
theorem m149_93 {h : A_H} {B : Nat} (o : isO h B 12 = true) : R 149 93 [some (.ref B)] [] h = some (some none, mkB B [(100, 19), (100, 19)] 33 h) := by
  rw [mkB_c, k149_93 o]
  exact m149_97 (isO_st o)
set_option maxRecDepth 16384 in
theorem m149_89 {h : A_H} {B : Nat} (o : isO h B 12 = true) : R 149 89 [some (.ref B)] [] h = some (some none, mkB B [(102, 19), (100, 19), (100, 19)] 32 h) := by
  rw [mkB_c, k149_89 o]
  exact m149_93 (isO_st o)
set_option maxRecDepth 16384 in
theorem m149_85 {h : A_H} {B : Nat} (o : isO h B 12 = true) : R 149 85 [some (.ref B)] [] h = some (some none, mkB B [(100, 5), (102, 19), (100, 19), (100, 19)] 31 h) := by
  rw [mkB_c, k149_85 o]
  exact m149_89 (isO_st o)
set_option maxRecDepth 16384 in
theorem m149_81 {h : A_H} {B : Nat} (o : isO h B 12 = true) : R 149 81 [some (.ref B)] [] h = some (some none, mkB B [(100, 5), (100, 5), (102, 19), (100, 19), (100, 19)] 30 h) := by
  rw [mkB_c, k149_81 o]
  exact m149_85 (isO_st o)
set_option maxRecDepth 16384 in
theorem m149_77 {h : A_H} {B : Nat} (o : isO h B 12 = true) : R 149 77 [some (.ref B)] [] h = some (some none, mkB B [(100, 6), (100, 5), (100, 5), (102, 19), (100, 19), (100, 19)] 29 h) := by
  rw [mkB_c, k149_77 o]
  exact m149_81 (isO_st o)
set_option maxRecDepth 16384 in
theorem m149_73 {h : A_H} {B : Nat} (o : isO h B 12 = true) : R 149 73 [some (.ref B)] [] h = some (some none, mkB B [(100, 6), (100, 6), (100, 5), (100, 5), (102, 19), (100, 19), (100, 19)] 28 h) := by
  rw [mkB_c, k149_73 o]
  exact m149_77 (isO_st o)
set_option maxRecDepth 16384 in
theorem m149_69 {h : A_H} {B : Nat} (o : isO h B 12 = true) : R 149 69 [some (.ref B)] [] h = some (some none, mkB B [(100, 6), (100, 6), (100, 6), (100, 5), (100, 5), (102, 19), (100, 19), (100, 19)] 27 h) := by
  rw [mkB_c, k149_69 o]
  exact m149_73 (isO_st o)
set_option maxRecDepth 16384 in
theorem m149_65 {h : A_H} {B : Nat} (o : isO h B 12 = true) : R 149 65 [some (.ref B)] [] h = some (some none, mkB B [(100, 6), (100, 6), (100, 6), (100, 6), (100, 5), (100, 5), (102, 19), (100, 19), (100, 19)] 26 h) := by
  rw [mkB_c, k149_65 o]
  exact m149_69 (isO_st o)
set_option maxRecDepth 16384 in
theorem m149_61 {h : A_H} {B : Nat} (o : isO h B 12 = true) : R 149 61 [some (.ref B)] [] h = some (some none, mkB B [(100, 8), (100, 6), (100, 6), (100, 6), (100, 6), (100, 5), (100, 5), (102, 19), (100, 19), (100, 19)] 25 h) := by
  rw [mkB_c, k149_61 o]
  exact m149_65 (isO_st o)
set_option maxRecDepth 16384 in
theorem m149_57 {h : A_H} {B : Nat} (o : isO h B 12 = true) : R 149 57 [some (.ref B)] [] h = some (some none, mkB B [(100, 8), (100, 8), (100, 6), (100, 6), (100, 6), (100, 6), (100, 5), (100, 5), (102, 19), (100, 19), (100, 19)] 24 h) := by
  rw [mkB_c, k149_57 o]
  exact m149_61 (isO_st o)
set_option maxRecDepth 16384 in
theorem m149_53 {h : A_H} {B : Nat} (o : isO h B 12 = true) : R 149 53 [some (.ref B)] [] h = some (some none, mkB B [(100, 8), (100, 8), (100, 8), (100, 6), (100, 6), (100, 6), (100, 6), (100, 5), (100, 5), (102, 19), (100, 19), (100, 19)] 23 h) := by
  rw [mkB_c, k149_53 o]
  exact m149_57 (isO_st o)
set_option maxRecDepth 16384 in
theorem m149_49 {h : A_H} {B : Nat} (o : isO h B 12 = true) : R 149 49 [some (.ref B)] [] h = some (some none, mkB B [(100, 8), (100, 8), (100, 8), (100, 8), (100, 6), (100, 6), (100, 6), (100, 6), (100, 5), (100, 5), (102, 19), (100, 19), (100, 19)] 22 h) := by
  rw [mkB_c, k149_49 o]
  exact m149_53 (isO_st o)
set_option maxRecDepth 16384 in
theorem m149_45 {h : A_H} {B : Nat} (o : isO h B 12 = true) : R 149 45 [some (.ref B)] [] h = some (some none, mkB B [(100, 8), (100, 8), (100, 8), (100, 8), (100, 8), (100, 6), (100, 6), (100, 6), (100, 6), (100, 5), (100, 5), (102, 19), (100, 19), (100, 19)] 21 h) := by
  rw [mkB_c, k149_45 o]
  exact m149_49 (isO_st o)
set_option maxRecDepth 16384 in
theorem m149_41 {h : A_H} {B : Nat} (o : isO h B 12 = true) : R 149 41 [some (.ref B)] [] h = some (some none, mkB B [(100, 8), (100, 8), (100, 8), (100, 8), (100, 8), (100, 8), (100, 6), (100, 6), (100, 6), (100, 6), (100, 5), (100, 5), (102, 19), (100, 19), (100, 19)] 20 h) := by
  rw [mkB_c, k149_41 o]
  exact m149_45 (isO_st o)
set_option maxRecDepth 16384 in
theorem m149_37 {h : A_H} {B : Nat} (o : isO h B 12 = true) : R 149 37 [some (.ref B)] [] h = some (some none, mkB B [(100, 3), (100, 8), (100, 8), (100, 8), (100, 8), (100, 8), (100, 8), (100, 6), (100, 6), (100, 6), (100, 6), (100, 5), (100, 5), (102, 19), (100, 19), (100, 19)] 19 h) := by
  rw [mkB_c, k149_37 o]
  exact m149_41 (isO_st o)
set_option maxRecDepth 16384 in
theorem m149_33 {h : A_H} {B : Nat} (o : isO h B 12 = true) : R 149 33 [some (.ref B)] [] h = some (some none, mkB B [(100, 3), (100, 3), (100, 8), (100, 8), (100, 8), (100, 8), (100, 8), (100, 8), (100, 6), (100, 6), (100, 6), (100, 6), (100, 5), (100, 5), (102, 19), (100, 19), (100, 19)] 18 h) := by
  rw [mkB_c, k149_33 o]
  exact m149_37 (isO_st o)
set_option maxRecDepth 16384 in
theorem m149_29 {h : A_H} {B : Nat} (o : isO h B 12 = true) : R 149 29 [some (.ref B)] [] h = some (some none, mkB B [(100, 3), (100, 3), (100, 3), (100, 8), (100, 8), (100, 8), (100, 8), (100, 8), (100, 8), (100, 6), (100, 6), (100, 6), (100, 6), (100, 5), (100, 5), (102, 19), (100, 19), (100, 19)] 17 h) := by
  rw [mkB_c, k149_29 o]
  exact m149_33 (isO_st o)
set_option maxRecDepth 16384 in
theorem m149_25 {h : A_H} {B : Nat} (o : isO h B 12 = true) : R 149 25 [some (.ref B)] [] h = some (some none, mkB B [(100, 4), (100, 3), (100, 3), (100, 3), (100, 8), (100, 8), (100, 8), (100, 8), (100, 8), (100, 8), (100, 6), (100, 6), (100, 6), (100, 6), (100, 5), (100, 5), (102, 19), (100, 19), (100, 19)] 16 h) := by
  rw [mkB_c, k149_25 o]
  exact m149_29 (isO_st o)
set_option maxRecDepth 16384 in
theorem m149_21 {h : A_H} {B : Nat} (o : isO h B 12 = true) : R 149 21 [some (.ref B)] [] h = some (some none, mkB B [(100, 4), (100, 4), (100, 3), (100, 3), (100, 3), (100, 8), (100, 8), (100, 8), (100, 8), (100, 8), (100, 8), (100, 6), (100, 6), (100, 6), (100, 6), (100, 5), (100, 5), (102, 19), (100, 19), (100, 19)] 15 h) := by
  rw [mkB_c, k149_21 o]
  exact m149_25 (isO_st o)
set_option maxRecDepth 16384 in
theorem m149_17 {h : A_H} {B : Nat} (o : isO h B 12 = true) : R 149 17 [some (.ref B)] [] h = some (some none, mkB B [(100, 4), (100, 4), (100, 4), (100, 3), (100, 3), (100, 3), (100, 8), (100, 8), (100, 8), (100, 8), (100, 8), (100, 8), (100, 6), (100, 6), (100, 6), (100, 6), (100, 5), (100, 5), (102, 19), (100, 19), (100, 19)] 14 h) := by
  rw [mkB_c, k149_17 o]
  exact m149_21 (isO_st o)
set_option maxRecDepth 16384 in
theorem m149_13 {h : A_H} {B : Nat} (o : isO h B 12 = true) : R 149 13 [some (.ref B)] [] h = some (some none, mkB B [(100, 4), (100, 4), (100, 4), (100, 4), (100, 3), (100, 3), (100, 3), (100, 8), (100, 8), (100, 8), (100, 8), (100, 8), (100, 8), (100, 6), (100, 6), (100, 6), (100, 6), (100, 5), (100, 5), (102, 19), (100, 19), (100, 19)] 13 h) := by
  rw [mkB_c, k149_13 o]
  exact m149_17 (isO_st o)
set_option maxRecDepth 16384 in
theorem m149_9 {h : A_H} {B : Nat} (o : isO h B 12 = true) : R 149 9 [some (.ref B)] [] h = some (some none, mkB B [(100, 4), (100, 4), (100, 4), (100, 4), (100, 4), (100, 3), (100, 3), (100, 3), (100, 8), (100, 8), (100, 8), (100, 8), (100, 8), (100, 8), (100, 6), (100, 6), (100, 6), (100, 6), (100, 5), (100, 5), (102, 19), (100, 19), (100, 19)] 12 h) := by
  rw [mkB_c, k149_9 o]
  exact m149_13 (isO_st o)
set_option maxRecDepth 16384 in
theorem m149_5 {h : A_H} {B : Nat} (o : isO h B 12 = true) : R 149 5 [some (.ref B)] [] h = some (some none, mkB B [(100, 8), (100, 4), (100, 4), (100, 4), (100, 4), (100, 4), (100, 3), (100, 3), (100, 3), (100, 8), (100, 8), (100, 8), (100, 8), (100, 8), (100, 8), (100, 6), (100, 6), (100, 6), (100, 6), (100, 5), (100, 5), (102, 19), (100, 19), (100, 19)] 11 h) := by
  rw [mkB_c, k149_5 o]
  exact m149_9 (isO_st o)
set_option maxRecDepth 16384 in
theorem c149 {h : A_H} {B : Nat} (o : isO h B 12 = true) : C 149 [.ref B] h = some (some none, mkB B bSh 11 (wI h B 0 (-1))) := by
  rw [e149, b149_0, o, cond_true]
  exact m149_5 o
def GR (P Q Z : Nat → Nat → Prop) (h h' : A_H) : Prop := hn h ≤ hn h' ∧ hX h' = hX h ∧ (∀ a, a < hn h → hsh h' a = hsh h a) ∧ (∀ a b, a < hn h → ¬ P a b → hI h' a b = hI h a b) ∧ (∀ a b, a < hn h → ¬ Q a b → hL h' a b = hL h a b) ∧ ∀ a b, a < hn h → ¬ Z a b → hP h' a b = hP h a b
set_option maxRecDepth 16384 in
theorem GR_tr {P Q Z : Nat → Nat → Prop} {h h' h'' : A_H} (a : GR P Q Z h h') (b : GR P Q Z h' h'') : GR P Q Z h h'' := by
  obtain ⟨a1, a2, a3, a4, a5, a6⟩ := a
  obtain ⟨b1, b2, b3, b4, b5, b6⟩ := b
  exact ⟨by omega, b2.trans a2, fun x hx => (b3 x (by omega)).trans (a3 x hx), fun x y hx n => (b4 x y (by omega) n).trans (a4 x y hx n), fun x y hx n => (b5 x y (by omega) n).trans (a5 x y hx n), fun x y hx n => (b6 x y (by omega) n).trans (a6 x y hx n)⟩
set_option maxRecDepth 16384 in
theorem GR_of {P Q P' Q' Z : Nat → Nat → Prop} {h h' : A_H} (m : ∀ a b, P a b → P' a b) (m' : ∀ a b, Q a b → Q' a b) (f : FG P Q h h') : GR P' Q' Z h h' := ⟨Nat.le_of_eq f.1.symm, f.2.2.2.2.1, fun a _ => by rw [f.2.2.1], fun a b _ n => f.2.2.2.2.2.1 a b (fun q => n (m a b q)), fun a b _ n => f.2.2.2.2.2.2 a b (fun q => n (m' a b q)), fun a b _ _ => by rw [f.2.2.2.1]⟩
set_option maxRecDepth 16384 in
theorem GR_fr {P P' Q Z : Nat → Nat → Prop} {h h' : A_H} (m : ∀ a b, P a b → P' a b) (f : FR P h h') : GR P' Q Z h h' := GR_of (Q := Q) m (fun _ _ q => q) (FR_G f)
set_option maxRecDepth 16384 in
theorem GR_wI {P Q Z : Nat → Nat → Prop} {h h' : A_H} (a : GR P Q Z h h') {k j : Nat} (v : Int32) (q : P k j) : GR P Q Z h (wI h' k j v) := by
  obtain ⟨a1, a2, a3, a4, a5, a6⟩ := a
  exact ⟨a1, a2, a3, fun x y hx n => by rw [hI_wI, if_neg (fun e => n (by rw [e.1, e.2]; exact q))]; exact a4 x y hx n, a5, a6⟩
set_option maxRecDepth 16384 in
theorem GR_wP {P Q Z : Nat → Nat → Prop} {h h' : A_H} (a : GR P Q Z h h') {k j : Nat} (v : Option Nat) (q : Z k j) : GR P Q Z h (wP h' k j v) := by
  obtain ⟨a1, a2, a3, a4, a5, a6⟩ := a
  exact ⟨a1, a2, a3, a4, a5, fun x y hx n => by rw [hP_wP, if_neg (fun e => n (by rw [e.1, e.2]; exact q))]; exact a6 x y hx n⟩
set_option maxRecDepth 16384 in
theorem GR_rfl (P Q Z : Nat → Nat → Prop) (h : A_H) : GR P Q Z h h := ⟨Nat.le_refl _, rfl, fun _ _ => rfl, fun _ _ _ _ => rfl, fun _ _ _ _ => rfl, fun _ _ _ _ => rfl⟩
def cbP (T a b : Nat) : Prop := rtP T a b ∨ (a = 0 ∧ (b = 1 ∨ b = 4 ∨ b = 8)) ∨ a = 77 ∨ a = 78 ∨ (a = 79 ∧ (b = 2 ∨ b = 4))
def cbZ (a b : Nat) : Prop := (a = 0 ∧ b = 3) ∨ (a = 2 ∧ b = 2)
set_option maxRecDepth 16384 in
theorem Ly_wP {h : A_H} (L : Ly h) {k j : Nat} (v : Option Nat) (n : (lyP.getD k []).getD j none = none) : Ly (wP h k j v) := ⟨L.1, L.2.1, fun a b q e => by
  rw [hP_wP, if_neg (fun c => by rw [c.1, c.2, n] at e; exact absurd e (by simp))]
  exact L.2.2 a b q e⟩
def bad (tn : Nat) (x : Int32) : Prop := decide (x < 0) = true ∨ ∃ n, x = nI n ∧ tn < n ∧ n < 2147483648
set_option maxRecDepth 16384 in
theorem bad_or (tn : Nat) (x : Int32) : bad tn x ∨ ∃ n, x = nI n ∧ n ≤ tn := by
  by_cases c : x < 0
  · exact Or.inl (Or.inl (dT c))
  · obtain ⟨n, h1, h2⟩ := w_ex (x := x) (Int32.not_lt.mp c)
    by_cases d : n ≤ tn
    · exact Or.inr ⟨n, h2, d⟩
    · exact Or.inl (Or.inr ⟨n, h2, by omega, h1⟩)
set_option maxRecDepth 16384 in
theorem c77b {h : A_H} (L : Ly h) {tn : Nat} (hn1 : tn ≤ 1100) (et : hI h 0 1 = nI tn) {x : Int32} (e : bad tn x) : C 77 [.ref 0, .int x] h = some (some (some (.int (-1))), wI h 0 8 2) := by
  have g : C 134 [.ref 0, .int 2] h = some (some (some (.int 1)), wI h 0 8 2) := c134 L 2
  rw [e77]
  cases h0 : decide (x < 0) with
  | true => simp only [b77_0, b77_11, cond_true, cond_false, decide_true, Bool.and_true, Bool.true_and, Bool.and_self, Bool.and_false, Bool.false_and, Bool.not_true, Bool.not_false, Bool.or_true, Bool.true_or, Bool.or_false, Bool.false_or, is_some, gd_some, bk_v, bk_u, x_O L, h0, g, i1_0]
  | false =>
    have h1 : decide (nI tn < x) = true := by
      rcases e with e | ⟨n, e1, e2, e3⟩
      · rw [h0] at e; exact absurd e (by decide)
      · rw [e1]; exact dT ((w_lt (by omega) e3).mpr e2)
    simp only [b77_0, b77_11, cond_true, cond_false, decide_true, Bool.and_true, Bool.true_and, Bool.and_self, Bool.and_false, Bool.false_and, Bool.not_true, Bool.not_false, Bool.or_true, Bool.true_or, Bool.or_false, Bool.false_or, is_some, gd_some, bk_v, bk_u, x_O L, h0, h1, et, g, i1_0]
set_option maxRecDepth 16384 in
theorem c11 {h : A_H} (L : Ly h) : C 11 [.ref 79] h = some (some none, wI (wI h 79 2 0) 79 4 0) := by
  rw [e11]
  simp only [b11_0, b11_3, b11_6, cond_true, cond_false, decide_true, Bool.and_true, Bool.true_and, Bool.and_self, Bool.and_false, Bool.false_and, Bool.not_true, Bool.not_false, Bool.or_true, Bool.true_or, Bool.or_false, Bool.false_or, is_some, gd_some, bk_v, bk_u, isO_wI, k_O L]
set_option maxRecDepth 16384 in
theorem c22 {h : A_H} {T T' : Nat} (L : Ly h) (h22 : hP h 2 2 = some T) : C 22 [.ref 2, .ref T'] h = some (some (some (.ref T)), wP h 2 2 (some T')) := by
  rw [e22]
  simp only [b22_0, b22_6, cond_true, cond_false, decide_true, Bool.and_true, Bool.true_and, Bool.and_self, Bool.and_false, Bool.false_and, Bool.not_true, Bool.not_false, Bool.or_true, Bool.true_or, Bool.or_false, Bool.false_or, is_some, gd_some, bk_v, bk_u, x_O2 L, h22]
set_option maxRecDepth 16384 in
theorem a77 {h : A_H} {T T' : Nat} {bs : Nat → Int32} {tn n : Nat} (L : Ly h) (hT : isT T) (hT' : isT T') (h22 : hP h 2 2 = some T) (h03 : hP h 0 3 = some T') (r : CRs h) (hn1 : tn ≤ 1100) (et : hI h 0 1 = nI tn) (hnt : n ≤ tn) (tp : ∀ k, k < n → hI h 1 k = bs k) : ∃ h' v, C 77 [.ref 0, .int (nI n)] h = some (some (some (.int v)), h') ∧ GR (cbP T) rQ cbZ h h' ∧ hn h' = hn h ∧ hs h' = hs h ∧ Ly h' ∧ hI h' 0 1 = 0 ∧ hI h' 2 4 = nI ((eT bs n) 4) ∧ (eT bs n) 4 < 100 ∧ ((eT bs n) 4 = 0 → v = nI (eP bs n 0 5) ∧ hI h' 0 8 = 0 ∧ hI h' 0 4 = 1 ∧ hP h' 0 3 = some T ∧ hP h' 2 2 = some T' ∧ CT h' T (eP bs n) ∧ CS h' 77 (eP bs n) (S0 (eP bs n)) ∧ hI h' 79 2 = 0 ∧ hI h' 79 4 = 0 ∧ WF (eP bs n)) ∧ (¬ (eT bs n) 4 = 0 → v = -1 ∧ hI h' 0 8 = 4 ∧ hI h' 2 5 = nI ((eT bs n) 5) ∧ hP h' = hP h ∧ ∀ a b, ¬ rtP T a b → ¬ (a = 0 ∧ (b = 1 ∨ b = 8)) → hI h' a b = hI h a b) := by
  have hT3 : T = 3 ∨ T = 42 := hT
  have g0 : C 134 [.ref 0, .int 0] h = some (some (some (.int 0)), wI h 0 8 0) := c134 L 0
  have h0 : decide (nI n < 0) = false := dF (w_nn (by omega))
  have h1 : decide (nI tn < nI n) = false := dF (fun q => by have := (w_lt (show tn < 2147483648 by omega) (show n < 2147483648 by omega)).mp q; omega)
  have L0 : Ly (wI h 0 8 0) := Ly_wI L _ _ _
  obtain ⟨h2, g2, f2, t2, q2⟩ := c23 (h := wI h 0 8 0) (T := T) (bs := bs) (n := n) L0 hT h22 (CRs_w r _) (by omega) (fun k hk => by rw [hI_wI, if_neg (by omega)]; exact tp k hk)
  have L2 := FG_Ly f2 L0
  have L3 : Ly (wI h2 0 1 0) := Ly_wI L2 _ _ _
  have n02 : ∀ b, ¬ rtP T 0 b := fun b => by unfold rtP rdP rP; omega
  have i4 : hI h2 2 4 = nI ((eT bs n) 4) := by
    by_cases z : (eT bs n) 4 = 0
    · rw [z]; exact (t2.2.1 z).1
    · exact (t2.2.2.1 z).1
  have l4 : (eT bs n) 4 < 100 := by
    by_cases z : (eT bs n) 4 = 0
    · omega
    · exact (t2.2.2.1 z).2.1
  have G3 : GR (cbP T) rQ cbZ h (wI h2 0 1 0) := GR_wI (GR_tr (GR_wI (GR_rfl _ _ _ h) _ (Or.inr (Or.inl ⟨rfl, Or.inr (Or.inr rfl)⟩))) (GR_of (fun a b q => Or.inl q) (fun _ _ q => q) f2)) _ (Or.inr (Or.inl ⟨rfl, Or.inl rfl⟩))
  have p2 : hP h2 = hP h := (FG_P f2 : hP h2 = hP (wI h 0 8 0))
  by_cases z : (eT bs n) 4 = 0
  · rw [dT z] at g2
    have g2 : C 23 [.ref 2, .int (nI n)] (wI h 0 8 0) = some (some (some (.int 1)), h2) := g2
    obtain ⟨ct, w, nc⟩ := q2 z
    have g3 : C 134 [.ref 0, .int 0] (wI h2 0 1 0) = some (some (some (.int 0)), wI (wI h2 0 1 0) 0 8 0) := c134 L3 0
    obtain ⟨h4, e4⟩ : ∃ h4, h4 = wI (wP (wP (wI (wI h2 0 1 0) 0 8 0) 2 2 (some T')) 0 3 (some T)) 0 4 1 := ⟨_, rfl⟩
    have L4 : Ly h4 := by rw [e4]; exact Ly_wI (Ly_wP (Ly_wP (Ly_wI L3 _ _ _) _ rfl) _ rfl) _ _ _
    have i4' : ∀ a b, ¬ a = 0 → hI h4 a b = hI h2 a b := fun a b ha => by rw [e4, hI_wI, if_neg (by omega), hI_wP, hI_wP, hI_wI, if_neg (by omega), hI_wI, if_neg (by omega)]
    have ct4 : CT h4 T (eP bs n) := CT_fr w ct (fun a b i1 i2 _ => i4' a b (by omega))
    obtain ⟨h5, g5, s5, f5⟩ := c49 L4 (N := 77) (by decide) hT w ct4
    have L5 := FR_Ly f5 L4
    have g6 := c11 L5
    have p4 : hP h4 0 5 = some 77 ∧ hP h4 0 6 = some 79 ∧ hP h4 0 3 = some T ∧ hP h4 2 2 = some T' := by
      refine ⟨x_P5 L4, x_P6 L4, ?_, ?_⟩
      · rw [e4, hP_wI, hP_wP, if_pos ⟨rfl, rfl⟩]
      · rw [e4, hP_wI, hP_wP, if_neg (by omega), hP_wP, if_pos ⟨rfl, rfl⟩]
    have p5 : hP h5 = hP h4 := FR_P f5
    have ct5 : CT h5 T (eP bs n) := FR_CT f5 w ct4 (fun k b i1 i2 _ q => by unfold stF at q; omega)
    refine ⟨wI (wI h5 79 2 0) 79 4 0, nI (eP bs n 0 5), ?_, ?_, ?_, ?_, Ly_wI (Ly_wI L5 _ _ _) _ _ _, ?_, ?_, l4, fun _ => ⟨rfl, ?_, ?_, ?_, ?_, ?_, ?_, ?_, ?_, w⟩, fun q => absurd z q⟩
    · rw [e77]
      have e5 : hI (wI (wI h5 79 2 0) 79 4 0) T 5 = nI (eP bs n 0 5) := by rw [hI_wI, if_neg (by omega), hI_wI, if_neg (by omega)]; exact c_s5 ct5
      have q3 : hP h2 0 3 = some T' := by rw [p2]; exact h03
      have q2' : hP h2 2 2 = some T := by rw [p2]; exact h22
      have g22 : C 22 [.ref 2, .ref T'] (wI (wI h2 0 1 0) 0 8 0) = some (some (some (.ref T)), wP (wI (wI h2 0 1 0) 0 8 0) 2 2 (some T')) := c22 (T' := T') (Ly_wI L3 0 8 0) q2'
      have p54 : hP h5 0 3 = some T := by rw [p5]; exact p4.2.2.1
      have z1 : decide ((0 : Int32) = 0) = true := rfl
      have z2 : decide ((1 : Int32) = 0) = false := rfl
      have z3 : decide ((1 : Int32) = 1) = true := rfl
      have pre : C 77 [.ref 0, .int (nI n)] h = R 77 42 [some (.ref 0), some (.int (nI n)), some (.int 1)] [] h4 := by
        rw [e77, e4]
        simp only [b77_0, b77_11, b77_18, b77_22, b77_29, b77_38, b77_39, cond_true, cond_false, decide_true, Bool.and_true, Bool.true_and, Bool.and_self, Bool.and_false, Bool.false_and, Bool.not_true, Bool.not_false, Bool.or_true, Bool.true_or, Bool.or_false, Bool.false_or, is_some, gd_some, bk_v, bk_u, isO_wI, isO_wP, x_O L, h0, h1, et, g0, x_P2 L, x_O2 L, hP_wI, g2, x_O L2, g3, x_P2 L2, x_O2 L2, q3, q2', g22, z1, z2, z3]
      rw [← e77, pre]
      simp only [b77_42, b77_47, b77_50, cond_true, cond_false, decide_true, Bool.and_true, Bool.true_and, Bool.and_self, Bool.and_false, Bool.false_and, Bool.not_true, Bool.not_false, Bool.or_true, Bool.true_or, Bool.or_false, Bool.false_or, is_some, gd_some, bk_v, bk_u, isO_wI, hP_wI, x_O L4, p4.1, p4.2.2.1, n_O L4 (show 77 ∈ stN by decide), g5, x_O L5, x_P6 L5, k_O L5, g6, p54, t_O L5 hT, e5]
    · refine GR_wI (GR_wI (GR_tr (GR_tr G3 ?_) (GR_fr (fun a b q => ?_) f5)) _ (Or.inr (Or.inr (Or.inr (Or.inr ⟨rfl, Or.inl rfl⟩))))) _ (Or.inr (Or.inr (Or.inr (Or.inr ⟨rfl, Or.inr rfl⟩))))
      · rw [e4]
        exact GR_wI (GR_wP (GR_wP (GR_wI (GR_rfl _ _ _ _) _ (Or.inr (Or.inl ⟨rfl, Or.inr (Or.inr rfl)⟩))) _ (Or.inr ⟨rfl, rfl⟩)) _ (Or.inl ⟨rfl, rfl⟩)) _ (Or.inr (Or.inl ⟨rfl, Or.inr (Or.inl rfl)⟩))
      · unfold stF at q
        exact Or.inr (Or.inr (q.elim Or.inl (fun q => Or.inr (Or.inl q))))
    · show hn h5 = hn h
      rw [f5.1, e4]
      exact f2.1
    · show hs h5 = hs h
      rw [f5.2.1, e4]
      exact f2.2.1
    · rw [hI_wI, if_neg (by omega), hI_wI, if_neg (by omega), FR_I f5 (by unfold stF; omega), e4, hI_wI, if_neg (by omega), hI_wP, hI_wP, hI_wI, if_neg (by omega), hI_wI, if_pos ⟨rfl, rfl⟩]
    · rw [hI_wI, if_neg (by omega), hI_wI, if_neg (by omega), FR_I f5 (by unfold stF; omega), i4' _ _ (by decide)]; exact i4
    · rw [hI_wI, if_neg (by omega), hI_wI, if_neg (by omega), FR_I f5 (by unfold stF; omega), e4, hI_wI, if_neg (by omega), hI_wP, hI_wP, hI_wI, if_pos ⟨rfl, rfl⟩]
    · rw [hI_wI, if_neg (by omega), hI_wI, if_neg (by omega), FR_I f5 (by unfold stF; omega), e4, hI_wI, if_pos ⟨rfl, rfl⟩]
    · rw [hP_wI, hP_wI, p5]; exact p4.2.2.1
    · rw [hP_wI, hP_wI, p5]; exact p4.2.2.2
    · exact CT_fr w ct5 (fun a b i1 i2 _ => by rw [hI_wI, if_neg (by omega), hI_wI, if_neg (by omega)])
    · obtain ⟨s1, s2, s3, s4, s6, s7⟩ := s5
      have k : ∀ a b, ¬ a = 79 → hI (wI (wI h5 79 2 0) 79 4 0) a b = hI h5 a b := fun a b ha => by rw [hI_wI, if_neg (by omega), hI_wI, if_neg (by omega)]
      exact ⟨(k _ _ (by decide)).trans s1, (k _ _ (by decide)).trans s2, (k _ _ (by decide)).trans s3, (k _ _ (by decide)).trans s4, (k _ _ (by decide)).trans s6, fun t ht => (k _ _ (by decide)).trans (s7 t ht)⟩
    · rw [hI_wI, if_neg (by omega), hI_wI, if_pos ⟨rfl, rfl⟩]
    · rw [hI_wI, if_pos ⟨rfl, rfl⟩]
  · rw [dF z] at g2
    have g2 : C 23 [.ref 2, .int (nI n)] (wI h 0 8 0) = some (some (some (.int 0)), h2) := g2
    have g3 : C 134 [.ref 0, .int 4] (wI h2 0 1 0) = some (some (some (.int 1)), wI (wI h2 0 1 0) 0 8 4) := c134 L3 4
    have z1 : decide ((0 : Int32) = 0) = true := rfl
    have z2 : decide ((1 : Int32) = 0) = false := rfl
    refine ⟨wI (wI h2 0 1 0) 0 8 4, -1, ?_, GR_wI G3 _ (Or.inr (Or.inl ⟨rfl, Or.inr (Or.inr rfl)⟩)), f2.1, f2.2.1, Ly_wI L3 _ _ _, ?_, ?_, l4, fun q => absurd q z, fun _ => ⟨rfl, ?_, ?_, p2, fun a b n1 n2 => ?_⟩⟩
    · rw [e77]
      simp only [b77_0, b77_11, b77_18, b77_22, b77_29, cond_true, cond_false, decide_true, Bool.and_true, Bool.true_and, Bool.and_self, Bool.and_false, Bool.false_and, Bool.not_true, Bool.not_false, Bool.or_true, Bool.true_or, Bool.or_false, Bool.false_or, is_some, gd_some, bk_v, bk_u, isO_wI, x_O L, h0, h1, et, g0, x_P2 L, x_O2 L, hP_wI, g2, x_O L2, g3, z1, z2]
    · rw [hI_wI, if_neg (by omega), hI_wI, if_pos ⟨rfl, rfl⟩]
    · rw [hI_wI, if_neg (by omega), hI_wI, if_neg (by omega)]; exact i4
    · rw [hI_wI, if_pos ⟨rfl, rfl⟩]
    · rw [hI_wI, if_neg (by omega), hI_wI, if_neg (by omega)]; exact (t2.2.2.1 z).2.2
    · rw [hI_wI, if_neg (by omega), hI_wI, if_neg (by omega), FG_I f2 n1, hI_wI, if_neg (by omega)]
