def lkP : List (Nat × Nat × Nat) → Nat → Nat → Option Nat
  | [], _, _ => none
  | (x, y, q) :: l, a, b => if a = x ∧ b = y then some q else lkP l a b
def lkL : List (Nat × Nat × Int64) → Nat → Nat → Int64
  | [], _, _ => 0
  | (x, y, q) :: l, a, b => if a = x ∧ b = y then q else lkL l a b
def sl : Nat → Nat
  | 0 => 0
  | n + 1 => sl n + (lyS.getD n (0, 0)).2
def hK (L : Nat) (xs : Nat → Int32) (n : Nat) (ps : List (Nat × Nat × Nat)) (ls : List (Nat × Nat × Int64)) : A_H := (n, sl n, fun k => if k < n then lyS.getD k (0, 0) else (0, 0), fun _ _ => 0, lkL ls, lkP ps, (L, xs))
def ckP (n : Nat) : List (Nat × Nat × Nat) → Bool
  | [] => true
  | (x, _, _) :: l => Nat.blt x n && ckP n l
def ckL (n : Nat) : List (Nat × Nat × Int64) → Bool
  | [] => true
  | (x, _, _) :: l => Nat.blt x n && ckL n l
set_option maxRecDepth 16384 in
theorem lkP_n {n b : Nat} : ∀ l, ckP n l = true → lkP l n b = none
  | [], _ => rfl
  | (x, y, q) :: l, h => by
    unfold ckP at h
    rw [Bool.and_eq_true] at h
    have h1 : x < n := by have := h.1; rw [Nat.blt_eq] at this; exact this
    show (if n = x ∧ b = y then some q else lkP l n b) = none
    rw [if_neg (by omega)]
    exact lkP_n l h.2
set_option maxRecDepth 16384 in
theorem lkL_n {n b : Nat} : ∀ l, ckL n l = true → lkL l n b = 0
  | [], _ => rfl
  | (x, y, q) :: l, h => by
    unfold ckL at h
    rw [Bool.and_eq_true] at h
    have h1 : x < n := by have := h.1; rw [Nat.blt_eq] at this; exact this
    show (if n = x ∧ b = y then q else lkL l n b) = 0
    rw [if_neg (by omega)]
    exact lkL_n l h.2
set_option maxRecDepth 16384 in
theorem h0_hK (L : Nat) (xs : Nat → Int32) : ((0, 0, fun _ => (0, 0), fun _ _ => 0, fun _ _ => 0, fun _ _ => none, (L, xs)) : A_H) = hK L xs 0 [] [] := by
  unfold hK
  rw [show (fun k => if k < 0 then lyS.getD k (0, 0) else (0, 0)) = (fun _ => ((0, 0) : Nat × Nat)) from funext (fun k => if_neg (Nat.not_lt_zero k))]
  rfl
set_option maxRecDepth 16384 in
theorem nw_hK {L : Nat} {xs : Nat → Int32} {n t N : Nat} {ps : List (Nat × Nat × Nat)} {ls : List (Nat × Nat × Int64)} (e : lyS.getD n (0, 0) = (t, N)) (c : ckP n ps = true) (d : ckL n ls = true) : nw (hK L xs n ps ls) t N N = hK L xs (n + 1) ps ls := by
  unfold nw hK
  show (n + 1, sl n + N, (fun k => if k = n then (t, N) else (if k < n then lyS.getD k (0, 0) else (0, 0))), (fun a b => if a = n then (0 : Int32) else 0), (fun a b => if a = n then (0 : Int64) else lkL ls a b), (fun a b => if a = n then none else lkP ps a b), (L, xs)) = _
  rw [show (fun k => if k = n then (t, N) else (if k < n then lyS.getD k (0, 0) else (0, 0))) = (fun k => if k < n + 1 then lyS.getD k (0, 0) else (0, 0)) from funext (fun k => by
    by_cases h : k = n
    · rw [if_pos h, if_pos (by omega), h, e]
    · rw [if_neg h]
      by_cases g : k < n
      · rw [if_pos g, if_pos (by omega)]
      · rw [if_neg g, if_neg (by omega)])]
  rw [show (fun (a b : Nat) => if a = n then (0 : Int32) else 0) = (fun _ _ => 0) from funext (fun a => funext (fun b => by split <;> rfl))]
  rw [show (fun (a b : Nat) => if a = n then (0 : Int64) else lkL ls a b) = lkL ls from funext (fun a => funext (fun b => by
    by_cases h : a = n
    · rw [if_pos h, h, lkL_n ls d]
    · rw [if_neg h]))]
  rw [show (fun (a b : Nat) => if a = n then none else lkP ps a b) = lkP ps from funext (fun a => funext (fun b => by
    by_cases h : a = n
    · rw [if_pos h, h, lkP_n ps c]
    · rw [if_neg h]))]
  show (n + 1, sl n + N, _) = (n + 1, sl n + (lyS.getD n (0, 0)).2, _)
  rw [e]
set_option maxRecDepth 16384 in
theorem wP_hK {L : Nat} {xs : Nat → Int32} {n a b q : Nat} {ps : List (Nat × Nat × Nat)} {ls : List (Nat × Nat × Int64)} : wP (hK L xs n ps ls) a b (some q) = hK L xs n ((a, b, q) :: ps) ls := rfl
set_option maxRecDepth 16384 in
theorem wL_hK {L : Nat} {xs : Nat → Int32} {n a b : Nat} {v : Int64} {ps : List (Nat × Nat × Nat)} {ls : List (Nat × Nat × Int64)} : wL (hK L xs n ps ls) a b v = hK L xs n ps ((a, b, v) :: ls) := rfl
set_option maxRecDepth 16384 in
theorem st_hK {L : Nat} {xs : Nat → Int32} {n t N a b : Nat} {ps : List (Nat × Nat × Nat)} {ls : List (Nat × Nat × Int64)} (e : lyS.getD n (0, 0) = (t, N)) (c : ckP n ps = true) (d : ckL n ls = true) : wP (nw (hK L xs n ps ls) t N N) a b (some n) = hK L xs (n + 1) ((a, b, n) :: ps) ls := by
  rw [nw_hK e c d, wP_hK]
set_option maxRecDepth 16384 in
theorem oK {L : Nat} {xs : Nat → Int32} {n k ci N : Nat} {ps : List (Nat × Nat × Nat)} {ls : List (Nat × Nat × Int64)} (h : k < n) (e : lyS.getD k (0, 0) = (ci, N)) : isO (hK L xs n ps ls) k ci = true := isO_of (N := N) h (by show (if k < n then _ else _) = _; rw [if_pos h, e])
set_option maxRecDepth 16384 in
theorem aK {L : Nat} {xs : Nat → Int32} {n k tg N i : Nat} {ps : List (Nat × Nat × Nat)} {ls : List (Nat × Nat × Int64)} (h : k < n) (e : lyS.getD k (0, 0) = (100 + tg, N)) (hi : i < N) (hN : N ≤ 2000) : isA (hK L xs n ps ls) k tg (nI i) = true := isA_of h (by show (if k < n then _ else _) = _; rw [if_pos h, e]) hi hN
set_option maxRecDepth 16384 in
theorem ko16 (x : Nat) (h : A_H) : C 16 [.ref x] h = some (some none, h) := by rw [e16, b16_0]
set_option maxRecDepth 16384 in
theorem ko73 (x : Nat) (h : A_H) : C 73 [.ref x] h = some (some none, h) := by rw [e73, b73_0]
set_option maxRecDepth 16384 in
theorem ko8 (x : Nat) (h : A_H) : C 8 [.ref x] h = some (some none, h) := by rw [e8, b8_0]
set_option maxRecDepth 16384 in
theorem ko9 (x : Nat) (h : A_H) : C 9 [.ref x] h = some (some none, h) := by rw [e9, b9_0]
set_option maxRecDepth 16384 in
theorem ko0 (x : Nat) (h : A_H) : C 0 [.ref x] h = some (some none, h) := by rw [e0, b0_0]
set_option maxRecDepth 16384 in
theorem ko48 {h : A_H} {s : Nat} (e : isO h s 8 = true) : C 48 [.ref s] h = some (some none, wP (nw h 100 4 4) s 5 (some (hn h))) := by
  rw [e48, b48_0, b48_5, isO_nw e, cond_true, b48_6]
set_option maxRecDepth 16384 in
theorem f55_0 {h : A_H} {x0 : Nat} {l1 : Option Value} (o : isO h x0 9 = true) : R 55 0 [some (.ref x0), l1] [] h = R 55 6 [some (.ref x0), l1] [] (wP (nw h 103 4 4) x0 9 (some (hn h))) := by
  rw [b55_0, b55_5, isO_nw o, cond_true]
set_option maxRecDepth 16384 in
theorem f55_6 {h : A_H} {x0 : Nat} {l1 : Option Value} (o : isO h x0 9 = true) : R 55 6 [some (.ref x0), l1] [] h = R 55 10 [some (.ref x0), l1] [] (wP (nw h 104 4 4) x0 10 (some (hn h))) := by
  rw [b55_6, b55_9, isO_nw o, cond_true]
set_option maxRecDepth 16384 in
theorem f55_10 {h : A_H} {x0 : Nat} {l1 : Option Value} (o : isO h x0 9 = true) : R 55 10 [some (.ref x0), l1] [] h = R 55 14 [some (.ref x0), l1] [] (wP (nw h 105 3 3) x0 11 (some (hn h))) := by
  rw [b55_10, b55_13, isO_nw o, cond_true]
set_option maxRecDepth 16384 in
theorem f55_14 {h : A_H} {x0 : Nat} {l1 : Option Value} (o : isO h x0 9 = true) : R 55 14 [some (.ref x0), l1] [] h = R 55 18 [some (.ref x0), l1] [] (wP (nw h 106 8 8) x0 12 (some (hn h))) := by
  rw [b55_14, b55_17, isO_nw o, cond_true]
set_option maxRecDepth 16384 in
theorem f55_18 {h : A_H} {x0 : Nat} {l1 : Option Value} (o : isO h x0 9 = true) : R 55 18 [some (.ref x0), l1] [] h = R 55 22 [some (.ref x0), l1] [] (wP (nw h 107 6 6) x0 13 (some (hn h))) := by
  rw [b55_18, b55_21, isO_nw o, cond_true]
set_option maxRecDepth 16384 in
theorem f1_0 {h : A_H} {x0 : Nat} (o : isO h x0 1 = true) : R 1 0 [some (.ref x0)] [] h = R 1 6 [some (.ref x0)] [] (wP (nw h 100 5 5) x0 1 (some (hn h))) := by
  rw [b1_0, b1_5, isO_nw o, cond_true]
set_option maxRecDepth 16384 in
theorem f1_6 {h : A_H} {x0 : Nat} (o : isO h x0 1 = true) : R 1 6 [some (.ref x0)] [] h = R 1 10 [some (.ref x0)] [] (wP (nw h 100 5 5) x0 2 (some (hn h))) := by
  rw [b1_6, b1_9, isO_nw o, cond_true]
set_option maxRecDepth 16384 in
theorem f1_10 {h : A_H} {x0 : Nat} (o : isO h x0 1 = true) : R 1 10 [some (.ref x0)] [] h = R 1 14 [some (.ref x0)] [] (wP (nw h 100 5 5) x0 3 (some (hn h))) := by
  rw [b1_10, b1_13, isO_nw o, cond_true]
set_option maxRecDepth 16384 in
theorem f10_0 {h : A_H} {x0 : Nat} {l1 : Option Value} (o : isO h x0 4 = true) : R 10 0 [some (.ref x0), l1] [] h = R 10 6 [some (.ref x0), l1] [] (wP (nw h 108 16 16) x0 0 (some (hn h))) := by
  rw [b10_0, b10_5, isO_nw o, cond_true]
set_option maxRecDepth 16384 in
theorem f10_6 {h : A_H} {x0 : Nat} {l1 : Option Value} (o : isO h x0 4 = true) : R 10 6 [some (.ref x0), l1] [] h = R 10 10 [some (.ref x0), l1] [] (wP (nw h 108 3 3) x0 3 (some (hn h))) := by
  rw [b10_6, b10_9, isO_nw o, cond_true]
set_option maxRecDepth 16384 in
theorem f17_7 {h : A_H} {x0 : Nat} (o : isO h x0 6 = true) : R 17 7 [some (.ref x0)] [] h = R 17 11 [some (.ref x0)] [] (wP (nw h 100 6 6) x0 1 (some (hn h))) := by
  rw [b17_7, b17_10, isO_nw o, cond_true]
set_option maxRecDepth 16384 in
theorem f153_5 {h : A_H} {x0 : Nat} (o : isO h x0 13 = true) : R 153 5 [some (.ref x0)] [] h = R 153 9 [some (.ref x0)] [] (wP (nw h 101 1100 1100) x0 5 (some (hn h))) := by
  rw [b153_5, b153_8, isO_nw o, cond_true]
set_option maxRecDepth 16384 in
theorem f153_9 {h : A_H} {x0 : Nat} (o : isO h x0 13 = true) : R 153 9 [some (.ref x0)] [] h = R 153 13 [some (.ref x0)] [] (wP (nw h 100 18 18) x0 15 (some (hn h))) := by
  rw [b153_9, b153_12, isO_nw o, cond_true]
set_option maxRecDepth 16384 in
theorem f153_13 {h : A_H} {x0 : Nat} (o : isO h x0 13 = true) : R 153 13 [some (.ref x0)] [] h = R 153 17 [some (.ref x0)] [] (wP (nw h 100 18 18) x0 16 (some (hn h))) := by
  rw [b153_13, b153_16, isO_nw o, cond_true]
set_option maxRecDepth 16384 in
theorem f153_17 {h : A_H} {x0 : Nat} (o : isO h x0 13 = true) : R 153 17 [some (.ref x0)] [] h = R 153 21 [some (.ref x0)] [] (wP (nw h 100 288 288) x0 17 (some (hn h))) := by
  rw [b153_17, b153_20, isO_nw o, cond_true]
set_option maxRecDepth 16384 in
theorem f153_21 {h : A_H} {x0 : Nat} (o : isO h x0 13 = true) : R 153 21 [some (.ref x0)] [] h = R 153 25 [some (.ref x0)] [] (wP (nw h 100 54 54) x0 18 (some (hn h))) := by
  rw [b153_21, b153_24, isO_nw o, cond_true]
set_option maxRecDepth 16384 in
theorem f153_25 {h : A_H} {x0 : Nat} (o : isO h x0 13 = true) : R 153 25 [some (.ref x0)] [] h = R 153 29 [some (.ref x0)] [] (wP (nw h 100 6 6) x0 26 (some (hn h))) := by
  rw [b153_25, b153_28, isO_nw o, cond_true]
set_option maxRecDepth 16384 in
theorem f153_29 {h : A_H} {x0 : Nat} (o : isO h x0 13 = true) : R 153 29 [some (.ref x0)] [] h = R 153 33 [some (.ref x0)] [] (wP (nw h 100 5 5) x0 28 (some (hn h))) := by
  rw [b153_29, b153_32, isO_nw o, cond_true]
set_option maxRecDepth 16384 in
theorem f153_33 {h : A_H} {x0 : Nat} (o : isO h x0 13 = true) : R 153 33 [some (.ref x0)] [] h = R 153 37 [some (.ref x0)] [] (wP (nw h 100 5 5) x0 29 (some (hn h))) := by
  rw [b153_33, b153_36, isO_nw o, cond_true]
set_option maxRecDepth 16384 in
theorem f21_7 {h : A_H} {x0 x1 : Nat} (o : isO h x0 7 = true) : R 21 7 [some (.ref x0), some (.ref x1)] [] h = R 21 11 [some (.ref x0), some (.ref x1)] [] (wP (nw h 102 19 19) x0 12 (some (hn h))) := by
  rw [b21_7, b21_10, isO_nw o, cond_true]
set_option maxRecDepth 16384 in
theorem f21_11 {h : A_H} {x0 x1 : Nat} (o : isO h x0 7 = true) : R 21 11 [some (.ref x0), some (.ref x1)] [] h = R 21 15 [some (.ref x0), some (.ref x1)] [] (wP (nw h 100 19 19) x0 13 (some (hn h))) := by
  rw [b21_11, b21_14, isO_nw o, cond_true]
set_option maxRecDepth 16384 in
theorem f21_15 {h : A_H} {x0 x1 : Nat} (o : isO h x0 7 = true) : R 21 15 [some (.ref x0), some (.ref x1)] [] h = R 21 19 [some (.ref x0), some (.ref x1)] [] (wP (nw h 100 19 19) x0 14 (some (hn h))) := by
  rw [b21_15, b21_18, isO_nw o, cond_true]
set_option maxRecDepth 16384 in
theorem i55_29 {h : A_H} {x0 arr i : Nat} (o : isO h x0 9 = true) (p : hP h x0 9 = some arr) (ha : arr < hn h) (hA : hsh h arr = (100 + 3, 4)) (hi : i < 4) : R 55 29 [some (.ref x0), some (.int (nI i))] [] h = R 55 29 [some (.ref x0), some (.int (nI (i + 1)))] [] (wP (nw h 5 6 6) arr i (some (hn h))) := by
  have d : decide ((4 : Int32) ≤ nI i) = false := by rw [show (4 : Int32) = nI 4 from rfl, (nI_le9 (k := i) (m := 4) (by omega) (by decide)).1]; exact dF (by omega)
  have a1 : isA (nw h 5 6 6) arr 3 (nI i) = true := isA_of (N := 4) (by rw [hn_nw]; omega) (by rw [hsh_nw, if_neg (by omega)]; exact hA) hi (by decide)
  have a2 : isO (nw h 5 6 6) (hn h) 5 = true := isO_of (N := 6) (by rw [hn_nw]; omega) (by rw [hsh_nw, if_pos rfl])
  rw [b55_29]
  simp only [b55_36, b55_38, b55_39, cond_true, cond_false, decide_true, Bool.and_true, Bool.true_and, Bool.and_self, Bool.and_false, Bool.false_and, Bool.not_true, Bool.not_false, Bool.or_true, Bool.true_or, Bool.or_false, Bool.false_or, is_some, gd_some, bk_v, bk_u, d, o, p, ko16, a1, a2, w_cl (show i < 2147483648 by omega), w_s]
set_option maxRecDepth 16384 in
theorem x55_29 {h : A_H} {x0 : Nat} : R 55 29 [some (.ref x0), some (.int (nI 4))] [] h = R 55 43 [some (.ref x0), some (.int (nI 0))] [] h := by
  rw [b55_29, show decide ((4 : Int32) ≤ nI 4) = true from rfl, cond_true]; rfl
set_option maxRecDepth 16384 in
theorem i55_43 {h : A_H} {x0 arr i : Nat} (o : isO h x0 9 = true) (p : hP h x0 10 = some arr) (ha : arr < hn h) (hA : hsh h arr = (100 + 4, 4)) (hi : i < 4) : R 55 43 [some (.ref x0), some (.int (nI i))] [] h = R 55 43 [some (.ref x0), some (.int (nI (i + 1)))] [] (wP (nw h 10 3 3) arr i (some (hn h))) := by
  have d : decide ((4 : Int32) ≤ nI i) = false := by rw [show (4 : Int32) = nI 4 from rfl, (nI_le9 (k := i) (m := 4) (by omega) (by decide)).1]; exact dF (by omega)
  have a1 : isA (nw h 10 3 3) arr 4 (nI i) = true := isA_of (N := 4) (by rw [hn_nw]; omega) (by rw [hsh_nw, if_neg (by omega)]; exact hA) hi (by decide)
  have a2 : isO (nw h 10 3 3) (hn h) 10 = true := isO_of (N := 3) (by rw [hn_nw]; omega) (by rw [hsh_nw, if_pos rfl])
  rw [b55_43]
  simp only [b55_50, b55_52, b55_53, cond_true, cond_false, decide_true, Bool.and_true, Bool.true_and, Bool.and_self, Bool.and_false, Bool.false_and, Bool.not_true, Bool.not_false, Bool.or_true, Bool.true_or, Bool.or_false, Bool.false_or, is_some, gd_some, bk_v, bk_u, d, o, p, ko73, a1, a2, w_cl (show i < 2147483648 by omega), w_s]
set_option maxRecDepth 16384 in
theorem x55_43 {h : A_H} {x0 : Nat} : R 55 43 [some (.ref x0), some (.int (nI 4))] [] h = R 55 57 [some (.ref x0), some (.int (nI 0))] [] h := by
  rw [b55_43, show decide ((4 : Int32) ≤ nI 4) = true from rfl, cond_true]; rfl
set_option maxRecDepth 16384 in
theorem i55_57 {h : A_H} {x0 arr i : Nat} (o : isO h x0 9 = true) (p : hP h x0 11 = some arr) (ha : arr < hn h) (hA : hsh h arr = (100 + 5, 3)) (hi : i < 3) : R 55 57 [some (.ref x0), some (.int (nI i))] [] h = R 55 57 [some (.ref x0), some (.int (nI (i + 1)))] [] (wP (nw h 2 3 3) arr i (some (hn h))) := by
  have d : decide ((3 : Int32) ≤ nI i) = false := by rw [show (3 : Int32) = nI 3 from rfl, (nI_le9 (k := i) (m := 3) (by omega) (by decide)).1]; exact dF (by omega)
  have a1 : isA (nw h 2 3 3) arr 5 (nI i) = true := isA_of (N := 3) (by rw [hn_nw]; omega) (by rw [hsh_nw, if_neg (by omega)]; exact hA) hi (by decide)
  have a2 : isO (nw h 2 3 3) (hn h) 2 = true := isO_of (N := 3) (by rw [hn_nw]; omega) (by rw [hsh_nw, if_pos rfl])
  rw [b55_57]
  simp only [b55_64, b55_66, b55_67, cond_true, cond_false, decide_true, Bool.and_true, Bool.true_and, Bool.and_self, Bool.and_false, Bool.false_and, Bool.not_true, Bool.not_false, Bool.or_true, Bool.true_or, Bool.or_false, Bool.false_or, is_some, gd_some, bk_v, bk_u, d, o, p, ko8, a1, a2, w_cl (show i < 2147483648 by omega), w_s]
set_option maxRecDepth 16384 in
theorem x55_57 {h : A_H} {x0 : Nat} : R 55 57 [some (.ref x0), some (.int (nI 3))] [] h = R 55 71 [some (.ref x0), some (.int (nI 0))] [] h := by
  rw [b55_57, show decide ((3 : Int32) ≤ nI 3) = true from rfl, cond_true]; rfl
set_option maxRecDepth 16384 in
theorem i55_71 {h : A_H} {x0 arr i : Nat} (o : isO h x0 9 = true) (p : hP h x0 12 = some arr) (ha : arr < hn h) (hA : hsh h arr = (100 + 6, 8)) (hi : i < 8) : R 55 71 [some (.ref x0), some (.int (nI i))] [] h = R 55 71 [some (.ref x0), some (.int (nI (i + 1)))] [] (wP (nw h 3 7 7) arr i (some (hn h))) := by
  have d : decide ((8 : Int32) ≤ nI i) = false := by rw [show (8 : Int32) = nI 8 from rfl, (nI_le9 (k := i) (m := 8) (by omega) (by decide)).1]; exact dF (by omega)
  have a1 : isA (nw h 3 7 7) arr 6 (nI i) = true := isA_of (N := 8) (by rw [hn_nw]; omega) (by rw [hsh_nw, if_neg (by omega)]; exact hA) hi (by decide)
  have a2 : isO (nw h 3 7 7) (hn h) 3 = true := isO_of (N := 7) (by rw [hn_nw]; omega) (by rw [hsh_nw, if_pos rfl])
  rw [b55_71]
  simp only [b55_78, b55_80, b55_81, cond_true, cond_false, decide_true, Bool.and_true, Bool.true_and, Bool.and_self, Bool.and_false, Bool.false_and, Bool.not_true, Bool.not_false, Bool.or_true, Bool.true_or, Bool.or_false, Bool.false_or, is_some, gd_some, bk_v, bk_u, d, o, p, ko9, a1, a2, w_cl (show i < 2147483648 by omega), w_s]
set_option maxRecDepth 16384 in
theorem x55_71 {h : A_H} {x0 : Nat} : R 55 71 [some (.ref x0), some (.int (nI 8))] [] h = R 55 85 [some (.ref x0), some (.int (nI 0))] [] h := by
  rw [b55_71, show decide ((8 : Int32) ≤ nI 8) = true from rfl, cond_true]; rfl
set_option maxRecDepth 16384 in
theorem i55_85 {h : A_H} {x0 arr i : Nat} (o : isO h x0 9 = true) (p : hP h x0 13 = some arr) (ha : arr < hn h) (hA : hsh h arr = (100 + 7, 6)) (hi : i < 6) : R 55 85 [some (.ref x0), some (.int (nI i))] [] h = R 55 85 [some (.ref x0), some (.int (nI (i + 1)))] [] (wP (nw h 0 4 4) arr i (some (hn h))) := by
  have d : decide ((6 : Int32) ≤ nI i) = false := by rw [show (6 : Int32) = nI 6 from rfl, (nI_le9 (k := i) (m := 6) (by omega) (by decide)).1]; exact dF (by omega)
  have a1 : isA (nw h 0 4 4) arr 7 (nI i) = true := isA_of (N := 6) (by rw [hn_nw]; omega) (by rw [hsh_nw, if_neg (by omega)]; exact hA) hi (by decide)
  have a2 : isO (nw h 0 4 4) (hn h) 0 = true := isO_of (N := 4) (by rw [hn_nw]; omega) (by rw [hsh_nw, if_pos rfl])
  rw [b55_85]
  simp only [b55_92, b55_94, b55_95, cond_true, cond_false, decide_true, Bool.and_true, Bool.true_and, Bool.and_self, Bool.and_false, Bool.false_and, Bool.not_true, Bool.not_false, Bool.or_true, Bool.true_or, Bool.or_false, Bool.false_or, is_some, gd_some, bk_v, bk_u, d, o, p, ko0, a1, a2, w_cl (show i < 2147483648 by omega), w_s]
set_option maxRecDepth 16384 in
theorem x55_85 {h : A_H} {x0 : Nat} : R 55 85 [some (.ref x0), some (.int (nI 6))] [] h = some (some none, h) := by
  rw [b55_85, show decide ((6 : Int32) ≤ nI 6) = true from rfl, cond_true]
set_option maxRecDepth 16384 in
theorem i10_12 {h : A_H} {x0 arr i : Nat} (o : isO h x0 4 = true) (p : hP h x0 0 = some arr) (ha : arr < hn h) (hA : hsh h arr = (100 + 8, 16)) (hi : i < 16) : R 10 12 [some (.ref x0), some (.int (nI i))] [] h = R 10 12 [some (.ref x0), some (.int (nI (i + 1)))] [] (wP (wP (nw (nw h 8 6 6) 100 4 4) (hn h) 5 (some (hn h + 1))) arr i (some (hn h))) := by
  have d : decide ((16 : Int32) ≤ nI i) = false := by rw [show (16 : Int32) = nI 16 from rfl, (nI_le9 (k := i) (m := 16) (by omega) (by decide)).1]; exact dF (by omega)
  have a2 : isO (nw h 8 6 6) (hn h) 8 = true := isO_of (N := 6) (by rw [hn_nw]; omega) (by rw [hsh_nw, if_pos rfl])
  have g := ko48 a2
  have a3 : isO (wP (nw (nw h 8 6 6) 100 4 4) (hn h) 5 (some (hn (nw h 8 6 6)))) (hn h) 8 = true := isO_st a2
  have a1 : isA (wP (nw (nw h 8 6 6) 100 4 4) (hn h) 5 (some (hn (nw h 8 6 6)))) arr 8 (nI i) = true := isA_of (N := 16) (by show arr < hn h + 1 + 1; omega) (by show hsh (nw (nw h 8 6 6) 100 4 4) arr = _; rw [hsh_nw, if_neg (by rw [hn_nw]; omega), hsh_nw, if_neg (by omega)]; exact hA) hi (by decide)
  rw [b10_12]
  simp only [b10_19, b10_21, b10_22, cond_true, cond_false, decide_true, Bool.and_true, Bool.true_and, Bool.and_self, Bool.and_false, Bool.false_and, Bool.not_true, Bool.not_false, Bool.or_true, Bool.true_or, Bool.or_false, Bool.false_or, is_some, gd_some, bk_v, bk_u, d, o, p, g, a1, a3, w_cl (show i < 2147483648 by omega), w_s]
  rfl
set_option maxRecDepth 16384 in
theorem x10_12 {h : A_H} {x0 : Nat} : R 10 12 [some (.ref x0), some (.int (nI 16))] [] h = R 10 26 [some (.ref x0), some (.int (nI 0))] [] h := by
  rw [b10_12, show decide ((16 : Int32) ≤ nI 16) = true from rfl, cond_true]; rfl
set_option maxRecDepth 16384 in
theorem i10_26 {h : A_H} {x0 arr i : Nat} (o : isO h x0 4 = true) (p : hP h x0 3 = some arr) (ha : arr < hn h) (hA : hsh h arr = (100 + 8, 3)) (hi : i < 3) : R 10 26 [some (.ref x0), some (.int (nI i))] [] h = R 10 26 [some (.ref x0), some (.int (nI (i + 1)))] [] (wP (wP (nw (nw h 8 6 6) 100 4 4) (hn h) 5 (some (hn h + 1))) arr i (some (hn h))) := by
  have d : decide ((3 : Int32) ≤ nI i) = false := by rw [show (3 : Int32) = nI 3 from rfl, (nI_le9 (k := i) (m := 3) (by omega) (by decide)).1]; exact dF (by omega)
  have a2 : isO (nw h 8 6 6) (hn h) 8 = true := isO_of (N := 6) (by rw [hn_nw]; omega) (by rw [hsh_nw, if_pos rfl])
  have g := ko48 a2
  have a3 : isO (wP (nw (nw h 8 6 6) 100 4 4) (hn h) 5 (some (hn (nw h 8 6 6)))) (hn h) 8 = true := isO_st a2
  have a1 : isA (wP (nw (nw h 8 6 6) 100 4 4) (hn h) 5 (some (hn (nw h 8 6 6)))) arr 8 (nI i) = true := isA_of (N := 3) (by show arr < hn h + 1 + 1; omega) (by show hsh (nw (nw h 8 6 6) 100 4 4) arr = _; rw [hsh_nw, if_neg (by rw [hn_nw]; omega), hsh_nw, if_neg (by omega)]; exact hA) hi (by decide)
  rw [b10_26]
  simp only [b10_33, b10_35, b10_36, cond_true, cond_false, decide_true, Bool.and_true, Bool.true_and, Bool.and_self, Bool.and_false, Bool.false_and, Bool.not_true, Bool.not_false, Bool.or_true, Bool.true_or, Bool.or_false, Bool.false_or, is_some, gd_some, bk_v, bk_u, d, o, p, g, a1, a3, w_cl (show i < 2147483648 by omega), w_s]
  rfl
set_option maxRecDepth 16384 in
theorem x10_26 {h : A_H} {x0 : Nat} : R 10 26 [some (.ref x0), some (.int (nI 3))] [] h = some (some none, h) := by
  rw [b10_26, show decide ((3 : Int32) ≤ nI 3) = true from rfl, cond_true]
