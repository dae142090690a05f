theorem e74 (x0 : Nat) (h : A_H) : C 74 [.ref x0] h = R 74 0 [some (.ref x0)] [] h := rfl
theorem r74_0 (ls : A_V) (st : List Value) (h : A_H) : R 74 0 ls st h = a_do a_nL R R 74 (s_aldl 0 1 ls st h) := a_R_eq ..
theorem r74_1 (ls : A_V) (st : List Value) (h : A_H) : R 74 1 ls st h = a_do a_nL R R 74 (s_oi 2 ls st h) := a_R_eq ..
theorem r74_2 (ls : A_V) (st : List Value) (h : A_H) : R 74 2 ls st h = a_do a_nL R R 74 (s_aldl 0 3 ls st h) := a_R_eq ..
theorem r74_3 (ls : A_V) (st : List Value) (h : A_H) : R 74 3 ls st h = a_do a_nL R R 74 (s_push (.int 1100) 4 ls st h) := a_R_eq ..
theorem r74_4 (ls : A_V) (st : List Value) (h : A_H) : R 74 4 ls st h = a_do a_nL R R 74 (s_nar 1 5 ls st h) := a_R_eq ..
theorem r74_5 (ls : A_V) (st : List Value) (h : A_H) : R 74 5 ls st h = a_do a_nL R R 74 (s_putR 11 0 6 ls st h) := a_R_eq ..
theorem r74_6 (ls : A_V) (st : List Value) (h : A_H) : R 74 6 ls st h = a_do a_nL R R 74 (s_aldl 0 7 ls st h) := a_R_eq ..
theorem r74_7 (ls : A_V) (st : List Value) (h : A_H) : R 74 7 ls st h = a_do a_nL R R 74 (s_new 7 15 8 ls st h) := a_R_eq ..
theorem r74_8 (ls : A_V) (st : List Value) (h : A_H) : R 74 8 ls st h = a_do a_nL R R 74 (s_dup 9 ls st h) := a_R_eq ..
theorem r74_9 (ls : A_V) (st : List Value) (h : A_H) : R 74 9 ls st h = a_do a_nL R R 74 (s_aldl 0 10 ls st h) := a_R_eq ..
theorem r74_10 (ls : A_V) (st : List Value) (h : A_H) : R 74 10 ls st h = a_do a_nL R R 74 (s_getR 11 0 11 ls st h) := a_R_eq ..
theorem r74_11 (ls : A_V) (st : List Value) (h : A_H) : R 74 11 ls st h = a_do a_nL R R 74 (s_call 1 21 2 2 false 12 ls st h) := a_R_eq ..
theorem r74_12 (ls : A_V) (st : List Value) (h : A_H) : R 74 12 ls st h = a_do a_nL R R 74 (s_putR 11 2 13 ls st h) := a_R_eq ..
theorem r74_13 (ls : A_V) (st : List Value) (h : A_H) : R 74 13 ls st h = a_do a_nL R R 74 (s_aldl 0 14 ls st h) := a_R_eq ..
theorem r74_14 (ls : A_V) (st : List Value) (h : A_H) : R 74 14 ls st h = a_do a_nL R R 74 (s_new 9 15 15 ls st h) := a_R_eq ..
theorem r74_15 (ls : A_V) (st : List Value) (h : A_H) : R 74 15 ls st h = a_do a_nL R R 74 (s_dup 16 ls st h) := a_R_eq ..
theorem r74_16 (ls : A_V) (st : List Value) (h : A_H) : R 74 16 ls st h = a_do a_nL R R 74 (s_call 1 55 1 2 false 17 ls st h) := a_R_eq ..
theorem r74_17 (ls : A_V) (st : List Value) (h : A_H) : R 74 17 ls st h = a_do a_nL R R 74 (s_putR 11 3 18 ls st h) := a_R_eq ..
theorem r74_18 (ls : A_V) (st : List Value) (h : A_H) : R 74 18 ls st h = a_do a_nL R R 74 (s_aldl 0 19 ls st h) := a_R_eq ..
theorem r74_19 (ls : A_V) (st : List Value) (h : A_H) : R 74 19 ls st h = a_do a_nL R R 74 (s_new 8 6 20 ls st h) := a_R_eq ..
theorem r74_20 (ls : A_V) (st : List Value) (h : A_H) : R 74 20 ls st h = a_do a_nL R R 74 (s_dup 21 ls st h) := a_R_eq ..
theorem r74_21 (ls : A_V) (st : List Value) (h : A_H) : R 74 21 ls st h = a_do a_nL R R 74 (s_call 1 48 1 1 false 22 ls st h) := a_R_eq ..
theorem r74_22 (ls : A_V) (st : List Value) (h : A_H) : R 74 22 ls st h = a_do a_nL R R 74 (s_putR 11 5 23 ls st h) := a_R_eq ..
theorem r74_23 (ls : A_V) (st : List Value) (h : A_H) : R 74 23 ls st h = a_do a_nL R R 74 (s_aldl 0 24 ls st h) := a_R_eq ..
theorem r74_24 (ls : A_V) (st : List Value) (h : A_H) : R 74 24 ls st h = a_do a_nL R R 74 (s_new 4 5 25 ls st h) := a_R_eq ..
theorem r74_25 (ls : A_V) (st : List Value) (h : A_H) : R 74 25 ls st h = a_do a_nL R R 74 (s_dup 26 ls st h) := a_R_eq ..
theorem r74_26 (ls : A_V) (st : List Value) (h : A_H) : R 74 26 ls st h = a_do a_nL R R 74 (s_call 1 10 1 2 false 27 ls st h) := a_R_eq ..
theorem r74_27 (ls : A_V) (st : List Value) (h : A_H) : R 74 27 ls st h = a_do a_nL R R 74 (s_putR 11 6 28 ls st h) := a_R_eq ..
theorem r74_28 (ls : A_V) (st : List Value) (h : A_H) : R 74 28 ls st h = a_do a_nL R R 74 (s_aldl 0 29 ls st h) := a_R_eq ..
theorem r74_29 (ls : A_V) (st : List Value) (h : A_H) : R 74 29 ls st h = a_do a_nL R R 74 (s_new 6 3 30 ls st h) := a_R_eq ..
theorem r74_30 (ls : A_V) (st : List Value) (h : A_H) : R 74 30 ls st h = a_do a_nL R R 74 (s_dup 31 ls st h) := a_R_eq ..
theorem r74_31 (ls : A_V) (st : List Value) (h : A_H) : R 74 31 ls st h = a_do a_nL R R 74 (s_call 1 17 1 1 false 32 ls st h) := a_R_eq ..
theorem r74_32 (ls : A_V) (st : List Value) (h : A_H) : R 74 32 ls st h = a_do a_nL R R 74 (s_putR 11 7 33 ls st h) := a_R_eq ..
theorem r74_33 (ls : A_V) (st : List Value) (h : A_H) : R 74 33 ls st h = a_do a_nL R R 74 (s_vret ls st h) := a_R_eq ..
theorem b74_0 (x0 : Nat) (h : A_H) : R 74 0 [some (.ref x0)] [] h = (R 74 5 [some (.ref x0)] [.ref (hn h), .ref x0] (nw h 101 1100 1100)) := (tr (r74_0 ..) (tr (r74_1 ..) (tr (r74_2 ..) (tr (r74_3 ..) (r74_4 ..)))))
theorem b74_5 (x0 : Nat) (s0 : Nat) (s1 : Nat) (h : A_H) : R 74 5 [some (.ref x0)] [.ref s1, .ref s0] h = (cond (isO h s0 11) (R 74 6 [some (.ref x0)] [] (wP h s0 0 (some s1))) none) := (r74_5 ..)
theorem b74_6 (x0 : Nat) (h : A_H) : R 74 6 [some (.ref x0)] [] h = (R 74 8 [some (.ref x0)] [.ref (hn h), .ref x0] (nw h 7 15 15)) := (tr (r74_6 ..) (r74_7 ..))
theorem b74_8 (x0 : Nat) (s0 : Nat) (s1 : Nat) (h : A_H) : R 74 8 [some (.ref x0)] [.ref s1, .ref s0] h = (cond (isO h x0 11 && (hP h x0 0).isSome) (a_back R 74 (21, [.ref s1, .ref ((hP h x0 0).getD 0)], h, false, none, 12, [some (.ref x0)], [.ref s1, .ref s0]) (C 21 [.ref s1, .ref ((hP h x0 0).getD 0)] h)) none) := (tr (r74_8 ..) (tr (r74_9 ..) (tr (r74_10 ..) (cgT (r74_11 ..)))))
theorem b74_12 (x0 : Nat) (s0 : Nat) (s1 : Nat) (h : A_H) : R 74 12 [some (.ref x0)] [.ref s1, .ref s0] h = (cond (isO h s0 11) (R 74 13 [some (.ref x0)] [] (wP h s0 2 (some s1))) none) := (r74_12 ..)
theorem b74_13 (x0 : Nat) (h : A_H) : R 74 13 [some (.ref x0)] [] h = (R 74 15 [some (.ref x0)] [.ref (hn h), .ref x0] (nw h 9 15 15)) := (tr (r74_13 ..) (r74_14 ..))
theorem b74_15 (x0 : Nat) (s0 : Nat) (s1 : Nat) (h : A_H) : R 74 15 [some (.ref x0)] [.ref s1, .ref s0] h = (a_back R 74 (55, [.ref s1], h, false, none, 17, [some (.ref x0)], [.ref s1, .ref s0]) (C 55 [.ref s1] h)) := (tr (r74_15 ..) (r74_16 ..))
theorem b74_17 (x0 : Nat) (s0 : Nat) (s1 : Nat) (h : A_H) : R 74 17 [some (.ref x0)] [.ref s1, .ref s0] h = (cond (isO h s0 11) (R 74 18 [some (.ref x0)] [] (wP h s0 3 (some s1))) none) := (r74_17 ..)
theorem b74_18 (x0 : Nat) (h : A_H) : R 74 18 [some (.ref x0)] [] h = (R 74 20 [some (.ref x0)] [.ref (hn h), .ref x0] (nw h 8 6 6)) := (tr (r74_18 ..) (r74_19 ..))
theorem b74_20 (x0 : Nat) (s0 : Nat) (s1 : Nat) (h : A_H) : R 74 20 [some (.ref x0)] [.ref s1, .ref s0] h = (a_back R 74 (48, [.ref s1], h, false, none, 22, [some (.ref x0)], [.ref s1, .ref s0]) (C 48 [.ref s1] h)) := (tr (r74_20 ..) (r74_21 ..))
theorem b74_22 (x0 : Nat) (s0 : Nat) (s1 : Nat) (h : A_H) : R 74 22 [some (.ref x0)] [.ref s1, .ref s0] h = (cond (isO h s0 11) (R 74 23 [some (.ref x0)] [] (wP h s0 5 (some s1))) none) := (r74_22 ..)
theorem b74_23 (x0 : Nat) (h : A_H) : R 74 23 [some (.ref x0)] [] h = (R 74 25 [some (.ref x0)] [.ref (hn h), .ref x0] (nw h 4 5 5)) := (tr (r74_23 ..) (r74_24 ..))
theorem b74_25 (x0 : Nat) (s0 : Nat) (s1 : Nat) (h : A_H) : R 74 25 [some (.ref x0)] [.ref s1, .ref s0] h = (a_back R 74 (10, [.ref s1], h, false, none, 27, [some (.ref x0)], [.ref s1, .ref s0]) (C 10 [.ref s1] h)) := (tr (r74_25 ..) (r74_26 ..))
theorem b74_27 (x0 : Nat) (s0 : Nat) (s1 : Nat) (h : A_H) : R 74 27 [some (.ref x0)] [.ref s1, .ref s0] h = (cond (isO h s0 11) (R 74 28 [some (.ref x0)] [] (wP h s0 6 (some s1))) none) := (r74_27 ..)
theorem b74_28 (x0 : Nat) (h : A_H) : R 74 28 [some (.ref x0)] [] h = (R 74 30 [some (.ref x0)] [.ref (hn h), .ref x0] (nw h 6 3 3)) := (tr (r74_28 ..) (r74_29 ..))
theorem b74_30 (x0 : Nat) (s0 : Nat) (s1 : Nat) (h : A_H) : R 74 30 [some (.ref x0)] [.ref s1, .ref s0] h = (a_back R 74 (17, [.ref s1], h, false, none, 32, [some (.ref x0)], [.ref s1, .ref s0]) (C 17 [.ref s1] h)) := (tr (r74_30 ..) (r74_31 ..))
theorem b74_32 (x0 : Nat) (s0 : Nat) (s1 : Nat) (h : A_H) : R 74 32 [some (.ref x0)] [.ref s1, .ref s0] h = (cond (isO h s0 11) (R 74 33 [some (.ref x0)] [] (wP h s0 7 (some s1))) none) := (r74_32 ..)
theorem b74_33 (x0 : Nat) (h : A_H) : R 74 33 [some (.ref x0)] [] h = (some (some none, h)) := (r74_33 ..)
theorem e75 (x0 : Nat) (x1 : Int32) (x2 : Int32) (x3 : Int32) (x4 : Int32) (x5 : Int32) (h : A_H) : C 75 [.ref x0, .int x1, .int x2, .int x3, .int x4, .int x5] h = R 75 0 [some (.ref x0), some (.int x1), some (.int x2), some (.int x3), some (.int x4), some (.int x5)] [] h := rfl
theorem r75_0 (ls : A_V) (st : List Value) (h : A_H) : R 75 0 ls st h = a_do a_nL R R 75 (s_aldl 0 1 ls st h) := a_R_eq ..
theorem r75_1 (ls : A_V) (st : List Value) (h : A_H) : R 75 1 ls st h = a_do a_nL R R 75 (s_getI 11 1 2 ls st h) := a_R_eq ..
theorem r75_2 (ls : A_V) (st : List Value) (h : A_H) : R 75 2 ls st h = a_do a_nL R R 75 (s_push (.int 20) 3 ls st h) := a_R_eq ..
theorem r75_3 (ls : A_V) (st : List Value) (h : A_H) : R 75 3 ls st h = a_do a_nL R R 75 (s_bi (fun x y => x + y) 4 ls st h) := a_R_eq ..
theorem r75_4 (ls : A_V) (st : List Value) (h : A_H) : R 75 4 ls st h = a_do a_nL R R 75 (s_push (.int 1100) 5 ls st h) := a_R_eq ..
theorem r75_5 (ls : A_V) (st : List Value) (h : A_H) : R 75 5 ls st h = a_do a_nL R R 75 (s_if2 (fun x y => decide (x ≤ y)) 8 6 ls st h) := a_R_eq ..
theorem r75_6 (ls : A_V) (st : List Value) (h : A_H) : R 75 6 ls st h = a_do a_nL R R 75 (s_push (.int (-1)) 7 ls st h) := a_R_eq ..
theorem r75_7 (ls : A_V) (st : List Value) (h : A_H) : R 75 7 ls st h = a_do a_nL R R 75 (s_iret ls st h) := a_R_eq ..
theorem r75_8 (ls : A_V) (st : List Value) (h : A_H) : R 75 8 ls st h = a_do a_nL R R 75 (s_aldl 0 9 ls st h) := a_R_eq ..
theorem r75_9 (ls : A_V) (st : List Value) (h : A_H) : R 75 9 ls st h = a_do a_nL R R 75 (s_ildl 1 10 ls st h) := a_R_eq ..
theorem r75_10 (ls : A_V) (st : List Value) (h : A_H) : R 75 10 ls st h = a_do a_nL R R 75 (s_call 14 76 2 3 false 11 ls st h) := a_R_eq ..
theorem r75_11 (ls : A_V) (st : List Value) (h : A_H) : R 75 11 ls st h = a_do a_nL R R 75 (s_aldl 0 12 ls st h) := a_R_eq ..
theorem r75_12 (ls : A_V) (st : List Value) (h : A_H) : R 75 12 ls st h = a_do a_nL R R 75 (s_ildl 2 13 ls st h) := a_R_eq ..
theorem r75_13 (ls : A_V) (st : List Value) (h : A_H) : R 75 13 ls st h = a_do a_nL R R 75 (s_call 14 76 2 3 false 14 ls st h) := a_R_eq ..
theorem r75_14 (ls : A_V) (st : List Value) (h : A_H) : R 75 14 ls st h = a_do a_nL R R 75 (s_aldl 0 15 ls st h) := a_R_eq ..
theorem r75_15 (ls : A_V) (st : List Value) (h : A_H) : R 75 15 ls st h = a_do a_nL R R 75 (s_ildl 3 16 ls st h) := a_R_eq ..
theorem r75_16 (ls : A_V) (st : List Value) (h : A_H) : R 75 16 ls st h = a_do a_nL R R 75 (s_call 14 76 2 3 false 17 ls st h) := a_R_eq ..
theorem r75_17 (ls : A_V) (st : List Value) (h : A_H) : R 75 17 ls st h = a_do a_nL R R 75 (s_aldl 0 18 ls st h) := a_R_eq ..
theorem r75_18 (ls : A_V) (st : List Value) (h : A_H) : R 75 18 ls st h = a_do a_nL R R 75 (s_ildl 4 19 ls st h) := a_R_eq ..
theorem r75_19 (ls : A_V) (st : List Value) (h : A_H) : R 75 19 ls st h = a_do a_nL R R 75 (s_call 14 76 2 3 false 20 ls st h) := a_R_eq ..
theorem r75_20 (ls : A_V) (st : List Value) (h : A_H) : R 75 20 ls st h = a_do a_nL R R 75 (s_aldl 0 21 ls st h) := a_R_eq ..
theorem r75_21 (ls : A_V) (st : List Value) (h : A_H) : R 75 21 ls st h = a_do a_nL R R 75 (s_ildl 5 22 ls st h) := a_R_eq ..
theorem r75_22 (ls : A_V) (st : List Value) (h : A_H) : R 75 22 ls st h = a_do a_nL R R 75 (s_call 14 76 2 3 false 23 ls st h) := a_R_eq ..
theorem r75_23 (ls : A_V) (st : List Value) (h : A_H) : R 75 23 ls st h = a_do a_nL R R 75 (s_aldl 0 24 ls st h) := a_R_eq ..
theorem r75_24 (ls : A_V) (st : List Value) (h : A_H) : R 75 24 ls st h = a_do a_nL R R 75 (s_getI 11 1 25 ls st h) := a_R_eq ..
theorem r75_25 (ls : A_V) (st : List Value) (h : A_H) : R 75 25 ls st h = a_do a_nL R R 75 (s_iret ls st h) := a_R_eq ..
theorem b75_0 (x0 : Nat) (x1 : Int32) (x2 : Int32) (x3 : Int32) (x4 : Int32) (x5 : Int32) (h : A_H) : R 75 0 [some (.ref x0), some (.int x1), some (.int x2), some (.int x3), some (.int x4), some (.int x5)] [] h = (cond (isO h x0 11) (cond (decide (((hI h x0 1) + (20 : Int32)) ≤ (1100 : Int32))) (cond (isO h x0 11) (a_back R 75 (76, [.ref x0, .int x1], h, false, none, 11, [some (.ref x0), some (.int x1), some (.int x2), some (.int x3), some (.int x4), some (.int x5)], []) (C 76 [.ref x0, .int x1] h)) none) (some (some (some (.int (-1 : Int32))), h))) none) := (tr (r75_0 ..) (tr (r75_1 ..) (cgT (tr (r75_2 ..) (tr (r75_3 ..) (tr (r75_4 ..) (tr (r75_5 ..) (cgB (tr (r75_8 ..) (tr (r75_9 ..) (r75_10 ..))) (tr (r75_6 ..) (r75_7 ..))))))))))
theorem b75_11 (x0 : Nat) (x1 : Int32) (x2 : Int32) (x3 : Int32) (x4 : Int32) (x5 : Int32) (h : A_H) : R 75 11 [some (.ref x0), some (.int x1), some (.int x2), some (.int x3), some (.int x4), some (.int x5)] [] h = (cond (isO h x0 11) (a_back R 75 (76, [.ref x0, .int x2], h, false, none, 14, [some (.ref x0), some (.int x1), some (.int x2), some (.int x3), some (.int x4), some (.int x5)], []) (C 76 [.ref x0, .int x2] h)) none) := (tr (r75_11 ..) (tr (r75_12 ..) (r75_13 ..)))
theorem b75_14 (x0 : Nat) (x1 : Int32) (x2 : Int32) (x3 : Int32) (x4 : Int32) (x5 : Int32) (h : A_H) : R 75 14 [some (.ref x0), some (.int x1), some (.int x2), some (.int x3), some (.int x4), some (.int x5)] [] h = (cond (isO h x0 11) (a_back R 75 (76, [.ref x0, .int x3], h, false, none, 17, [some (.ref x0), some (.int x1), some (.int x2), some (.int x3), some (.int x4), some (.int x5)], []) (C 76 [.ref x0, .int x3] h)) none) := (tr (r75_14 ..) (tr (r75_15 ..) (r75_16 ..)))
theorem b75_17 (x0 : Nat) (x1 : Int32) (x2 : Int32) (x3 : Int32) (x4 : Int32) (x5 : Int32) (h : A_H) : R 75 17 [some (.ref x0), some (.int x1), some (.int x2), some (.int x3), some (.int x4), some (.int x5)] [] h = (cond (isO h x0 11) (a_back R 75 (76, [.ref x0, .int x4], h, false, none, 20, [some (.ref x0), some (.int x1), some (.int x2), some (.int x3), some (.int x4), some (.int x5)], []) (C 76 [.ref x0, .int x4] h)) none) := (tr (r75_17 ..) (tr (r75_18 ..) (r75_19 ..)))
theorem b75_20 (x0 : Nat) (x1 : Int32) (x2 : Int32) (x3 : Int32) (x4 : Int32) (x5 : Int32) (h : A_H) : R 75 20 [some (.ref x0), some (.int x1), some (.int x2), some (.int x3), some (.int x4), some (.int x5)] [] h = (cond (isO h x0 11) (a_back R 75 (76, [.ref x0, .int x5], h, false, none, 23, [some (.ref x0), some (.int x1), some (.int x2), some (.int x3), some (.int x4), some (.int x5)], []) (C 76 [.ref x0, .int x5] h)) none) := (tr (r75_20 ..) (tr (r75_21 ..) (r75_22 ..)))
theorem b75_23 (x0 : Nat) (x1 : Int32) (x2 : Int32) (x3 : Int32) (x4 : Int32) (x5 : Int32) (h : A_H) : R 75 23 [some (.ref x0), some (.int x1), some (.int x2), some (.int x3), some (.int x4), some (.int x5)] [] h = (cond (isO h x0 11) (some (some (some (.int (hI h x0 1))), h)) none) := (tr (r75_23 ..) (tr (r75_24 ..) (cgT (r75_25 ..))))
theorem e76 (x0 : Nat) (x1 : Int32) (h : A_H) : C 76 [.ref x0, .int x1] h = R 76 0 [some (.ref x0), some (.int x1), none] [] h := rfl
theorem r76_0 (ls : A_V) (st : List Value) (h : A_H) : R 76 0 ls st h = a_do a_nL R R 76 (s_push (.int 24) 1 ls st h) := a_R_eq ..
theorem r76_1 (ls : A_V) (st : List Value) (h : A_H) : R 76 1 ls st h = a_do a_nL R R 76 (s_ist 2 2 ls st h) := a_R_eq ..
theorem r76_2 (ls : A_V) (st : List Value) (h : A_H) : R 76 2 ls st h = a_do a_nL R R 76 (s_ildl 2 3 ls st h) := a_R_eq ..
theorem r76_3 (ls : A_V) (st : List Value) (h : A_H) : R 76 3 ls st h = a_do a_nL R R 76 (s_if1 (fun x => decide (x < 0)) 25 4 ls st h) := a_R_eq ..
theorem r76_4 (ls : A_V) (st : List Value) (h : A_H) : R 76 4 ls st h = a_do a_nL R R 76 (s_aldl 0 5 ls st h) := a_R_eq ..
theorem r76_5 (ls : A_V) (st : List Value) (h : A_H) : R 76 5 ls st h = a_do a_nL R R 76 (s_getI 11 1 6 ls st h) := a_R_eq ..
theorem r76_6 (ls : A_V) (st : List Value) (h : A_H) : R 76 6 ls st h = a_do a_nL R R 76 (s_push (.int 1100) 7 ls st h) := a_R_eq ..
theorem r76_7 (ls : A_V) (st : List Value) (h : A_H) : R 76 7 ls st h = a_do a_nL R R 76 (s_if2 (fun x y => decide (y ≤ x)) 25 8 ls st h) := a_R_eq ..
theorem r76_8 (ls : A_V) (st : List Value) (h : A_H) : R 76 8 ls st h = a_do a_nL R R 76 (s_aldl 0 9 ls st h) := a_R_eq ..
theorem r76_9 (ls : A_V) (st : List Value) (h : A_H) : R 76 9 ls st h = a_do a_nL R R 76 (s_getR 11 0 10 ls st h) := a_R_eq ..
theorem r76_10 (ls : A_V) (st : List Value) (h : A_H) : R 76 10 ls st h = a_do a_nL R R 76 (s_aldl 0 11 ls st h) := a_R_eq ..
theorem r76_11 (ls : A_V) (st : List Value) (h : A_H) : R 76 11 ls st h = a_do a_nL R R 76 (s_getI 11 1 12 ls st h) := a_R_eq ..
theorem r76_12 (ls : A_V) (st : List Value) (h : A_H) : R 76 12 ls st h = a_do a_nL R R 76 (s_ildl 1 13 ls st h) := a_R_eq ..
theorem r76_13 (ls : A_V) (st : List Value) (h : A_H) : R 76 13 ls st h = a_do a_nL R R 76 (s_ildl 2 14 ls st h) := a_R_eq ..
theorem r76_14 (ls : A_V) (st : List Value) (h : A_H) : R 76 14 ls st h = a_do a_nL R R 76 (s_bi (fun x y => x >>> (y &&& 31)) 15 ls st h) := a_R_eq ..
theorem r76_15 (ls : A_V) (st : List Value) (h : A_H) : R 76 15 ls st h = a_do a_nL R R 76 (s_uii (fun x => x.toInt8.toInt32) 16 ls st h) := a_R_eq ..
theorem r76_16 (ls : A_V) (st : List Value) (h : A_H) : R 76 16 ls st h = a_do a_nL R R 76 (s_bas 17 ls st h) := a_R_eq ..
theorem r76_17 (ls : A_V) (st : List Value) (h : A_H) : R 76 17 ls st h = a_do a_nL R R 76 (s_aldl 0 18 ls st h) := a_R_eq ..
theorem r76_18 (ls : A_V) (st : List Value) (h : A_H) : R 76 18 ls st h = a_do a_nL R R 76 (s_dup 19 ls st h) := a_R_eq ..
theorem r76_19 (ls : A_V) (st : List Value) (h : A_H) : R 76 19 ls st h = a_do a_nL R R 76 (s_getI 11 1 20 ls st h) := a_R_eq ..
theorem r76_20 (ls : A_V) (st : List Value) (h : A_H) : R 76 20 ls st h = a_do a_nL R R 76 (s_push (.int 1) 21 ls st h) := a_R_eq ..
theorem r76_21 (ls : A_V) (st : List Value) (h : A_H) : R 76 21 ls st h = a_do a_nL R R 76 (s_bi (fun x y => x + y) 22 ls st h) := a_R_eq ..
theorem r76_22 (ls : A_V) (st : List Value) (h : A_H) : R 76 22 ls st h = a_do a_nL R R 76 (s_putI 11 1 23 ls st h) := a_R_eq ..
theorem r76_23 (ls : A_V) (st : List Value) (h : A_H) : R 76 23 ls st h = a_do a_nL R R 76 (s_inc 2 (-8) 24 ls st h) := a_R_eq ..
theorem r76_24 (ls : A_V) (st : List Value) (h : A_H) : R 76 24 ls st h = a_do a_nL R R 76 (s_goto 2 ls st h) := a_R_eq ..
theorem r76_25 (ls : A_V) (st : List Value) (h : A_H) : R 76 25 ls st h = a_do a_nL R R 76 (s_vret ls st h) := a_R_eq ..
theorem b76_0 (x0 : Nat) (x1 : Int32) (l2 : Option Value) (h : A_H) : R 76 0 [some (.ref x0), some (.int x1), l2] [] h = (R 76 2 [some (.ref x0), some (.int x1), some (.int (24 : Int32))] [] h) := (tr (r76_0 ..) (r76_1 ..))
theorem b76_2 (x0 : Nat) (x1 : Int32) (x2 : Int32) (h : A_H) : R 76 2 [some (.ref x0), some (.int x1), some (.int x2)] [] h = (cond (decide (x2 < 0)) (some (some none, h)) (cond (isO h x0 11) (cond (decide ((1100 : Int32) ≤ (hI h x0 1))) (some (some none, h)) (cond (isO h x0 11 && (hP h x0 0).isSome) (cond (isO h x0 11) (cond (isA h ((hP h x0 0).getD 0) 1 (hI h x0 1)) (R 76 17 [some (.ref x0), some (.int x1), some (.int x2)] [] (wI h ((hP h x0 0).getD 0) ((hI h x0 1)).toNatClampNeg (((x1 >>> (x2 &&& 31)).toInt8.toInt32)).toInt8.toInt32)) none) none) none)) none)) := (tr (r76_2 ..) (tr (r76_3 ..) (cgB (r76_25 ..) (tr (r76_4 ..) (tr (r76_5 ..) (cgT (tr (r76_6 ..) (tr (r76_7 ..) (cgB (r76_25 ..) (tr (r76_8 ..) (tr (r76_9 ..) (cgT (tr (r76_10 ..) (tr (r76_11 ..) (cgT (tr (r76_12 ..) (tr (r76_13 ..) (tr (r76_14 ..) (tr (r76_15 ..) (r76_16 ..))))))))))))))))))))
theorem b76_17 (x0 : Nat) (x1 : Int32) (x2 : Int32) (h : A_H) : R 76 17 [some (.ref x0), some (.int x1), some (.int x2)] [] h = (cond (isO h x0 11) (cond (isO h x0 11) (R 76 23 [some (.ref x0), some (.int x1), some (.int x2)] [] (wI h x0 1 ((hI h x0 1) + (1 : Int32)))) none) none) := (tr (r76_17 ..) (tr (r76_18 ..) (tr (r76_19 ..) (cgT (tr (r76_20 ..) (tr (r76_21 ..) (r76_22 ..)))))))
theorem b76_23 (x0 : Nat) (x1 : Int32) (x2 : Int32) (h : A_H) : R 76 23 [some (.ref x0), some (.int x1), some (.int x2)] [] h = (R 76 2 [some (.ref x0), some (.int x1), some (.int (x2 + (-8)))] [] h) := (tr (r76_23 ..) (r76_24 ..))
theorem e77 (x0 : Nat) (x1 : Int32) (h : A_H) : C 77 [.ref x0, .int x1] h = R 77 0 [some (.ref x0), some (.int x1), none] [] h := rfl
theorem r77_0 (ls : A_V) (st : List Value) (h : A_H) : R 77 0 ls st h = a_do a_nL R R 77 (s_aldl 0 1 ls st h) := a_R_eq ..
theorem r77_1 (ls : A_V) (st : List Value) (h : A_H) : R 77 1 ls st h = a_do a_nL R R 77 (s_ildl 1 2 ls st h) := a_R_eq ..
theorem r77_2 (ls : A_V) (st : List Value) (h : A_H) : R 77 2 ls st h = a_do a_nL R R 77 (s_if1 (fun x => decide (x < 0)) 9 3 ls st h) := a_R_eq ..
theorem r77_3 (ls : A_V) (st : List Value) (h : A_H) : R 77 3 ls st h = a_do a_nL R R 77 (s_ildl 1 4 ls st h) := a_R_eq ..
theorem r77_4 (ls : A_V) (st : List Value) (h : A_H) : R 77 4 ls st h = a_do a_nL R R 77 (s_aldl 0 5 ls st h) := a_R_eq ..
theorem r77_5 (ls : A_V) (st : List Value) (h : A_H) : R 77 5 ls st h = a_do a_nL R R 77 (s_getI 11 1 6 ls st h) := a_R_eq ..
theorem r77_6 (ls : A_V) (st : List Value) (h : A_H) : R 77 6 ls st h = a_do a_nL R R 77 (s_if2 (fun x y => decide (y < x)) 9 7 ls st h) := a_R_eq ..
theorem r77_7 (ls : A_V) (st : List Value) (h : A_H) : R 77 7 ls st h = a_do a_nL R R 77 (s_push (.int 0) 8 ls st h) := a_R_eq ..
theorem r77_8 (ls : A_V) (st : List Value) (h : A_H) : R 77 8 ls st h = a_do a_nL R R 77 (s_goto 10 ls st h) := a_R_eq ..
theorem r77_9 (ls : A_V) (st : List Value) (h : A_H) : R 77 9 ls st h = a_do a_nL R R 77 (s_push (.int 2) 10 ls st h) := a_R_eq ..
theorem r77_10 (ls : A_V) (st : List Value) (h : A_H) : R 77 10 ls st h = a_do a_nL R R 77 (s_call 14 134 2 2 true 11 ls st h) := a_R_eq ..
theorem r77_11 (ls : A_V) (st : List Value) (h : A_H) : R 77 11 ls st h = a_do a_nL R R 77 (s_if1 (fun x => decide (x = 0)) 14 12 ls st h) := a_R_eq ..
theorem r77_12 (ls : A_V) (st : List Value) (h : A_H) : R 77 12 ls st h = a_do a_nL R R 77 (s_push (.int (-1)) 13 ls st h) := a_R_eq ..
theorem r77_13 (ls : A_V) (st : List Value) (h : A_H) : R 77 13 ls st h = a_do a_nL R R 77 (s_iret ls st h) := a_R_eq ..
theorem r77_14 (ls : A_V) (st : List Value) (h : A_H) : R 77 14 ls st h = a_do a_nL R R 77 (s_aldl 0 15 ls st h) := a_R_eq ..
theorem r77_15 (ls : A_V) (st : List Value) (h : A_H) : R 77 15 ls st h = a_do a_nL R R 77 (s_getR 11 2 16 ls st h) := a_R_eq ..
theorem r77_16 (ls : A_V) (st : List Value) (h : A_H) : R 77 16 ls st h = a_do a_nL R R 77 (s_ildl 1 17 ls st h) := a_R_eq ..
theorem r77_17 (ls : A_V) (st : List Value) (h : A_H) : R 77 17 ls st h = a_do a_nL R R 77 (s_call 10 23 2 3 true 18 ls st h) := a_R_eq ..
theorem r77_18 (ls : A_V) (st : List Value) (h : A_H) : R 77 18 ls st h = a_do a_nL R R 77 (s_ist 2 19 ls st h) := a_R_eq ..
theorem r77_19 (ls : A_V) (st : List Value) (h : A_H) : R 77 19 ls st h = a_do a_nL R R 77 (s_aldl 0 20 ls st h) := a_R_eq ..
theorem r77_20 (ls : A_V) (st : List Value) (h : A_H) : R 77 20 ls st h = a_do a_nL R R 77 (s_push (.int 0) 21 ls st h) := a_R_eq ..
theorem r77_21 (ls : A_V) (st : List Value) (h : A_H) : R 77 21 ls st h = a_do a_nL R R 77 (s_putI 11 1 22 ls st h) := a_R_eq ..
theorem r77_22 (ls : A_V) (st : List Value) (h : A_H) : R 77 22 ls st h = a_do a_nL R R 77 (s_aldl 0 23 ls st h) := a_R_eq ..
theorem r77_23 (ls : A_V) (st : List Value) (h : A_H) : R 77 23 ls st h = a_do a_nL R R 77 (s_ildl 2 24 ls st h) := a_R_eq ..
theorem r77_24 (ls : A_V) (st : List Value) (h : A_H) : R 77 24 ls st h = a_do a_nL R R 77 (s_if1 (fun x => decide (x = 0)) 27 25 ls st h) := a_R_eq ..
theorem r77_25 (ls : A_V) (st : List Value) (h : A_H) : R 77 25 ls st h = a_do a_nL R R 77 (s_push (.int 0) 26 ls st h) := a_R_eq ..
theorem r77_26 (ls : A_V) (st : List Value) (h : A_H) : R 77 26 ls st h = a_do a_nL R R 77 (s_goto 28 ls st h) := a_R_eq ..
theorem r77_27 (ls : A_V) (st : List Value) (h : A_H) : R 77 27 ls st h = a_do a_nL R R 77 (s_push (.int 4) 28 ls st h) := a_R_eq ..
theorem r77_28 (ls : A_V) (st : List Value) (h : A_H) : R 77 28 ls st h = a_do a_nL R R 77 (s_call 14 134 2 2 true 29 ls st h) := a_R_eq ..
theorem r77_29 (ls : A_V) (st : List Value) (h : A_H) : R 77 29 ls st h = a_do a_nL R R 77 (s_if1 (fun x => decide (x = 0)) 32 30 ls st h) := a_R_eq ..
theorem r77_30 (ls : A_V) (st : List Value) (h : A_H) : R 77 30 ls st h = a_do a_nL R R 77 (s_push (.int (-1)) 31 ls st h) := a_R_eq ..
theorem r77_31 (ls : A_V) (st : List Value) (h : A_H) : R 77 31 ls st h = a_do a_nL R R 77 (s_iret ls st h) := a_R_eq ..
theorem r77_32 (ls : A_V) (st : List Value) (h : A_H) : R 77 32 ls st h = a_do a_nL R R 77 (s_aldl 0 33 ls st h) := a_R_eq ..
theorem r77_33 (ls : A_V) (st : List Value) (h : A_H) : R 77 33 ls st h = a_do a_nL R R 77 (s_aldl 0 34 ls st h) := a_R_eq ..
theorem r77_34 (ls : A_V) (st : List Value) (h : A_H) : R 77 34 ls st h = a_do a_nL R R 77 (s_getR 11 2 35 ls st h) := a_R_eq ..
theorem r77_35 (ls : A_V) (st : List Value) (h : A_H) : R 77 35 ls st h = a_do a_nL R R 77 (s_aldl 0 36 ls st h) := a_R_eq ..
theorem r77_36 (ls : A_V) (st : List Value) (h : A_H) : R 77 36 ls st h = a_do a_nL R R 77 (s_getR 11 3 37 ls st h) := a_R_eq ..
theorem r77_37 (ls : A_V) (st : List Value) (h : A_H) : R 77 37 ls st h = a_do a_nL R R 77 (s_call 10 22 2 3 true 38 ls st h) := a_R_eq ..
theorem r77_38 (ls : A_V) (st : List Value) (h : A_H) : R 77 38 ls st h = a_do a_nL R R 77 (s_putR 11 3 39 ls st h) := a_R_eq ..
theorem r77_39 (ls : A_V) (st : List Value) (h : A_H) : R 77 39 ls st h = a_do a_nL R R 77 (s_aldl 0 40 ls st h) := a_R_eq ..
theorem r77_40 (ls : A_V) (st : List Value) (h : A_H) : R 77 40 ls st h = a_do a_nL R R 77 (s_push (.int 1) 41 ls st h) := a_R_eq ..
theorem r77_41 (ls : A_V) (st : List Value) (h : A_H) : R 77 41 ls st h = a_do a_nL R R 77 (s_putZ 11 4 42 ls st h) := a_R_eq ..
theorem r77_42 (ls : A_V) (st : List Value) (h : A_H) : R 77 42 ls st h = a_do a_nL R R 77 (s_aldl 0 43 ls st h) := a_R_eq ..
theorem r77_43 (ls : A_V) (st : List Value) (h : A_H) : R 77 43 ls st h = a_do a_nL R R 77 (s_getR 11 5 44 ls st h) := a_R_eq ..
theorem r77_44 (ls : A_V) (st : List Value) (h : A_H) : R 77 44 ls st h = a_do a_nL R R 77 (s_aldl 0 45 ls st h) := a_R_eq ..
theorem r77_45 (ls : A_V) (st : List Value) (h : A_H) : R 77 45 ls st h = a_do a_nL R R 77 (s_getR 11 3 46 ls st h) := a_R_eq ..
theorem r77_46 (ls : A_V) (st : List Value) (h : A_H) : R 77 46 ls st h = a_do a_nL R R 77 (s_call 11 49 2 3 false 47 ls st h) := a_R_eq ..
theorem r77_47 (ls : A_V) (st : List Value) (h : A_H) : R 77 47 ls st h = a_do a_nL R R 77 (s_aldl 0 48 ls st h) := a_R_eq ..
theorem r77_48 (ls : A_V) (st : List Value) (h : A_H) : R 77 48 ls st h = a_do a_nL R R 77 (s_getR 11 6 49 ls st h) := a_R_eq ..
theorem r77_49 (ls : A_V) (st : List Value) (h : A_H) : R 77 49 ls st h = a_do a_nL R R 77 (s_call 7 11 1 1 false 50 ls st h) := a_R_eq ..
theorem r77_50 (ls : A_V) (st : List Value) (h : A_H) : R 77 50 ls st h = a_do a_nL R R 77 (s_aldl 0 51 ls st h) := a_R_eq ..
theorem r77_51 (ls : A_V) (st : List Value) (h : A_H) : R 77 51 ls st h = a_do a_nL R R 77 (s_getR 11 3 52 ls st h) := a_R_eq ..
theorem r77_52 (ls : A_V) (st : List Value) (h : A_H) : R 77 52 ls st h = a_do a_nL R R 77 (s_getI 9 5 53 ls st h) := a_R_eq ..
theorem r77_53 (ls : A_V) (st : List Value) (h : A_H) : R 77 53 ls st h = a_do a_nL R R 77 (s_iret ls st h) := a_R_eq ..
theorem b77_0 (x0 : Nat) (x1 : Int32) (l2 : Option Value) (h : A_H) : R 77 0 [some (.ref x0), some (.int x1), l2] [] h = (cond (decide (x1 < 0)) (cond (isO h x0 11) (a_back R 77 (134, [.ref x0, .int (2 : Int32)], h, true, none, 11, [some (.ref x0), some (.int x1), l2], []) (C 134 [.ref x0, .int (2 : Int32)] h)) none) (cond (isO h x0 11) (cond (decide ((hI h x0 1) < x1)) (cond (isO h x0 11) (a_back R 77 (134, [.ref x0, .int (2 : Int32)], h, true, none, 11, [some (.ref x0), some (.int x1), l2], []) (C 134 [.ref x0, .int (2 : Int32)] h)) none) (cond (isO h x0 11) (a_back R 77 (134, [.ref x0, .int (0 : Int32)], h, true, none, 11, [some (.ref x0), some (.int x1), l2], []) (C 134 [.ref x0, .int (0 : Int32)] h)) none)) none)) := (tr (r77_0 ..) (tr (r77_1 ..) (tr (r77_2 ..) (cgB (tr (r77_9 ..) (r77_10 ..)) (tr (r77_3 ..) (tr (r77_4 ..) (tr (r77_5 ..) (cgT (tr (r77_6 ..) (cgB (tr (r77_9 ..) (r77_10 ..)) (tr (r77_7 ..) (tr (r77_8 ..) (r77_10 ..)))))))))))))
theorem b77_11 (x0 : Nat) (x1 : Int32) (l2 : Option Value) (s0 : Int32) (h : A_H) : R 77 11 [some (.ref x0), some (.int x1), l2] [.int s0] h = (cond (decide (s0 = 0)) (cond (isO h x0 11 && (hP h x0 2).isSome) (cond (isO h ((hP h x0 2).getD 0) 7) (a_back R 77 (23, [.ref ((hP h x0 2).getD 0), .int x1], h, true, none, 18, [some (.ref x0), some (.int x1), l2], []) (C 23 [.ref ((hP h x0 2).getD 0), .int x1] h)) none) none) (some (some (some (.int (-1 : Int32))), h))) := (tr (r77_11 ..) (cgB (tr (r77_14 ..) (tr (r77_15 ..) (cgT (tr (r77_16 ..) (r77_17 ..))))) (tr (r77_12 ..) (r77_13 ..))))
theorem b77_18 (x0 : Nat) (x1 : Int32) (l2 : Option Value) (s0 : Int32) (h : A_H) : R 77 18 [some (.ref x0), some (.int x1), l2] [.int s0] h = (cond (isO h x0 11) (R 77 22 [some (.ref x0), some (.int x1), some (.int s0)] [] (wI h x0 1 (0 : Int32))) none) := (tr (r77_18 ..) (tr (r77_19 ..) (tr (r77_20 ..) (r77_21 ..))))
theorem b77_22 (x0 : Nat) (x1 : Int32) (x2 : Int32) (h : A_H) : R 77 22 [some (.ref x0), some (.int x1), some (.int x2)] [] h = (cond (decide (x2 = 0)) (cond (isO h x0 11) (a_back R 77 (134, [.ref x0, .int (4 : Int32)], h, true, none, 29, [some (.ref x0), some (.int x1), some (.int x2)], []) (C 134 [.ref x0, .int (4 : Int32)] h)) none) (cond (isO h x0 11) (a_back R 77 (134, [.ref x0, .int (0 : Int32)], h, true, none, 29, [some (.ref x0), some (.int x1), some (.int x2)], []) (C 134 [.ref x0, .int (0 : Int32)] h)) none)) := (tr (r77_22 ..) (tr (r77_23 ..) (tr (r77_24 ..) (cgB (tr (r77_27 ..) (r77_28 ..)) (tr (r77_25 ..) (tr (r77_26 ..) (r77_28 ..)))))))
theorem b77_29 (x0 : Nat) (x1 : Int32) (x2 : Int32) (s0 : Int32) (h : A_H) : R 77 29 [some (.ref x0), some (.int x1), some (.int x2)] [.int s0] h = (cond (decide (s0 = 0)) (cond (isO h x0 11 && (hP h x0 2).isSome) (cond (isO h x0 11 && (hP h x0 3).isSome) (cond (isO h ((hP h x0 2).getD 0) 7) (a_back R 77 (22, [.ref ((hP h x0 2).getD 0), .ref ((hP h x0 3).getD 0)], h, true, none, 38, [some (.ref x0), some (.int x1), some (.int x2)], [.ref x0]) (C 22 [.ref ((hP h x0 2).getD 0), .ref ((hP h x0 3).getD 0)] h)) none) none) none) (some (some (some (.int (-1 : Int32))), h))) := (tr (r77_29 ..) (cgB (tr (r77_32 ..) (tr (r77_33 ..) (tr (r77_34 ..) (cgT (tr (r77_35 ..) (tr (r77_36 ..) (cgT (r77_37 ..)))))))) (tr (r77_30 ..) (r77_31 ..))))
theorem b77_38 (x0 : Nat) (x1 : Int32) (x2 : Int32) (s0 : Nat) (s1 : Nat) (h : A_H) : R 77 38 [some (.ref x0), some (.int x1), some (.int x2)] [.ref s1, .ref s0] h = (cond (isO h s0 11) (R 77 39 [some (.ref x0), some (.int x1), some (.int x2)] [] (wP h s0 3 (some s1))) none) := (r77_38 ..)
theorem b77_39 (x0 : Nat) (x1 : Int32) (x2 : Int32) (h : A_H) : R 77 39 [some (.ref x0), some (.int x1), some (.int x2)] [] h = (cond (isO h x0 11 && (decide ((1 : Int32) = 0) || decide ((1 : Int32) = 1))) (R 77 42 [some (.ref x0), some (.int x1), some (.int x2)] [] (wI h x0 4 (1 : Int32))) none) := (tr (r77_39 ..) (tr (r77_40 ..) (r77_41 ..)))
theorem b77_42 (x0 : Nat) (x1 : Int32) (x2 : Int32) (h : A_H) : R 77 42 [some (.ref x0), some (.int x1), some (.int x2)] [] h = (cond (isO h x0 11 && (hP h x0 5).isSome) (cond (isO h x0 11 && (hP h x0 3).isSome) (cond (isO h ((hP h x0 5).getD 0) 8) (a_back R 77 (49, [.ref ((hP h x0 5).getD 0), .ref ((hP h x0 3).getD 0)], h, false, none, 47, [some (.ref x0), some (.int x1), some (.int x2)], []) (C 49 [.ref ((hP h x0 5).getD 0), .ref ((hP h x0 3).getD 0)] h)) none) none) none) := (tr (r77_42 ..) (tr (r77_43 ..) (cgT (tr (r77_44 ..) (tr (r77_45 ..) (cgT (r77_46 ..)))))))
theorem b77_47 (x0 : Nat) (x1 : Int32) (x2 : Int32) (h : A_H) : R 77 47 [some (.ref x0), some (.int x1), some (.int x2)] [] h = (cond (isO h x0 11 && (hP h x0 6).isSome) (cond (isO h ((hP h x0 6).getD 0) 4) (a_back R 77 (11, [.ref ((hP h x0 6).getD 0)], h, false, none, 50, [some (.ref x0), some (.int x1), some (.int x2)], []) (C 11 [.ref ((hP h x0 6).getD 0)] h)) none) none) := (tr (r77_47 ..) (tr (r77_48 ..) (cgT (r77_49 ..))))
theorem b77_50 (x0 : Nat) (x1 : Int32) (x2 : Int32) (h : A_H) : R 77 50 [some (.ref x0), some (.int x1), some (.int x2)] [] h = (cond (isO h x0 11 && (hP h x0 3).isSome) (cond (isO h ((hP h x0 3).getD 0) 9) (some (some (some (.int (hI h ((hP h x0 3).getD 0) 5))), h)) none) none) := (tr (r77_50 ..) (tr (r77_51 ..) (cgT (tr (r77_52 ..) (cgT (r77_53 ..))))))
theorem e78 (x0 : Nat) (h : A_H) : C 78 [.ref x0] h = R 78 0 [some (.ref x0)] [] h := rfl
theorem r78_0 (ls : A_V) (st : List Value) (h : A_H) : R 78 0 ls st h = a_do a_nL R R 78 (s_aldl 0 1 ls st h) := a_R_eq ..
theorem r78_1 (ls : A_V) (st : List Value) (h : A_H) : R 78 1 ls st h = a_do a_nL R R 78 (s_getR 11 2 2 ls st h) := a_R_eq ..
theorem r78_2 (ls : A_V) (st : List Value) (h : A_H) : R 78 2 ls st h = a_do a_nL R R 78 (s_getI 7 4 3 ls st h) := a_R_eq ..
theorem r78_3 (ls : A_V) (st : List Value) (h : A_H) : R 78 3 ls st h = a_do a_nL R R 78 (s_iret ls st h) := a_R_eq ..
theorem b78_0 (x0 : Nat) (h : A_H) : R 78 0 [some (.ref x0)] [] h = (cond (isO h x0 11 && (hP h x0 2).isSome) (cond (isO h ((hP h x0 2).getD 0) 7) (some (some (some (.int (hI h ((hP h x0 2).getD 0) 4))), h)) none) none) := (tr (r78_0 ..) (tr (r78_1 ..) (cgT (tr (r78_2 ..) (cgT (r78_3 ..))))))
theorem e79 (x0 : Nat) (h : A_H) : C 79 [.ref x0] h = R 79 0 [some (.ref x0)] [] h := rfl
theorem r79_0 (ls : A_V) (st : List Value) (h : A_H) : R 79 0 ls st h = a_do a_nL R R 79 (s_aldl 0 1 ls st h) := a_R_eq ..
theorem r79_1 (ls : A_V) (st : List Value) (h : A_H) : R 79 1 ls st h = a_do a_nL R R 79 (s_getI 11 8 2 ls st h) := a_R_eq ..
theorem r79_2 (ls : A_V) (st : List Value) (h : A_H) : R 79 2 ls st h = a_do a_nL R R 79 (s_push (.int 4) 3 ls st h) := a_R_eq ..
theorem r79_3 (ls : A_V) (st : List Value) (h : A_H) : R 79 3 ls st h = a_do a_nL R R 79 (s_if2 (fun x y => !decide (x = y)) 8 4 ls st h) := a_R_eq ..
theorem r79_4 (ls : A_V) (st : List Value) (h : A_H) : R 79 4 ls st h = a_do a_nL R R 79 (s_aldl 0 5 ls st h) := a_R_eq ..
theorem r79_5 (ls : A_V) (st : List Value) (h : A_H) : R 79 5 ls st h = a_do a_nL R R 79 (s_getR 11 2 6 ls st h) := a_R_eq ..
theorem r79_6 (ls : A_V) (st : List Value) (h : A_H) : R 79 6 ls st h = a_do a_nL R R 79 (s_getI 7 5 7 ls st h) := a_R_eq ..
theorem r79_7 (ls : A_V) (st : List Value) (h : A_H) : R 79 7 ls st h = a_do a_nL R R 79 (s_goto 9 ls st h) := a_R_eq ..
theorem r79_8 (ls : A_V) (st : List Value) (h : A_H) : R 79 8 ls st h = a_do a_nL R R 79 (s_push (.int (-1)) 9 ls st h) := a_R_eq ..
theorem r79_9 (ls : A_V) (st : List Value) (h : A_H) : R 79 9 ls st h = a_do a_nL R R 79 (s_iret ls st h) := a_R_eq ..
theorem b79_0 (x0 : Nat) (h : A_H) : R 79 0 [some (.ref x0)] [] h = (cond (isO h x0 11) (cond (!decide ((hI h x0 8) = (4 : Int32))) (some (some (some (.int (-1 : Int32))), h)) (cond (isO h x0 11 && (hP h x0 2).isSome) (cond (isO h ((hP h x0 2).getD 0) 7) (some (some (some (.int (hI h ((hP h x0 2).getD 0) 5))), h)) none) none)) none) := (tr (r79_0 ..) (tr (r79_1 ..) (cgT (tr (r79_2 ..) (tr (r79_3 ..) (cgB (tr (r79_8 ..) (r79_9 ..)) (tr (r79_4 ..) (tr (r79_5 ..) (cgT (tr (r79_6 ..) (cgT (tr (r79_7 ..) (r79_9 ..)))))))))))))
theorem e80 (x0 : Nat) (x1 : Int32) (x2 : Int32) (h : A_H) : C 80 [.ref x0, .int x1, .int x2] h = R 80 0 [some (.ref x0), some (.int x1), some (.int x2), none] [] h := rfl
theorem r80_0 (ls : A_V) (st : List Value) (h : A_H) : R 80 0 ls st h = a_do a_nL R R 80 (s_aldl 0 1 ls st h) := a_R_eq ..
theorem r80_1 (ls : A_V) (st : List Value) (h : A_H) : R 80 1 ls st h = a_do a_nL R R 80 (s_ildl 2 2 ls st h) := a_R_eq ..
theorem r80_2 (ls : A_V) (st : List Value) (h : A_H) : R 80 2 ls st h = a_do a_nL R R 80 (s_if1 (fun x => decide (x < 0)) 10 3 ls st h) := a_R_eq ..
theorem r80_3 (ls : A_V) (st : List Value) (h : A_H) : R 80 3 ls st h = a_do a_nL R R 80 (s_ildl 2 4 ls st h) := a_R_eq ..
theorem r80_4 (ls : A_V) (st : List Value) (h : A_H) : R 80 4 ls st h = a_do a_nL R R 80 (s_push (.int 5) 5 ls st h) := a_R_eq ..
theorem r80_5 (ls : A_V) (st : List Value) (h : A_H) : R 80 5 ls st h = a_do a_nL R R 80 (s_if2 (fun x y => decide (y < x)) 10 6 ls st h) := a_R_eq ..
theorem r80_6 (ls : A_V) (st : List Value) (h : A_H) : R 80 6 ls st h = a_do a_nL R R 80 (s_aldl 0 7 ls st h) := a_R_eq ..
theorem r80_7 (ls : A_V) (st : List Value) (h : A_H) : R 80 7 ls st h = a_do a_nL R R 80 (s_ildl 1 8 ls st h) := a_R_eq ..
theorem r80_8 (ls : A_V) (st : List Value) (h : A_H) : R 80 8 ls st h = a_do a_nL R R 80 (s_call 14 137 2 2 true 9 ls st h) := a_R_eq ..
theorem r80_9 (ls : A_V) (st : List Value) (h : A_H) : R 80 9 ls st h = a_do a_nL R R 80 (s_goto 11 ls st h) := a_R_eq ..
theorem r80_10 (ls : A_V) (st : List Value) (h : A_H) : R 80 10 ls st h = a_do a_nL R R 80 (s_push (.int 1) 11 ls st h) := a_R_eq ..
theorem r80_11 (ls : A_V) (st : List Value) (h : A_H) : R 80 11 ls st h = a_do a_nL R R 80 (s_call 14 134 2 2 true 12 ls st h) := a_R_eq ..
theorem r80_12 (ls : A_V) (st : List Value) (h : A_H) : R 80 12 ls st h = a_do a_nL R R 80 (s_if1 (fun x => decide (x = 0)) 15 13 ls st h) := a_R_eq ..
theorem r80_13 (ls : A_V) (st : List Value) (h : A_H) : R 80 13 ls st h = a_do a_nL R R 80 (s_push (.int (-1)) 14 ls st h) := a_R_eq ..
theorem r80_14 (ls : A_V) (st : List Value) (h : A_H) : R 80 14 ls st h = a_do a_nL R R 80 (s_iret ls st h) := a_R_eq ..
theorem r80_15 (ls : A_V) (st : List Value) (h : A_H) : R 80 15 ls st h = a_do a_nL R R 80 (s_aldl 0 16 ls st h) := a_R_eq ..
theorem r80_16 (ls : A_V) (st : List Value) (h : A_H) : R 80 16 ls st h = a_do a_nL R R 80 (s_getR 11 3 17 ls st h) := a_R_eq ..
theorem r80_17 (ls : A_V) (st : List Value) (h : A_H) : R 80 17 ls st h = a_do a_nL R R 80 (s_getR 9 12 18 ls st h) := a_R_eq ..
theorem r80_18 (ls : A_V) (st : List Value) (h : A_H) : R 80 18 ls st h = a_do a_nL R R 80 (s_ildl 1 19 ls st h) := a_R_eq ..
theorem r80_19 (ls : A_V) (st : List Value) (h : A_H) : R 80 19 ls st h = a_do a_nL R R 80 (s_aal 6 20 ls st h) := a_R_eq ..
theorem r80_20 (ls : A_V) (st : List Value) (h : A_H) : R 80 20 ls st h = a_do a_nL R R 80 (s_ast 3 21 ls st h) := a_R_eq ..
theorem r80_21 (ls : A_V) (st : List Value) (h : A_H) : R 80 21 ls st h = a_do a_nL R R 80 (s_ildl 2 22 ls st h) := a_R_eq ..
theorem r80_22 (ls : A_V) (st : List Value) (h : A_H) : R 80 22 ls st h = a_do a_nL R R 80 (s_sw [(0, 23), (1, 26), (2, 29), (3, 32), (4, 35)] 40 ls st h) := a_R_eq ..
theorem r80_23 (ls : A_V) (st : List Value) (h : A_H) : R 80 23 ls st h = a_do a_nL R R 80 (s_aldl 3 24 ls st h) := a_R_eq ..
theorem r80_24 (ls : A_V) (st : List Value) (h : A_H) : R 80 24 ls st h = a_do a_nL R R 80 (s_getI 3 0 25 ls st h) := a_R_eq ..
theorem r80_25 (ls : A_V) (st : List Value) (h : A_H) : R 80 25 ls st h = a_do a_nL R R 80 (s_iret ls st h) := a_R_eq ..
theorem r80_26 (ls : A_V) (st : List Value) (h : A_H) : R 80 26 ls st h = a_do a_nL R R 80 (s_aldl 3 27 ls st h) := a_R_eq ..
theorem r80_27 (ls : A_V) (st : List Value) (h : A_H) : R 80 27 ls st h = a_do a_nL R R 80 (s_getI 3 1 28 ls st h) := a_R_eq ..
theorem r80_28 (ls : A_V) (st : List Value) (h : A_H) : R 80 28 ls st h = a_do a_nL R R 80 (s_iret ls st h) := a_R_eq ..
theorem r80_29 (ls : A_V) (st : List Value) (h : A_H) : R 80 29 ls st h = a_do a_nL R R 80 (s_aldl 3 30 ls st h) := a_R_eq ..
theorem r80_30 (ls : A_V) (st : List Value) (h : A_H) : R 80 30 ls st h = a_do a_nL R R 80 (s_getI 3 2 31 ls st h) := a_R_eq ..
theorem r80_31 (ls : A_V) (st : List Value) (h : A_H) : R 80 31 ls st h = a_do a_nL R R 80 (s_iret ls st h) := a_R_eq ..
theorem r80_32 (ls : A_V) (st : List Value) (h : A_H) : R 80 32 ls st h = a_do a_nL R R 80 (s_aldl 3 33 ls st h) := a_R_eq ..
theorem r80_33 (ls : A_V) (st : List Value) (h : A_H) : R 80 33 ls st h = a_do a_nL R R 80 (s_getI 3 5 34 ls st h) := a_R_eq ..
theorem r80_34 (ls : A_V) (st : List Value) (h : A_H) : R 80 34 ls st h = a_do a_nL R R 80 (s_iret ls st h) := a_R_eq ..
theorem r80_35 (ls : A_V) (st : List Value) (h : A_H) : R 80 35 ls st h = a_do a_nL R R 80 (s_aldl 0 36 ls st h) := a_R_eq ..
theorem r80_36 (ls : A_V) (st : List Value) (h : A_H) : R 80 36 ls st h = a_do a_nL R R 80 (s_getR 11 5 37 ls st h) := a_R_eq ..
theorem r80_37 (ls : A_V) (st : List Value) (h : A_H) : R 80 37 ls st h = a_do a_nL R R 80 (s_ildl 1 38 ls st h) := a_R_eq ..
theorem r80_38 (ls : A_V) (st : List Value) (h : A_H) : R 80 38 ls st h = a_do a_nL R R 80 (s_call 11 52 2 3 true 39 ls st h) := a_R_eq ..
theorem r80_39 (ls : A_V) (st : List Value) (h : A_H) : R 80 39 ls st h = a_do a_nL R R 80 (s_iret ls st h) := a_R_eq ..
theorem r80_40 (ls : A_V) (st : List Value) (h : A_H) : R 80 40 ls st h = a_do a_nL R R 80 (s_aldl 0 41 ls st h) := a_R_eq ..
theorem r80_41 (ls : A_V) (st : List Value) (h : A_H) : R 80 41 ls st h = a_do a_nL R R 80 (s_getR 11 5 42 ls st h) := a_R_eq ..
theorem r80_42 (ls : A_V) (st : List Value) (h : A_H) : R 80 42 ls st h = a_do a_nL R R 80 (s_getI 8 4 43 ls st h) := a_R_eq ..
theorem r80_43 (ls : A_V) (st : List Value) (h : A_H) : R 80 43 ls st h = a_do a_nL R R 80 (s_ildl 1 44 ls st h) := a_R_eq ..
theorem r80_44 (ls : A_V) (st : List Value) (h : A_H) : R 80 44 ls st h = a_do a_nL R R 80 (s_bi (fun x y => x >>> (y &&& 31)) 45 ls st h) := a_R_eq ..
theorem r80_45 (ls : A_V) (st : List Value) (h : A_H) : R 80 45 ls st h = a_do a_nL R R 80 (s_push (.int 1) 46 ls st h) := a_R_eq ..
theorem r80_46 (ls : A_V) (st : List Value) (h : A_H) : R 80 46 ls st h = a_do a_nL R R 80 (s_bi (fun x y => x &&& y) 47 ls st h) := a_R_eq ..
theorem r80_47 (ls : A_V) (st : List Value) (h : A_H) : R 80 47 ls st h = a_do a_nL R R 80 (s_iret ls st h) := a_R_eq ..
theorem b80_0 (x0 : Nat) (x1 : Int32) (x2 : Int32) (l3 : Option Value) (h : A_H) : R 80 0 [some (.ref x0), some (.int x1), some (.int x2), l3] [] h = (cond (decide (x2 < 0)) (cond (isO h x0 11) (a_back R 80 (134, [.ref x0, .int (1 : Int32)], h, true, none, 12, [some (.ref x0), some (.int x1), some (.int x2), l3], []) (C 134 [.ref x0, .int (1 : Int32)] h)) none) (cond (decide ((5 : Int32) < x2)) (cond (isO h x0 11) (a_back R 80 (134, [.ref x0, .int (1 : Int32)], h, true, none, 12, [some (.ref x0), some (.int x1), some (.int x2), l3], []) (C 134 [.ref x0, .int (1 : Int32)] h)) none) (cond (isO h x0 11) (a_back R 80 (137, [.ref x0, .int x1], h, true, none, 9, [some (.ref x0), some (.int x1), some (.int x2), l3], [.ref x0]) (C 137 [.ref x0, .int x1] h)) none))) := (tr (r80_0 ..) (tr (r80_1 ..) (tr (r80_2 ..) (cgB (tr (r80_10 ..) (r80_11 ..)) (tr (r80_3 ..) (tr (r80_4 ..) (tr (r80_5 ..) (cgB (tr (r80_10 ..) (r80_11 ..)) (tr (r80_6 ..) (tr (r80_7 ..) (r80_8 ..)))))))))))
theorem b80_9 (x0 : Nat) (x1 : Int32) (x2 : Int32) (l3 : Option Value) (s0 : Nat) (s1 : Int32) (h : A_H) : R 80 9 [some (.ref x0), some (.int x1), some (.int x2), l3] [.int s1, .ref s0] h = (cond (isO h s0 11) (a_back R 80 (134, [.ref s0, .int s1], h, true, none, 12, [some (.ref x0), some (.int x1), some (.int x2), l3], []) (C 134 [.ref s0, .int s1] h)) none) := (tr (r80_9 ..) (r80_11 ..))
theorem b80_12 (x0 : Nat) (x1 : Int32) (x2 : Int32) (l3 : Option Value) (s0 : Int32) (h : A_H) : R 80 12 [some (.ref x0), some (.int x1), some (.int x2), l3] [.int s0] h = (cond (decide (s0 = 0)) (cond (isO h x0 11 && (hP h x0 3).isSome) (cond (isO h ((hP h x0 3).getD 0) 9 && (hP h ((hP h x0 3).getD 0) 12).isSome) (cond (isA h ((hP h ((hP h x0 3).getD 0) 12).getD 0) 6 x1 && (hP h ((hP h ((hP h x0 3).getD 0) 12).getD 0) (x1).toNatClampNeg).isSome) (cond (decide (x2 = 0)) (cond (isO h ((hP h ((hP h ((hP h x0 3).getD 0) 12).getD 0) (x1).toNatClampNeg).getD 0) 3) (some (some (some (.int (hI h ((hP h ((hP h ((hP h x0 3).getD 0) 12).getD 0) (x1).toNatClampNeg).getD 0) 0))), h)) none) (cond (decide (x2 = 1)) (cond (isO h ((hP h ((hP h ((hP h x0 3).getD 0) 12).getD 0) (x1).toNatClampNeg).getD 0) 3) (some (some (some (.int (hI h ((hP h ((hP h ((hP h x0 3).getD 0) 12).getD 0) (x1).toNatClampNeg).getD 0) 1))), h)) none) (cond (decide (x2 = 2)) (cond (isO h ((hP h ((hP h ((hP h x0 3).getD 0) 12).getD 0) (x1).toNatClampNeg).getD 0) 3) (some (some (some (.int (hI h ((hP h ((hP h ((hP h x0 3).getD 0) 12).getD 0) (x1).toNatClampNeg).getD 0) 2))), h)) none) (cond (decide (x2 = 3)) (cond (isO h ((hP h ((hP h ((hP h x0 3).getD 0) 12).getD 0) (x1).toNatClampNeg).getD 0) 3) (some (some (some (.int (hI h ((hP h ((hP h ((hP h x0 3).getD 0) 12).getD 0) (x1).toNatClampNeg).getD 0) 5))), h)) none) (cond (decide (x2 = 4)) (cond (isO h x0 11 && (hP h x0 5).isSome) (cond (isO h ((hP h x0 5).getD 0) 8) (a_back R 80 (52, [.ref ((hP h x0 5).getD 0), .int x1], h, true, none, 39, [some (.ref x0), some (.int x1), some (.int x2), some (.ref ((hP h ((hP h ((hP h x0 3).getD 0) 12).getD 0) (x1).toNatClampNeg).getD 0))], []) (C 52 [.ref ((hP h x0 5).getD 0), .int x1] h)) none) none) (cond (isO h x0 11 && (hP h x0 5).isSome) (cond (isO h ((hP h x0 5).getD 0) 8) (some (some (some (.int (((hI h ((hP h x0 5).getD 0) 4) >>> (x1 &&& 31)) &&& (1 : Int32)))), h)) none) none)))))) none) none) none) (some (some (some (.int (-1 : Int32))), h))) := (tr (r80_12 ..) (cgB (tr (r80_15 ..) (tr (r80_16 ..) (cgT (tr (r80_17 ..) (cgT (tr (r80_18 ..) (tr (r80_19 ..) (cgT (tr (r80_20 ..) (tr (r80_21 ..) (tr (r80_22 ..) (cgB (tr (r80_23 ..) (tr (r80_24 ..) (cgT (r80_25 ..)))) (cgB (tr (r80_26 ..) (tr (r80_27 ..) (cgT (r80_28 ..)))) (cgB (tr (r80_29 ..) (tr (r80_30 ..) (cgT (r80_31 ..)))) (cgB (tr (r80_32 ..) (tr (r80_33 ..) (cgT (r80_34 ..)))) (cgB (tr (r80_35 ..) (tr (r80_36 ..) (cgT (tr (r80_37 ..) (r80_38 ..))))) (tr (r80_40 ..) (tr (r80_41 ..) (cgT (tr (r80_42 ..) (cgT (tr (r80_43 ..) (tr (r80_44 ..) (tr (r80_45 ..) (tr (r80_46 ..) (r80_47 ..)))))))))))))))))))))))))) (tr (r80_13 ..) (r80_14 ..))))
theorem b80_39 (x0 : Nat) (x1 : Int32) (x2 : Int32) (x3 : Nat) (s0 : Int32) (h : A_H) : R 80 39 [some (.ref x0), some (.int x1), some (.int x2), some (.ref x3)] [.int s0] h = (some (some (some (.int s0)), h)) := (r80_39 ..)
theorem e81 (x0 : Nat) (x1 : Int32) (x2 : Int32) (h : A_H) : C 81 [.ref x0, .int x1, .int x2] h = R 81 0 [some (.ref x0), some (.int x1), some (.int x2)] [] h := rfl
theorem r81_0 (ls : A_V) (st : List Value) (h : A_H) : R 81 0 ls st h = a_do a_nL R R 81 (s_aldl 0 1 ls st h) := a_R_eq ..
theorem r81_1 (ls : A_V) (st : List Value) (h : A_H) : R 81 1 ls st h = a_do a_nL R R 81 (s_ildl 2 2 ls st h) := a_R_eq ..
theorem r81_2 (ls : A_V) (st : List Value) (h : A_H) : R 81 2 ls st h = a_do a_nL R R 81 (s_if1 (fun x => decide (x < 0)) 10 3 ls st h) := a_R_eq ..
theorem r81_3 (ls : A_V) (st : List Value) (h : A_H) : R 81 3 ls st h = a_do a_nL R R 81 (s_ildl 2 4 ls st h) := a_R_eq ..
theorem r81_4 (ls : A_V) (st : List Value) (h : A_H) : R 81 4 ls st h = a_do a_nL R R 81 (s_push (.int 3) 5 ls st h) := a_R_eq ..
theorem r81_5 (ls : A_V) (st : List Value) (h : A_H) : R 81 5 ls st h = a_do a_nL R R 81 (s_if2 (fun x y => decide (y < x)) 10 6 ls st h) := a_R_eq ..
theorem r81_6 (ls : A_V) (st : List Value) (h : A_H) : R 81 6 ls st h = a_do a_nL R R 81 (s_aldl 0 7 ls st h) := a_R_eq ..
theorem r81_7 (ls : A_V) (st : List Value) (h : A_H) : R 81 7 ls st h = a_do a_nL R R 81 (s_ildl 1 8 ls st h) := a_R_eq ..
theorem r81_8 (ls : A_V) (st : List Value) (h : A_H) : R 81 8 ls st h = a_do a_nL R R 81 (s_call 14 138 2 2 true 9 ls st h) := a_R_eq ..
theorem r81_9 (ls : A_V) (st : List Value) (h : A_H) : R 81 9 ls st h = a_do a_nL R R 81 (s_goto 11 ls st h) := a_R_eq ..
theorem r81_10 (ls : A_V) (st : List Value) (h : A_H) : R 81 10 ls st h = a_do a_nL R R 81 (s_push (.int 1) 11 ls st h) := a_R_eq ..
theorem r81_11 (ls : A_V) (st : List Value) (h : A_H) : R 81 11 ls st h = a_do a_nL R R 81 (s_call 14 134 2 2 true 12 ls st h) := a_R_eq ..
theorem r81_12 (ls : A_V) (st : List Value) (h : A_H) : R 81 12 ls st h = a_do a_nL R R 81 (s_if1 (fun x => decide (x = 0)) 15 13 ls st h) := a_R_eq ..
theorem r81_13 (ls : A_V) (st : List Value) (h : A_H) : R 81 13 ls st h = a_do a_nL R R 81 (s_push (.int (-1)) 14 ls st h) := a_R_eq ..
theorem r81_14 (ls : A_V) (st : List Value) (h : A_H) : R 81 14 ls st h = a_do a_nL R R 81 (s_iret ls st h) := a_R_eq ..
theorem r81_15 (ls : A_V) (st : List Value) (h : A_H) : R 81 15 ls st h = a_do a_nL R R 81 (s_ildl 2 16 ls st h) := a_R_eq ..
theorem r81_16 (ls : A_V) (st : List Value) (h : A_H) : R 81 16 ls st h = a_do a_nL R R 81 (s_sw [(0, 17), (1, 24), (2, 28)] 34 ls st h) := a_R_eq ..
theorem r81_17 (ls : A_V) (st : List Value) (h : A_H) : R 81 17 ls st h = a_do a_nL R R 81 (s_aldl 0 18 ls st h) := a_R_eq ..
theorem r81_18 (ls : A_V) (st : List Value) (h : A_H) : R 81 18 ls st h = a_do a_nL R R 81 (s_getR 11 3 19 ls st h) := a_R_eq ..
theorem r81_19 (ls : A_V) (st : List Value) (h : A_H) : R 81 19 ls st h = a_do a_nL R R 81 (s_getR 9 10 20 ls st h) := a_R_eq ..
theorem r81_20 (ls : A_V) (st : List Value) (h : A_H) : R 81 20 ls st h = a_do a_nL R R 81 (s_ildl 1 21 ls st h) := a_R_eq ..
theorem r81_21 (ls : A_V) (st : List Value) (h : A_H) : R 81 21 ls st h = a_do a_nL R R 81 (s_aal 4 22 ls st h) := a_R_eq ..
theorem r81_22 (ls : A_V) (st : List Value) (h : A_H) : R 81 22 ls st h = a_do a_nL R R 81 (s_getI 10 0 23 ls st h) := a_R_eq ..
theorem r81_23 (ls : A_V) (st : List Value) (h : A_H) : R 81 23 ls st h = a_do a_nL R R 81 (s_iret ls st h) := a_R_eq ..
theorem r81_24 (ls : A_V) (st : List Value) (h : A_H) : R 81 24 ls st h = a_do a_nL R R 81 (s_aldl 0 25 ls st h) := a_R_eq ..
theorem r81_25 (ls : A_V) (st : List Value) (h : A_H) : R 81 25 ls st h = a_do a_nL R R 81 (s_ildl 1 26 ls st h) := a_R_eq ..
theorem r81_26 (ls : A_V) (st : List Value) (h : A_H) : R 81 26 ls st h = a_do a_nL R R 81 (s_call 14 147 2 3 true 27 ls st h) := a_R_eq ..
theorem r81_27 (ls : A_V) (st : List Value) (h : A_H) : R 81 27 ls st h = a_do a_nL R R 81 (s_iret ls st h) := a_R_eq ..
theorem r81_28 (ls : A_V) (st : List Value) (h : A_H) : R 81 28 ls st h = a_do a_nL R R 81 (s_aldl 0 29 ls st h) := a_R_eq ..
theorem r81_29 (ls : A_V) (st : List Value) (h : A_H) : R 81 29 ls st h = a_do a_nL R R 81 (s_getR 11 5 30 ls st h) := a_R_eq ..
theorem r81_30 (ls : A_V) (st : List Value) (h : A_H) : R 81 30 ls st h = a_do a_nL R R 81 (s_getR 8 5 31 ls st h) := a_R_eq ..
theorem r81_31 (ls : A_V) (st : List Value) (h : A_H) : R 81 31 ls st h = a_do a_nL R R 81 (s_ildl 1 32 ls st h) := a_R_eq ..
theorem r81_32 (ls : A_V) (st : List Value) (h : A_H) : R 81 32 ls st h = a_do a_nL R R 81 (s_ial 0 33 ls st h) := a_R_eq ..
theorem r81_33 (ls : A_V) (st : List Value) (h : A_H) : R 81 33 ls st h = a_do a_nL R R 81 (s_iret ls st h) := a_R_eq ..
theorem r81_34 (ls : A_V) (st : List Value) (h : A_H) : R 81 34 ls st h = a_do a_nL R R 81 (s_aldl 0 35 ls st h) := a_R_eq ..
theorem r81_35 (ls : A_V) (st : List Value) (h : A_H) : R 81 35 ls st h = a_do a_nL R R 81 (s_ildl 1 36 ls st h) := a_R_eq ..
theorem r81_36 (ls : A_V) (st : List Value) (h : A_H) : R 81 36 ls st h = a_do a_nL R R 81 (s_call 14 146 2 2 true 37 ls st h) := a_R_eq ..
theorem r81_37 (ls : A_V) (st : List Value) (h : A_H) : R 81 37 ls st h = a_do a_nL R R 81 (s_iret ls st h) := a_R_eq ..
theorem b81_0 (x0 : Nat) (x1 : Int32) (x2 : Int32) (h : A_H) : R 81 0 [some (.ref x0), some (.int x1), some (.int x2)] [] h = (cond (decide (x2 < 0)) (cond (isO h x0 11) (a_back R 81 (134, [.ref x0, .int (1 : Int32)], h, true, none, 12, [some (.ref x0), some (.int x1), some (.int x2)], []) (C 134 [.ref x0, .int (1 : Int32)] h)) none) (cond (decide ((3 : Int32) < x2)) (cond (isO h x0 11) (a_back R 81 (134, [.ref x0, .int (1 : Int32)], h, true, none, 12, [some (.ref x0), some (.int x1), some (.int x2)], []) (C 134 [.ref x0, .int (1 : Int32)] h)) none) (cond (isO h x0 11) (a_back R 81 (138, [.ref x0, .int x1], h, true, none, 9, [some (.ref x0), some (.int x1), some (.int x2)], [.ref x0]) (C 138 [.ref x0, .int x1] h)) none))) := (tr (r81_0 ..) (tr (r81_1 ..) (tr (r81_2 ..) (cgB (tr (r81_10 ..) (r81_11 ..)) (tr (r81_3 ..) (tr (r81_4 ..) (tr (r81_5 ..) (cgB (tr (r81_10 ..) (r81_11 ..)) (tr (r81_6 ..) (tr (r81_7 ..) (r81_8 ..)))))))))))
theorem b81_9 (x0 : Nat) (x1 : Int32) (x2 : Int32) (s0 : Nat) (s1 : Int32) (h : A_H) : R 81 9 [some (.ref x0), some (.int x1), some (.int x2)] [.int s1, .ref s0] h = (cond (isO h s0 11) (a_back R 81 (134, [.ref s0, .int s1], h, true, none, 12, [some (.ref x0), some (.int x1), some (.int x2)], []) (C 134 [.ref s0, .int s1] h)) none) := (tr (r81_9 ..) (r81_11 ..))
theorem b81_12 (x0 : Nat) (x1 : Int32) (x2 : Int32) (s0 : Int32) (h : A_H) : R 81 12 [some (.ref x0), some (.int x1), some (.int x2)] [.int s0] h = (cond (decide (s0 = 0)) (cond (decide (x2 = 0)) (cond (isO h x0 11 && (hP h x0 3).isSome) (cond (isO h ((hP h x0 3).getD 0) 9 && (hP h ((hP h x0 3).getD 0) 10).isSome) (cond (isA h ((hP h ((hP h x0 3).getD 0) 10).getD 0) 4 x1 && (hP h ((hP h ((hP h x0 3).getD 0) 10).getD 0) (x1).toNatClampNeg).isSome) (cond (isO h ((hP h ((hP h ((hP h x0 3).getD 0) 10).getD 0) (x1).toNatClampNeg).getD 0) 10) (some (some (some (.int (hI h ((hP h ((hP h ((hP h x0 3).getD 0) 10).getD 0) (x1).toNatClampNeg).getD 0) 0))), h)) none) none) none) none) (cond (decide (x2 = 1)) (cond (isO h x0 11) (a_back R 81 (147, [.ref x0, .int x1], h, true, none, 27, [some (.ref x0), some (.int x1), some (.int x2)], []) (C 147 [.ref x0, .int x1] h)) none) (cond (decide (x2 = 2)) (cond (isO h x0 11 && (hP h x0 5).isSome) (cond (isO h ((hP h x0 5).getD 0) 8 && (hP h ((hP h x0 5).getD 0) 5).isSome) (cond (isA h ((hP h ((hP h x0 5).getD 0) 5).getD 0) 0 x1) (some (some (some (.int (hI h ((hP h ((hP h x0 5).getD 0) 5).getD 0) (x1).toNatClampNeg))), h)) none) none) none) (cond (isO h x0 11) (a_back R 81 (146, [.ref x0, .int x1], h, true, none, 37, [some (.ref x0), some (.int x1), some (.int x2)], []) (C 146 [.ref x0, .int x1] h)) none)))) (some (some (some (.int (-1 : Int32))), h))) := (tr (r81_12 ..) (cgB (tr (r81_15 ..) (tr (r81_16 ..) (cgB (tr (r81_17 ..) (tr (r81_18 ..) (cgT (tr (r81_19 ..) (cgT (tr (r81_20 ..) (tr (r81_21 ..) (cgT (tr (r81_22 ..) (cgT (r81_23 ..))))))))))) (cgB (tr (r81_24 ..) (tr (r81_25 ..) (r81_26 ..))) (cgB (tr (r81_28 ..) (tr (r81_29 ..) (cgT (tr (r81_30 ..) (cgT (tr (r81_31 ..) (tr (r81_32 ..) (cgT (r81_33 ..))))))))) (tr (r81_34 ..) (tr (r81_35 ..) (r81_36 ..)))))))) (tr (r81_13 ..) (r81_14 ..))))
theorem b81_27 (x0 : Nat) (x1 : Int32) (x2 : Int32) (s0 : Int32) (h : A_H) : R 81 27 [some (.ref x0), some (.int x1), some (.int x2)] [.int s0] h = (some (some (some (.int s0)), h)) := (r81_27 ..)
theorem b81_37 (x0 : Nat) (x1 : Int32) (x2 : Int32) (s0 : Int32) (h : A_H) : R 81 37 [some (.ref x0), some (.int x1), some (.int x2)] [.int s0] h = (some (some (some (.int s0)), h)) := (r81_37 ..)
theorem e82 (x0 : Nat) (x1 : Int32) (x2 : Int32) (h : A_H) : C 82 [.ref x0, .int x1, .int x2] h = R 82 0 [some (.ref x0), some (.int x1), some (.int x2), none] [] h := rfl
theorem r82_0 (ls : A_V) (st : List Value) (h : A_H) : R 82 0 ls st h = a_do a_nL R R 82 (s_aldl 0 1 ls st h) := a_R_eq ..
theorem r82_1 (ls : A_V) (st : List Value) (h : A_H) : R 82 1 ls st h = a_do a_nL R R 82 (s_ildl 2 2 ls st h) := a_R_eq ..
theorem r82_2 (ls : A_V) (st : List Value) (h : A_H) : R 82 2 ls st h = a_do a_nL R R 82 (s_if1 (fun x => decide (x < 0)) 10 3 ls st h) := a_R_eq ..
theorem r82_3 (ls : A_V) (st : List Value) (h : A_H) : R 82 3 ls st h = a_do a_nL R R 82 (s_ildl 2 4 ls st h) := a_R_eq ..
theorem r82_4 (ls : A_V) (st : List Value) (h : A_H) : R 82 4 ls st h = a_do a_nL R R 82 (s_push (.int 2) 5 ls st h) := a_R_eq ..
theorem r82_5 (ls : A_V) (st : List Value) (h : A_H) : R 82 5 ls st h = a_do a_nL R R 82 (s_if2 (fun x y => decide (y < x)) 10 6 ls st h) := a_R_eq ..
theorem r82_6 (ls : A_V) (st : List Value) (h : A_H) : R 82 6 ls st h = a_do a_nL R R 82 (s_aldl 0 7 ls st h) := a_R_eq ..
theorem r82_7 (ls : A_V) (st : List Value) (h : A_H) : R 82 7 ls st h = a_do a_nL R R 82 (s_ildl 1 8 ls st h) := a_R_eq ..
theorem r82_8 (ls : A_V) (st : List Value) (h : A_H) : R 82 8 ls st h = a_do a_nL R R 82 (s_call 14 139 2 2 true 9 ls st h) := a_R_eq ..
theorem r82_9 (ls : A_V) (st : List Value) (h : A_H) : R 82 9 ls st h = a_do a_nL R R 82 (s_goto 11 ls st h) := a_R_eq ..
theorem r82_10 (ls : A_V) (st : List Value) (h : A_H) : R 82 10 ls st h = a_do a_nL R R 82 (s_push (.int 1) 11 ls st h) := a_R_eq ..
theorem r82_11 (ls : A_V) (st : List Value) (h : A_H) : R 82 11 ls st h = a_do a_nL R R 82 (s_call 14 134 2 2 true 12 ls st h) := a_R_eq ..
theorem r82_12 (ls : A_V) (st : List Value) (h : A_H) : R 82 12 ls st h = a_do a_nL R R 82 (s_if1 (fun x => decide (x = 0)) 15 13 ls st h) := a_R_eq ..
theorem r82_13 (ls : A_V) (st : List Value) (h : A_H) : R 82 13 ls st h = a_do a_nL R R 82 (s_push (.int (-1)) 14 ls st h) := a_R_eq ..
theorem r82_14 (ls : A_V) (st : List Value) (h : A_H) : R 82 14 ls st h = a_do a_nL R R 82 (s_iret ls st h) := a_R_eq ..
theorem r82_15 (ls : A_V) (st : List Value) (h : A_H) : R 82 15 ls st h = a_do a_nL R R 82 (s_aldl 0 16 ls st h) := a_R_eq ..
theorem r82_16 (ls : A_V) (st : List Value) (h : A_H) : R 82 16 ls st h = a_do a_nL R R 82 (s_getR 11 3 17 ls st h) := a_R_eq ..
theorem r82_17 (ls : A_V) (st : List Value) (h : A_H) : R 82 17 ls st h = a_do a_nL R R 82 (s_getR 9 11 18 ls st h) := a_R_eq ..
theorem r82_18 (ls : A_V) (st : List Value) (h : A_H) : R 82 18 ls st h = a_do a_nL R R 82 (s_ildl 1 19 ls st h) := a_R_eq ..
theorem r82_19 (ls : A_V) (st : List Value) (h : A_H) : R 82 19 ls st h = a_do a_nL R R 82 (s_aal 5 20 ls st h) := a_R_eq ..
theorem r82_20 (ls : A_V) (st : List Value) (h : A_H) : R 82 20 ls st h = a_do a_nL R R 82 (s_ast 3 21 ls st h) := a_R_eq ..
theorem r82_21 (ls : A_V) (st : List Value) (h : A_H) : R 82 21 ls st h = a_do a_nL R R 82 (s_ildl 2 22 ls st h) := a_R_eq ..
theorem r82_22 (ls : A_V) (st : List Value) (h : A_H) : R 82 22 ls st h = a_do a_nL R R 82 (s_sw [(0, 23), (1, 26)] 29 ls st h) := a_R_eq ..
theorem r82_23 (ls : A_V) (st : List Value) (h : A_H) : R 82 23 ls st h = a_do a_nL R R 82 (s_aldl 3 24 ls st h) := a_R_eq ..
theorem r82_24 (ls : A_V) (st : List Value) (h : A_H) : R 82 24 ls st h = a_do a_nL R R 82 (s_getI 2 0 25 ls st h) := a_R_eq ..
theorem r82_25 (ls : A_V) (st : List Value) (h : A_H) : R 82 25 ls st h = a_do a_nL R R 82 (s_iret ls st h) := a_R_eq ..
theorem r82_26 (ls : A_V) (st : List Value) (h : A_H) : R 82 26 ls st h = a_do a_nL R R 82 (s_aldl 3 27 ls st h) := a_R_eq ..
theorem r82_27 (ls : A_V) (st : List Value) (h : A_H) : R 82 27 ls st h = a_do a_nL R R 82 (s_getI 2 1 28 ls st h) := a_R_eq ..
theorem r82_28 (ls : A_V) (st : List Value) (h : A_H) : R 82 28 ls st h = a_do a_nL R R 82 (s_iret ls st h) := a_R_eq ..
theorem r82_29 (ls : A_V) (st : List Value) (h : A_H) : R 82 29 ls st h = a_do a_nL R R 82 (s_aldl 3 30 ls st h) := a_R_eq ..
theorem r82_30 (ls : A_V) (st : List Value) (h : A_H) : R 82 30 ls st h = a_do a_nL R R 82 (s_getI 2 2 31 ls st h) := a_R_eq ..
theorem r82_31 (ls : A_V) (st : List Value) (h : A_H) : R 82 31 ls st h = a_do a_nL R R 82 (s_iret ls st h) := a_R_eq ..
theorem b82_0 (x0 : Nat) (x1 : Int32) (x2 : Int32) (l3 : Option Value) (h : A_H) : R 82 0 [some (.ref x0), some (.int x1), some (.int x2), l3] [] h = (cond (decide (x2 < 0)) (cond (isO h x0 11) (a_back R 82 (134, [.ref x0, .int (1 : Int32)], h, true, none, 12, [some (.ref x0), some (.int x1), some (.int x2), l3], []) (C 134 [.ref x0, .int (1 : Int32)] h)) none) (cond (decide ((2 : Int32) < x2)) (cond (isO h x0 11) (a_back R 82 (134, [.ref x0, .int (1 : Int32)], h, true, none, 12, [some (.ref x0), some (.int x1), some (.int x2), l3], []) (C 134 [.ref x0, .int (1 : Int32)] h)) none) (cond (isO h x0 11) (a_back R 82 (139, [.ref x0, .int x1], h, true, none, 9, [some (.ref x0), some (.int x1), some (.int x2), l3], [.ref x0]) (C 139 [.ref x0, .int x1] h)) none))) := (tr (r82_0 ..) (tr (r82_1 ..) (tr (r82_2 ..) (cgB (tr (r82_10 ..) (r82_11 ..)) (tr (r82_3 ..) (tr (r82_4 ..) (tr (r82_5 ..) (cgB (tr (r82_10 ..) (r82_11 ..)) (tr (r82_6 ..) (tr (r82_7 ..) (r82_8 ..)))))))))))
theorem b82_9 (x0 : Nat) (x1 : Int32) (x2 : Int32) (l3 : Option Value) (s0 : Nat) (s1 : Int32) (h : A_H) : R 82 9 [some (.ref x0), some (.int x1), some (.int x2), l3] [.int s1, .ref s0] h = (cond (isO h s0 11) (a_back R 82 (134, [.ref s0, .int s1], h, true, none, 12, [some (.ref x0), some (.int x1), some (.int x2), l3], []) (C 134 [.ref s0, .int s1] h)) none) := (tr (r82_9 ..) (r82_11 ..))
theorem b82_12 (x0 : Nat) (x1 : Int32) (x2 : Int32) (l3 : Option Value) (s0 : Int32) (h : A_H) : R 82 12 [some (.ref x0), some (.int x1), some (.int x2), l3] [.int s0] h = (cond (decide (s0 = 0)) (cond (isO h x0 11 && (hP h x0 3).isSome) (cond (isO h ((hP h x0 3).getD 0) 9 && (hP h ((hP h x0 3).getD 0) 11).isSome) (cond (isA h ((hP h ((hP h x0 3).getD 0) 11).getD 0) 5 x1 && (hP h ((hP h ((hP h x0 3).getD 0) 11).getD 0) (x1).toNatClampNeg).isSome) (cond (decide (x2 = 0)) (cond (isO h ((hP h ((hP h ((hP h x0 3).getD 0) 11).getD 0) (x1).toNatClampNeg).getD 0) 2) (some (some (some (.int (hI h ((hP h ((hP h ((hP h x0 3).getD 0) 11).getD 0) (x1).toNatClampNeg).getD 0) 0))), h)) none) (cond (decide (x2 = 1)) (cond (isO h ((hP h ((hP h ((hP h x0 3).getD 0) 11).getD 0) (x1).toNatClampNeg).getD 0) 2) (some (some (some (.int (hI h ((hP h ((hP h ((hP h x0 3).getD 0) 11).getD 0) (x1).toNatClampNeg).getD 0) 1))), h)) none) (cond (isO h ((hP h ((hP h ((hP h x0 3).getD 0) 11).getD 0) (x1).toNatClampNeg).getD 0) 2) (some (some (some (.int (hI h ((hP h ((hP h ((hP h x0 3).getD 0) 11).getD 0) (x1).toNatClampNeg).getD 0) 2))), h)) none))) none) none) none) (some (some (some (.int (-1 : Int32))), h))) := (tr (r82_12 ..) (cgB (tr (r82_15 ..) (tr (r82_16 ..) (cgT (tr (r82_17 ..) (cgT (tr (r82_18 ..) (tr (r82_19 ..) (cgT (tr (r82_20 ..) (tr (r82_21 ..) (tr (r82_22 ..) (cgB (tr (r82_23 ..) (tr (r82_24 ..) (cgT (r82_25 ..)))) (cgB (tr (r82_26 ..) (tr (r82_27 ..) (cgT (r82_28 ..)))) (tr (r82_29 ..) (tr (r82_30 ..) (cgT (r82_31 ..))))))))))))))))) (tr (r82_13 ..) (r82_14 ..))))
theorem e83 (x0 : Nat) (x1 : Int32) (x2 : Int32) (h : A_H) : C 83 [.ref x0, .int x1, .int x2] h = R 83 0 [some (.ref x0), some (.int x1), some (.int x2)] [] h := rfl
theorem r83_0 (ls : A_V) (st : List Value) (h : A_H) : R 83 0 ls st h = a_do a_nL R R 83 (s_aldl 0 1 ls st h) := a_R_eq ..
theorem r83_1 (ls : A_V) (st : List Value) (h : A_H) : R 83 1 ls st h = a_do a_nL R R 83 (s_aldl 0 2 ls st h) := a_R_eq ..
theorem r83_2 (ls : A_V) (st : List Value) (h : A_H) : R 83 2 ls st h = a_do a_nL R R 83 (s_ildl 1 3 ls st h) := a_R_eq ..
theorem r83_3 (ls : A_V) (st : List Value) (h : A_H) : R 83 3 ls st h = a_do a_nL R R 83 (s_ildl 2 4 ls st h) := a_R_eq ..
theorem r83_4 (ls : A_V) (st : List Value) (h : A_H) : R 83 4 ls st h = a_do a_nL R R 83 (s_call 14 143 3 3 true 5 ls st h) := a_R_eq ..
theorem r83_5 (ls : A_V) (st : List Value) (h : A_H) : R 83 5 ls st h = a_do a_nL R R 83 (s_call 14 134 2 2 true 6 ls st h) := a_R_eq ..
theorem r83_6 (ls : A_V) (st : List Value) (h : A_H) : R 83 6 ls st h = a_do a_nL R R 83 (s_if1 (fun x => decide (x = 0)) 9 7 ls st h) := a_R_eq ..
theorem r83_7 (ls : A_V) (st : List Value) (h : A_H) : R 83 7 ls st h = a_do a_nL R R 83 (s_push (.int (-1)) 8 ls st h) := a_R_eq ..
theorem r83_8 (ls : A_V) (st : List Value) (h : A_H) : R 83 8 ls st h = a_do a_nL R R 83 (s_iret ls st h) := a_R_eq ..
theorem r83_9 (ls : A_V) (st : List Value) (h : A_H) : R 83 9 ls st h = a_do a_nL R R 83 (s_aldl 0 10 ls st h) := a_R_eq ..
theorem r83_10 (ls : A_V) (st : List Value) (h : A_H) : R 83 10 ls st h = a_do a_nL R R 83 (s_getR 11 3 11 ls st h) := a_R_eq ..
theorem r83_11 (ls : A_V) (st : List Value) (h : A_H) : R 83 11 ls st h = a_do a_nL R R 83 (s_ildl 1 12 ls st h) := a_R_eq ..
theorem r83_12 (ls : A_V) (st : List Value) (h : A_H) : R 83 12 ls st h = a_do a_nL R R 83 (s_aldl 0 13 ls st h) := a_R_eq ..
theorem r83_13 (ls : A_V) (st : List Value) (h : A_H) : R 83 13 ls st h = a_do a_nL R R 83 (s_getR 11 5 14 ls st h) := a_R_eq ..
theorem r83_14 (ls : A_V) (st : List Value) (h : A_H) : R 83 14 ls st h = a_do a_nL R R 83 (s_getI 8 0 15 ls st h) := a_R_eq ..
theorem r83_15 (ls : A_V) (st : List Value) (h : A_H) : R 83 15 ls st h = a_do a_nL R R 83 (s_ildl 2 16 ls st h) := a_R_eq ..
theorem r83_16 (ls : A_V) (st : List Value) (h : A_H) : R 83 16 ls st h = a_do a_nL R R 83 (s_bi (fun x y => x + y) 17 ls st h) := a_R_eq ..
theorem r83_17 (ls : A_V) (st : List Value) (h : A_H) : R 83 17 ls st h = a_do a_nL R R 83 (s_call 12 57 3 3 true 18 ls st h) := a_R_eq ..
theorem r83_18 (ls : A_V) (st : List Value) (h : A_H) : R 83 18 ls st h = a_do a_nL R R 83 (s_iret ls st h) := a_R_eq ..
theorem b83_0 (x0 : Nat) (x1 : Int32) (x2 : Int32) (h : A_H) : R 83 0 [some (.ref x0), some (.int x1), some (.int x2)] [] h = (cond (isO h x0 11) (a_back R 83 (143, [.ref x0, .int x1, .int x2], h, true, none, 5, [some (.ref x0), some (.int x1), some (.int x2)], [.ref x0]) (C 143 [.ref x0, .int x1, .int x2] h)) none) := (tr (r83_0 ..) (tr (r83_1 ..) (tr (r83_2 ..) (tr (r83_3 ..) (r83_4 ..)))))
theorem b83_5 (x0 : Nat) (x1 : Int32) (x2 : Int32) (s0 : Nat) (s1 : Int32) (h : A_H) : R 83 5 [some (.ref x0), some (.int x1), some (.int x2)] [.int s1, .ref s0] h = (cond (isO h s0 11) (a_back R 83 (134, [.ref s0, .int s1], h, true, none, 6, [some (.ref x0), some (.int x1), some (.int x2)], []) (C 134 [.ref s0, .int s1] h)) none) := (r83_5 ..)
theorem b83_6 (x0 : Nat) (x1 : Int32) (x2 : Int32) (s0 : Int32) (h : A_H) : R 83 6 [some (.ref x0), some (.int x1), some (.int x2)] [.int s0] h = (cond (decide (s0 = 0)) (cond (isO h x0 11 && (hP h x0 3).isSome) (cond (isO h x0 11 && (hP h x0 5).isSome) (cond (isO h ((hP h x0 5).getD 0) 8) (cond (isO h ((hP h x0 3).getD 0) 9) (a_back R 83 (57, [.ref ((hP h x0 3).getD 0), .int x1, .int ((hI h ((hP h x0 5).getD 0) 0) + x2)], h, true, none, 18, [some (.ref x0), some (.int x1), some (.int x2)], []) (C 57 [.ref ((hP h x0 3).getD 0), .int x1, .int ((hI h ((hP h x0 5).getD 0) 0) + x2)] h)) none) none) none) none) (some (some (some (.int (-1 : Int32))), h))) := (tr (r83_6 ..) (cgB (tr (r83_9 ..) (tr (r83_10 ..) (cgT (tr (r83_11 ..) (tr (r83_12 ..) (tr (r83_13 ..) (cgT (tr (r83_14 ..) (cgT (tr (r83_15 ..) (tr (r83_16 ..) (r83_17 ..)))))))))))) (tr (r83_7 ..) (r83_8 ..))))
theorem b83_18 (x0 : Nat) (x1 : Int32) (x2 : Int32) (s0 : Int32) (h : A_H) : R 83 18 [some (.ref x0), some (.int x1), some (.int x2)] [.int s0] h = (some (some (some (.int s0)), h)) := (r83_18 ..)
theorem e84 (x0 : Nat) (x1 : Int32) (x2 : Int32) (h : A_H) : C 84 [.ref x0, .int x1, .int x2] h = R 84 0 [some (.ref x0), some (.int x1), some (.int x2)] [] h := rfl
theorem r84_0 (ls : A_V) (st : List Value) (h : A_H) : R 84 0 ls st h = a_do a_nL R R 84 (s_aldl 0 1 ls st h) := a_R_eq ..
theorem r84_1 (ls : A_V) (st : List Value) (h : A_H) : R 84 1 ls st h = a_do a_nL R R 84 (s_aldl 0 2 ls st h) := a_R_eq ..
theorem r84_2 (ls : A_V) (st : List Value) (h : A_H) : R 84 2 ls st h = a_do a_nL R R 84 (s_ildl 1 3 ls st h) := a_R_eq ..
theorem r84_3 (ls : A_V) (st : List Value) (h : A_H) : R 84 3 ls st h = a_do a_nL R R 84 (s_ildl 2 4 ls st h) := a_R_eq ..
theorem r84_4 (ls : A_V) (st : List Value) (h : A_H) : R 84 4 ls st h = a_do a_nL R R 84 (s_call 14 143 3 3 true 5 ls st h) := a_R_eq ..
theorem r84_5 (ls : A_V) (st : List Value) (h : A_H) : R 84 5 ls st h = a_do a_nL R R 84 (s_call 14 134 2 2 true 6 ls st h) := a_R_eq ..
theorem r84_6 (ls : A_V) (st : List Value) (h : A_H) : R 84 6 ls st h = a_do a_nL R R 84 (s_if1 (fun x => decide (x = 0)) 9 7 ls st h) := a_R_eq ..
theorem r84_7 (ls : A_V) (st : List Value) (h : A_H) : R 84 7 ls st h = a_do a_nL R R 84 (s_push (.int (-1)) 8 ls st h) := a_R_eq ..
theorem r84_8 (ls : A_V) (st : List Value) (h : A_H) : R 84 8 ls st h = a_do a_nL R R 84 (s_iret ls st h) := a_R_eq ..
theorem r84_9 (ls : A_V) (st : List Value) (h : A_H) : R 84 9 ls st h = a_do a_nL R R 84 (s_aldl 0 10 ls st h) := a_R_eq ..
theorem r84_10 (ls : A_V) (st : List Value) (h : A_H) : R 84 10 ls st h = a_do a_nL R R 84 (s_getR 11 3 11 ls st h) := a_R_eq ..
theorem r84_11 (ls : A_V) (st : List Value) (h : A_H) : R 84 11 ls st h = a_do a_nL R R 84 (s_ildl 1 12 ls st h) := a_R_eq ..
theorem r84_12 (ls : A_V) (st : List Value) (h : A_H) : R 84 12 ls st h = a_do a_nL R R 84 (s_aldl 0 13 ls st h) := a_R_eq ..
theorem r84_13 (ls : A_V) (st : List Value) (h : A_H) : R 84 13 ls st h = a_do a_nL R R 84 (s_getR 11 5 14 ls st h) := a_R_eq ..
theorem r84_14 (ls : A_V) (st : List Value) (h : A_H) : R 84 14 ls st h = a_do a_nL R R 84 (s_getI 8 0 15 ls st h) := a_R_eq ..
theorem r84_15 (ls : A_V) (st : List Value) (h : A_H) : R 84 15 ls st h = a_do a_nL R R 84 (s_ildl 2 16 ls st h) := a_R_eq ..
theorem r84_16 (ls : A_V) (st : List Value) (h : A_H) : R 84 16 ls st h = a_do a_nL R R 84 (s_bi (fun x y => x + y) 17 ls st h) := a_R_eq ..
theorem r84_17 (ls : A_V) (st : List Value) (h : A_H) : R 84 17 ls st h = a_do a_nL R R 84 (s_call 12 60 3 4 true 18 ls st h) := a_R_eq ..
theorem r84_18 (ls : A_V) (st : List Value) (h : A_H) : R 84 18 ls st h = a_do a_nL R R 84 (s_iret ls st h) := a_R_eq ..
theorem b84_0 (x0 : Nat) (x1 : Int32) (x2 : Int32) (h : A_H) : R 84 0 [some (.ref x0), some (.int x1), some (.int x2)] [] h = (cond (isO h x0 11) (a_back R 84 (143, [.ref x0, .int x1, .int x2], h, true, none, 5, [some (.ref x0), some (.int x1), some (.int x2)], [.ref x0]) (C 143 [.ref x0, .int x1, .int x2] h)) none) := (tr (r84_0 ..) (tr (r84_1 ..) (tr (r84_2 ..) (tr (r84_3 ..) (r84_4 ..)))))
theorem b84_5 (x0 : Nat) (x1 : Int32) (x2 : Int32) (s0 : Nat) (s1 : Int32) (h : A_H) : R 84 5 [some (.ref x0), some (.int x1), some (.int x2)] [.int s1, .ref s0] h = (cond (isO h s0 11) (a_back R 84 (134, [.ref s0, .int s1], h, true, none, 6, [some (.ref x0), some (.int x1), some (.int x2)], []) (C 134 [.ref s0, .int s1] h)) none) := (r84_5 ..)
theorem b84_6 (x0 : Nat) (x1 : Int32) (x2 : Int32) (s0 : Int32) (h : A_H) : R 84 6 [some (.ref x0), some (.int x1), some (.int x2)] [.int s0] h = (cond (decide (s0 = 0)) (cond (isO h x0 11 && (hP h x0 3).isSome) (cond (isO h x0 11 && (hP h x0 5).isSome) (cond (isO h ((hP h x0 5).getD 0) 8) (cond (isO h ((hP h x0 3).getD 0) 9) (a_back R 84 (60, [.ref ((hP h x0 3).getD 0), .int x1, .int ((hI h ((hP h x0 5).getD 0) 0) + x2)], h, true, none, 18, [some (.ref x0), some (.int x1), some (.int x2)], []) (C 60 [.ref ((hP h x0 3).getD 0), .int x1, .int ((hI h ((hP h x0 5).getD 0) 0) + x2)] h)) none) none) none) none) (some (some (some (.int (-1 : Int32))), h))) := (tr (r84_6 ..) (cgB (tr (r84_9 ..) (tr (r84_10 ..) (cgT (tr (r84_11 ..) (tr (r84_12 ..) (tr (r84_13 ..) (cgT (tr (r84_14 ..) (cgT (tr (r84_15 ..) (tr (r84_16 ..) (r84_17 ..)))))))))))) (tr (r84_7 ..) (r84_8 ..))))
theorem b84_18 (x0 : Nat) (x1 : Int32) (x2 : Int32) (s0 : Int32) (h : A_H) : R 84 18 [some (.ref x0), some (.int x1), some (.int x2)] [.int s0] h = (some (some (some (.int s0)), h)) := (r84_18 ..)
theorem e85 (x0 : Nat) (x1 : Int32) (x2 : Int32) (h : A_H) : C 85 [.ref x0, .int x1, .int x2] h = R 85 0 [some (.ref x0), some (.int x1), some (.int x2)] [] h := rfl
theorem r85_0 (ls : A_V) (st : List Value) (h : A_H) : R 85 0 ls st h = a_do a_nL R R 85 (s_aldl 0 1 ls st h) := a_R_eq ..
theorem r85_1 (ls : A_V) (st : List Value) (h : A_H) : R 85 1 ls st h = a_do a_nL R R 85 (s_aldl 0 2 ls st h) := a_R_eq ..
theorem r85_2 (ls : A_V) (st : List Value) (h : A_H) : R 85 2 ls st h = a_do a_nL R R 85 (s_ildl 1 3 ls st h) := a_R_eq ..
theorem r85_3 (ls : A_V) (st : List Value) (h : A_H) : R 85 3 ls st h = a_do a_nL R R 85 (s_ildl 2 4 ls st h) := a_R_eq ..
theorem r85_4 (ls : A_V) (st : List Value) (h : A_H) : R 85 4 ls st h = a_do a_nL R R 85 (s_call 14 143 3 3 true 5 ls st h) := a_R_eq ..
theorem r85_5 (ls : A_V) (st : List Value) (h : A_H) : R 85 5 ls st h = a_do a_nL R R 85 (s_call 14 134 2 2 true 6 ls st h) := a_R_eq ..
theorem r85_6 (ls : A_V) (st : List Value) (h : A_H) : R 85 6 ls st h = a_do a_nL R R 85 (s_if1 (fun x => decide (x = 0)) 9 7 ls st h) := a_R_eq ..
theorem r85_7 (ls : A_V) (st : List Value) (h : A_H) : R 85 7 ls st h = a_do a_nL R R 85 (s_push (.int (-1)) 8 ls st h) := a_R_eq ..
theorem r85_8 (ls : A_V) (st : List Value) (h : A_H) : R 85 8 ls st h = a_do a_nL R R 85 (s_iret ls st h) := a_R_eq ..
theorem r85_9 (ls : A_V) (st : List Value) (h : A_H) : R 85 9 ls st h = a_do a_nL R R 85 (s_aldl 0 10 ls st h) := a_R_eq ..
theorem r85_10 (ls : A_V) (st : List Value) (h : A_H) : R 85 10 ls st h = a_do a_nL R R 85 (s_getR 11 3 11 ls st h) := a_R_eq ..
theorem r85_11 (ls : A_V) (st : List Value) (h : A_H) : R 85 11 ls st h = a_do a_nL R R 85 (s_ildl 1 12 ls st h) := a_R_eq ..
theorem r85_12 (ls : A_V) (st : List Value) (h : A_H) : R 85 12 ls st h = a_do a_nL R R 85 (s_aldl 0 13 ls st h) := a_R_eq ..
theorem r85_13 (ls : A_V) (st : List Value) (h : A_H) : R 85 13 ls st h = a_do a_nL R R 85 (s_getR 11 5 14 ls st h) := a_R_eq ..
theorem r85_14 (ls : A_V) (st : List Value) (h : A_H) : R 85 14 ls st h = a_do a_nL R R 85 (s_getI 8 0 15 ls st h) := a_R_eq ..
theorem r85_15 (ls : A_V) (st : List Value) (h : A_H) : R 85 15 ls st h = a_do a_nL R R 85 (s_ildl 2 16 ls st h) := a_R_eq ..
theorem r85_16 (ls : A_V) (st : List Value) (h : A_H) : R 85 16 ls st h = a_do a_nL R R 85 (s_bi (fun x y => x + y) 17 ls st h) := a_R_eq ..
theorem r85_17 (ls : A_V) (st : List Value) (h : A_H) : R 85 17 ls st h = a_do a_nL R R 85 (s_push (.int 0) 18 ls st h) := a_R_eq ..
theorem r85_18 (ls : A_V) (st : List Value) (h : A_H) : R 85 18 ls st h = a_do a_nL R R 85 (s_call 12 61 4 6 true 19 ls st h) := a_R_eq ..
theorem r85_19 (ls : A_V) (st : List Value) (h : A_H) : R 85 19 ls st h = a_do a_nL R R 85 (s_iret ls st h) := a_R_eq ..
theorem b85_0 (x0 : Nat) (x1 : Int32) (x2 : Int32) (h : A_H) : R 85 0 [some (.ref x0), some (.int x1), some (.int x2)] [] h = (cond (isO h x0 11) (a_back R 85 (143, [.ref x0, .int x1, .int x2], h, true, none, 5, [some (.ref x0), some (.int x1), some (.int x2)], [.ref x0]) (C 143 [.ref x0, .int x1, .int x2] h)) none) := (tr (r85_0 ..) (tr (r85_1 ..) (tr (r85_2 ..) (tr (r85_3 ..) (r85_4 ..)))))
theorem b85_5 (x0 : Nat) (x1 : Int32) (x2 : Int32) (s0 : Nat) (s1 : Int32) (h : A_H) : R 85 5 [some (.ref x0), some (.int x1), some (.int x2)] [.int s1, .ref s0] h = (cond (isO h s0 11) (a_back R 85 (134, [.ref s0, .int s1], h, true, none, 6, [some (.ref x0), some (.int x1), some (.int x2)], []) (C 134 [.ref s0, .int s1] h)) none) := (r85_5 ..)
theorem b85_6 (x0 : Nat) (x1 : Int32) (x2 : Int32) (s0 : Int32) (h : A_H) : R 85 6 [some (.ref x0), some (.int x1), some (.int x2)] [.int s0] h = (cond (decide (s0 = 0)) (cond (isO h x0 11 && (hP h x0 3).isSome) (cond (isO h x0 11 && (hP h x0 5).isSome) (cond (isO h ((hP h x0 5).getD 0) 8) (cond (isO h ((hP h x0 3).getD 0) 9) (a_back R 85 (61, [.ref ((hP h x0 3).getD 0), .int x1, .int ((hI h ((hP h x0 5).getD 0) 0) + x2), .int (0 : Int32)], h, true, none, 19, [some (.ref x0), some (.int x1), some (.int x2)], []) (C 61 [.ref ((hP h x0 3).getD 0), .int x1, .int ((hI h ((hP h x0 5).getD 0) 0) + x2), .int (0 : Int32)] h)) none) none) none) none) (some (some (some (.int (-1 : Int32))), h))) := (tr (r85_6 ..) (cgB (tr (r85_9 ..) (tr (r85_10 ..) (cgT (tr (r85_11 ..) (tr (r85_12 ..) (tr (r85_13 ..) (cgT (tr (r85_14 ..) (cgT (tr (r85_15 ..) (tr (r85_16 ..) (tr (r85_17 ..) (r85_18 ..))))))))))))) (tr (r85_7 ..) (r85_8 ..))))
theorem b85_19 (x0 : Nat) (x1 : Int32) (x2 : Int32) (s0 : Int32) (h : A_H) : R 85 19 [some (.ref x0), some (.int x1), some (.int x2)] [.int s0] h = (some (some (some (.int s0)), h)) := (r85_19 ..)
theorem e86 (x0 : Nat) (x1 : Int32) (x2 : Int32) (h : A_H) : C 86 [.ref x0, .int x1, .int x2] h = R 86 0 [some (.ref x0), some (.int x1), some (.int x2)] [] h := rfl
theorem r86_0 (ls : A_V) (st : List Value) (h : A_H) : R 86 0 ls st h = a_do a_nL R R 86 (s_aldl 0 1 ls st h) := a_R_eq ..
theorem r86_1 (ls : A_V) (st : List Value) (h : A_H) : R 86 1 ls st h = a_do a_nL R R 86 (s_aldl 0 2 ls st h) := a_R_eq ..
theorem r86_2 (ls : A_V) (st : List Value) (h : A_H) : R 86 2 ls st h = a_do a_nL R R 86 (s_ildl 1 3 ls st h) := a_R_eq ..
theorem r86_3 (ls : A_V) (st : List Value) (h : A_H) : R 86 3 ls st h = a_do a_nL R R 86 (s_ildl 2 4 ls st h) := a_R_eq ..
theorem r86_4 (ls : A_V) (st : List Value) (h : A_H) : R 86 4 ls st h = a_do a_nL R R 86 (s_call 14 143 3 3 true 5 ls st h) := a_R_eq ..
theorem r86_5 (ls : A_V) (st : List Value) (h : A_H) : R 86 5 ls st h = a_do a_nL R R 86 (s_call 14 134 2 2 true 6 ls st h) := a_R_eq ..
theorem r86_6 (ls : A_V) (st : List Value) (h : A_H) : R 86 6 ls st h = a_do a_nL R R 86 (s_if1 (fun x => decide (x = 0)) 9 7 ls st h) := a_R_eq ..
theorem r86_7 (ls : A_V) (st : List Value) (h : A_H) : R 86 7 ls st h = a_do a_nL R R 86 (s_push (.int (-1)) 8 ls st h) := a_R_eq ..
theorem r86_8 (ls : A_V) (st : List Value) (h : A_H) : R 86 8 ls st h = a_do a_nL R R 86 (s_iret ls st h) := a_R_eq ..
theorem r86_9 (ls : A_V) (st : List Value) (h : A_H) : R 86 9 ls st h = a_do a_nL R R 86 (s_aldl 0 10 ls st h) := a_R_eq ..
theorem r86_10 (ls : A_V) (st : List Value) (h : A_H) : R 86 10 ls st h = a_do a_nL R R 86 (s_getR 11 3 11 ls st h) := a_R_eq ..
theorem r86_11 (ls : A_V) (st : List Value) (h : A_H) : R 86 11 ls st h = a_do a_nL R R 86 (s_ildl 1 12 ls st h) := a_R_eq ..
theorem r86_12 (ls : A_V) (st : List Value) (h : A_H) : R 86 12 ls st h = a_do a_nL R R 86 (s_aldl 0 13 ls st h) := a_R_eq ..
theorem r86_13 (ls : A_V) (st : List Value) (h : A_H) : R 86 13 ls st h = a_do a_nL R R 86 (s_getR 11 5 14 ls st h) := a_R_eq ..
theorem r86_14 (ls : A_V) (st : List Value) (h : A_H) : R 86 14 ls st h = a_do a_nL R R 86 (s_getI 8 0 15 ls st h) := a_R_eq ..
theorem r86_15 (ls : A_V) (st : List Value) (h : A_H) : R 86 15 ls st h = a_do a_nL R R 86 (s_ildl 2 16 ls st h) := a_R_eq ..
theorem r86_16 (ls : A_V) (st : List Value) (h : A_H) : R 86 16 ls st h = a_do a_nL R R 86 (s_bi (fun x y => x + y) 17 ls st h) := a_R_eq ..
theorem r86_17 (ls : A_V) (st : List Value) (h : A_H) : R 86 17 ls st h = a_do a_nL R R 86 (s_aldl 0 18 ls st h) := a_R_eq ..
theorem r86_18 (ls : A_V) (st : List Value) (h : A_H) : R 86 18 ls st h = a_do a_nL R R 86 (s_getR 11 5 19 ls st h) := a_R_eq ..
theorem r86_19 (ls : A_V) (st : List Value) (h : A_H) : R 86 19 ls st h = a_do a_nL R R 86 (s_call 11 51 1 1 true 20 ls st h) := a_R_eq ..
theorem r86_20 (ls : A_V) (st : List Value) (h : A_H) : R 86 20 ls st h = a_do a_nL R R 86 (s_push (.int (-1)) 21 ls st h) := a_R_eq ..
theorem r86_21 (ls : A_V) (st : List Value) (h : A_H) : R 86 21 ls st h = a_do a_nL R R 86 (s_bi (fun x y => x ^^^ y) 22 ls st h) := a_R_eq ..
theorem r86_22 (ls : A_V) (st : List Value) (h : A_H) : R 86 22 ls st h = a_do a_nL R R 86 (s_call 12 62 4 7 true 23 ls st h) := a_R_eq ..
theorem r86_23 (ls : A_V) (st : List Value) (h : A_H) : R 86 23 ls st h = a_do a_nL R R 86 (s_iret ls st h) := a_R_eq ..
theorem b86_0 (x0 : Nat) (x1 : Int32) (x2 : Int32) (h : A_H) : R 86 0 [some (.ref x0), some (.int x1), some (.int x2)] [] h = (cond (isO h x0 11) (a_back R 86 (143, [.ref x0, .int x1, .int x2], h, true, none, 5, [some (.ref x0), some (.int x1), some (.int x2)], [.ref x0]) (C 143 [.ref x0, .int x1, .int x2] h)) none) := (tr (r86_0 ..) (tr (r86_1 ..) (tr (r86_2 ..) (tr (r86_3 ..) (r86_4 ..)))))
theorem b86_5 (x0 : Nat) (x1 : Int32) (x2 : Int32) (s0 : Nat) (s1 : Int32) (h : A_H) : R 86 5 [some (.ref x0), some (.int x1), some (.int x2)] [.int s1, .ref s0] h = (cond (isO h s0 11) (a_back R 86 (134, [.ref s0, .int s1], h, true, none, 6, [some (.ref x0), some (.int x1), some (.int x2)], []) (C 134 [.ref s0, .int s1] h)) none) := (r86_5 ..)
theorem b86_6 (x0 : Nat) (x1 : Int32) (x2 : Int32) (s0 : Int32) (h : A_H) : R 86 6 [some (.ref x0), some (.int x1), some (.int x2)] [.int s0] h = (cond (decide (s0 = 0)) (cond (isO h x0 11 && (hP h x0 3).isSome) (cond (isO h x0 11 && (hP h x0 5).isSome) (cond (isO h ((hP h x0 5).getD 0) 8) (cond (isO h x0 11 && (hP h x0 5).isSome) (cond (isO h ((hP h x0 5).getD 0) 8) (a_back R 86 (51, [.ref ((hP h x0 5).getD 0)], h, true, none, 20, [some (.ref x0), some (.int x1), some (.int x2)], [.int ((hI h ((hP h x0 5).getD 0) 0) + x2), .int x1, .ref ((hP h x0 3).getD 0)]) (C 51 [.ref ((hP h x0 5).getD 0)] h)) none) none) none) none) none) (some (some (some (.int (-1 : Int32))), h))) := (tr (r86_6 ..) (cgB (tr (r86_9 ..) (tr (r86_10 ..) (cgT (tr (r86_11 ..) (tr (r86_12 ..) (tr (r86_13 ..) (cgT (tr (r86_14 ..) (cgT (tr (r86_15 ..) (tr (r86_16 ..) (tr (r86_17 ..) (tr (r86_18 ..) (cgT (r86_19 ..))))))))))))))) (tr (r86_7 ..) (r86_8 ..))))
theorem b86_20 (x0 : Nat) (x1 : Int32) (x2 : Int32) (s0 : Nat) (s1 : Int32) (s2 : Int32) (s3 : Int32) (h : A_H) : R 86 20 [some (.ref x0), some (.int x1), some (.int x2)] [.int s3, .int s2, .int s1, .ref s0] h = (cond (isO h s0 9) (a_back R 86 (62, [.ref s0, .int s1, .int s2, .int (s3 ^^^ (-1 : Int32))], h, true, none, 23, [some (.ref x0), some (.int x1), some (.int x2)], []) (C 62 [.ref s0, .int s1, .int s2, .int (s3 ^^^ (-1 : Int32))] h)) none) := (tr (r86_20 ..) (tr (r86_21 ..) (r86_22 ..)))
theorem b86_23 (x0 : Nat) (x1 : Int32) (x2 : Int32) (s0 : Int32) (h : A_H) : R 86 23 [some (.ref x0), some (.int x1), some (.int x2)] [.int s0] h = (some (some (some (.int s0)), h)) := (r86_23 ..)
theorem e87 (x0 : Nat) (x1 : Int32) (h : A_H) : C 87 [.ref x0, .int x1] h = R 87 0 [some (.ref x0), some (.int x1), none] [] h := rfl
theorem r87_0 (ls : A_V) (st : List Value) (h : A_H) : R 87 0 ls st h = a_do a_nL R R 87 (s_aldl 0 1 ls st h) := a_R_eq ..
theorem r87_1 (ls : A_V) (st : List Value) (h : A_H) : R 87 1 ls st h = a_do a_nL R R 87 (s_aldl 0 2 ls st h) := a_R_eq ..
theorem r87_2 (ls : A_V) (st : List Value) (h : A_H) : R 87 2 ls st h = a_do a_nL R R 87 (s_ildl 1 3 ls st h) := a_R_eq ..
theorem r87_3 (ls : A_V) (st : List Value) (h : A_H) : R 87 3 ls st h = a_do a_nL R R 87 (s_call 14 137 2 2 true 4 ls st h) := a_R_eq ..
theorem r87_4 (ls : A_V) (st : List Value) (h : A_H) : R 87 4 ls st h = a_do a_nL R R 87 (s_call 14 134 2 2 true 5 ls st h) := a_R_eq ..
theorem r87_5 (ls : A_V) (st : List Value) (h : A_H) : R 87 5 ls st h = a_do a_nL R R 87 (s_if1 (fun x => decide (x = 0)) 8 6 ls st h) := a_R_eq ..
theorem r87_6 (ls : A_V) (st : List Value) (h : A_H) : R 87 6 ls st h = a_do a_nL R R 87 (s_push (.int (-1)) 7 ls st h) := a_R_eq ..
theorem r87_7 (ls : A_V) (st : List Value) (h : A_H) : R 87 7 ls st h = a_do a_nL R R 87 (s_iret ls st h) := a_R_eq ..
theorem r87_8 (ls : A_V) (st : List Value) (h : A_H) : R 87 8 ls st h = a_do a_nL R R 87 (s_aldl 0 9 ls st h) := a_R_eq ..
theorem r87_9 (ls : A_V) (st : List Value) (h : A_H) : R 87 9 ls st h = a_do a_nL R R 87 (s_getR 11 3 10 ls st h) := a_R_eq ..
theorem r87_10 (ls : A_V) (st : List Value) (h : A_H) : R 87 10 ls st h = a_do a_nL R R 87 (s_getR 9 12 11 ls st h) := a_R_eq ..
theorem r87_11 (ls : A_V) (st : List Value) (h : A_H) : R 87 11 ls st h = a_do a_nL R R 87 (s_ildl 1 12 ls st h) := a_R_eq ..
theorem r87_12 (ls : A_V) (st : List Value) (h : A_H) : R 87 12 ls st h = a_do a_nL R R 87 (s_aal 6 13 ls st h) := a_R_eq ..
theorem r87_13 (ls : A_V) (st : List Value) (h : A_H) : R 87 13 ls st h = a_do a_nL R R 87 (s_getI 3 4 14 ls st h) := a_R_eq ..
theorem r87_14 (ls : A_V) (st : List Value) (h : A_H) : R 87 14 ls st h = a_do a_nL R R 87 (s_ist 2 15 ls st h) := a_R_eq ..
theorem r87_15 (ls : A_V) (st : List Value) (h : A_H) : R 87 15 ls st h = a_do a_nL R R 87 (s_ildl 2 16 ls st h) := a_R_eq ..
theorem r87_16 (ls : A_V) (st : List Value) (h : A_H) : R 87 16 ls st h = a_do a_nL R R 87 (s_push (.int (-2)) 17 ls st h) := a_R_eq ..
theorem r87_17 (ls : A_V) (st : List Value) (h : A_H) : R 87 17 ls st h = a_do a_nL R R 87 (s_if2 (fun x y => !decide (x = y)) 20 18 ls st h) := a_R_eq ..
theorem r87_18 (ls : A_V) (st : List Value) (h : A_H) : R 87 18 ls st h = a_do a_nL R R 87 (s_push (.int (-2)) 19 ls st h) := a_R_eq ..
theorem r87_19 (ls : A_V) (st : List Value) (h : A_H) : R 87 19 ls st h = a_do a_nL R R 87 (s_goto 33 ls st h) := a_R_eq ..
theorem r87_20 (ls : A_V) (st : List Value) (h : A_H) : R 87 20 ls st h = a_do a_nL R R 87 (s_push (.int 0) 21 ls st h) := a_R_eq ..
theorem r87_21 (ls : A_V) (st : List Value) (h : A_H) : R 87 21 ls st h = a_do a_nL R R 87 (s_ildl 2 22 ls st h) := a_R_eq ..
theorem r87_22 (ls : A_V) (st : List Value) (h : A_H) : R 87 22 ls st h = a_do a_nL R R 87 (s_push (.int 1) 23 ls st h) := a_R_eq ..
theorem r87_23 (ls : A_V) (st : List Value) (h : A_H) : R 87 23 ls st h = a_do a_nL R R 87 (s_bi (fun x y => x + y) 24 ls st h) := a_R_eq ..
theorem r87_24 (ls : A_V) (st : List Value) (h : A_H) : R 87 24 ls st h = a_do a_nL R R 87 (s_aldl 0 25 ls st h) := a_R_eq ..
theorem r87_25 (ls : A_V) (st : List Value) (h : A_H) : R 87 25 ls st h = a_do a_nL R R 87 (s_getR 11 3 26 ls st h) := a_R_eq ..
theorem r87_26 (ls : A_V) (st : List Value) (h : A_H) : R 87 26 ls st h = a_do a_nL R R 87 (s_ildl 1 27 ls st h) := a_R_eq ..
theorem r87_27 (ls : A_V) (st : List Value) (h : A_H) : R 87 27 ls st h = a_do a_nL R R 87 (s_aldl 0 28 ls st h) := a_R_eq ..
theorem r87_28 (ls : A_V) (st : List Value) (h : A_H) : R 87 28 ls st h = a_do a_nL R R 87 (s_getR 11 5 29 ls st h) := a_R_eq ..
theorem r87_29 (ls : A_V) (st : List Value) (h : A_H) : R 87 29 ls st h = a_do a_nL R R 87 (s_getI 8 0 30 ls st h) := a_R_eq ..
theorem r87_30 (ls : A_V) (st : List Value) (h : A_H) : R 87 30 ls st h = a_do a_nL R R 87 (s_call 12 57 3 3 true 31 ls st h) := a_R_eq ..
theorem r87_31 (ls : A_V) (st : List Value) (h : A_H) : R 87 31 ls st h = a_do a_nL R R 87 (s_bi (fun x y => x - y) 32 ls st h) := a_R_eq ..
theorem r87_32 (ls : A_V) (st : List Value) (h : A_H) : R 87 32 ls st h = a_do a_nL R R 87 (s_mbi (fun x y => if x < y then y else x) 33 ls st h) := a_R_eq ..
theorem r87_33 (ls : A_V) (st : List Value) (h : A_H) : R 87 33 ls st h = a_do a_nL R R 87 (s_iret ls st h) := a_R_eq ..
theorem b87_0 (x0 : Nat) (x1 : Int32) (l2 : Option Value) (h : A_H) : R 87 0 [some (.ref x0), some (.int x1), l2] [] h = (cond (isO h x0 11) (a_back R 87 (137, [.ref x0, .int x1], h, true, none, 4, [some (.ref x0), some (.int x1), l2], [.ref x0]) (C 137 [.ref x0, .int x1] h)) none) := (tr (r87_0 ..) (tr (r87_1 ..) (tr (r87_2 ..) (r87_3 ..))))
theorem b87_4 (x0 : Nat) (x1 : Int32) (l2 : Option Value) (s0 : Nat) (s1 : Int32) (h : A_H) : R 87 4 [some (.ref x0), some (.int x1), l2] [.int s1, .ref s0] h = (cond (isO h s0 11) (a_back R 87 (134, [.ref s0, .int s1], h, true, none, 5, [some (.ref x0), some (.int x1), l2], []) (C 134 [.ref s0, .int s1] h)) none) := (r87_4 ..)
theorem b87_5 (x0 : Nat) (x1 : Int32) (l2 : Option Value) (s0 : Int32) (h : A_H) : R 87 5 [some (.ref x0), some (.int x1), l2] [.int s0] h = (cond (decide (s0 = 0)) (cond (isO h x0 11 && (hP h x0 3).isSome) (cond (isO h ((hP h x0 3).getD 0) 9 && (hP h ((hP h x0 3).getD 0) 12).isSome) (cond (isA h ((hP h ((hP h x0 3).getD 0) 12).getD 0) 6 x1 && (hP h ((hP h ((hP h x0 3).getD 0) 12).getD 0) (x1).toNatClampNeg).isSome) (cond (isO h ((hP h ((hP h ((hP h x0 3).getD 0) 12).getD 0) (x1).toNatClampNeg).getD 0) 3) (cond (!decide ((hI h ((hP h ((hP h ((hP h x0 3).getD 0) 12).getD 0) (x1).toNatClampNeg).getD 0) 4) = (-2 : Int32))) (cond (isO h x0 11 && (hP h x0 3).isSome) (cond (isO h x0 11 && (hP h x0 5).isSome) (cond (isO h ((hP h x0 5).getD 0) 8) (cond (isO h ((hP h x0 3).getD 0) 9) (a_back R 87 (57, [.ref ((hP h x0 3).getD 0), .int x1, .int (hI h ((hP h x0 5).getD 0) 0)], h, true, none, 31, [some (.ref x0), some (.int x1), some (.int (hI h ((hP h ((hP h ((hP h x0 3).getD 0) 12).getD 0) (x1).toNatClampNeg).getD 0) 4))], [.int ((hI h ((hP h ((hP h ((hP h x0 3).getD 0) 12).getD 0) (x1).toNatClampNeg).getD 0) 4) + (1 : Int32)), .int (0 : Int32)]) (C 57 [.ref ((hP h x0 3).getD 0), .int x1, .int (hI h ((hP h x0 5).getD 0) 0)] h)) none) none) none) none) (some (some (some (.int (-2 : Int32))), h))) none) none) none) none) (some (some (some (.int (-1 : Int32))), h))) := (tr (r87_5 ..) (cgB (tr (r87_8 ..) (tr (r87_9 ..) (cgT (tr (r87_10 ..) (cgT (tr (r87_11 ..) (tr (r87_12 ..) (cgT (tr (r87_13 ..) (cgT (tr (r87_14 ..) (tr (r87_15 ..) (tr (r87_16 ..) (tr (r87_17 ..) (cgB (tr (r87_20 ..) (tr (r87_21 ..) (tr (r87_22 ..) (tr (r87_23 ..) (tr (r87_24 ..) (tr (r87_25 ..) (cgT (tr (r87_26 ..) (tr (r87_27 ..) (tr (r87_28 ..) (cgT (tr (r87_29 ..) (cgT (r87_30 ..)))))))))))))) (tr (r87_18 ..) (tr (r87_19 ..) (r87_33 ..)))))))))))))))))) (tr (r87_6 ..) (r87_7 ..))))
theorem b87_31 (x0 : Nat) (x1 : Int32) (x2 : Int32) (s0 : Int32) (s1 : Int32) (s2 : Int32) (h : A_H) : R 87 31 [some (.ref x0), some (.int x1), some (.int x2)] [.int s2, .int s1, .int s0] h = (some (some (some (.int (if s0 < (s1 - s2) then (s1 - s2) else s0))), h)) := (tr (r87_31 ..) (tr (r87_32 ..) (r87_33 ..)))
theorem e88 (x0 : Nat) (x1 : Int32) (x2 : Int32) (x3 : Int32) (h : A_H) : C 88 [.ref x0, .int x1, .int x2, .int x3] h = R 88 0 [some (.ref x0), some (.int x1), some (.int x2), some (.int x3)] [] h := rfl
theorem r88_0 (ls : A_V) (st : List Value) (h : A_H) : R 88 0 ls st h = a_do a_nL R R 88 (s_aldl 0 1 ls st h) := a_R_eq ..
theorem r88_1 (ls : A_V) (st : List Value) (h : A_H) : R 88 1 ls st h = a_do a_nL R R 88 (s_aldl 0 2 ls st h) := a_R_eq ..
theorem r88_2 (ls : A_V) (st : List Value) (h : A_H) : R 88 2 ls st h = a_do a_nL R R 88 (s_ildl 1 3 ls st h) := a_R_eq ..
theorem r88_3 (ls : A_V) (st : List Value) (h : A_H) : R 88 3 ls st h = a_do a_nL R R 88 (s_ildl 2 4 ls st h) := a_R_eq ..
theorem r88_4 (ls : A_V) (st : List Value) (h : A_H) : R 88 4 ls st h = a_do a_nL R R 88 (s_ildl 3 5 ls st h) := a_R_eq ..
theorem r88_5 (ls : A_V) (st : List Value) (h : A_H) : R 88 5 ls st h = a_do a_nL R R 88 (s_call 14 144 4 4 true 6 ls st h) := a_R_eq ..
theorem r88_6 (ls : A_V) (st : List Value) (h : A_H) : R 88 6 ls st h = a_do a_nL R R 88 (s_call 14 134 2 2 true 7 ls st h) := a_R_eq ..
theorem r88_7 (ls : A_V) (st : List Value) (h : A_H) : R 88 7 ls st h = a_do a_nL R R 88 (s_if1 (fun x => decide (x = 0)) 10 8 ls st h) := a_R_eq ..
theorem r88_8 (ls : A_V) (st : List Value) (h : A_H) : R 88 8 ls st h = a_do a_nL R R 88 (s_push (.int (-1)) 9 ls st h) := a_R_eq ..
theorem r88_9 (ls : A_V) (st : List Value) (h : A_H) : R 88 9 ls st h = a_do a_nL R R 88 (s_iret ls st h) := a_R_eq ..
theorem r88_10 (ls : A_V) (st : List Value) (h : A_H) : R 88 10 ls st h = a_do a_nL R R 88 (s_aldl 0 11 ls st h) := a_R_eq ..
theorem r88_11 (ls : A_V) (st : List Value) (h : A_H) : R 88 11 ls st h = a_do a_nL R R 88 (s_ildl 1 12 ls st h) := a_R_eq ..
theorem r88_12 (ls : A_V) (st : List Value) (h : A_H) : R 88 12 ls st h = a_do a_nL R R 88 (s_ildl 2 13 ls st h) := a_R_eq ..
theorem r88_13 (ls : A_V) (st : List Value) (h : A_H) : R 88 13 ls st h = a_do a_nL R R 88 (s_ildl 3 14 ls st h) := a_R_eq ..
theorem r88_14 (ls : A_V) (st : List Value) (h : A_H) : R 88 14 ls st h = a_do a_nL R R 88 (s_push (.int 0) 15 ls st h) := a_R_eq ..
theorem r88_15 (ls : A_V) (st : List Value) (h : A_H) : R 88 15 ls st h = a_do a_nL R R 88 (s_call 14 148 5 5 true 16 ls st h) := a_R_eq ..
theorem r88_16 (ls : A_V) (st : List Value) (h : A_H) : R 88 16 ls st h = a_do a_nL R R 88 (s_iret ls st h) := a_R_eq ..
theorem b88_0 (x0 : Nat) (x1 : Int32) (x2 : Int32) (x3 : Int32) (h : A_H) : R 88 0 [some (.ref x0), some (.int x1), some (.int x2), some (.int x3)] [] h = (cond (isO h x0 11) (a_back R 88 (144, [.ref x0, .int x1, .int x2, .int x3], h, true, none, 6, [some (.ref x0), some (.int x1), some (.int x2), some (.int x3)], [.ref x0]) (C 144 [.ref x0, .int x1, .int x2, .int x3] h)) none) := (tr (r88_0 ..) (tr (r88_1 ..) (tr (r88_2 ..) (tr (r88_3 ..) (tr (r88_4 ..) (r88_5 ..))))))
theorem b88_6 (x0 : Nat) (x1 : Int32) (x2 : Int32) (x3 : Int32) (s0 : Nat) (s1 : Int32) (h : A_H) : R 88 6 [some (.ref x0), some (.int x1), some (.int x2), some (.int x3)] [.int s1, .ref s0] h = (cond (isO h s0 11) (a_back R 88 (134, [.ref s0, .int s1], h, true, none, 7, [some (.ref x0), some (.int x1), some (.int x2), some (.int x3)], []) (C 134 [.ref s0, .int s1] h)) none) := (r88_6 ..)
theorem b88_7 (x0 : Nat) (x1 : Int32) (x2 : Int32) (x3 : Int32) (s0 : Int32) (h : A_H) : R 88 7 [some (.ref x0), some (.int x1), some (.int x2), some (.int x3)] [.int s0] h = (cond (decide (s0 = 0)) (cond (isO h x0 11) (a_back R 88 (148, [.ref x0, .int x1, .int x2, .int x3, .int (0 : Int32)], h, true, none, 16, [some (.ref x0), some (.int x1), some (.int x2), some (.int x3)], []) (C 148 [.ref x0, .int x1, .int x2, .int x3, .int (0 : Int32)] h)) none) (some (some (some (.int (-1 : Int32))), h))) := (tr (r88_7 ..) (cgB (tr (r88_10 ..) (tr (r88_11 ..) (tr (r88_12 ..) (tr (r88_13 ..) (tr (r88_14 ..) (r88_15 ..)))))) (tr (r88_8 ..) (r88_9 ..))))
theorem b88_16 (x0 : Nat) (x1 : Int32) (x2 : Int32) (x3 : Int32) (s0 : Int32) (h : A_H) : R 88 16 [some (.ref x0), some (.int x1), some (.int x2), some (.int x3)] [.int s0] h = (some (some (some (.int s0)), h)) := (r88_16 ..)
theorem e89 (x0 : Nat) (x1 : Int32) (x2 : Int32) (x3 : Int32) (h : A_H) : C 89 [.ref x0, .int x1, .int x2, .int x3] h = R 89 0 [some (.ref x0), some (.int x1), some (.int x2), some (.int x3)] [] h := rfl
theorem r89_0 (ls : A_V) (st : List Value) (h : A_H) : R 89 0 ls st h = a_do a_nL R R 89 (s_aldl 0 1 ls st h) := a_R_eq ..
theorem r89_1 (ls : A_V) (st : List Value) (h : A_H) : R 89 1 ls st h = a_do a_nL R R 89 (s_aldl 0 2 ls st h) := a_R_eq ..
theorem r89_2 (ls : A_V) (st : List Value) (h : A_H) : R 89 2 ls st h = a_do a_nL R R 89 (s_ildl 1 3 ls st h) := a_R_eq ..
theorem r89_3 (ls : A_V) (st : List Value) (h : A_H) : R 89 3 ls st h = a_do a_nL R R 89 (s_ildl 2 4 ls st h) := a_R_eq ..
theorem r89_4 (ls : A_V) (st : List Value) (h : A_H) : R 89 4 ls st h = a_do a_nL R R 89 (s_ildl 3 5 ls st h) := a_R_eq ..
theorem r89_5 (ls : A_V) (st : List Value) (h : A_H) : R 89 5 ls st h = a_do a_nL R R 89 (s_call 14 144 4 4 true 6 ls st h) := a_R_eq ..
theorem r89_6 (ls : A_V) (st : List Value) (h : A_H) : R 89 6 ls st h = a_do a_nL R R 89 (s_call 14 134 2 2 true 7 ls st h) := a_R_eq ..
theorem r89_7 (ls : A_V) (st : List Value) (h : A_H) : R 89 7 ls st h = a_do a_nL R R 89 (s_if1 (fun x => decide (x = 0)) 10 8 ls st h) := a_R_eq ..
theorem r89_8 (ls : A_V) (st : List Value) (h : A_H) : R 89 8 ls st h = a_do a_nL R R 89 (s_push (.int (-1)) 9 ls st h) := a_R_eq ..
theorem r89_9 (ls : A_V) (st : List Value) (h : A_H) : R 89 9 ls st h = a_do a_nL R R 89 (s_iret ls st h) := a_R_eq ..
theorem r89_10 (ls : A_V) (st : List Value) (h : A_H) : R 89 10 ls st h = a_do a_nL R R 89 (s_aldl 0 11 ls st h) := a_R_eq ..
theorem r89_11 (ls : A_V) (st : List Value) (h : A_H) : R 89 11 ls st h = a_do a_nL R R 89 (s_getR 11 3 12 ls st h) := a_R_eq ..
theorem r89_12 (ls : A_V) (st : List Value) (h : A_H) : R 89 12 ls st h = a_do a_nL R R 89 (s_ildl 2 13 ls st h) := a_R_eq ..
theorem r89_13 (ls : A_V) (st : List Value) (h : A_H) : R 89 13 ls st h = a_do a_nL R R 89 (s_aldl 0 14 ls st h) := a_R_eq ..
theorem r89_14 (ls : A_V) (st : List Value) (h : A_H) : R 89 14 ls st h = a_do a_nL R R 89 (s_getR 11 5 15 ls st h) := a_R_eq ..
theorem r89_15 (ls : A_V) (st : List Value) (h : A_H) : R 89 15 ls st h = a_do a_nL R R 89 (s_getI 8 0 16 ls st h) := a_R_eq ..
theorem r89_16 (ls : A_V) (st : List Value) (h : A_H) : R 89 16 ls st h = a_do a_nL R R 89 (s_ildl 3 17 ls st h) := a_R_eq ..
theorem r89_17 (ls : A_V) (st : List Value) (h : A_H) : R 89 17 ls st h = a_do a_nL R R 89 (s_bi (fun x y => x + y) 18 ls st h) := a_R_eq ..
theorem r89_18 (ls : A_V) (st : List Value) (h : A_H) : R 89 18 ls st h = a_do a_nL R R 89 (s_aldl 0 19 ls st h) := a_R_eq ..
theorem r89_19 (ls : A_V) (st : List Value) (h : A_H) : R 89 19 ls st h = a_do a_nL R R 89 (s_ildl 1 20 ls st h) := a_R_eq ..
theorem r89_20 (ls : A_V) (st : List Value) (h : A_H) : R 89 20 ls st h = a_do a_nL R R 89 (s_call 14 146 2 2 true 21 ls st h) := a_R_eq ..
theorem r89_21 (ls : A_V) (st : List Value) (h : A_H) : R 89 21 ls st h = a_do a_nL R R 89 (s_aldl 0 22 ls st h) := a_R_eq ..
theorem r89_22 (ls : A_V) (st : List Value) (h : A_H) : R 89 22 ls st h = a_do a_nL R R 89 (s_getR 11 5 23 ls st h) := a_R_eq ..
theorem r89_23 (ls : A_V) (st : List Value) (h : A_H) : R 89 23 ls st h = a_do a_nL R R 89 (s_getI 8 4 24 ls st h) := a_R_eq ..
theorem r89_24 (ls : A_V) (st : List Value) (h : A_H) : R 89 24 ls st h = a_do a_nL R R 89 (s_call 12 69 5 8 true 25 ls st h) := a_R_eq ..
theorem r89_25 (ls : A_V) (st : List Value) (h : A_H) : R 89 25 ls st h = a_do a_nL R R 89 (s_iret ls st h) := a_R_eq ..
theorem b89_0 (x0 : Nat) (x1 : Int32) (x2 : Int32) (x3 : Int32) (h : A_H) : R 89 0 [some (.ref x0), some (.int x1), some (.int x2), some (.int x3)] [] h = (cond (isO h x0 11) (a_back R 89 (144, [.ref x0, .int x1, .int x2, .int x3], h, true, none, 6, [some (.ref x0), some (.int x1), some (.int x2), some (.int x3)], [.ref x0]) (C 144 [.ref x0, .int x1, .int x2, .int x3] h)) none) := (tr (r89_0 ..) (tr (r89_1 ..) (tr (r89_2 ..) (tr (r89_3 ..) (tr (r89_4 ..) (r89_5 ..))))))
theorem b89_6 (x0 : Nat) (x1 : Int32) (x2 : Int32) (x3 : Int32) (s0 : Nat) (s1 : Int32) (h : A_H) : R 89 6 [some (.ref x0), some (.int x1), some (.int x2), some (.int x3)] [.int s1, .ref s0] h = (cond (isO h s0 11) (a_back R 89 (134, [.ref s0, .int s1], h, true, none, 7, [some (.ref x0), some (.int x1), some (.int x2), some (.int x3)], []) (C 134 [.ref s0, .int s1] h)) none) := (r89_6 ..)
theorem b89_7 (x0 : Nat) (x1 : Int32) (x2 : Int32) (x3 : Int32) (s0 : Int32) (h : A_H) : R 89 7 [some (.ref x0), some (.int x1), some (.int x2), some (.int x3)] [.int s0] h = (cond (decide (s0 = 0)) (cond (isO h x0 11 && (hP h x0 3).isSome) (cond (isO h x0 11 && (hP h x0 5).isSome) (cond (isO h ((hP h x0 5).getD 0) 8) (cond (isO h x0 11) (a_back R 89 (146, [.ref x0, .int x1], h, true, none, 21, [some (.ref x0), some (.int x1), some (.int x2), some (.int x3)], [.int ((hI h ((hP h x0 5).getD 0) 0) + x3), .int x2, .ref ((hP h x0 3).getD 0)]) (C 146 [.ref x0, .int x1] h)) none) none) none) none) (some (some (some (.int (-1 : Int32))), h))) := (tr (r89_7 ..) (cgB (tr (r89_10 ..) (tr (r89_11 ..) (cgT (tr (r89_12 ..) (tr (r89_13 ..) (tr (r89_14 ..) (cgT (tr (r89_15 ..) (cgT (tr (r89_16 ..) (tr (r89_17 ..) (tr (r89_18 ..) (tr (r89_19 ..) (r89_20 ..)))))))))))))) (tr (r89_8 ..) (r89_9 ..))))
theorem b89_21 (x0 : Nat) (x1 : Int32) (x2 : Int32) (x3 : Int32) (s0 : Nat) (s1 : Int32) (s2 : Int32) (s3 : Int32) (h : A_H) : R 89 21 [some (.ref x0), some (.int x1), some (.int x2), some (.int x3)] [.int s3, .int s2, .int s1, .ref s0] h = (cond (isO h x0 11 && (hP h x0 5).isSome) (cond (isO h ((hP h x0 5).getD 0) 8) (cond (isO h s0 9) (a_back R 89 (69, [.ref s0, .int s1, .int s2, .int s3, .int (hI h ((hP h x0 5).getD 0) 4)], h, true, none, 25, [some (.ref x0), some (.int x1), some (.int x2), some (.int x3)], []) (C 69 [.ref s0, .int s1, .int s2, .int s3, .int (hI h ((hP h x0 5).getD 0) 4)] h)) none) none) none) := (tr (r89_21 ..) (tr (r89_22 ..) (cgT (tr (r89_23 ..) (cgT (r89_24 ..))))))
theorem b89_25 (x0 : Nat) (x1 : Int32) (x2 : Int32) (x3 : Int32) (s0 : Int32) (h : A_H) : R 89 25 [some (.ref x0), some (.int x1), some (.int x2), some (.int x3)] [.int s0] h = (some (some (some (.int s0)), h)) := (r89_25 ..)
theorem e90 (x0 : Nat) (x1 : Int32) (x2 : Int32) (x3 : Int32) (h : A_H) : C 90 [.ref x0, .int x1, .int x2, .int x3] h = R 90 0 [some (.ref x0), some (.int x1), some (.int x2), some (.int x3)] [] h := rfl
theorem r90_0 (ls : A_V) (st : List Value) (h : A_H) : R 90 0 ls st h = a_do a_nL R R 90 (s_aldl 0 1 ls st h) := a_R_eq ..
theorem r90_1 (ls : A_V) (st : List Value) (h : A_H) : R 90 1 ls st h = a_do a_nL R R 90 (s_aldl 0 2 ls st h) := a_R_eq ..
theorem r90_2 (ls : A_V) (st : List Value) (h : A_H) : R 90 2 ls st h = a_do a_nL R R 90 (s_ildl 1 3 ls st h) := a_R_eq ..
theorem r90_3 (ls : A_V) (st : List Value) (h : A_H) : R 90 3 ls st h = a_do a_nL R R 90 (s_ildl 2 4 ls st h) := a_R_eq ..
theorem r90_4 (ls : A_V) (st : List Value) (h : A_H) : R 90 4 ls st h = a_do a_nL R R 90 (s_ildl 3 5 ls st h) := a_R_eq ..
theorem r90_5 (ls : A_V) (st : List Value) (h : A_H) : R 90 5 ls st h = a_do a_nL R R 90 (s_call 14 144 4 4 true 6 ls st h) := a_R_eq ..
theorem r90_6 (ls : A_V) (st : List Value) (h : A_H) : R 90 6 ls st h = a_do a_nL R R 90 (s_call 14 134 2 2 true 7 ls st h) := a_R_eq ..
theorem r90_7 (ls : A_V) (st : List Value) (h : A_H) : R 90 7 ls st h = a_do a_nL R R 90 (s_if1 (fun x => decide (x = 0)) 10 8 ls st h) := a_R_eq ..
theorem r90_8 (ls : A_V) (st : List Value) (h : A_H) : R 90 8 ls st h = a_do a_nL R R 90 (s_push (.int (-1)) 9 ls st h) := a_R_eq ..
theorem r90_9 (ls : A_V) (st : List Value) (h : A_H) : R 90 9 ls st h = a_do a_nL R R 90 (s_iret ls st h) := a_R_eq ..
theorem r90_10 (ls : A_V) (st : List Value) (h : A_H) : R 90 10 ls st h = a_do a_nL R R 90 (s_aldl 0 11 ls st h) := a_R_eq ..
theorem r90_11 (ls : A_V) (st : List Value) (h : A_H) : R 90 11 ls st h = a_do a_nL R R 90 (s_ildl 1 12 ls st h) := a_R_eq ..
theorem r90_12 (ls : A_V) (st : List Value) (h : A_H) : R 90 12 ls st h = a_do a_nL R R 90 (s_ildl 2 13 ls st h) := a_R_eq ..
theorem r90_13 (ls : A_V) (st : List Value) (h : A_H) : R 90 13 ls st h = a_do a_nL R R 90 (s_ildl 3 14 ls st h) := a_R_eq ..
theorem r90_14 (ls : A_V) (st : List Value) (h : A_H) : R 90 14 ls st h = a_do a_nL R R 90 (s_push (.int 1) 15 ls st h) := a_R_eq ..
theorem r90_15 (ls : A_V) (st : List Value) (h : A_H) : R 90 15 ls st h = a_do a_nL R R 90 (s_call 14 148 5 5 true 16 ls st h) := a_R_eq ..
theorem r90_16 (ls : A_V) (st : List Value) (h : A_H) : R 90 16 ls st h = a_do a_nL R R 90 (s_iret ls st h) := a_R_eq ..
theorem b90_0 (x0 : Nat) (x1 : Int32) (x2 : Int32) (x3 : Int32) (h : A_H) : R 90 0 [some (.ref x0), some (.int x1), some (.int x2), some (.int x3)] [] h = (cond (isO h x0 11) (a_back R 90 (144, [.ref x0, .int x1, .int x2, .int x3], h, true, none, 6, [some (.ref x0), some (.int x1), some (.int x2), some (.int x3)], [.ref x0]) (C 144 [.ref x0, .int x1, .int x2, .int x3] h)) none) := (tr (r90_0 ..) (tr (r90_1 ..) (tr (r90_2 ..) (tr (r90_3 ..) (tr (r90_4 ..) (r90_5 ..))))))
theorem b90_6 (x0 : Nat) (x1 : Int32) (x2 : Int32) (x3 : Int32) (s0 : Nat) (s1 : Int32) (h : A_H) : R 90 6 [some (.ref x0), some (.int x1), some (.int x2), some (.int x3)] [.int s1, .ref s0] h = (cond (isO h s0 11) (a_back R 90 (134, [.ref s0, .int s1], h, true, none, 7, [some (.ref x0), some (.int x1), some (.int x2), some (.int x3)], []) (C 134 [.ref s0, .int s1] h)) none) := (r90_6 ..)
theorem b90_7 (x0 : Nat) (x1 : Int32) (x2 : Int32) (x3 : Int32) (s0 : Int32) (h : A_H) : R 90 7 [some (.ref x0), some (.int x1), some (.int x2), some (.int x3)] [.int s0] h = (cond (decide (s0 = 0)) (cond (isO h x0 11) (a_back R 90 (148, [.ref x0, .int x1, .int x2, .int x3, .int (1 : Int32)], h, true, none, 16, [some (.ref x0), some (.int x1), some (.int x2), some (.int x3)], []) (C 148 [.ref x0, .int x1, .int x2, .int x3, .int (1 : Int32)] h)) none) (some (some (some (.int (-1 : Int32))), h))) := (tr (r90_7 ..) (cgB (tr (r90_10 ..) (tr (r90_11 ..) (tr (r90_12 ..) (tr (r90_13 ..) (tr (r90_14 ..) (r90_15 ..)))))) (tr (r90_8 ..) (r90_9 ..))))
theorem b90_16 (x0 : Nat) (x1 : Int32) (x2 : Int32) (x3 : Int32) (s0 : Int32) (h : A_H) : R 90 16 [some (.ref x0), some (.int x1), some (.int x2), some (.int x3)] [.int s0] h = (some (some (some (.int s0)), h)) := (r90_16 ..)
theorem e91 (x0 : Nat) (x1 : Int32) (x2 : Int32) (h : A_H) : C 91 [.ref x0, .int x1, .int x2] h = R 91 0 [some (.ref x0), some (.int x1), some (.int x2)] [] h := rfl
theorem r91_0 (ls : A_V) (st : List Value) (h : A_H) : R 91 0 ls st h = a_do a_nL R R 91 (s_aldl 0 1 ls st h) := a_R_eq ..
theorem r91_1 (ls : A_V) (st : List Value) (h : A_H) : R 91 1 ls st h = a_do a_nL R R 91 (s_aldl 0 2 ls st h) := a_R_eq ..
theorem r91_2 (ls : A_V) (st : List Value) (h : A_H) : R 91 2 ls st h = a_do a_nL R R 91 (s_ildl 1 3 ls st h) := a_R_eq ..
theorem r91_3 (ls : A_V) (st : List Value) (h : A_H) : R 91 3 ls st h = a_do a_nL R R 91 (s_call 14 138 2 2 true 4 ls st h) := a_R_eq ..
theorem r91_4 (ls : A_V) (st : List Value) (h : A_H) : R 91 4 ls st h = a_do a_nL R R 91 (s_ildl 2 5 ls st h) := a_R_eq ..
theorem r91_5 (ls : A_V) (st : List Value) (h : A_H) : R 91 5 ls st h = a_do a_nL R R 91 (s_call 0 141 1 1 true 6 ls st h) := a_R_eq ..
theorem r91_6 (ls : A_V) (st : List Value) (h : A_H) : R 91 6 ls st h = a_do a_nL R R 91 (s_call 0 135 2 2 true 7 ls st h) := a_R_eq ..
theorem r91_7 (ls : A_V) (st : List Value) (h : A_H) : R 91 7 ls st h = a_do a_nL R R 91 (s_call 14 134 2 2 true 8 ls st h) := a_R_eq ..
theorem r91_8 (ls : A_V) (st : List Value) (h : A_H) : R 91 8 ls st h = a_do a_nL R R 91 (s_if1 (fun x => decide (x = 0)) 11 9 ls st h) := a_R_eq ..
theorem r91_9 (ls : A_V) (st : List Value) (h : A_H) : R 91 9 ls st h = a_do a_nL R R 91 (s_push (.int (-1)) 10 ls st h) := a_R_eq ..
theorem r91_10 (ls : A_V) (st : List Value) (h : A_H) : R 91 10 ls st h = a_do a_nL R R 91 (s_iret ls st h) := a_R_eq ..
theorem r91_11 (ls : A_V) (st : List Value) (h : A_H) : R 91 11 ls st h = a_do a_nL R R 91 (s_aldl 0 12 ls st h) := a_R_eq ..
theorem r91_12 (ls : A_V) (st : List Value) (h : A_H) : R 91 12 ls st h = a_do a_nL R R 91 (s_getR 11 3 13 ls st h) := a_R_eq ..
theorem r91_13 (ls : A_V) (st : List Value) (h : A_H) : R 91 13 ls st h = a_do a_nL R R 91 (s_aldl 0 14 ls st h) := a_R_eq ..
theorem r91_14 (ls : A_V) (st : List Value) (h : A_H) : R 91 14 ls st h = a_do a_nL R R 91 (s_ildl 1 15 ls st h) := a_R_eq ..
theorem r91_15 (ls : A_V) (st : List Value) (h : A_H) : R 91 15 ls st h = a_do a_nL R R 91 (s_call 14 146 2 2 true 16 ls st h) := a_R_eq ..
theorem r91_16 (ls : A_V) (st : List Value) (h : A_H) : R 91 16 ls st h = a_do a_nL R R 91 (s_aldl 0 17 ls st h) := a_R_eq ..
theorem r91_17 (ls : A_V) (st : List Value) (h : A_H) : R 91 17 ls st h = a_do a_nL R R 91 (s_getR 11 5 18 ls st h) := a_R_eq ..
theorem r91_18 (ls : A_V) (st : List Value) (h : A_H) : R 91 18 ls st h = a_do a_nL R R 91 (s_getI 8 0 19 ls st h) := a_R_eq ..
theorem r91_19 (ls : A_V) (st : List Value) (h : A_H) : R 91 19 ls st h = a_do a_nL R R 91 (s_ildl 2 20 ls st h) := a_R_eq ..
theorem r91_20 (ls : A_V) (st : List Value) (h : A_H) : R 91 20 ls st h = a_do a_nL R R 91 (s_bi (fun x y => x + y) 21 ls st h) := a_R_eq ..
theorem r91_21 (ls : A_V) (st : List Value) (h : A_H) : R 91 21 ls st h = a_do a_nL R R 91 (s_call 12 67 3 5 true 22 ls st h) := a_R_eq ..
theorem r91_22 (ls : A_V) (st : List Value) (h : A_H) : R 91 22 ls st h = a_do a_nL R R 91 (s_iret ls st h) := a_R_eq ..
theorem b91_0 (x0 : Nat) (x1 : Int32) (x2 : Int32) (h : A_H) : R 91 0 [some (.ref x0), some (.int x1), some (.int x2)] [] h = (cond (isO h x0 11) (a_back R 91 (138, [.ref x0, .int x1], h, true, none, 4, [some (.ref x0), some (.int x1), some (.int x2)], [.ref x0]) (C 138 [.ref x0, .int x1] h)) none) := (tr (r91_0 ..) (tr (r91_1 ..) (tr (r91_2 ..) (r91_3 ..))))
theorem b91_4 (x0 : Nat) (x1 : Int32) (x2 : Int32) (s0 : Nat) (s1 : Int32) (h : A_H) : R 91 4 [some (.ref x0), some (.int x1), some (.int x2)] [.int s1, .ref s0] h = (a_back R 91 (141, [.int x2], h, true, none, 6, [some (.ref x0), some (.int x1), some (.int x2)], [.int s1, .ref s0]) (C 141 [.int x2] h)) := (tr (r91_4 ..) (r91_5 ..))
theorem b91_6 (x0 : Nat) (x1 : Int32) (x2 : Int32) (s0 : Nat) (s1 : Int32) (s2 : Int32) (h : A_H) : R 91 6 [some (.ref x0), some (.int x1), some (.int x2)] [.int s2, .int s1, .ref s0] h = (a_back R 91 (135, [.int s1, .int s2], h, true, none, 7, [some (.ref x0), some (.int x1), some (.int x2)], [.ref s0]) (C 135 [.int s1, .int s2] h)) := (r91_6 ..)
theorem b91_7 (x0 : Nat) (x1 : Int32) (x2 : Int32) (s0 : Nat) (s1 : Int32) (h : A_H) : R 91 7 [some (.ref x0), some (.int x1), some (.int x2)] [.int s1, .ref s0] h = (cond (isO h s0 11) (a_back R 91 (134, [.ref s0, .int s1], h, true, none, 8, [some (.ref x0), some (.int x1), some (.int x2)], []) (C 134 [.ref s0, .int s1] h)) none) := (r91_7 ..)
theorem b91_8 (x0 : Nat) (x1 : Int32) (x2 : Int32) (s0 : Int32) (h : A_H) : R 91 8 [some (.ref x0), some (.int x1), some (.int x2)] [.int s0] h = (cond (decide (s0 = 0)) (cond (isO h x0 11 && (hP h x0 3).isSome) (cond (isO h x0 11) (a_back R 91 (146, [.ref x0, .int x1], h, true, none, 16, [some (.ref x0), some (.int x1), some (.int x2)], [.ref ((hP h x0 3).getD 0)]) (C 146 [.ref x0, .int x1] h)) none) none) (some (some (some (.int (-1 : Int32))), h))) := (tr (r91_8 ..) (cgB (tr (r91_11 ..) (tr (r91_12 ..) (cgT (tr (r91_13 ..) (tr (r91_14 ..) (r91_15 ..)))))) (tr (r91_9 ..) (r91_10 ..))))
theorem b91_16 (x0 : Nat) (x1 : Int32) (x2 : Int32) (s0 : Nat) (s1 : Int32) (h : A_H) : R 91 16 [some (.ref x0), some (.int x1), some (.int x2)] [.int s1, .ref s0] h = (cond (isO h x0 11 && (hP h x0 5).isSome) (cond (isO h ((hP h x0 5).getD 0) 8) (cond (isO h s0 9) (a_back R 91 (67, [.ref s0, .int s1, .int ((hI h ((hP h x0 5).getD 0) 0) + x2)], h, true, none, 22, [some (.ref x0), some (.int x1), some (.int x2)], []) (C 67 [.ref s0, .int s1, .int ((hI h ((hP h x0 5).getD 0) 0) + x2)] h)) none) none) none) := (tr (r91_16 ..) (tr (r91_17 ..) (cgT (tr (r91_18 ..) (cgT (tr (r91_19 ..) (tr (r91_20 ..) (r91_21 ..))))))))
theorem b91_22 (x0 : Nat) (x1 : Int32) (x2 : Int32) (s0 : Int32) (h : A_H) : R 91 22 [some (.ref x0), some (.int x1), some (.int x2)] [.int s0] h = (some (some (some (.int s0)), h)) := (r91_22 ..)
theorem e92 (x0 : Nat) (x1 : Int32) (x2 : Int32) (h : A_H) : C 92 [.ref x0, .int x1, .int x2] h = R 92 0 [some (.ref x0), some (.int x1), some (.int x2), none, none] [] h := rfl
theorem r92_0 (ls : A_V) (st : List Value) (h : A_H) : R 92 0 ls st h = a_do a_nL R R 92 (s_ildl 1 1 ls st h) := a_R_eq ..
theorem r92_1 (ls : A_V) (st : List Value) (h : A_H) : R 92 1 ls st h = a_do a_nL R R 92 (s_if1 (fun x => decide (x < 0)) 9 2 ls st h) := a_R_eq ..
theorem r92_2 (ls : A_V) (st : List Value) (h : A_H) : R 92 2 ls st h = a_do a_nL R R 92 (s_ildl 1 3 ls st h) := a_R_eq ..
theorem r92_3 (ls : A_V) (st : List Value) (h : A_H) : R 92 3 ls st h = a_do a_nL R R 92 (s_aldl 0 4 ls st h) := a_R_eq ..
theorem r92_4 (ls : A_V) (st : List Value) (h : A_H) : R 92 4 ls st h = a_do a_nL R R 92 (s_getR 11 3 5 ls st h) := a_R_eq ..
theorem r92_5 (ls : A_V) (st : List Value) (h : A_H) : R 92 5 ls st h = a_do a_nL R R 92 (s_getI 9 2 6 ls st h) := a_R_eq ..
theorem r92_6 (ls : A_V) (st : List Value) (h : A_H) : R 92 6 ls st h = a_do a_nL R R 92 (s_if2 (fun x y => decide (y ≤ x)) 9 7 ls st h) := a_R_eq ..
theorem r92_7 (ls : A_V) (st : List Value) (h : A_H) : R 92 7 ls st h = a_do a_nL R R 92 (s_push (.int 1) 8 ls st h) := a_R_eq ..
theorem r92_8 (ls : A_V) (st : List Value) (h : A_H) : R 92 8 ls st h = a_do a_nL R R 92 (s_goto 10 ls st h) := a_R_eq ..
theorem r92_9 (ls : A_V) (st : List Value) (h : A_H) : R 92 9 ls st h = a_do a_nL R R 92 (s_push (.int 0) 10 ls st h) := a_R_eq ..
theorem r92_10 (ls : A_V) (st : List Value) (h : A_H) : R 92 10 ls st h = a_do a_nL R R 92 (s_ist 3 11 ls st h) := a_R_eq ..
theorem r92_11 (ls : A_V) (st : List Value) (h : A_H) : R 92 11 ls st h = a_do a_nL R R 92 (s_aldl 0 12 ls st h) := a_R_eq ..
theorem r92_12 (ls : A_V) (st : List Value) (h : A_H) : R 92 12 ls st h = a_do a_nL R R 92 (s_ildl 3 13 ls st h) := a_R_eq ..
theorem r92_13 (ls : A_V) (st : List Value) (h : A_H) : R 92 13 ls st h = a_do a_nL R R 92 (s_if1 (fun x => decide (x = 0)) 16 14 ls st h) := a_R_eq ..
theorem r92_14 (ls : A_V) (st : List Value) (h : A_H) : R 92 14 ls st h = a_do a_nL R R 92 (s_push (.int 0) 15 ls st h) := a_R_eq ..
theorem r92_15 (ls : A_V) (st : List Value) (h : A_H) : R 92 15 ls st h = a_do a_nL R R 92 (s_goto 17 ls st h) := a_R_eq ..
theorem r92_16 (ls : A_V) (st : List Value) (h : A_H) : R 92 16 ls st h = a_do a_nL R R 92 (s_push (.int 1) 17 ls st h) := a_R_eq ..
theorem r92_17 (ls : A_V) (st : List Value) (h : A_H) : R 92 17 ls st h = a_do a_nL R R 92 (s_ildl 2 18 ls st h) := a_R_eq ..
theorem r92_18 (ls : A_V) (st : List Value) (h : A_H) : R 92 18 ls st h = a_do a_nL R R 92 (s_call 0 141 1 1 true 19 ls st h) := a_R_eq ..
theorem r92_19 (ls : A_V) (st : List Value) (h : A_H) : R 92 19 ls st h = a_do a_nL R R 92 (s_call 0 135 2 2 true 20 ls st h) := a_R_eq ..
theorem r92_20 (ls : A_V) (st : List Value) (h : A_H) : R 92 20 ls st h = a_do a_nL R R 92 (s_call 14 134 2 2 true 21 ls st h) := a_R_eq ..
theorem r92_21 (ls : A_V) (st : List Value) (h : A_H) : R 92 21 ls st h = a_do a_nL R R 92 (s_if1 (fun x => decide (x = 0)) 24 22 ls st h) := a_R_eq ..
theorem r92_22 (ls : A_V) (st : List Value) (h : A_H) : R 92 22 ls st h = a_do a_nL R R 92 (s_push (.int (-1)) 23 ls st h) := a_R_eq ..
theorem r92_23 (ls : A_V) (st : List Value) (h : A_H) : R 92 23 ls st h = a_do a_nL R R 92 (s_iret ls st h) := a_R_eq ..
theorem r92_24 (ls : A_V) (st : List Value) (h : A_H) : R 92 24 ls st h = a_do a_nL R R 92 (s_aldl 0 25 ls st h) := a_R_eq ..
theorem r92_25 (ls : A_V) (st : List Value) (h : A_H) : R 92 25 ls st h = a_do a_nL R R 92 (s_getR 11 3 26 ls st h) := a_R_eq ..
theorem r92_26 (ls : A_V) (st : List Value) (h : A_H) : R 92 26 ls st h = a_do a_nL R R 92 (s_ildl 1 27 ls st h) := a_R_eq ..
theorem r92_27 (ls : A_V) (st : List Value) (h : A_H) : R 92 27 ls st h = a_do a_nL R R 92 (s_call 12 65 2 4 true 28 ls st h) := a_R_eq ..
theorem r92_28 (ls : A_V) (st : List Value) (h : A_H) : R 92 28 ls st h = a_do a_nL R R 92 (s_aldl 0 29 ls st h) := a_R_eq ..
theorem r92_29 (ls : A_V) (st : List Value) (h : A_H) : R 92 29 ls st h = a_do a_nL R R 92 (s_getR 11 5 30 ls st h) := a_R_eq ..
theorem r92_30 (ls : A_V) (st : List Value) (h : A_H) : R 92 30 ls st h = a_do a_nL R R 92 (s_call 11 51 1 1 true 31 ls st h) := a_R_eq ..
theorem r92_31 (ls : A_V) (st : List Value) (h : A_H) : R 92 31 ls st h = a_do a_nL R R 92 (s_push (.int (-1)) 32 ls st h) := a_R_eq ..
theorem r92_32 (ls : A_V) (st : List Value) (h : A_H) : R 92 32 ls st h = a_do a_nL R R 92 (s_bi (fun x y => x ^^^ y) 33 ls st h) := a_R_eq ..
theorem r92_33 (ls : A_V) (st : List Value) (h : A_H) : R 92 33 ls st h = a_do a_nL R R 92 (s_bi (fun x y => x &&& y) 34 ls st h) := a_R_eq ..
theorem r92_34 (ls : A_V) (st : List Value) (h : A_H) : R 92 34 ls st h = a_do a_nL R R 92 (s_ist 4 35 ls st h) := a_R_eq ..
theorem r92_35 (ls : A_V) (st : List Value) (h : A_H) : R 92 35 ls st h = a_do a_nL R R 92 (s_aldl 0 36 ls st h) := a_R_eq ..
theorem r92_36 (ls : A_V) (st : List Value) (h : A_H) : R 92 36 ls st h = a_do a_nL R R 92 (s_getR 11 3 37 ls st h) := a_R_eq ..
theorem r92_37 (ls : A_V) (st : List Value) (h : A_H) : R 92 37 ls st h = a_do a_nL R R 92 (s_ildl 4 38 ls st h) := a_R_eq ..
theorem r92_38 (ls : A_V) (st : List Value) (h : A_H) : R 92 38 ls st h = a_do a_nL R R 92 (s_aldl 0 39 ls st h) := a_R_eq ..
theorem r92_39 (ls : A_V) (st : List Value) (h : A_H) : R 92 39 ls st h = a_do a_nL R R 92 (s_getR 11 5 40 ls st h) := a_R_eq ..
theorem r92_40 (ls : A_V) (st : List Value) (h : A_H) : R 92 40 ls st h = a_do a_nL R R 92 (s_getI 8 0 41 ls st h) := a_R_eq ..
theorem r92_41 (ls : A_V) (st : List Value) (h : A_H) : R 92 41 ls st h = a_do a_nL R R 92 (s_ildl 2 42 ls st h) := a_R_eq ..
theorem r92_42 (ls : A_V) (st : List Value) (h : A_H) : R 92 42 ls st h = a_do a_nL R R 92 (s_bi (fun x y => x + y) 43 ls st h) := a_R_eq ..
theorem r92_43 (ls : A_V) (st : List Value) (h : A_H) : R 92 43 ls st h = a_do a_nL R R 92 (s_push (.int 0) 44 ls st h) := a_R_eq ..
theorem r92_44 (ls : A_V) (st : List Value) (h : A_H) : R 92 44 ls st h = a_do a_nL R R 92 (s_call 12 68 4 6 true 45 ls st h) := a_R_eq ..
theorem r92_45 (ls : A_V) (st : List Value) (h : A_H) : R 92 45 ls st h = a_do a_nL R R 92 (s_iret ls st h) := a_R_eq ..
theorem b92_0 (x0 : Nat) (x1 : Int32) (x2 : Int32) (l3 : Option Value) (l4 : Option Value) (h : A_H) : R 92 0 [some (.ref x0), some (.int x1), some (.int x2), l3, l4] [] h = (cond (decide (x1 < 0)) (a_back R 92 (141, [.int x2], h, true, none, 19, [some (.ref x0), some (.int x1), some (.int x2), some (.int (0 : Int32)), l4], [.int (1 : Int32), .ref x0]) (C 141 [.int x2] h)) (cond (isO h x0 11 && (hP h x0 3).isSome) (cond (isO h ((hP h x0 3).getD 0) 9) (cond (decide ((hI h ((hP h x0 3).getD 0) 2) ≤ x1)) (a_back R 92 (141, [.int x2], h, true, none, 19, [some (.ref x0), some (.int x1), some (.int x2), some (.int (0 : Int32)), l4], [.int (1 : Int32), .ref x0]) (C 141 [.int x2] h)) (a_back R 92 (141, [.int x2], h, true, none, 19, [some (.ref x0), some (.int x1), some (.int x2), some (.int (1 : Int32)), l4], [.int (0 : Int32), .ref x0]) (C 141 [.int x2] h))) none) none)) := (tr (r92_0 ..) (tr (r92_1 ..) (cgB (tr (r92_9 ..) (tr (r92_10 ..) (tr (r92_11 ..) (tr (r92_12 ..) (tr (r92_13 ..) (tr (r92_16 ..) (tr (r92_17 ..) (r92_18 ..)))))))) (tr (r92_2 ..) (tr (r92_3 ..) (tr (r92_4 ..) (cgT (tr (r92_5 ..) (cgT (tr (r92_6 ..) (cgB (tr (r92_9 ..) (tr (r92_10 ..) (tr (r92_11 ..) (tr (r92_12 ..) (tr (r92_13 ..) (tr (r92_16 ..) (tr (r92_17 ..) (r92_18 ..)))))))) (tr (r92_7 ..) (tr (r92_8 ..) (tr (r92_10 ..) (tr (r92_11 ..) (tr (r92_12 ..) (tr (r92_13 ..) (tr (r92_14 ..) (tr (r92_15 ..) (tr (r92_17 ..) (r92_18 ..)))))))))))))))))))))
theorem b92_19 (x0 : Nat) (x1 : Int32) (x2 : Int32) (x3 : Int32) (l4 : Option Value) (s0 : Nat) (s1 : Int32) (s2 : Int32) (h : A_H) : R 92 19 [some (.ref x0), some (.int x1), some (.int x2), some (.int x3), l4] [.int s2, .int s1, .ref s0] h = (a_back R 92 (135, [.int s1, .int s2], h, true, none, 20, [some (.ref x0), some (.int x1), some (.int x2), some (.int x3), l4], [.ref s0]) (C 135 [.int s1, .int s2] h)) := (r92_19 ..)
theorem b92_20 (x0 : Nat) (x1 : Int32) (x2 : Int32) (x3 : Int32) (l4 : Option Value) (s0 : Nat) (s1 : Int32) (h : A_H) : R 92 20 [some (.ref x0), some (.int x1), some (.int x2), some (.int x3), l4] [.int s1, .ref s0] h = (cond (isO h s0 11) (a_back R 92 (134, [.ref s0, .int s1], h, true, none, 21, [some (.ref x0), some (.int x1), some (.int x2), some (.int x3), l4], []) (C 134 [.ref s0, .int s1] h)) none) := (r92_20 ..)
theorem b92_21 (x0 : Nat) (x1 : Int32) (x2 : Int32) (x3 : Int32) (l4 : Option Value) (s0 : Int32) (h : A_H) : R 92 21 [some (.ref x0), some (.int x1), some (.int x2), some (.int x3), l4] [.int s0] h = (cond (decide (s0 = 0)) (cond (isO h x0 11 && (hP h x0 3).isSome) (cond (isO h ((hP h x0 3).getD 0) 9) (a_back R 92 (65, [.ref ((hP h x0 3).getD 0), .int x1], h, true, none, 28, [some (.ref x0), some (.int x1), some (.int x2), some (.int x3), l4], []) (C 65 [.ref ((hP h x0 3).getD 0), .int x1] h)) none) none) (some (some (some (.int (-1 : Int32))), h))) := (tr (r92_21 ..) (cgB (tr (r92_24 ..) (tr (r92_25 ..) (cgT (tr (r92_26 ..) (r92_27 ..))))) (tr (r92_22 ..) (r92_23 ..))))
theorem b92_28 (x0 : Nat) (x1 : Int32) (x2 : Int32) (x3 : Int32) (l4 : Option Value) (s0 : Int32) (h : A_H) : R 92 28 [some (.ref x0), some (.int x1), some (.int x2), some (.int x3), l4] [.int s0] h = (cond (isO h x0 11 && (hP h x0 5).isSome) (cond (isO h ((hP h x0 5).getD 0) 8) (a_back R 92 (51, [.ref ((hP h x0 5).getD 0)], h, true, none, 31, [some (.ref x0), some (.int x1), some (.int x2), some (.int x3), l4], [.int s0]) (C 51 [.ref ((hP h x0 5).getD 0)] h)) none) none) := (tr (r92_28 ..) (tr (r92_29 ..) (cgT (r92_30 ..))))
theorem b92_31 (x0 : Nat) (x1 : Int32) (x2 : Int32) (x3 : Int32) (l4 : Option Value) (s0 : Int32) (s1 : Int32) (h : A_H) : R 92 31 [some (.ref x0), some (.int x1), some (.int x2), some (.int x3), l4] [.int s1, .int s0] h = (cond (isO h x0 11 && (hP h x0 3).isSome) (cond (isO h x0 11 && (hP h x0 5).isSome) (cond (isO h ((hP h x0 5).getD 0) 8) (cond (isO h ((hP h x0 3).getD 0) 9) (a_back R 92 (68, [.ref ((hP h x0 3).getD 0), .int (s0 &&& (s1 ^^^ (-1 : Int32))), .int ((hI h ((hP h x0 5).getD 0) 0) + x2), .int (0 : Int32)], h, true, none, 45, [some (.ref x0), some (.int x1), some (.int x2), some (.int x3), some (.int (s0 &&& (s1 ^^^ (-1 : Int32))))], []) (C 68 [.ref ((hP h x0 3).getD 0), .int (s0 &&& (s1 ^^^ (-1 : Int32))), .int ((hI h ((hP h x0 5).getD 0) 0) + x2), .int (0 : Int32)] h)) none) none) none) none) := (tr (r92_31 ..) (tr (r92_32 ..) (tr (r92_33 ..) (tr (r92_34 ..) (tr (r92_35 ..) (tr (r92_36 ..) (cgT (tr (r92_37 ..) (tr (r92_38 ..) (tr (r92_39 ..) (cgT (tr (r92_40 ..) (cgT (tr (r92_41 ..) (tr (r92_42 ..) (tr (r92_43 ..) (r92_44 ..)))))))))))))))))
theorem b92_45 (x0 : Nat) (x1 : Int32) (x2 : Int32) (x3 : Int32) (x4 : Int32) (s0 : Int32) (h : A_H) : R 92 45 [some (.ref x0), some (.int x1), some (.int x2), some (.int x3), some (.int x4)] [.int s0] h = (some (some (some (.int s0)), h)) := (r92_45 ..)
theorem e93 (x0 : Nat) (x1 : Int32) (x2 : Int32) (x3 : Int32) (h : A_H) : C 93 [.ref x0, .int x1, .int x2, .int x3] h = R 93 0 [some (.ref x0), some (.int x1), some (.int x2), some (.int x3), none, none, none, none, none, none, none] [] h := rfl
theorem r93_0 (ls : A_V) (st : List Value) (h : A_H) : R 93 0 ls st h = a_do a_nL R R 93 (s_aldl 0 1 ls st h) := a_R_eq ..
theorem r93_1 (ls : A_V) (st : List Value) (h : A_H) : R 93 1 ls st h = a_do a_nL R R 93 (s_aldl 0 2 ls st h) := a_R_eq ..
theorem r93_2 (ls : A_V) (st : List Value) (h : A_H) : R 93 2 ls st h = a_do a_nL R R 93 (s_ildl 1 3 ls st h) := a_R_eq ..
theorem r93_3 (ls : A_V) (st : List Value) (h : A_H) : R 93 3 ls st h = a_do a_nL R R 93 (s_ildl 2 4 ls st h) := a_R_eq ..
theorem r93_4 (ls : A_V) (st : List Value) (h : A_H) : R 93 4 ls st h = a_do a_nL R R 93 (s_ildl 3 5 ls st h) := a_R_eq ..
theorem r93_5 (ls : A_V) (st : List Value) (h : A_H) : R 93 5 ls st h = a_do a_nL R R 93 (s_call 14 144 4 4 true 6 ls st h) := a_R_eq ..
theorem r93_6 (ls : A_V) (st : List Value) (h : A_H) : R 93 6 ls st h = a_do a_nL R R 93 (s_call 14 134 2 2 true 7 ls st h) := a_R_eq ..
theorem r93_7 (ls : A_V) (st : List Value) (h : A_H) : R 93 7 ls st h = a_do a_nL R R 93 (s_if1 (fun x => decide (x = 0)) 10 8 ls st h) := a_R_eq ..
theorem r93_8 (ls : A_V) (st : List Value) (h : A_H) : R 93 8 ls st h = a_do a_nL R R 93 (s_push (.int (-1)) 9 ls st h) := a_R_eq ..
theorem r93_9 (ls : A_V) (st : List Value) (h : A_H) : R 93 9 ls st h = a_do a_nL R R 93 (s_iret ls st h) := a_R_eq ..
theorem r93_10 (ls : A_V) (st : List Value) (h : A_H) : R 93 10 ls st h = a_do a_nL R R 93 (s_aldl 0 11 ls st h) := a_R_eq ..
theorem r93_11 (ls : A_V) (st : List Value) (h : A_H) : R 93 11 ls st h = a_do a_nL R R 93 (s_getR 11 5 12 ls st h) := a_R_eq ..
theorem r93_12 (ls : A_V) (st : List Value) (h : A_H) : R 93 12 ls st h = a_do a_nL R R 93 (s_getI 8 0 13 ls st h) := a_R_eq ..
theorem r93_13 (ls : A_V) (st : List Value) (h : A_H) : R 93 13 ls st h = a_do a_nL R R 93 (s_ildl 3 14 ls st h) := a_R_eq ..
theorem r93_14 (ls : A_V) (st : List Value) (h : A_H) : R 93 14 ls st h = a_do a_nL R R 93 (s_bi (fun x y => x + y) 15 ls st h) := a_R_eq ..
theorem r93_15 (ls : A_V) (st : List Value) (h : A_H) : R 93 15 ls st h = a_do a_nL R R 93 (s_ist 4 16 ls st h) := a_R_eq ..
theorem r93_16 (ls : A_V) (st : List Value) (h : A_H) : R 93 16 ls st h = a_do a_nL R R 93 (s_aldl 0 17 ls st h) := a_R_eq ..
theorem r93_17 (ls : A_V) (st : List Value) (h : A_H) : R 93 17 ls st h = a_do a_nL R R 93 (s_ildl 1 18 ls st h) := a_R_eq ..
theorem r93_18 (ls : A_V) (st : List Value) (h : A_H) : R 93 18 ls st h = a_do a_nL R R 93 (s_call 14 146 2 2 true 19 ls st h) := a_R_eq ..
theorem r93_19 (ls : A_V) (st : List Value) (h : A_H) : R 93 19 ls st h = a_do a_nL R R 93 (s_ist 5 20 ls st h) := a_R_eq ..
theorem r93_20 (ls : A_V) (st : List Value) (h : A_H) : R 93 20 ls st h = a_do a_nL R R 93 (s_ildl 5 21 ls st h) := a_R_eq ..
theorem r93_21 (ls : A_V) (st : List Value) (h : A_H) : R 93 21 ls st h = a_do a_nL R R 93 (s_aldl 0 22 ls st h) := a_R_eq ..
theorem r93_22 (ls : A_V) (st : List Value) (h : A_H) : R 93 22 ls st h = a_do a_nL R R 93 (s_getR 11 5 23 ls st h) := a_R_eq ..
theorem r93_23 (ls : A_V) (st : List Value) (h : A_H) : R 93 23 ls st h = a_do a_nL R R 93 (s_getI 8 4 24 ls st h) := a_R_eq ..
theorem r93_24 (ls : A_V) (st : List Value) (h : A_H) : R 93 24 ls st h = a_do a_nL R R 93 (s_bi (fun x y => x &&& y) 25 ls st h) := a_R_eq ..
theorem r93_25 (ls : A_V) (st : List Value) (h : A_H) : R 93 25 ls st h = a_do a_nL R R 93 (s_aldl 0 26 ls st h) := a_R_eq ..
theorem r93_26 (ls : A_V) (st : List Value) (h : A_H) : R 93 26 ls st h = a_do a_nL R R 93 (s_getR 11 3 27 ls st h) := a_R_eq ..
theorem r93_27 (ls : A_V) (st : List Value) (h : A_H) : R 93 27 ls st h = a_do a_nL R R 93 (s_ildl 2 28 ls st h) := a_R_eq ..
theorem r93_28 (ls : A_V) (st : List Value) (h : A_H) : R 93 28 ls st h = a_do a_nL R R 93 (s_ildl 4 29 ls st h) := a_R_eq ..
theorem r93_29 (ls : A_V) (st : List Value) (h : A_H) : R 93 29 ls st h = a_do a_nL R R 93 (s_ildl 5 30 ls st h) := a_R_eq ..
theorem r93_30 (ls : A_V) (st : List Value) (h : A_H) : R 93 30 ls st h = a_do a_nL R R 93 (s_aldl 0 31 ls st h) := a_R_eq ..
theorem r93_31 (ls : A_V) (st : List Value) (h : A_H) : R 93 31 ls st h = a_do a_nL R R 93 (s_getR 11 5 32 ls st h) := a_R_eq ..
theorem r93_32 (ls : A_V) (st : List Value) (h : A_H) : R 93 32 ls st h = a_do a_nL R R 93 (s_getI 8 4 33 ls st h) := a_R_eq ..
theorem r93_33 (ls : A_V) (st : List Value) (h : A_H) : R 93 33 ls st h = a_do a_nL R R 93 (s_call 12 69 5 8 true 34 ls st h) := a_R_eq ..
theorem r93_34 (ls : A_V) (st : List Value) (h : A_H) : R 93 34 ls st h = a_do a_nL R R 93 (s_push (.int (-1)) 35 ls st h) := a_R_eq ..
theorem r93_35 (ls : A_V) (st : List Value) (h : A_H) : R 93 35 ls st h = a_do a_nL R R 93 (s_bi (fun x y => x ^^^ y) 36 ls st h) := a_R_eq ..
theorem r93_36 (ls : A_V) (st : List Value) (h : A_H) : R 93 36 ls st h = a_do a_nL R R 93 (s_bi (fun x y => x &&& y) 37 ls st h) := a_R_eq ..
theorem r93_37 (ls : A_V) (st : List Value) (h : A_H) : R 93 37 ls st h = a_do a_nL R R 93 (s_ist 6 38 ls st h) := a_R_eq ..
theorem r93_38 (ls : A_V) (st : List Value) (h : A_H) : R 93 38 ls st h = a_do a_nL R R 93 (s_push (.int (-2)) 39 ls st h) := a_R_eq ..
theorem r93_39 (ls : A_V) (st : List Value) (h : A_H) : R 93 39 ls st h = a_do a_nL R R 93 (s_ist 7 40 ls st h) := a_R_eq ..
theorem r93_40 (ls : A_V) (st : List Value) (h : A_H) : R 93 40 ls st h = a_do a_nL R R 93 (s_push (.int (-1)) 41 ls st h) := a_R_eq ..
theorem r93_41 (ls : A_V) (st : List Value) (h : A_H) : R 93 41 ls st h = a_do a_nL R R 93 (s_ist 8 42 ls st h) := a_R_eq ..
theorem r93_42 (ls : A_V) (st : List Value) (h : A_H) : R 93 42 ls st h = a_do a_nL R R 93 (s_push (.int 0) 43 ls st h) := a_R_eq ..
theorem r93_43 (ls : A_V) (st : List Value) (h : A_H) : R 93 43 ls st h = a_do a_nL R R 93 (s_ist 9 44 ls st h) := a_R_eq ..
theorem r93_44 (ls : A_V) (st : List Value) (h : A_H) : R 93 44 ls st h = a_do a_nL R R 93 (s_ildl 9 45 ls st h) := a_R_eq ..
theorem r93_45 (ls : A_V) (st : List Value) (h : A_H) : R 93 45 ls st h = a_do a_nL R R 93 (s_aldl 0 46 ls st h) := a_R_eq ..
theorem r93_46 (ls : A_V) (st : List Value) (h : A_H) : R 93 46 ls st h = a_do a_nL R R 93 (s_getR 11 3 47 ls st h) := a_R_eq ..
theorem r93_47 (ls : A_V) (st : List Value) (h : A_H) : R 93 47 ls st h = a_do a_nL R R 93 (s_getI 9 5 48 ls st h) := a_R_eq ..
theorem r93_48 (ls : A_V) (st : List Value) (h : A_H) : R 93 48 ls st h = a_do a_nL R R 93 (s_if2 (fun x y => decide (y ≤ x)) 73 49 ls st h) := a_R_eq ..
theorem r93_49 (ls : A_V) (st : List Value) (h : A_H) : R 93 49 ls st h = a_do a_nL R R 93 (s_ildl 6 50 ls st h) := a_R_eq ..
theorem r93_50 (ls : A_V) (st : List Value) (h : A_H) : R 93 50 ls st h = a_do a_nL R R 93 (s_ildl 9 51 ls st h) := a_R_eq ..
theorem r93_51 (ls : A_V) (st : List Value) (h : A_H) : R 93 51 ls st h = a_do a_nL R R 93 (s_bi (fun x y => x >>> (y &&& 31)) 52 ls st h) := a_R_eq ..
theorem r93_52 (ls : A_V) (st : List Value) (h : A_H) : R 93 52 ls st h = a_do a_nL R R 93 (s_push (.int 1) 53 ls st h) := a_R_eq ..
theorem r93_53 (ls : A_V) (st : List Value) (h : A_H) : R 93 53 ls st h = a_do a_nL R R 93 (s_bi (fun x y => x &&& y) 54 ls st h) := a_R_eq ..
theorem r93_54 (ls : A_V) (st : List Value) (h : A_H) : R 93 54 ls st h = a_do a_nL R R 93 (s_if1 (fun x => !decide (x = 0)) 57 55 ls st h) := a_R_eq ..
theorem r93_55 (ls : A_V) (st : List Value) (h : A_H) : R 93 55 ls st h = a_do a_nL R R 93 (s_push (.int (-1)) 56 ls st h) := a_R_eq ..
theorem r93_56 (ls : A_V) (st : List Value) (h : A_H) : R 93 56 ls st h = a_do a_nL R R 93 (s_goto 63 ls st h) := a_R_eq ..
theorem r93_57 (ls : A_V) (st : List Value) (h : A_H) : R 93 57 ls st h = a_do a_nL R R 93 (s_aldl 0 58 ls st h) := a_R_eq ..
theorem r93_58 (ls : A_V) (st : List Value) (h : A_H) : R 93 58 ls st h = a_do a_nL R R 93 (s_getR 11 3 59 ls st h) := a_R_eq ..
theorem r93_59 (ls : A_V) (st : List Value) (h : A_H) : R 93 59 ls st h = a_do a_nL R R 93 (s_ildl 9 60 ls st h) := a_R_eq ..
theorem r93_60 (ls : A_V) (st : List Value) (h : A_H) : R 93 60 ls st h = a_do a_nL R R 93 (s_ildl 4 61 ls st h) := a_R_eq ..
theorem r93_61 (ls : A_V) (st : List Value) (h : A_H) : R 93 61 ls st h = a_do a_nL R R 93 (s_ildl 5 62 ls st h) := a_R_eq ..
theorem r93_62 (ls : A_V) (st : List Value) (h : A_H) : R 93 62 ls st h = a_do a_nL R R 93 (s_call 12 62 4 7 true 63 ls st h) := a_R_eq ..
theorem r93_63 (ls : A_V) (st : List Value) (h : A_H) : R 93 63 ls st h = a_do a_nL R R 93 (s_ist 10 64 ls st h) := a_R_eq ..
theorem r93_64 (ls : A_V) (st : List Value) (h : A_H) : R 93 64 ls st h = a_do a_nL R R 93 (s_ildl 10 65 ls st h) := a_R_eq ..
theorem r93_65 (ls : A_V) (st : List Value) (h : A_H) : R 93 65 ls st h = a_do a_nL R R 93 (s_ildl 8 66 ls st h) := a_R_eq ..
theorem r93_66 (ls : A_V) (st : List Value) (h : A_H) : R 93 66 ls st h = a_do a_nL R R 93 (s_if2 (fun x y => decide (x ≤ y)) 71 67 ls st h) := a_R_eq ..
theorem r93_67 (ls : A_V) (st : List Value) (h : A_H) : R 93 67 ls st h = a_do a_nL R R 93 (s_ildl 10 68 ls st h) := a_R_eq ..
theorem r93_68 (ls : A_V) (st : List Value) (h : A_H) : R 93 68 ls st h = a_do a_nL R R 93 (s_ist 8 69 ls st h) := a_R_eq ..
theorem r93_69 (ls : A_V) (st : List Value) (h : A_H) : R 93 69 ls st h = a_do a_nL R R 93 (s_ildl 9 70 ls st h) := a_R_eq ..
theorem r93_70 (ls : A_V) (st : List Value) (h : A_H) : R 93 70 ls st h = a_do a_nL R R 93 (s_ist 7 71 ls st h) := a_R_eq ..
theorem r93_71 (ls : A_V) (st : List Value) (h : A_H) : R 93 71 ls st h = a_do a_nL R R 93 (s_inc 9 1 72 ls st h) := a_R_eq ..
theorem r93_72 (ls : A_V) (st : List Value) (h : A_H) : R 93 72 ls st h = a_do a_nL R R 93 (s_goto 44 ls st h) := a_R_eq ..
theorem r93_73 (ls : A_V) (st : List Value) (h : A_H) : R 93 73 ls st h = a_do a_nL R R 93 (s_ildl 7 74 ls st h) := a_R_eq ..
theorem r93_74 (ls : A_V) (st : List Value) (h : A_H) : R 93 74 ls st h = a_do a_nL R R 93 (s_iret ls st h) := a_R_eq ..
theorem b93_0 (x0 : Nat) (x1 : Int32) (x2 : Int32) (x3 : Int32) (l4 : Option Value) (l5 : Option Value) (l6 : Option Value) (l7 : Option Value) (l8 : Option Value) (l9 : Option Value) (l10 : Option Value) (h : A_H) : R 93 0 [some (.ref x0), some (.int x1), some (.int x2), some (.int x3), l4, l5, l6, l7, l8, l9, l10] [] h = (cond (isO h x0 11) (a_back R 93 (144, [.ref x0, .int x1, .int x2, .int x3], h, true, none, 6, [some (.ref x0), some (.int x1), some (.int x2), some (.int x3), l4, l5, l6, l7, l8, l9, l10], [.ref x0]) (C 144 [.ref x0, .int x1, .int x2, .int x3] h)) none) := (tr (r93_0 ..) (tr (r93_1 ..) (tr (r93_2 ..) (tr (r93_3 ..) (tr (r93_4 ..) (r93_5 ..))))))
theorem b93_6 (x0 : Nat) (x1 : Int32) (x2 : Int32) (x3 : Int32) (l4 : Option Value) (l5 : Option Value) (l6 : Option Value) (l7 : Option Value) (l8 : Option Value) (l9 : Option Value) (l10 : Option Value) (s0 : Nat) (s1 : Int32) (h : A_H) : R 93 6 [some (.ref x0), some (.int x1), some (.int x2), some (.int x3), l4, l5, l6, l7, l8, l9, l10] [.int s1, .ref s0] h = (cond (isO h s0 11) (a_back R 93 (134, [.ref s0, .int s1], h, true, none, 7, [some (.ref x0), some (.int x1), some (.int x2), some (.int x3), l4, l5, l6, l7, l8, l9, l10], []) (C 134 [.ref s0, .int s1] h)) none) := (r93_6 ..)
theorem b93_7 (x0 : Nat) (x1 : Int32) (x2 : Int32) (x3 : Int32) (l4 : Option Value) (l5 : Option Value) (l6 : Option Value) (l7 : Option Value) (l8 : Option Value) (l9 : Option Value) (l10 : Option Value) (s0 : Int32) (h : A_H) : R 93 7 [some (.ref x0), some (.int x1), some (.int x2), some (.int x3), l4, l5, l6, l7, l8, l9, l10] [.int s0] h = (cond (decide (s0 = 0)) (cond (isO h x0 11 && (hP h x0 5).isSome) (cond (isO h ((hP h x0 5).getD 0) 8) (cond (isO h x0 11) (a_back R 93 (146, [.ref x0, .int x1], h, true, none, 19, [some (.ref x0), some (.int x1), some (.int x2), some (.int x3), some (.int ((hI h ((hP h x0 5).getD 0) 0) + x3)), l5, l6, l7, l8, l9, l10], []) (C 146 [.ref x0, .int x1] h)) none) none) none) (some (some (some (.int (-1 : Int32))), h))) := (tr (r93_7 ..) (cgB (tr (r93_10 ..) (tr (r93_11 ..) (cgT (tr (r93_12 ..) (cgT (tr (r93_13 ..) (tr (r93_14 ..) (tr (r93_15 ..) (tr (r93_16 ..) (tr (r93_17 ..) (r93_18 ..))))))))))) (tr (r93_8 ..) (r93_9 ..))))
theorem b93_19 (x0 : Nat) (x1 : Int32) (x2 : Int32) (x3 : Int32) (x4 : Int32) (l5 : Option Value) (l6 : Option Value) (l7 : Option Value) (l8 : Option Value) (l9 : Option Value) (l10 : Option Value) (s0 : Int32) (h : A_H) : R 93 19 [some (.ref x0), some (.int x1), some (.int x2), some (.int x3), some (.int x4), l5, l6, l7, l8, l9, l10] [.int s0] h = (cond (isO h x0 11 && (hP h x0 5).isSome) (cond (isO h ((hP h x0 5).getD 0) 8) (cond (isO h x0 11 && (hP h x0 3).isSome) (cond (isO h x0 11 && (hP h x0 5).isSome) (cond (isO h ((hP h x0 5).getD 0) 8) (cond (isO h ((hP h x0 3).getD 0) 9) (a_back R 93 (69, [.ref ((hP h x0 3).getD 0), .int x2, .int x4, .int s0, .int (hI h ((hP h x0 5).getD 0) 4)], h, true, none, 34, [some (.ref x0), some (.int x1), some (.int x2), some (.int x3), some (.int x4), some (.int s0), l6, l7, l8, l9, l10], [.int (s0 &&& (hI h ((hP h x0 5).getD 0) 4))]) (C 69 [.ref ((hP h x0 3).getD 0), .int x2, .int x4, .int s0, .int (hI h ((hP h x0 5).getD 0) 4)] h)) none) none) none) none) none) none) := (tr (r93_19 ..) (tr (r93_20 ..) (tr (r93_21 ..) (tr (r93_22 ..) (cgT (tr (r93_23 ..) (cgT (tr (r93_24 ..) (tr (r93_25 ..) (tr (r93_26 ..) (cgT (tr (r93_27 ..) (tr (r93_28 ..) (tr (r93_29 ..) (tr (r93_30 ..) (tr (r93_31 ..) (cgT (tr (r93_32 ..) (cgT (r93_33 ..))))))))))))))))))))
theorem b93_34 (x0 : Nat) (x1 : Int32) (x2 : Int32) (x3 : Int32) (x4 : Int32) (x5 : Int32) (l6 : Option Value) (l7 : Option Value) (l8 : Option Value) (l9 : Option Value) (l10 : Option Value) (s0 : Int32) (s1 : Int32) (h : A_H) : R 93 34 [some (.ref x0), some (.int x1), some (.int x2), some (.int x3), some (.int x4), some (.int x5), l6, l7, l8, l9, l10] [.int s1, .int s0] h = (R 93 44 [some (.ref x0), some (.int x1), some (.int x2), some (.int x3), some (.int x4), some (.int x5), some (.int (s0 &&& (s1 ^^^ (-1 : Int32)))), some (.int (-2 : Int32)), some (.int (-1 : Int32)), some (.int (0 : Int32)), l10] [] h) := (tr (r93_34 ..) (tr (r93_35 ..) (tr (r93_36 ..) (tr (r93_37 ..) (tr (r93_38 ..) (tr (r93_39 ..) (tr (r93_40 ..) (tr (r93_41 ..) (tr (r93_42 ..) (r93_43 ..))))))))))
theorem b93_44 (x0 : Nat) (x1 : Int32) (x2 : Int32) (x3 : Int32) (x4 : Int32) (x5 : Int32) (x6 : Int32) (x7 : Int32) (x8 : Int32) (x9 : Int32) (l10 : Option Value) (h : A_H) : R 93 44 [some (.ref x0), some (.int x1), some (.int x2), some (.int x3), some (.int x4), some (.int x5), some (.int x6), some (.int x7), some (.int x8), some (.int x9), l10] [] h = (cond (isO h x0 11 && (hP h x0 3).isSome) (cond (isO h ((hP h x0 3).getD 0) 9) (cond (decide ((hI h ((hP h x0 3).getD 0) 5) ≤ x9)) (some (some (some (.int x7)), h)) (cond (!decide (((x6 >>> (x9 &&& 31)) &&& (1 : Int32)) = 0)) (cond (isO h x0 11 && (hP h x0 3).isSome) (cond (isO h ((hP h x0 3).getD 0) 9) (a_back R 93 (62, [.ref ((hP h x0 3).getD 0), .int x9, .int x4, .int x5], h, true, none, 63, [some (.ref x0), some (.int x1), some (.int x2), some (.int x3), some (.int x4), some (.int x5), some (.int x6), some (.int x7), some (.int x8), some (.int x9), l10], []) (C 62 [.ref ((hP h x0 3).getD 0), .int x9, .int x4, .int x5] h)) none) none) (cond (decide ((-1 : Int32) ≤ x8)) (R 93 44 [some (.ref x0), some (.int x1), some (.int x2), some (.int x3), some (.int x4), some (.int x5), some (.int x6), some (.int x7), some (.int x8), some (.int (x9 + 1)), some (.int (-1 : Int32))] [] h) (R 93 44 [some (.ref x0), some (.int x1), some (.int x2), some (.int x3), some (.int x4), some (.int x5), some (.int x6), some (.int x9), some (.int (-1 : Int32)), some (.int (x9 + 1)), some (.int (-1 : Int32))] [] h)))) none) none) := (tr (r93_44 ..) (tr (r93_45 ..) (tr (r93_46 ..) (cgT (tr (r93_47 ..) (cgT (tr (r93_48 ..) (cgB (tr (r93_73 ..) (r93_74 ..)) (tr (r93_49 ..) (tr (r93_50 ..) (tr (r93_51 ..) (tr (r93_52 ..) (tr (r93_53 ..) (tr (r93_54 ..) (cgB (tr (r93_57 ..) (tr (r93_58 ..) (cgT (tr (r93_59 ..) (tr (r93_60 ..) (tr (r93_61 ..) (r93_62 ..))))))) (tr (r93_55 ..) (tr (r93_56 ..) (tr (r93_63 ..) (tr (r93_64 ..) (tr (r93_65 ..) (tr (r93_66 ..) (cgB (tr (r93_71 ..) (r93_72 ..)) (tr (r93_67 ..) (tr (r93_68 ..) (tr (r93_69 ..) (tr (r93_70 ..) (tr (r93_71 ..) (r93_72 ..))))))))))))))))))))))))))))
theorem b93_63 (x0 : Nat) (x1 : Int32) (x2 : Int32) (x3 : Int32) (x4 : Int32) (x5 : Int32) (x6 : Int32) (x7 : Int32) (x8 : Int32) (x9 : Int32) (l10 : Option Value) (s0 : Int32) (h : A_H) : R 93 63 [some (.ref x0), some (.int x1), some (.int x2), some (.int x3), some (.int x4), some (.int x5), some (.int x6), some (.int x7), some (.int x8), some (.int x9), l10] [.int s0] h = (cond (decide (s0 ≤ x8)) (R 93 44 [some (.ref x0), some (.int x1), some (.int x2), some (.int x3), some (.int x4), some (.int x5), some (.int x6), some (.int x7), some (.int x8), some (.int (x9 + 1)), some (.int s0)] [] h) (R 93 44 [some (.ref x0), some (.int x1), some (.int x2), some (.int x3), some (.int x4), some (.int x5), some (.int x6), some (.int x9), some (.int s0), some (.int (x9 + 1)), some (.int s0)] [] h)) := (tr (r93_63 ..) (tr (r93_64 ..) (tr (r93_65 ..) (tr (r93_66 ..) (cgB (tr (r93_71 ..) (r93_72 ..)) (tr (r93_67 ..) (tr (r93_68 ..) (tr (r93_69 ..) (tr (r93_70 ..) (tr (r93_71 ..) (r93_72 ..)))))))))))
theorem e94 (x0 : Nat) (x1 : Int32) (x2 : Int32) (h : A_H) : C 94 [.ref x0, .int x1, .int x2] h = R 94 0 [some (.ref x0), some (.int x1), some (.int x2), none, none, none, none] [] h := rfl
theorem r94_0 (ls : A_V) (st : List Value) (h : A_H) : R 94 0 ls st h = a_do a_nL R R 94 (s_aldl 0 1 ls st h) := a_R_eq ..
theorem r94_1 (ls : A_V) (st : List Value) (h : A_H) : R 94 1 ls st h = a_do a_nL R R 94 (s_aldl 0 2 ls st h) := a_R_eq ..
theorem r94_2 (ls : A_V) (st : List Value) (h : A_H) : R 94 2 ls st h = a_do a_nL R R 94 (s_ildl 1 3 ls st h) := a_R_eq ..
theorem r94_3 (ls : A_V) (st : List Value) (h : A_H) : R 94 3 ls st h = a_do a_nL R R 94 (s_call 14 138 2 2 true 4 ls st h) := a_R_eq ..
theorem r94_4 (ls : A_V) (st : List Value) (h : A_H) : R 94 4 ls st h = a_do a_nL R R 94 (s_ildl 2 5 ls st h) := a_R_eq ..
theorem r94_5 (ls : A_V) (st : List Value) (h : A_H) : R 94 5 ls st h = a_do a_nL R R 94 (s_call 0 141 1 1 true 6 ls st h) := a_R_eq ..
theorem r94_6 (ls : A_V) (st : List Value) (h : A_H) : R 94 6 ls st h = a_do a_nL R R 94 (s_call 0 135 2 2 true 7 ls st h) := a_R_eq ..
theorem r94_7 (ls : A_V) (st : List Value) (h : A_H) : R 94 7 ls st h = a_do a_nL R R 94 (s_call 14 134 2 2 true 8 ls st h) := a_R_eq ..
theorem r94_8 (ls : A_V) (st : List Value) (h : A_H) : R 94 8 ls st h = a_do a_nL R R 94 (s_if1 (fun x => decide (x = 0)) 11 9 ls st h) := a_R_eq ..
theorem r94_9 (ls : A_V) (st : List Value) (h : A_H) : R 94 9 ls st h = a_do a_nL R R 94 (s_push (.int (-1)) 10 ls st h) := a_R_eq ..
theorem r94_10 (ls : A_V) (st : List Value) (h : A_H) : R 94 10 ls st h = a_do a_nL R R 94 (s_iret ls st h) := a_R_eq ..
theorem r94_11 (ls : A_V) (st : List Value) (h : A_H) : R 94 11 ls st h = a_do a_nL R R 94 (s_push (.int 0) 12 ls st h) := a_R_eq ..
theorem r94_12 (ls : A_V) (st : List Value) (h : A_H) : R 94 12 ls st h = a_do a_nL R R 94 (s_ist 3 13 ls st h) := a_R_eq ..
theorem r94_13 (ls : A_V) (st : List Value) (h : A_H) : R 94 13 ls st h = a_do a_nL R R 94 (s_aldl 0 14 ls st h) := a_R_eq ..
theorem r94_14 (ls : A_V) (st : List Value) (h : A_H) : R 94 14 ls st h = a_do a_nL R R 94 (s_ildl 1 15 ls st h) := a_R_eq ..
theorem r94_15 (ls : A_V) (st : List Value) (h : A_H) : R 94 15 ls st h = a_do a_nL R R 94 (s_push (.int 0) 16 ls st h) := a_R_eq ..
theorem r94_16 (ls : A_V) (st : List Value) (h : A_H) : R 94 16 ls st h = a_do a_nL R R 94 (s_ildl 2 17 ls st h) := a_R_eq ..
theorem r94_17 (ls : A_V) (st : List Value) (h : A_H) : R 94 17 ls st h = a_do a_nL R R 94 (s_push (.int 0) 18 ls st h) := a_R_eq ..
theorem r94_18 (ls : A_V) (st : List Value) (h : A_H) : R 94 18 ls st h = a_do a_nL R R 94 (s_call 14 148 5 5 true 19 ls st h) := a_R_eq ..
theorem r94_19 (ls : A_V) (st : List Value) (h : A_H) : R 94 19 ls st h = a_do a_nL R R 94 (s_ist 4 20 ls st h) := a_R_eq ..
theorem r94_20 (ls : A_V) (st : List Value) (h : A_H) : R 94 20 ls st h = a_do a_nL R R 94 (s_push (.int 1) 21 ls st h) := a_R_eq ..
theorem r94_21 (ls : A_V) (st : List Value) (h : A_H) : R 94 21 ls st h = a_do a_nL R R 94 (s_ist 5 22 ls st h) := a_R_eq ..
theorem r94_22 (ls : A_V) (st : List Value) (h : A_H) : R 94 22 ls st h = a_do a_nL R R 94 (s_ildl 5 23 ls st h) := a_R_eq ..
theorem r94_23 (ls : A_V) (st : List Value) (h : A_H) : R 94 23 ls st h = a_do a_nL R R 94 (s_aldl 0 24 ls st h) := a_R_eq ..
theorem r94_24 (ls : A_V) (st : List Value) (h : A_H) : R 94 24 ls st h = a_do a_nL R R 94 (s_getR 11 3 25 ls st h) := a_R_eq ..
theorem r94_25 (ls : A_V) (st : List Value) (h : A_H) : R 94 25 ls st h = a_do a_nL R R 94 (s_getI 9 4 26 ls st h) := a_R_eq ..
theorem r94_26 (ls : A_V) (st : List Value) (h : A_H) : R 94 26 ls st h = a_do a_nL R R 94 (s_if2 (fun x y => decide (y ≤ x)) 43 27 ls st h) := a_R_eq ..
theorem r94_27 (ls : A_V) (st : List Value) (h : A_H) : R 94 27 ls st h = a_do a_nL R R 94 (s_aldl 0 28 ls st h) := a_R_eq ..
theorem r94_28 (ls : A_V) (st : List Value) (h : A_H) : R 94 28 ls st h = a_do a_nL R R 94 (s_ildl 1 29 ls st h) := a_R_eq ..
theorem r94_29 (ls : A_V) (st : List Value) (h : A_H) : R 94 29 ls st h = a_do a_nL R R 94 (s_ildl 5 30 ls st h) := a_R_eq ..
theorem r94_30 (ls : A_V) (st : List Value) (h : A_H) : R 94 30 ls st h = a_do a_nL R R 94 (s_ildl 2 31 ls st h) := a_R_eq ..
theorem r94_31 (ls : A_V) (st : List Value) (h : A_H) : R 94 31 ls st h = a_do a_nL R R 94 (s_push (.int 0) 32 ls st h) := a_R_eq ..
theorem r94_32 (ls : A_V) (st : List Value) (h : A_H) : R 94 32 ls st h = a_do a_nL R R 94 (s_call 14 148 5 5 true 33 ls st h) := a_R_eq ..
theorem r94_33 (ls : A_V) (st : List Value) (h : A_H) : R 94 33 ls st h = a_do a_nL R R 94 (s_ist 6 34 ls st h) := a_R_eq ..
theorem r94_34 (ls : A_V) (st : List Value) (h : A_H) : R 94 34 ls st h = a_do a_nL R R 94 (s_ildl 6 35 ls st h) := a_R_eq ..
theorem r94_35 (ls : A_V) (st : List Value) (h : A_H) : R 94 35 ls st h = a_do a_nL R R 94 (s_ildl 4 36 ls st h) := a_R_eq ..
theorem r94_36 (ls : A_V) (st : List Value) (h : A_H) : R 94 36 ls st h = a_do a_nL R R 94 (s_if2 (fun x y => decide (y ≤ x)) 41 37 ls st h) := a_R_eq ..
theorem r94_37 (ls : A_V) (st : List Value) (h : A_H) : R 94 37 ls st h = a_do a_nL R R 94 (s_ildl 6 38 ls st h) := a_R_eq ..
theorem r94_38 (ls : A_V) (st : List Value) (h : A_H) : R 94 38 ls st h = a_do a_nL R R 94 (s_ist 4 39 ls st h) := a_R_eq ..
theorem r94_39 (ls : A_V) (st : List Value) (h : A_H) : R 94 39 ls st h = a_do a_nL R R 94 (s_ildl 5 40 ls st h) := a_R_eq ..
theorem r94_40 (ls : A_V) (st : List Value) (h : A_H) : R 94 40 ls st h = a_do a_nL R R 94 (s_ist 3 41 ls st h) := a_R_eq ..
theorem r94_41 (ls : A_V) (st : List Value) (h : A_H) : R 94 41 ls st h = a_do a_nL R R 94 (s_inc 5 1 42 ls st h) := a_R_eq ..
theorem r94_42 (ls : A_V) (st : List Value) (h : A_H) : R 94 42 ls st h = a_do a_nL R R 94 (s_goto 22 ls st h) := a_R_eq ..
theorem r94_43 (ls : A_V) (st : List Value) (h : A_H) : R 94 43 ls st h = a_do a_nL R R 94 (s_ildl 3 44 ls st h) := a_R_eq ..
theorem r94_44 (ls : A_V) (st : List Value) (h : A_H) : R 94 44 ls st h = a_do a_nL R R 94 (s_iret ls st h) := a_R_eq ..
theorem b94_0 (x0 : Nat) (x1 : Int32) (x2 : Int32) (l3 : Option Value) (l4 : Option Value) (l5 : Option Value) (l6 : Option Value) (h : A_H) : R 94 0 [some (.ref x0), some (.int x1), some (.int x2), l3, l4, l5, l6] [] h = (cond (isO h x0 11) (a_back R 94 (138, [.ref x0, .int x1], h, true, none, 4, [some (.ref x0), some (.int x1), some (.int x2), l3, l4, l5, l6], [.ref x0]) (C 138 [.ref x0, .int x1] h)) none) := (tr (r94_0 ..) (tr (r94_1 ..) (tr (r94_2 ..) (r94_3 ..))))
theorem b94_4 (x0 : Nat) (x1 : Int32) (x2 : Int32) (l3 : Option Value) (l4 : Option Value) (l5 : Option Value) (l6 : Option Value) (s0 : Nat) (s1 : Int32) (h : A_H) : R 94 4 [some (.ref x0), some (.int x1), some (.int x2), l3, l4, l5, l6] [.int s1, .ref s0] h = (a_back R 94 (141, [.int x2], h, true, none, 6, [some (.ref x0), some (.int x1), some (.int x2), l3, l4, l5, l6], [.int s1, .ref s0]) (C 141 [.int x2] h)) := (tr (r94_4 ..) (r94_5 ..))
theorem b94_6 (x0 : Nat) (x1 : Int32) (x2 : Int32) (l3 : Option Value) (l4 : Option Value) (l5 : Option Value) (l6 : Option Value) (s0 : Nat) (s1 : Int32) (s2 : Int32) (h : A_H) : R 94 6 [some (.ref x0), some (.int x1), some (.int x2), l3, l4, l5, l6] [.int s2, .int s1, .ref s0] h = (a_back R 94 (135, [.int s1, .int s2], h, true, none, 7, [some (.ref x0), some (.int x1), some (.int x2), l3, l4, l5, l6], [.ref s0]) (C 135 [.int s1, .int s2] h)) := (r94_6 ..)
theorem b94_7 (x0 : Nat) (x1 : Int32) (x2 : Int32) (l3 : Option Value) (l4 : Option Value) (l5 : Option Value) (l6 : Option Value) (s0 : Nat) (s1 : Int32) (h : A_H) : R 94 7 [some (.ref x0), some (.int x1), some (.int x2), l3, l4, l5, l6] [.int s1, .ref s0] h = (cond (isO h s0 11) (a_back R 94 (134, [.ref s0, .int s1], h, true, none, 8, [some (.ref x0), some (.int x1), some (.int x2), l3, l4, l5, l6], []) (C 134 [.ref s0, .int s1] h)) none) := (r94_7 ..)
theorem b94_8 (x0 : Nat) (x1 : Int32) (x2 : Int32) (l3 : Option Value) (l4 : Option Value) (l5 : Option Value) (l6 : Option Value) (s0 : Int32) (h : A_H) : R 94 8 [some (.ref x0), some (.int x1), some (.int x2), l3, l4, l5, l6] [.int s0] h = (cond (decide (s0 = 0)) (cond (isO h x0 11) (a_back R 94 (148, [.ref x0, .int x1, .int (0 : Int32), .int x2, .int (0 : Int32)], h, true, none, 19, [some (.ref x0), some (.int x1), some (.int x2), some (.int (0 : Int32)), l4, l5, l6], []) (C 148 [.ref x0, .int x1, .int (0 : Int32), .int x2, .int (0 : Int32)] h)) none) (some (some (some (.int (-1 : Int32))), h))) := (tr (r94_8 ..) (cgB (tr (r94_11 ..) (tr (r94_12 ..) (tr (r94_13 ..) (tr (r94_14 ..) (tr (r94_15 ..) (tr (r94_16 ..) (tr (r94_17 ..) (r94_18 ..)))))))) (tr (r94_9 ..) (r94_10 ..))))
theorem b94_19 (x0 : Nat) (x1 : Int32) (x2 : Int32) (x3 : Int32) (l4 : Option Value) (l5 : Option Value) (l6 : Option Value) (s0 : Int32) (h : A_H) : R 94 19 [some (.ref x0), some (.int x1), some (.int x2), some (.int x3), l4, l5, l6] [.int s0] h = (R 94 22 [some (.ref x0), some (.int x1), some (.int x2), some (.int x3), some (.int s0), some (.int (1 : Int32)), l6] [] h) := (tr (r94_19 ..) (tr (r94_20 ..) (r94_21 ..)))
theorem b94_22 (x0 : Nat) (x1 : Int32) (x2 : Int32) (x3 : Int32) (x4 : Int32) (x5 : Int32) (l6 : Option Value) (h : A_H) : R 94 22 [some (.ref x0), some (.int x1), some (.int x2), some (.int x3), some (.int x4), some (.int x5), l6] [] h = (cond (isO h x0 11 && (hP h x0 3).isSome) (cond (isO h ((hP h x0 3).getD 0) 9) (cond (decide ((hI h ((hP h x0 3).getD 0) 4) ≤ x5)) (some (some (some (.int x3)), h)) (cond (isO h x0 11) (a_back R 94 (148, [.ref x0, .int x1, .int x5, .int x2, .int (0 : Int32)], h, true, none, 33, [some (.ref x0), some (.int x1), some (.int x2), some (.int x3), some (.int x4), some (.int x5), l6], []) (C 148 [.ref x0, .int x1, .int x5, .int x2, .int (0 : Int32)] h)) none)) none) none) := (tr (r94_22 ..) (tr (r94_23 ..) (tr (r94_24 ..) (cgT (tr (r94_25 ..) (cgT (tr (r94_26 ..) (cgB (tr (r94_43 ..) (r94_44 ..)) (tr (r94_27 ..) (tr (r94_28 ..) (tr (r94_29 ..) (tr (r94_30 ..) (tr (r94_31 ..) (r94_32 ..))))))))))))))
theorem b94_33 (x0 : Nat) (x1 : Int32) (x2 : Int32) (x3 : Int32) (x4 : Int32) (x5 : Int32) (l6 : Option Value) (s0 : Int32) (h : A_H) : R 94 33 [some (.ref x0), some (.int x1), some (.int x2), some (.int x3), some (.int x4), some (.int x5), l6] [.int s0] h = (cond (decide (x4 ≤ s0)) (R 94 22 [some (.ref x0), some (.int x1), some (.int x2), some (.int x3), some (.int x4), some (.int (x5 + 1)), some (.int s0)] [] h) (R 94 22 [some (.ref x0), some (.int x1), some (.int x2), some (.int x5), some (.int s0), some (.int (x5 + 1)), some (.int s0)] [] h)) := (tr (r94_33 ..) (tr (r94_34 ..) (tr (r94_35 ..) (tr (r94_36 ..) (cgB (tr (r94_41 ..) (r94_42 ..)) (tr (r94_37 ..) (tr (r94_38 ..) (tr (r94_39 ..) (tr (r94_40 ..) (tr (r94_41 ..) (r94_42 ..)))))))))))
theorem e95 (x0 : Nat) (x1 : Int32) (x2 : Int32) (h : A_H) : C 95 [.ref x0, .int x1, .int x2] h = R 95 0 [some (.ref x0), some (.int x1), some (.int x2)] [] h := rfl
theorem r95_0 (ls : A_V) (st : List Value) (h : A_H) : R 95 0 ls st h = a_do a_nL R R 95 (s_aldl 0 1 ls st h) := a_R_eq ..
theorem r95_1 (ls : A_V) (st : List Value) (h : A_H) : R 95 1 ls st h = a_do a_nL R R 95 (s_aldl 0 2 ls st h) := a_R_eq ..
theorem r95_2 (ls : A_V) (st : List Value) (h : A_H) : R 95 2 ls st h = a_do a_nL R R 95 (s_ildl 1 3 ls st h) := a_R_eq ..
theorem r95_3 (ls : A_V) (st : List Value) (h : A_H) : R 95 3 ls st h = a_do a_nL R R 95 (s_ildl 2 4 ls st h) := a_R_eq ..
theorem r95_4 (ls : A_V) (st : List Value) (h : A_H) : R 95 4 ls st h = a_do a_nL R R 95 (s_push (.int 0) 5 ls st h) := a_R_eq ..
theorem r95_5 (ls : A_V) (st : List Value) (h : A_H) : R 95 5 ls st h = a_do a_nL R R 95 (s_call 14 144 4 4 true 6 ls st h) := a_R_eq ..
theorem r95_6 (ls : A_V) (st : List Value) (h : A_H) : R 95 6 ls st h = a_do a_nL R R 95 (s_call 14 134 2 2 true 7 ls st h) := a_R_eq ..
theorem r95_7 (ls : A_V) (st : List Value) (h : A_H) : R 95 7 ls st h = a_do a_nL R R 95 (s_if1 (fun x => decide (x = 0)) 10 8 ls st h) := a_R_eq ..
theorem r95_8 (ls : A_V) (st : List Value) (h : A_H) : R 95 8 ls st h = a_do a_nL R R 95 (s_push (.int (-1)) 9 ls st h) := a_R_eq ..
theorem r95_9 (ls : A_V) (st : List Value) (h : A_H) : R 95 9 ls st h = a_do a_nL R R 95 (s_iret ls st h) := a_R_eq ..
theorem r95_10 (ls : A_V) (st : List Value) (h : A_H) : R 95 10 ls st h = a_do a_nL R R 95 (s_aldl 0 11 ls st h) := a_R_eq ..
theorem r95_11 (ls : A_V) (st : List Value) (h : A_H) : R 95 11 ls st h = a_do a_nL R R 95 (s_ildl 1 12 ls st h) := a_R_eq ..
theorem r95_12 (ls : A_V) (st : List Value) (h : A_H) : R 95 12 ls st h = a_do a_nL R R 95 (s_ildl 2 13 ls st h) := a_R_eq ..
theorem r95_13 (ls : A_V) (st : List Value) (h : A_H) : R 95 13 ls st h = a_do a_nL R R 95 (s_call 14 97 3 8 true 14 ls st h) := a_R_eq ..
theorem r95_14 (ls : A_V) (st : List Value) (h : A_H) : R 95 14 ls st h = a_do a_nL R R 95 (s_iret ls st h) := a_R_eq ..
theorem b95_0 (x0 : Nat) (x1 : Int32) (x2 : Int32) (h : A_H) : R 95 0 [some (.ref x0), some (.int x1), some (.int x2)] [] h = (cond (isO h x0 11) (a_back R 95 (144, [.ref x0, .int x1, .int x2, .int (0 : Int32)], h, true, none, 6, [some (.ref x0), some (.int x1), some (.int x2)], [.ref x0]) (C 144 [.ref x0, .int x1, .int x2, .int (0 : Int32)] h)) none) := (tr (r95_0 ..) (tr (r95_1 ..) (tr (r95_2 ..) (tr (r95_3 ..) (tr (r95_4 ..) (r95_5 ..))))))
theorem b95_6 (x0 : Nat) (x1 : Int32) (x2 : Int32) (s0 : Nat) (s1 : Int32) (h : A_H) : R 95 6 [some (.ref x0), some (.int x1), some (.int x2)] [.int s1, .ref s0] h = (cond (isO h s0 11) (a_back R 95 (134, [.ref s0, .int s1], h, true, none, 7, [some (.ref x0), some (.int x1), some (.int x2)], []) (C 134 [.ref s0, .int s1] h)) none) := (r95_6 ..)
theorem b95_7 (x0 : Nat) (x1 : Int32) (x2 : Int32) (s0 : Int32) (h : A_H) : R 95 7 [some (.ref x0), some (.int x1), some (.int x2)] [.int s0] h = (cond (decide (s0 = 0)) (cond (isO h x0 11) (a_back R 95 (97, [.ref x0, .int x1, .int x2], h, true, none, 14, [some (.ref x0), some (.int x1), some (.int x2)], []) (C 97 [.ref x0, .int x1, .int x2] h)) none) (some (some (some (.int (-1 : Int32))), h))) := (tr (r95_7 ..) (cgB (tr (r95_10 ..) (tr (r95_11 ..) (tr (r95_12 ..) (r95_13 ..)))) (tr (r95_8 ..) (r95_9 ..))))
theorem b95_14 (x0 : Nat) (x1 : Int32) (x2 : Int32) (s0 : Int32) (h : A_H) : R 95 14 [some (.ref x0), some (.int x1), some (.int x2)] [.int s0] h = (some (some (some (.int s0)), h)) := (r95_14 ..)
theorem e96 (x0 : Nat) (x1 : Int32) (x2 : Int32) (h : A_H) : C 96 [.ref x0, .int x1, .int x2] h = R 96 0 [some (.ref x0), some (.int x1), some (.int x2)] [] h := rfl
theorem r96_0 (ls : A_V) (st : List Value) (h : A_H) : R 96 0 ls st h = a_do a_nL R R 96 (s_aldl 0 1 ls st h) := a_R_eq ..
theorem r96_1 (ls : A_V) (st : List Value) (h : A_H) : R 96 1 ls st h = a_do a_nL R R 96 (s_aldl 0 2 ls st h) := a_R_eq ..
theorem r96_2 (ls : A_V) (st : List Value) (h : A_H) : R 96 2 ls st h = a_do a_nL R R 96 (s_ildl 1 3 ls st h) := a_R_eq ..
theorem r96_3 (ls : A_V) (st : List Value) (h : A_H) : R 96 3 ls st h = a_do a_nL R R 96 (s_ildl 2 4 ls st h) := a_R_eq ..
theorem r96_4 (ls : A_V) (st : List Value) (h : A_H) : R 96 4 ls st h = a_do a_nL R R 96 (s_push (.int 0) 5 ls st h) := a_R_eq ..
theorem r96_5 (ls : A_V) (st : List Value) (h : A_H) : R 96 5 ls st h = a_do a_nL R R 96 (s_call 14 144 4 4 true 6 ls st h) := a_R_eq ..
theorem r96_6 (ls : A_V) (st : List Value) (h : A_H) : R 96 6 ls st h = a_do a_nL R R 96 (s_call 14 134 2 2 true 7 ls st h) := a_R_eq ..
theorem r96_7 (ls : A_V) (st : List Value) (h : A_H) : R 96 7 ls st h = a_do a_nL R R 96 (s_if1 (fun x => decide (x = 0)) 10 8 ls st h) := a_R_eq ..
theorem r96_8 (ls : A_V) (st : List Value) (h : A_H) : R 96 8 ls st h = a_do a_nL R R 96 (s_push (.int (-1)) 9 ls st h) := a_R_eq ..
theorem r96_9 (ls : A_V) (st : List Value) (h : A_H) : R 96 9 ls st h = a_do a_nL R R 96 (s_iret ls st h) := a_R_eq ..
theorem r96_10 (ls : A_V) (st : List Value) (h : A_H) : R 96 10 ls st h = a_do a_nL R R 96 (s_aldl 0 11 ls st h) := a_R_eq ..
theorem r96_11 (ls : A_V) (st : List Value) (h : A_H) : R 96 11 ls st h = a_do a_nL R R 96 (s_ildl 1 12 ls st h) := a_R_eq ..
theorem r96_12 (ls : A_V) (st : List Value) (h : A_H) : R 96 12 ls st h = a_do a_nL R R 96 (s_ildl 2 13 ls st h) := a_R_eq ..
theorem r96_13 (ls : A_V) (st : List Value) (h : A_H) : R 96 13 ls st h = a_do a_nL R R 96 (s_aldl 0 14 ls st h) := a_R_eq ..
theorem r96_14 (ls : A_V) (st : List Value) (h : A_H) : R 96 14 ls st h = a_do a_nL R R 96 (s_ildl 1 15 ls st h) := a_R_eq ..
theorem r96_15 (ls : A_V) (st : List Value) (h : A_H) : R 96 15 ls st h = a_do a_nL R R 96 (s_ildl 2 16 ls st h) := a_R_eq ..
theorem r96_16 (ls : A_V) (st : List Value) (h : A_H) : R 96 16 ls st h = a_do a_nL R R 96 (s_call 14 97 3 8 true 17 ls st h) := a_R_eq ..
theorem r96_17 (ls : A_V) (st : List Value) (h : A_H) : R 96 17 ls st h = a_do a_nL R R 96 (s_push (.int 0) 18 ls st h) := a_R_eq ..
theorem r96_18 (ls : A_V) (st : List Value) (h : A_H) : R 96 18 ls st h = a_do a_nL R R 96 (s_call 14 148 5 5 true 19 ls st h) := a_R_eq ..
theorem r96_19 (ls : A_V) (st : List Value) (h : A_H) : R 96 19 ls st h = a_do a_nL R R 96 (s_iret ls st h) := a_R_eq ..
theorem b96_0 (x0 : Nat) (x1 : Int32) (x2 : Int32) (h : A_H) : R 96 0 [some (.ref x0), some (.int x1), some (.int x2)] [] h = (cond (isO h x0 11) (a_back R 96 (144, [.ref x0, .int x1, .int x2, .int (0 : Int32)], h, true, none, 6, [some (.ref x0), some (.int x1), some (.int x2)], [.ref x0]) (C 144 [.ref x0, .int x1, .int x2, .int (0 : Int32)] h)) none) := (tr (r96_0 ..) (tr (r96_1 ..) (tr (r96_2 ..) (tr (r96_3 ..) (tr (r96_4 ..) (r96_5 ..))))))
theorem b96_6 (x0 : Nat) (x1 : Int32) (x2 : Int32) (s0 : Nat) (s1 : Int32) (h : A_H) : R 96 6 [some (.ref x0), some (.int x1), some (.int x2)] [.int s1, .ref s0] h = (cond (isO h s0 11) (a_back R 96 (134, [.ref s0, .int s1], h, true, none, 7, [some (.ref x0), some (.int x1), some (.int x2)], []) (C 134 [.ref s0, .int s1] h)) none) := (r96_6 ..)
theorem b96_7 (x0 : Nat) (x1 : Int32) (x2 : Int32) (s0 : Int32) (h : A_H) : R 96 7 [some (.ref x0), some (.int x1), some (.int x2)] [.int s0] h = (cond (decide (s0 = 0)) (cond (isO h x0 11) (a_back R 96 (97, [.ref x0, .int x1, .int x2], h, true, none, 17, [some (.ref x0), some (.int x1), some (.int x2)], [.int x2, .int x1, .ref x0]) (C 97 [.ref x0, .int x1, .int x2] h)) none) (some (some (some (.int (-1 : Int32))), h))) := (tr (r96_7 ..) (cgB (tr (r96_10 ..) (tr (r96_11 ..) (tr (r96_12 ..) (tr (r96_13 ..) (tr (r96_14 ..) (tr (r96_15 ..) (r96_16 ..))))))) (tr (r96_8 ..) (r96_9 ..))))
theorem b96_17 (x0 : Nat) (x1 : Int32) (x2 : Int32) (s0 : Nat) (s1 : Int32) (s2 : Int32) (s3 : Int32) (h : A_H) : R 96 17 [some (.ref x0), some (.int x1), some (.int x2)] [.int s3, .int s2, .int s1, .ref s0] h = (cond (isO h s0 11) (a_back R 96 (148, [.ref s0, .int s1, .int s2, .int s3, .int (0 : Int32)], h, true, none, 19, [some (.ref x0), some (.int x1), some (.int x2)], []) (C 148 [.ref s0, .int s1, .int s2, .int s3, .int (0 : Int32)] h)) none) := (tr (r96_17 ..) (r96_18 ..))
theorem b96_19 (x0 : Nat) (x1 : Int32) (x2 : Int32) (s0 : Int32) (h : A_H) : R 96 19 [some (.ref x0), some (.int x1), some (.int x2)] [.int s0] h = (some (some (some (.int s0)), h)) := (r96_19 ..)
theorem e97 (x0 : Nat) (x1 : Int32) (x2 : Int32) (h : A_H) : C 97 [.ref x0, .int x1, .int x2] h = R 97 0 [some (.ref x0), some (.int x1), some (.int x2), none, none, none, none, none] [] h := rfl
theorem r97_0 (ls : A_V) (st : List Value) (h : A_H) : R 97 0 ls st h = a_do a_nL R R 97 (s_aldl 0 1 ls st h) := a_R_eq ..
theorem r97_1 (ls : A_V) (st : List Value) (h : A_H) : R 97 1 ls st h = a_do a_nL R R 97 (s_ildl 1 2 ls st h) := a_R_eq ..
theorem r97_2 (ls : A_V) (st : List Value) (h : A_H) : R 97 2 ls st h = a_do a_nL R R 97 (s_call 14 146 2 2 true 3 ls st h) := a_R_eq ..
theorem r97_3 (ls : A_V) (st : List Value) (h : A_H) : R 97 3 ls st h = a_do a_nL R R 97 (s_ist 3 4 ls st h) := a_R_eq ..
theorem r97_4 (ls : A_V) (st : List Value) (h : A_H) : R 97 4 ls st h = a_do a_nL R R 97 (s_push (.int 0) 5 ls st h) := a_R_eq ..
theorem r97_5 (ls : A_V) (st : List Value) (h : A_H) : R 97 5 ls st h = a_do a_nL R R 97 (s_ist 4 6 ls st h) := a_R_eq ..
theorem r97_6 (ls : A_V) (st : List Value) (h : A_H) : R 97 6 ls st h = a_do a_nL R R 97 (s_aldl 0 7 ls st h) := a_R_eq ..
theorem r97_7 (ls : A_V) (st : List Value) (h : A_H) : R 97 7 ls st h = a_do a_nL R R 97 (s_getR 11 3 8 ls st h) := a_R_eq ..
theorem r97_8 (ls : A_V) (st : List Value) (h : A_H) : R 97 8 ls st h = a_do a_nL R R 97 (s_ildl 1 9 ls st h) := a_R_eq ..
theorem r97_9 (ls : A_V) (st : List Value) (h : A_H) : R 97 9 ls st h = a_do a_nL R R 97 (s_ildl 2 10 ls st h) := a_R_eq ..
theorem r97_10 (ls : A_V) (st : List Value) (h : A_H) : R 97 10 ls st h = a_do a_nL R R 97 (s_aldl 0 11 ls st h) := a_R_eq ..
theorem r97_11 (ls : A_V) (st : List Value) (h : A_H) : R 97 11 ls st h = a_do a_nL R R 97 (s_getR 11 5 12 ls st h) := a_R_eq ..
theorem r97_12 (ls : A_V) (st : List Value) (h : A_H) : R 97 12 ls st h = a_do a_nL R R 97 (s_getI 8 0 13 ls st h) := a_R_eq ..
theorem r97_13 (ls : A_V) (st : List Value) (h : A_H) : R 97 13 ls st h = a_do a_nL R R 97 (s_ildl 3 14 ls st h) := a_R_eq ..
theorem r97_14 (ls : A_V) (st : List Value) (h : A_H) : R 97 14 ls st h = a_do a_nL R R 97 (s_aldl 0 15 ls st h) := a_R_eq ..
theorem r97_15 (ls : A_V) (st : List Value) (h : A_H) : R 97 15 ls st h = a_do a_nL R R 97 (s_getR 11 5 16 ls st h) := a_R_eq ..
theorem r97_16 (ls : A_V) (st : List Value) (h : A_H) : R 97 16 ls st h = a_do a_nL R R 97 (s_getI 8 4 17 ls st h) := a_R_eq ..
theorem r97_17 (ls : A_V) (st : List Value) (h : A_H) : R 97 17 ls st h = a_do a_nL R R 97 (s_push (.int 0) 18 ls st h) := a_R_eq ..
theorem r97_18 (ls : A_V) (st : List Value) (h : A_H) : R 97 18 ls st h = a_do a_nL R R 97 (s_call 12 71 7 8 true 19 ls st h) := a_R_eq ..
theorem r97_19 (ls : A_V) (st : List Value) (h : A_H) : R 97 19 ls st h = a_do a_nL R R 97 (s_ist 5 20 ls st h) := a_R_eq ..
theorem r97_20 (ls : A_V) (st : List Value) (h : A_H) : R 97 20 ls st h = a_do a_nL R R 97 (s_push (.int 1) 21 ls st h) := a_R_eq ..
theorem r97_21 (ls : A_V) (st : List Value) (h : A_H) : R 97 21 ls st h = a_do a_nL R R 97 (s_ist 6 22 ls st h) := a_R_eq ..
theorem r97_22 (ls : A_V) (st : List Value) (h : A_H) : R 97 22 ls st h = a_do a_nL R R 97 (s_ildl 6 23 ls st h) := a_R_eq ..
theorem r97_23 (ls : A_V) (st : List Value) (h : A_H) : R 97 23 ls st h = a_do a_nL R R 97 (s_push (.int 60) 24 ls st h) := a_R_eq ..
theorem r97_24 (ls : A_V) (st : List Value) (h : A_H) : R 97 24 ls st h = a_do a_nL R R 97 (s_if2 (fun x y => decide (y < x)) 50 25 ls st h) := a_R_eq ..
theorem r97_25 (ls : A_V) (st : List Value) (h : A_H) : R 97 25 ls st h = a_do a_nL R R 97 (s_aldl 0 26 ls st h) := a_R_eq ..
theorem r97_26 (ls : A_V) (st : List Value) (h : A_H) : R 97 26 ls st h = a_do a_nL R R 97 (s_getR 11 3 27 ls st h) := a_R_eq ..
theorem r97_27 (ls : A_V) (st : List Value) (h : A_H) : R 97 27 ls st h = a_do a_nL R R 97 (s_ildl 1 28 ls st h) := a_R_eq ..
theorem r97_28 (ls : A_V) (st : List Value) (h : A_H) : R 97 28 ls st h = a_do a_nL R R 97 (s_ildl 2 29 ls st h) := a_R_eq ..
theorem r97_29 (ls : A_V) (st : List Value) (h : A_H) : R 97 29 ls st h = a_do a_nL R R 97 (s_aldl 0 30 ls st h) := a_R_eq ..
theorem r97_30 (ls : A_V) (st : List Value) (h : A_H) : R 97 30 ls st h = a_do a_nL R R 97 (s_getR 11 5 31 ls st h) := a_R_eq ..
theorem r97_31 (ls : A_V) (st : List Value) (h : A_H) : R 97 31 ls st h = a_do a_nL R R 97 (s_getI 8 0 32 ls st h) := a_R_eq ..
theorem r97_32 (ls : A_V) (st : List Value) (h : A_H) : R 97 32 ls st h = a_do a_nL R R 97 (s_ildl 6 33 ls st h) := a_R_eq ..
theorem r97_33 (ls : A_V) (st : List Value) (h : A_H) : R 97 33 ls st h = a_do a_nL R R 97 (s_bi (fun x y => x + y) 34 ls st h) := a_R_eq ..
theorem r97_34 (ls : A_V) (st : List Value) (h : A_H) : R 97 34 ls st h = a_do a_nL R R 97 (s_ildl 3 35 ls st h) := a_R_eq ..
theorem r97_35 (ls : A_V) (st : List Value) (h : A_H) : R 97 35 ls st h = a_do a_nL R R 97 (s_aldl 0 36 ls st h) := a_R_eq ..
theorem r97_36 (ls : A_V) (st : List Value) (h : A_H) : R 97 36 ls st h = a_do a_nL R R 97 (s_getR 11 5 37 ls st h) := a_R_eq ..
theorem r97_37 (ls : A_V) (st : List Value) (h : A_H) : R 97 37 ls st h = a_do a_nL R R 97 (s_getI 8 4 38 ls st h) := a_R_eq ..
theorem r97_38 (ls : A_V) (st : List Value) (h : A_H) : R 97 38 ls st h = a_do a_nL R R 97 (s_push (.int 0) 39 ls st h) := a_R_eq ..
theorem r97_39 (ls : A_V) (st : List Value) (h : A_H) : R 97 39 ls st h = a_do a_nL R R 97 (s_call 12 71 7 8 true 40 ls st h) := a_R_eq ..
theorem r97_40 (ls : A_V) (st : List Value) (h : A_H) : R 97 40 ls st h = a_do a_nL R R 97 (s_ist 7 41 ls st h) := a_R_eq ..
theorem r97_41 (ls : A_V) (st : List Value) (h : A_H) : R 97 41 ls st h = a_do a_nL R R 97 (s_ildl 7 42 ls st h) := a_R_eq ..
theorem r97_42 (ls : A_V) (st : List Value) (h : A_H) : R 97 42 ls st h = a_do a_nL R R 97 (s_ildl 5 43 ls st h) := a_R_eq ..
theorem r97_43 (ls : A_V) (st : List Value) (h : A_H) : R 97 43 ls st h = a_do a_nL R R 97 (s_if2 (fun x y => decide (y ≤ x)) 48 44 ls st h) := a_R_eq ..
theorem r97_44 (ls : A_V) (st : List Value) (h : A_H) : R 97 44 ls st h = a_do a_nL R R 97 (s_ildl 7 45 ls st h) := a_R_eq ..
theorem r97_45 (ls : A_V) (st : List Value) (h : A_H) : R 97 45 ls st h = a_do a_nL R R 97 (s_ist 5 46 ls st h) := a_R_eq ..
theorem r97_46 (ls : A_V) (st : List Value) (h : A_H) : R 97 46 ls st h = a_do a_nL R R 97 (s_ildl 6 47 ls st h) := a_R_eq ..
theorem r97_47 (ls : A_V) (st : List Value) (h : A_H) : R 97 47 ls st h = a_do a_nL R R 97 (s_ist 4 48 ls st h) := a_R_eq ..
theorem r97_48 (ls : A_V) (st : List Value) (h : A_H) : R 97 48 ls st h = a_do a_nL R R 97 (s_inc 6 1 49 ls st h) := a_R_eq ..
theorem r97_49 (ls : A_V) (st : List Value) (h : A_H) : R 97 49 ls st h = a_do a_nL R R 97 (s_goto 22 ls st h) := a_R_eq ..
theorem r97_50 (ls : A_V) (st : List Value) (h : A_H) : R 97 50 ls st h = a_do a_nL R R 97 (s_ildl 4 51 ls st h) := a_R_eq ..
theorem r97_51 (ls : A_V) (st : List Value) (h : A_H) : R 97 51 ls st h = a_do a_nL R R 97 (s_iret ls st h) := a_R_eq ..
theorem b97_0 (x0 : Nat) (x1 : Int32) (x2 : Int32) (l3 : Option Value) (l4 : Option Value) (l5 : Option Value) (l6 : Option Value) (l7 : Option Value) (h : A_H) : R 97 0 [some (.ref x0), some (.int x1), some (.int x2), l3, l4, l5, l6, l7] [] h = (cond (isO h x0 11) (a_back R 97 (146, [.ref x0, .int x1], h, true, none, 3, [some (.ref x0), some (.int x1), some (.int x2), l3, l4, l5, l6, l7], []) (C 146 [.ref x0, .int x1] h)) none) := (tr (r97_0 ..) (tr (r97_1 ..) (r97_2 ..)))
theorem b97_3 (x0 : Nat) (x1 : Int32) (x2 : Int32) (l3 : Option Value) (l4 : Option Value) (l5 : Option Value) (l6 : Option Value) (l7 : Option Value) (s0 : Int32) (h : A_H) : R 97 3 [some (.ref x0), some (.int x1), some (.int x2), l3, l4, l5, l6, l7] [.int s0] h = (cond (isO h x0 11 && (hP h x0 3).isSome) (cond (isO h x0 11 && (hP h x0 5).isSome) (cond (isO h ((hP h x0 5).getD 0) 8) (cond (isO h x0 11 && (hP h x0 5).isSome) (cond (isO h ((hP h x0 5).getD 0) 8) (cond (isO h ((hP h x0 3).getD 0) 9) (a_back R 97 (71, [.ref ((hP h x0 3).getD 0), .int x1, .int x2, .int (hI h ((hP h x0 5).getD 0) 0), .int s0, .int (hI h ((hP h x0 5).getD 0) 4), .int (0 : Int32)], h, true, none, 19, [some (.ref x0), some (.int x1), some (.int x2), some (.int s0), some (.int (0 : Int32)), l5, l6, l7], []) (C 71 [.ref ((hP h x0 3).getD 0), .int x1, .int x2, .int (hI h ((hP h x0 5).getD 0) 0), .int s0, .int (hI h ((hP h x0 5).getD 0) 4), .int (0 : Int32)] h)) none) none) none) none) none) none) := (tr (r97_3 ..) (tr (r97_4 ..) (tr (r97_5 ..) (tr (r97_6 ..) (tr (r97_7 ..) (cgT (tr (r97_8 ..) (tr (r97_9 ..) (tr (r97_10 ..) (tr (r97_11 ..) (cgT (tr (r97_12 ..) (cgT (tr (r97_13 ..) (tr (r97_14 ..) (tr (r97_15 ..) (cgT (tr (r97_16 ..) (cgT (tr (r97_17 ..) (r97_18 ..)))))))))))))))))))))
theorem b97_19 (x0 : Nat) (x1 : Int32) (x2 : Int32) (x3 : Int32) (x4 : Int32) (l5 : Option Value) (l6 : Option Value) (l7 : Option Value) (s0 : Int32) (h : A_H) : R 97 19 [some (.ref x0), some (.int x1), some (.int x2), some (.int x3), some (.int x4), l5, l6, l7] [.int s0] h = (R 97 22 [some (.ref x0), some (.int x1), some (.int x2), some (.int x3), some (.int x4), some (.int s0), some (.int (1 : Int32)), l7] [] h) := (tr (r97_19 ..) (tr (r97_20 ..) (r97_21 ..)))
theorem b97_22 (x0 : Nat) (x1 : Int32) (x2 : Int32) (x3 : Int32) (x4 : Int32) (x5 : Int32) (x6 : Int32) (l7 : Option Value) (h : A_H) : R 97 22 [some (.ref x0), some (.int x1), some (.int x2), some (.int x3), some (.int x4), some (.int x5), some (.int x6), l7] [] h = (cond (decide ((60 : Int32) < x6)) (some (some (some (.int x4)), h)) (cond (isO h x0 11 && (hP h x0 3).isSome) (cond (isO h x0 11 && (hP h x0 5).isSome) (cond (isO h ((hP h x0 5).getD 0) 8) (cond (isO h x0 11 && (hP h x0 5).isSome) (cond (isO h ((hP h x0 5).getD 0) 8) (cond (isO h ((hP h x0 3).getD 0) 9) (a_back R 97 (71, [.ref ((hP h x0 3).getD 0), .int x1, .int x2, .int ((hI h ((hP h x0 5).getD 0) 0) + x6), .int x3, .int (hI h ((hP h x0 5).getD 0) 4), .int (0 : Int32)], h, true, none, 40, [some (.ref x0), some (.int x1), some (.int x2), some (.int x3), some (.int x4), some (.int x5), some (.int x6), l7], []) (C 71 [.ref ((hP h x0 3).getD 0), .int x1, .int x2, .int ((hI h ((hP h x0 5).getD 0) 0) + x6), .int x3, .int (hI h ((hP h x0 5).getD 0) 4), .int (0 : Int32)] h)) none) none) none) none) none) none)) := (tr (r97_22 ..) (tr (r97_23 ..) (tr (r97_24 ..) (cgB (tr (r97_50 ..) (r97_51 ..)) (tr (r97_25 ..) (tr (r97_26 ..) (cgT (tr (r97_27 ..) (tr (r97_28 ..) (tr (r97_29 ..) (tr (r97_30 ..) (cgT (tr (r97_31 ..) (cgT (tr (r97_32 ..) (tr (r97_33 ..) (tr (r97_34 ..) (tr (r97_35 ..) (tr (r97_36 ..) (cgT (tr (r97_37 ..) (cgT (tr (r97_38 ..) (r97_39 ..))))))))))))))))))))))))
theorem b97_40 (x0 : Nat) (x1 : Int32) (x2 : Int32) (x3 : Int32) (x4 : Int32) (x5 : Int32) (x6 : Int32) (l7 : Option Value) (s0 : Int32) (h : A_H) : R 97 40 [some (.ref x0), some (.int x1), some (.int x2), some (.int x3), some (.int x4), some (.int x5), some (.int x6), l7] [.int s0] h = (cond (decide (x5 ≤ s0)) (R 97 22 [some (.ref x0), some (.int x1), some (.int x2), some (.int x3), some (.int x4), some (.int x5), some (.int (x6 + 1)), some (.int s0)] [] h) (R 97 22 [some (.ref x0), some (.int x1), some (.int x2), some (.int x3), some (.int x6), some (.int s0), some (.int (x6 + 1)), some (.int s0)] [] h)) := (tr (r97_40 ..) (tr (r97_41 ..) (tr (r97_42 ..) (tr (r97_43 ..) (cgB (tr (r97_48 ..) (r97_49 ..)) (tr (r97_44 ..) (tr (r97_45 ..) (tr (r97_46 ..) (tr (r97_47 ..) (tr (r97_48 ..) (r97_49 ..)))))))))))
theorem e98 (x0 : Nat) (x1 : Int32) (x2 : Int32) (x3 : Int32) (h : A_H) : C 98 [.ref x0, .int x1, .int x2, .int x3] h = R 98 0 [some (.ref x0), some (.int x1), some (.int x2), some (.int x3)] [] h := rfl
theorem r98_0 (ls : A_V) (st : List Value) (h : A_H) : R 98 0 ls st h = a_do a_nL R R 98 (s_aldl 0 1 ls st h) := a_R_eq ..
theorem r98_1 (ls : A_V) (st : List Value) (h : A_H) : R 98 1 ls st h = a_do a_nL R R 98 (s_aldl 0 2 ls st h) := a_R_eq ..
theorem r98_2 (ls : A_V) (st : List Value) (h : A_H) : R 98 2 ls st h = a_do a_nL R R 98 (s_ildl 1 3 ls st h) := a_R_eq ..
theorem r98_3 (ls : A_V) (st : List Value) (h : A_H) : R 98 3 ls st h = a_do a_nL R R 98 (s_ildl 2 4 ls st h) := a_R_eq ..
theorem r98_4 (ls : A_V) (st : List Value) (h : A_H) : R 98 4 ls st h = a_do a_nL R R 98 (s_ildl 3 5 ls st h) := a_R_eq ..
theorem r98_5 (ls : A_V) (st : List Value) (h : A_H) : R 98 5 ls st h = a_do a_nL R R 98 (s_call 14 144 4 4 true 6 ls st h) := a_R_eq ..
theorem r98_6 (ls : A_V) (st : List Value) (h : A_H) : R 98 6 ls st h = a_do a_nL R R 98 (s_call 14 134 2 2 true 7 ls st h) := a_R_eq ..
theorem r98_7 (ls : A_V) (st : List Value) (h : A_H) : R 98 7 ls st h = a_do a_nL R R 98 (s_if1 (fun x => decide (x = 0)) 10 8 ls st h) := a_R_eq ..
theorem r98_8 (ls : A_V) (st : List Value) (h : A_H) : R 98 8 ls st h = a_do a_nL R R 98 (s_push (.int (-1)) 9 ls st h) := a_R_eq ..
theorem r98_9 (ls : A_V) (st : List Value) (h : A_H) : R 98 9 ls st h = a_do a_nL R R 98 (s_iret ls st h) := a_R_eq ..
theorem r98_10 (ls : A_V) (st : List Value) (h : A_H) : R 98 10 ls st h = a_do a_nL R R 98 (s_aldl 0 11 ls st h) := a_R_eq ..
theorem r98_11 (ls : A_V) (st : List Value) (h : A_H) : R 98 11 ls st h = a_do a_nL R R 98 (s_ildl 1 12 ls st h) := a_R_eq ..
theorem r98_12 (ls : A_V) (st : List Value) (h : A_H) : R 98 12 ls st h = a_do a_nL R R 98 (s_ildl 2 13 ls st h) := a_R_eq ..
theorem r98_13 (ls : A_V) (st : List Value) (h : A_H) : R 98 13 ls st h = a_do a_nL R R 98 (s_ildl 3 14 ls st h) := a_R_eq ..
theorem r98_14 (ls : A_V) (st : List Value) (h : A_H) : R 98 14 ls st h = a_do a_nL R R 98 (s_call 14 100 4 11 true 15 ls st h) := a_R_eq ..
theorem r98_15 (ls : A_V) (st : List Value) (h : A_H) : R 98 15 ls st h = a_do a_nL R R 98 (s_iret ls st h) := a_R_eq ..
theorem b98_0 (x0 : Nat) (x1 : Int32) (x2 : Int32) (x3 : Int32) (h : A_H) : R 98 0 [some (.ref x0), some (.int x1), some (.int x2), some (.int x3)] [] h = (cond (isO h x0 11) (a_back R 98 (144, [.ref x0, .int x1, .int x2, .int x3], h, true, none, 6, [some (.ref x0), some (.int x1), some (.int x2), some (.int x3)], [.ref x0]) (C 144 [.ref x0, .int x1, .int x2, .int x3] h)) none) := (tr (r98_0 ..) (tr (r98_1 ..) (tr (r98_2 ..) (tr (r98_3 ..) (tr (r98_4 ..) (r98_5 ..))))))
theorem b98_6 (x0 : Nat) (x1 : Int32) (x2 : Int32) (x3 : Int32) (s0 : Nat) (s1 : Int32) (h : A_H) : R 98 6 [some (.ref x0), some (.int x1), some (.int x2), some (.int x3)] [.int s1, .ref s0] h = (cond (isO h s0 11) (a_back R 98 (134, [.ref s0, .int s1], h, true, none, 7, [some (.ref x0), some (.int x1), some (.int x2), some (.int x3)], []) (C 134 [.ref s0, .int s1] h)) none) := (r98_6 ..)
theorem b98_7 (x0 : Nat) (x1 : Int32) (x2 : Int32) (x3 : Int32) (s0 : Int32) (h : A_H) : R 98 7 [some (.ref x0), some (.int x1), some (.int x2), some (.int x3)] [.int s0] h = (cond (decide (s0 = 0)) (cond (isO h x0 11) (a_back R 98 (100, [.ref x0, .int x1, .int x2, .int x3], h, true, none, 15, [some (.ref x0), some (.int x1), some (.int x2), some (.int x3)], []) (C 100 [.ref x0, .int x1, .int x2, .int x3] h)) none) (some (some (some (.int (-1 : Int32))), h))) := (tr (r98_7 ..) (cgB (tr (r98_10 ..) (tr (r98_11 ..) (tr (r98_12 ..) (tr (r98_13 ..) (r98_14 ..))))) (tr (r98_8 ..) (r98_9 ..))))
theorem b98_15 (x0 : Nat) (x1 : Int32) (x2 : Int32) (x3 : Int32) (s0 : Int32) (h : A_H) : R 98 15 [some (.ref x0), some (.int x1), some (.int x2), some (.int x3)] [.int s0] h = (some (some (some (.int s0)), h)) := (r98_15 ..)
theorem e99 (x0 : Nat) (x1 : Int32) (x2 : Int32) (x3 : Int32) (h : A_H) : C 99 [.ref x0, .int x1, .int x2, .int x3] h = R 99 0 [some (.ref x0), some (.int x1), some (.int x2), some (.int x3), none] [] h := rfl
theorem r99_0 (ls : A_V) (st : List Value) (h : A_H) : R 99 0 ls st h = a_do a_nL R R 99 (s_aldl 0 1 ls st h) := a_R_eq ..
theorem r99_1 (ls : A_V) (st : List Value) (h : A_H) : R 99 1 ls st h = a_do a_nL R R 99 (s_aldl 0 2 ls st h) := a_R_eq ..
theorem r99_2 (ls : A_V) (st : List Value) (h : A_H) : R 99 2 ls st h = a_do a_nL R R 99 (s_ildl 1 3 ls st h) := a_R_eq ..
theorem r99_3 (ls : A_V) (st : List Value) (h : A_H) : R 99 3 ls st h = a_do a_nL R R 99 (s_ildl 2 4 ls st h) := a_R_eq ..
theorem r99_4 (ls : A_V) (st : List Value) (h : A_H) : R 99 4 ls st h = a_do a_nL R R 99 (s_ildl 3 5 ls st h) := a_R_eq ..
theorem r99_5 (ls : A_V) (st : List Value) (h : A_H) : R 99 5 ls st h = a_do a_nL R R 99 (s_call 14 144 4 4 true 6 ls st h) := a_R_eq ..
theorem r99_6 (ls : A_V) (st : List Value) (h : A_H) : R 99 6 ls st h = a_do a_nL R R 99 (s_call 14 134 2 2 true 7 ls st h) := a_R_eq ..
theorem r99_7 (ls : A_V) (st : List Value) (h : A_H) : R 99 7 ls st h = a_do a_nL R R 99 (s_if1 (fun x => decide (x = 0)) 10 8 ls st h) := a_R_eq ..
theorem r99_8 (ls : A_V) (st : List Value) (h : A_H) : R 99 8 ls st h = a_do a_nL R R 99 (s_push (.int (-1)) 9 ls st h) := a_R_eq ..
theorem r99_9 (ls : A_V) (st : List Value) (h : A_H) : R 99 9 ls st h = a_do a_nL R R 99 (s_iret ls st h) := a_R_eq ..
theorem r99_10 (ls : A_V) (st : List Value) (h : A_H) : R 99 10 ls st h = a_do a_nL R R 99 (s_aldl 0 11 ls st h) := a_R_eq ..
theorem r99_11 (ls : A_V) (st : List Value) (h : A_H) : R 99 11 ls st h = a_do a_nL R R 99 (s_ildl 1 12 ls st h) := a_R_eq ..
theorem r99_12 (ls : A_V) (st : List Value) (h : A_H) : R 99 12 ls st h = a_do a_nL R R 99 (s_call 14 146 2 2 true 13 ls st h) := a_R_eq ..
theorem r99_13 (ls : A_V) (st : List Value) (h : A_H) : R 99 13 ls st h = a_do a_nL R R 99 (s_aldl 0 14 ls st h) := a_R_eq ..
theorem r99_14 (ls : A_V) (st : List Value) (h : A_H) : R 99 14 ls st h = a_do a_nL R R 99 (s_ildl 1 15 ls st h) := a_R_eq ..
theorem r99_15 (ls : A_V) (st : List Value) (h : A_H) : R 99 15 ls st h = a_do a_nL R R 99 (s_ildl 2 16 ls st h) := a_R_eq ..
theorem r99_16 (ls : A_V) (st : List Value) (h : A_H) : R 99 16 ls st h = a_do a_nL R R 99 (s_ildl 3 17 ls st h) := a_R_eq ..
theorem r99_17 (ls : A_V) (st : List Value) (h : A_H) : R 99 17 ls st h = a_do a_nL R R 99 (s_call 14 100 4 11 true 18 ls st h) := a_R_eq ..
theorem r99_18 (ls : A_V) (st : List Value) (h : A_H) : R 99 18 ls st h = a_do a_nL R R 99 (s_push (.int (-1)) 19 ls st h) := a_R_eq ..
theorem r99_19 (ls : A_V) (st : List Value) (h : A_H) : R 99 19 ls st h = a_do a_nL R R 99 (s_bi (fun x y => x ^^^ y) 20 ls st h) := a_R_eq ..
theorem r99_20 (ls : A_V) (st : List Value) (h : A_H) : R 99 20 ls st h = a_do a_nL R R 99 (s_bi (fun x y => x &&& y) 21 ls st h) := a_R_eq ..
theorem r99_21 (ls : A_V) (st : List Value) (h : A_H) : R 99 21 ls st h = a_do a_nL R R 99 (s_ist 4 22 ls st h) := a_R_eq ..
theorem r99_22 (ls : A_V) (st : List Value) (h : A_H) : R 99 22 ls st h = a_do a_nL R R 99 (s_aldl 0 23 ls st h) := a_R_eq ..
theorem r99_23 (ls : A_V) (st : List Value) (h : A_H) : R 99 23 ls st h = a_do a_nL R R 99 (s_getR 11 3 24 ls st h) := a_R_eq ..
theorem r99_24 (ls : A_V) (st : List Value) (h : A_H) : R 99 24 ls st h = a_do a_nL R R 99 (s_ildl 1 25 ls st h) := a_R_eq ..
theorem r99_25 (ls : A_V) (st : List Value) (h : A_H) : R 99 25 ls st h = a_do a_nL R R 99 (s_ildl 2 26 ls st h) := a_R_eq ..
theorem r99_26 (ls : A_V) (st : List Value) (h : A_H) : R 99 26 ls st h = a_do a_nL R R 99 (s_aldl 0 27 ls st h) := a_R_eq ..
theorem r99_27 (ls : A_V) (st : List Value) (h : A_H) : R 99 27 ls st h = a_do a_nL R R 99 (s_getR 11 5 28 ls st h) := a_R_eq ..
theorem r99_28 (ls : A_V) (st : List Value) (h : A_H) : R 99 28 ls st h = a_do a_nL R R 99 (s_getI 8 0 29 ls st h) := a_R_eq ..
theorem r99_29 (ls : A_V) (st : List Value) (h : A_H) : R 99 29 ls st h = a_do a_nL R R 99 (s_ildl 3 30 ls st h) := a_R_eq ..
theorem r99_30 (ls : A_V) (st : List Value) (h : A_H) : R 99 30 ls st h = a_do a_nL R R 99 (s_bi (fun x y => x + y) 31 ls st h) := a_R_eq ..
theorem r99_31 (ls : A_V) (st : List Value) (h : A_H) : R 99 31 ls st h = a_do a_nL R R 99 (s_ildl 4 32 ls st h) := a_R_eq ..
theorem r99_32 (ls : A_V) (st : List Value) (h : A_H) : R 99 32 ls st h = a_do a_nL R R 99 (s_aldl 0 33 ls st h) := a_R_eq ..
theorem r99_33 (ls : A_V) (st : List Value) (h : A_H) : R 99 33 ls st h = a_do a_nL R R 99 (s_getR 11 5 34 ls st h) := a_R_eq ..
theorem r99_34 (ls : A_V) (st : List Value) (h : A_H) : R 99 34 ls st h = a_do a_nL R R 99 (s_getI 8 4 35 ls st h) := a_R_eq ..
theorem r99_35 (ls : A_V) (st : List Value) (h : A_H) : R 99 35 ls st h = a_do a_nL R R 99 (s_push (.int 0) 36 ls st h) := a_R_eq ..
theorem r99_36 (ls : A_V) (st : List Value) (h : A_H) : R 99 36 ls st h = a_do a_nL R R 99 (s_call 12 71 7 8 true 37 ls st h) := a_R_eq ..
theorem r99_37 (ls : A_V) (st : List Value) (h : A_H) : R 99 37 ls st h = a_do a_nL R R 99 (s_iret ls st h) := a_R_eq ..
theorem b99_0 (x0 : Nat) (x1 : Int32) (x2 : Int32) (x3 : Int32) (l4 : Option Value) (h : A_H) : R 99 0 [some (.ref x0), some (.int x1), some (.int x2), some (.int x3), l4] [] h = (cond (isO h x0 11) (a_back R 99 (144, [.ref x0, .int x1, .int x2, .int x3], h, true, none, 6, [some (.ref x0), some (.int x1), some (.int x2), some (.int x3), l4], [.ref x0]) (C 144 [.ref x0, .int x1, .int x2, .int x3] h)) none) := (tr (r99_0 ..) (tr (r99_1 ..) (tr (r99_2 ..) (tr (r99_3 ..) (tr (r99_4 ..) (r99_5 ..))))))
theorem b99_6 (x0 : Nat) (x1 : Int32) (x2 : Int32) (x3 : Int32) (l4 : Option Value) (s0 : Nat) (s1 : Int32) (h : A_H) : R 99 6 [some (.ref x0), some (.int x1), some (.int x2), some (.int x3), l4] [.int s1, .ref s0] h = (cond (isO h s0 11) (a_back R 99 (134, [.ref s0, .int s1], h, true, none, 7, [some (.ref x0), some (.int x1), some (.int x2), some (.int x3), l4], []) (C 134 [.ref s0, .int s1] h)) none) := (r99_6 ..)
theorem b99_7 (x0 : Nat) (x1 : Int32) (x2 : Int32) (x3 : Int32) (l4 : Option Value) (s0 : Int32) (h : A_H) : R 99 7 [some (.ref x0), some (.int x1), some (.int x2), some (.int x3), l4] [.int s0] h = (cond (decide (s0 = 0)) (cond (isO h x0 11) (a_back R 99 (146, [.ref x0, .int x1], h, true, none, 13, [some (.ref x0), some (.int x1), some (.int x2), some (.int x3), l4], []) (C 146 [.ref x0, .int x1] h)) none) (some (some (some (.int (-1 : Int32))), h))) := (tr (r99_7 ..) (cgB (tr (r99_10 ..) (tr (r99_11 ..) (r99_12 ..))) (tr (r99_8 ..) (r99_9 ..))))
theorem b99_13 (x0 : Nat) (x1 : Int32) (x2 : Int32) (x3 : Int32) (l4 : Option Value) (s0 : Int32) (h : A_H) : R 99 13 [some (.ref x0), some (.int x1), some (.int x2), some (.int x3), l4] [.int s0] h = (cond (isO h x0 11) (a_back R 99 (100, [.ref x0, .int x1, .int x2, .int x3], h, true, none, 18, [some (.ref x0), some (.int x1), some (.int x2), some (.int x3), l4], [.int s0]) (C 100 [.ref x0, .int x1, .int x2, .int x3] h)) none) := (tr (r99_13 ..) (tr (r99_14 ..) (tr (r99_15 ..) (tr (r99_16 ..) (r99_17 ..)))))
theorem b99_18 (x0 : Nat) (x1 : Int32) (x2 : Int32) (x3 : Int32) (l4 : Option Value) (s0 : Int32) (s1 : Int32) (h : A_H) : R 99 18 [some (.ref x0), some (.int x1), some (.int x2), some (.int x3), l4] [.int s1, .int s0] h = (cond (isO h x0 11 && (hP h x0 3).isSome) (cond (isO h x0 11 && (hP h x0 5).isSome) (cond (isO h ((hP h x0 5).getD 0) 8) (cond (isO h x0 11 && (hP h x0 5).isSome) (cond (isO h ((hP h x0 5).getD 0) 8) (cond (isO h ((hP h x0 3).getD 0) 9) (a_back R 99 (71, [.ref ((hP h x0 3).getD 0), .int x1, .int x2, .int ((hI h ((hP h x0 5).getD 0) 0) + x3), .int (s0 &&& (s1 ^^^ (-1 : Int32))), .int (hI h ((hP h x0 5).getD 0) 4), .int (0 : Int32)], h, true, none, 37, [some (.ref x0), some (.int x1), some (.int x2), some (.int x3), some (.int (s0 &&& (s1 ^^^ (-1 : Int32))))], []) (C 71 [.ref ((hP h x0 3).getD 0), .int x1, .int x2, .int ((hI h ((hP h x0 5).getD 0) 0) + x3), .int (s0 &&& (s1 ^^^ (-1 : Int32))), .int (hI h ((hP h x0 5).getD 0) 4), .int (0 : Int32)] h)) none) none) none) none) none) none) := (tr (r99_18 ..) (tr (r99_19 ..) (tr (r99_20 ..) (tr (r99_21 ..) (tr (r99_22 ..) (tr (r99_23 ..) (cgT (tr (r99_24 ..) (tr (r99_25 ..) (tr (r99_26 ..) (tr (r99_27 ..) (cgT (tr (r99_28 ..) (cgT (tr (r99_29 ..) (tr (r99_30 ..) (tr (r99_31 ..) (tr (r99_32 ..) (tr (r99_33 ..) (cgT (tr (r99_34 ..) (cgT (tr (r99_35 ..) (r99_36 ..))))))))))))))))))))))))
theorem b99_37 (x0 : Nat) (x1 : Int32) (x2 : Int32) (x3 : Int32) (x4 : Int32) (s0 : Int32) (h : A_H) : R 99 37 [some (.ref x0), some (.int x1), some (.int x2), some (.int x3), some (.int x4)] [.int s0] h = (some (some (some (.int s0)), h)) := (r99_37 ..)
theorem e100 (x0 : Nat) (x1 : Int32) (x2 : Int32) (x3 : Int32) (h : A_H) : C 100 [.ref x0, .int x1, .int x2, .int x3] h = R 100 0 [some (.ref x0), some (.int x1), some (.int x2), some (.int x3), none, none, none, none, none, none, none] [] h := rfl
theorem r100_0 (ls : A_V) (st : List Value) (h : A_H) : R 100 0 ls st h = a_do a_nL R R 100 (s_aldl 0 1 ls st h) := a_R_eq ..
theorem r100_1 (ls : A_V) (st : List Value) (h : A_H) : R 100 1 ls st h = a_do a_nL R R 100 (s_getR 11 5 2 ls st h) := a_R_eq ..
theorem r100_2 (ls : A_V) (st : List Value) (h : A_H) : R 100 2 ls st h = a_do a_nL R R 100 (s_getI 8 0 3 ls st h) := a_R_eq ..
theorem r100_3 (ls : A_V) (st : List Value) (h : A_H) : R 100 3 ls st h = a_do a_nL R R 100 (s_ildl 3 4 ls st h) := a_R_eq ..
theorem r100_4 (ls : A_V) (st : List Value) (h : A_H) : R 100 4 ls st h = a_do a_nL R R 100 (s_bi (fun x y => x + y) 5 ls st h) := a_R_eq ..
theorem r100_5 (ls : A_V) (st : List Value) (h : A_H) : R 100 5 ls st h = a_do a_nL R R 100 (s_ist 4 6 ls st h) := a_R_eq ..
theorem r100_6 (ls : A_V) (st : List Value) (h : A_H) : R 100 6 ls st h = a_do a_nL R R 100 (s_aldl 0 7 ls st h) := a_R_eq ..
theorem r100_7 (ls : A_V) (st : List Value) (h : A_H) : R 100 7 ls st h = a_do a_nL R R 100 (s_ildl 1 8 ls st h) := a_R_eq ..
theorem r100_8 (ls : A_V) (st : List Value) (h : A_H) : R 100 8 ls st h = a_do a_nL R R 100 (s_call 14 146 2 2 true 9 ls st h) := a_R_eq ..
theorem r100_9 (ls : A_V) (st : List Value) (h : A_H) : R 100 9 ls st h = a_do a_nL R R 100 (s_ist 5 10 ls st h) := a_R_eq ..
theorem r100_10 (ls : A_V) (st : List Value) (h : A_H) : R 100 10 ls st h = a_do a_nL R R 100 (s_aldl 0 11 ls st h) := a_R_eq ..
theorem r100_11 (ls : A_V) (st : List Value) (h : A_H) : R 100 11 ls st h = a_do a_nL R R 100 (s_ildl 1 12 ls st h) := a_R_eq ..
theorem r100_12 (ls : A_V) (st : List Value) (h : A_H) : R 100 12 ls st h = a_do a_nL R R 100 (s_call 14 147 2 3 true 13 ls st h) := a_R_eq ..
theorem r100_13 (ls : A_V) (st : List Value) (h : A_H) : R 100 13 ls st h = a_do a_nL R R 100 (s_ist 6 14 ls st h) := a_R_eq ..
theorem r100_14 (ls : A_V) (st : List Value) (h : A_H) : R 100 14 ls st h = a_do a_nL R R 100 (s_push (.int 0) 15 ls st h) := a_R_eq ..
theorem r100_15 (ls : A_V) (st : List Value) (h : A_H) : R 100 15 ls st h = a_do a_nL R R 100 (s_ist 7 16 ls st h) := a_R_eq ..
theorem r100_16 (ls : A_V) (st : List Value) (h : A_H) : R 100 16 ls st h = a_do a_nL R R 100 (s_aldl 0 17 ls st h) := a_R_eq ..
theorem r100_17 (ls : A_V) (st : List Value) (h : A_H) : R 100 17 ls st h = a_do a_nL R R 100 (s_getR 11 3 18 ls st h) := a_R_eq ..
theorem r100_18 (ls : A_V) (st : List Value) (h : A_H) : R 100 18 ls st h = a_do a_nL R R 100 (s_ildl 1 19 ls st h) := a_R_eq ..
theorem r100_19 (ls : A_V) (st : List Value) (h : A_H) : R 100 19 ls st h = a_do a_nL R R 100 (s_ildl 2 20 ls st h) := a_R_eq ..
theorem r100_20 (ls : A_V) (st : List Value) (h : A_H) : R 100 20 ls st h = a_do a_nL R R 100 (s_ildl 4 21 ls st h) := a_R_eq ..
theorem r100_21 (ls : A_V) (st : List Value) (h : A_H) : R 100 21 ls st h = a_do a_nL R R 100 (s_ildl 5 22 ls st h) := a_R_eq ..
theorem r100_22 (ls : A_V) (st : List Value) (h : A_H) : R 100 22 ls st h = a_do a_nL R R 100 (s_aldl 0 23 ls st h) := a_R_eq ..
theorem r100_23 (ls : A_V) (st : List Value) (h : A_H) : R 100 23 ls st h = a_do a_nL R R 100 (s_getR 11 5 24 ls st h) := a_R_eq ..
theorem r100_24 (ls : A_V) (st : List Value) (h : A_H) : R 100 24 ls st h = a_do a_nL R R 100 (s_getI 8 4 25 ls st h) := a_R_eq ..
theorem r100_25 (ls : A_V) (st : List Value) (h : A_H) : R 100 25 ls st h = a_do a_nL R R 100 (s_push (.int 0) 26 ls st h) := a_R_eq ..
theorem r100_26 (ls : A_V) (st : List Value) (h : A_H) : R 100 26 ls st h = a_do a_nL R R 100 (s_call 12 71 7 8 true 27 ls st h) := a_R_eq ..
theorem r100_27 (ls : A_V) (st : List Value) (h : A_H) : R 100 27 ls st h = a_do a_nL R R 100 (s_ist 8 28 ls st h) := a_R_eq ..
theorem r100_28 (ls : A_V) (st : List Value) (h : A_H) : R 100 28 ls st h = a_do a_nL R R 100 (s_push (.int 1) 29 ls st h) := a_R_eq ..
theorem r100_29 (ls : A_V) (st : List Value) (h : A_H) : R 100 29 ls st h = a_do a_nL R R 100 (s_ist 9 30 ls st h) := a_R_eq ..
theorem r100_30 (ls : A_V) (st : List Value) (h : A_H) : R 100 30 ls st h = a_do a_nL R R 100 (s_ildl 9 31 ls st h) := a_R_eq ..
theorem r100_31 (ls : A_V) (st : List Value) (h : A_H) : R 100 31 ls st h = a_do a_nL R R 100 (s_ildl 5 32 ls st h) := a_R_eq ..
theorem r100_32 (ls : A_V) (st : List Value) (h : A_H) : R 100 32 ls st h = a_do a_nL R R 100 (s_if2 (fun x y => decide (y < x)) 72 33 ls st h) := a_R_eq ..
theorem r100_33 (ls : A_V) (st : List Value) (h : A_H) : R 100 33 ls st h = a_do a_nL R R 100 (s_ildl 9 34 ls st h) := a_R_eq ..
theorem r100_34 (ls : A_V) (st : List Value) (h : A_H) : R 100 34 ls st h = a_do a_nL R R 100 (s_ildl 5 35 ls st h) := a_R_eq ..
theorem r100_35 (ls : A_V) (st : List Value) (h : A_H) : R 100 35 ls st h = a_do a_nL R R 100 (s_push (.int (-1)) 36 ls st h) := a_R_eq ..
theorem r100_36 (ls : A_V) (st : List Value) (h : A_H) : R 100 36 ls st h = a_do a_nL R R 100 (s_bi (fun x y => x ^^^ y) 37 ls st h) := a_R_eq ..
theorem r100_37 (ls : A_V) (st : List Value) (h : A_H) : R 100 37 ls st h = a_do a_nL R R 100 (s_bi (fun x y => x &&& y) 38 ls st h) := a_R_eq ..
theorem r100_38 (ls : A_V) (st : List Value) (h : A_H) : R 100 38 ls st h = a_do a_nL R R 100 (s_if1 (fun x => !decide (x = 0)) 70 39 ls st h) := a_R_eq ..
theorem r100_39 (ls : A_V) (st : List Value) (h : A_H) : R 100 39 ls st h = a_do a_nL R R 100 (s_ildl 9 40 ls st h) := a_R_eq ..
theorem r100_40 (ls : A_V) (st : List Value) (h : A_H) : R 100 40 ls st h = a_do a_nL R R 100 (s_call 0 278 1 1 true 41 ls st h) := a_R_eq ..
theorem r100_41 (ls : A_V) (st : List Value) (h : A_H) : R 100 41 ls st h = a_do a_nL R R 100 (s_ildl 6 42 ls st h) := a_R_eq ..
theorem r100_42 (ls : A_V) (st : List Value) (h : A_H) : R 100 42 ls st h = a_do a_nL R R 100 (s_if2 (fun x y => decide (x ≤ y)) 44 43 ls st h) := a_R_eq ..
theorem r100_43 (ls : A_V) (st : List Value) (h : A_H) : R 100 43 ls st h = a_do a_nL R R 100 (s_goto 70 ls st h) := a_R_eq ..
theorem r100_44 (ls : A_V) (st : List Value) (h : A_H) : R 100 44 ls st h = a_do a_nL R R 100 (s_aldl 0 45 ls st h) := a_R_eq ..
theorem r100_45 (ls : A_V) (st : List Value) (h : A_H) : R 100 45 ls st h = a_do a_nL R R 100 (s_getR 11 3 46 ls st h) := a_R_eq ..
theorem r100_46 (ls : A_V) (st : List Value) (h : A_H) : R 100 46 ls st h = a_do a_nL R R 100 (s_ildl 1 47 ls st h) := a_R_eq ..
theorem r100_47 (ls : A_V) (st : List Value) (h : A_H) : R 100 47 ls st h = a_do a_nL R R 100 (s_ildl 2 48 ls st h) := a_R_eq ..
theorem r100_48 (ls : A_V) (st : List Value) (h : A_H) : R 100 48 ls st h = a_do a_nL R R 100 (s_ildl 4 49 ls st h) := a_R_eq ..
theorem r100_49 (ls : A_V) (st : List Value) (h : A_H) : R 100 49 ls st h = a_do a_nL R R 100 (s_ildl 5 50 ls st h) := a_R_eq ..
theorem r100_50 (ls : A_V) (st : List Value) (h : A_H) : R 100 50 ls st h = a_do a_nL R R 100 (s_ildl 9 51 ls st h) := a_R_eq ..
theorem r100_51 (ls : A_V) (st : List Value) (h : A_H) : R 100 51 ls st h = a_do a_nL R R 100 (s_push (.int (-1)) 52 ls st h) := a_R_eq ..
theorem r100_52 (ls : A_V) (st : List Value) (h : A_H) : R 100 52 ls st h = a_do a_nL R R 100 (s_bi (fun x y => x ^^^ y) 53 ls st h) := a_R_eq ..
theorem r100_53 (ls : A_V) (st : List Value) (h : A_H) : R 100 53 ls st h = a_do a_nL R R 100 (s_bi (fun x y => x &&& y) 54 ls st h) := a_R_eq ..
theorem r100_54 (ls : A_V) (st : List Value) (h : A_H) : R 100 54 ls st h = a_do a_nL R R 100 (s_aldl 0 55 ls st h) := a_R_eq ..
theorem r100_55 (ls : A_V) (st : List Value) (h : A_H) : R 100 55 ls st h = a_do a_nL R R 100 (s_getR 11 5 56 ls st h) := a_R_eq ..
theorem r100_56 (ls : A_V) (st : List Value) (h : A_H) : R 100 56 ls st h = a_do a_nL R R 100 (s_getI 8 4 57 ls st h) := a_R_eq ..
theorem r100_57 (ls : A_V) (st : List Value) (h : A_H) : R 100 57 ls st h = a_do a_nL R R 100 (s_push (.int 0) 58 ls st h) := a_R_eq ..
theorem r100_58 (ls : A_V) (st : List Value) (h : A_H) : R 100 58 ls st h = a_do a_nL R R 100 (s_call 12 71 7 8 true 59 ls st h) := a_R_eq ..
theorem r100_59 (ls : A_V) (st : List Value) (h : A_H) : R 100 59 ls st h = a_do a_nL R R 100 (s_ist 10 60 ls st h) := a_R_eq ..
theorem r100_60 (ls : A_V) (st : List Value) (h : A_H) : R 100 60 ls st h = a_do a_nL R R 100 (s_ildl 10 61 ls st h) := a_R_eq ..
theorem r100_61 (ls : A_V) (st : List Value) (h : A_H) : R 100 61 ls st h = a_do a_nL R R 100 (s_ildl 9 62 ls st h) := a_R_eq ..
theorem r100_62 (ls : A_V) (st : List Value) (h : A_H) : R 100 62 ls st h = a_do a_nL R R 100 (s_ildl 8 63 ls st h) := a_R_eq ..
theorem r100_63 (ls : A_V) (st : List Value) (h : A_H) : R 100 63 ls st h = a_do a_nL R R 100 (s_ildl 7 64 ls st h) := a_R_eq ..
theorem r100_64 (ls : A_V) (st : List Value) (h : A_H) : R 100 64 ls st h = a_do a_nL R R 100 (s_call 0 101 4 4 true 65 ls st h) := a_R_eq ..
theorem r100_65 (ls : A_V) (st : List Value) (h : A_H) : R 100 65 ls st h = a_do a_nL R R 100 (s_if1 (fun x => decide (x = 0)) 70 66 ls st h) := a_R_eq ..
theorem r100_66 (ls : A_V) (st : List Value) (h : A_H) : R 100 66 ls st h = a_do a_nL R R 100 (s_ildl 10 67 ls st h) := a_R_eq ..
theorem r100_67 (ls : A_V) (st : List Value) (h : A_H) : R 100 67 ls st h = a_do a_nL R R 100 (s_ist 8 68 ls st h) := a_R_eq ..
theorem r100_68 (ls : A_V) (st : List Value) (h : A_H) : R 100 68 ls st h = a_do a_nL R R 100 (s_ildl 9 69 ls st h) := a_R_eq ..
theorem r100_69 (ls : A_V) (st : List Value) (h : A_H) : R 100 69 ls st h = a_do a_nL R R 100 (s_ist 7 70 ls st h) := a_R_eq ..
theorem r100_70 (ls : A_V) (st : List Value) (h : A_H) : R 100 70 ls st h = a_do a_nL R R 100 (s_inc 9 1 71 ls st h) := a_R_eq ..
theorem r100_71 (ls : A_V) (st : List Value) (h : A_H) : R 100 71 ls st h = a_do a_nL R R 100 (s_goto 30 ls st h) := a_R_eq ..
theorem r100_72 (ls : A_V) (st : List Value) (h : A_H) : R 100 72 ls st h = a_do a_nL R R 100 (s_ildl 7 73 ls st h) := a_R_eq ..
theorem r100_73 (ls : A_V) (st : List Value) (h : A_H) : R 100 73 ls st h = a_do a_nL R R 100 (s_iret ls st h) := a_R_eq ..
theorem b100_0 (x0 : Nat) (x1 : Int32) (x2 : Int32) (x3 : Int32) (l4 : Option Value) (l5 : Option Value) (l6 : Option Value) (l7 : Option Value) (l8 : Option Value) (l9 : Option Value) (l10 : Option Value) (h : A_H) : R 100 0 [some (.ref x0), some (.int x1), some (.int x2), some (.int x3), l4, l5, l6, l7, l8, l9, l10] [] h = (cond (isO h x0 11 && (hP h x0 5).isSome) (cond (isO h ((hP h x0 5).getD 0) 8) (cond (isO h x0 11) (a_back R 100 (146, [.ref x0, .int x1], h, true, none, 9, [some (.ref x0), some (.int x1), some (.int x2), some (.int x3), some (.int ((hI h ((hP h x0 5).getD 0) 0) + x3)), l5, l6, l7, l8, l9, l10], []) (C 146 [.ref x0, .int x1] h)) none) none) none) := (tr (r100_0 ..) (tr (r100_1 ..) (cgT (tr (r100_2 ..) (cgT (tr (r100_3 ..) (tr (r100_4 ..) (tr (r100_5 ..) (tr (r100_6 ..) (tr (r100_7 ..) (r100_8 ..)))))))))))
theorem b100_9 (x0 : Nat) (x1 : Int32) (x2 : Int32) (x3 : Int32) (x4 : Int32) (l5 : Option Value) (l6 : Option Value) (l7 : Option Value) (l8 : Option Value) (l9 : Option Value) (l10 : Option Value) (s0 : Int32) (h : A_H) : R 100 9 [some (.ref x0), some (.int x1), some (.int x2), some (.int x3), some (.int x4), l5, l6, l7, l8, l9, l10] [.int s0] h = (cond (isO h x0 11) (a_back R 100 (147, [.ref x0, .int x1], h, true, none, 13, [some (.ref x0), some (.int x1), some (.int x2), some (.int x3), some (.int x4), some (.int s0), l6, l7, l8, l9, l10], []) (C 147 [.ref x0, .int x1] h)) none) := (tr (r100_9 ..) (tr (r100_10 ..) (tr (r100_11 ..) (r100_12 ..))))
theorem b100_13 (x0 : Nat) (x1 : Int32) (x2 : Int32) (x3 : Int32) (x4 : Int32) (x5 : Int32) (l6 : Option Value) (l7 : Option Value) (l8 : Option Value) (l9 : Option Value) (l10 : Option Value) (s0 : Int32) (h : A_H) : R 100 13 [some (.ref x0), some (.int x1), some (.int x2), some (.int x3), some (.int x4), some (.int x5), l6, l7, l8, l9, l10] [.int s0] h = (cond (isO h x0 11 && (hP h x0 3).isSome) (cond (isO h x0 11 && (hP h x0 5).isSome) (cond (isO h ((hP h x0 5).getD 0) 8) (cond (isO h ((hP h x0 3).getD 0) 9) (a_back R 100 (71, [.ref ((hP h x0 3).getD 0), .int x1, .int x2, .int x4, .int x5, .int (hI h ((hP h x0 5).getD 0) 4), .int (0 : Int32)], h, true, none, 27, [some (.ref x0), some (.int x1), some (.int x2), some (.int x3), some (.int x4), some (.int x5), some (.int s0), some (.int (0 : Int32)), l8, l9, l10], []) (C 71 [.ref ((hP h x0 3).getD 0), .int x1, .int x2, .int x4, .int x5, .int (hI h ((hP h x0 5).getD 0) 4), .int (0 : Int32)] h)) none) none) none) none) := (tr (r100_13 ..) (tr (r100_14 ..) (tr (r100_15 ..) (tr (r100_16 ..) (tr (r100_17 ..) (cgT (tr (r100_18 ..) (tr (r100_19 ..) (tr (r100_20 ..) (tr (r100_21 ..) (tr (r100_22 ..) (tr (r100_23 ..) (cgT (tr (r100_24 ..) (cgT (tr (r100_25 ..) (r100_26 ..)))))))))))))))))
theorem b100_27 (x0 : Nat) (x1 : Int32) (x2 : Int32) (x3 : Int32) (x4 : Int32) (x5 : Int32) (x6 : Int32) (x7 : Int32) (l8 : Option Value) (l9 : Option Value) (l10 : Option Value) (s0 : Int32) (h : A_H) : R 100 27 [some (.ref x0), some (.int x1), some (.int x2), some (.int x3), some (.int x4), some (.int x5), some (.int x6), some (.int x7), l8, l9, l10] [.int s0] h = (R 100 30 [some (.ref x0), some (.int x1), some (.int x2), some (.int x3), some (.int x4), some (.int x5), some (.int x6), some (.int x7), some (.int s0), some (.int (1 : Int32)), l10] [] h) := (tr (r100_27 ..) (tr (r100_28 ..) (r100_29 ..)))
theorem b100_30 (x0 : Nat) (x1 : Int32) (x2 : Int32) (x3 : Int32) (x4 : Int32) (x5 : Int32) (x6 : Int32) (x7 : Int32) (x8 : Int32) (x9 : Int32) (l10 : Option Value) (h : A_H) : R 100 30 [some (.ref x0), some (.int x1), some (.int x2), some (.int x3), some (.int x4), some (.int x5), some (.int x6), some (.int x7), some (.int x8), some (.int x9), l10] [] h = (cond (decide (x5 < x9)) (some (some (some (.int x7)), h)) (cond (!decide ((x9 &&& (x5 ^^^ (-1 : Int32))) = 0)) (R 100 30 [some (.ref x0), some (.int x1), some (.int x2), some (.int x3), some (.int x4), some (.int x5), some (.int x6), some (.int x7), some (.int x8), some (.int (x9 + 1)), l10] [] h) (a_back R 100 (278, [.int x9], h, true, none, 41, [some (.ref x0), some (.int x1), some (.int x2), some (.int x3), some (.int x4), some (.int x5), some (.int x6), some (.int x7), some (.int x8), some (.int x9), l10], []) (C 278 [.int x9] h)))) := (tr (r100_30 ..) (tr (r100_31 ..) (tr (r100_32 ..) (cgB (tr (r100_72 ..) (r100_73 ..)) (tr (r100_33 ..) (tr (r100_34 ..) (tr (r100_35 ..) (tr (r100_36 ..) (tr (r100_37 ..) (tr (r100_38 ..) (cgB (tr (r100_70 ..) (r100_71 ..)) (tr (r100_39 ..) (r100_40 ..)))))))))))))
theorem b100_41 (x0 : Nat) (x1 : Int32) (x2 : Int32) (x3 : Int32) (x4 : Int32) (x5 : Int32) (x6 : Int32) (x7 : Int32) (x8 : Int32) (x9 : Int32) (l10 : Option Value) (s0 : Int32) (h : A_H) : R 100 41 [some (.ref x0), some (.int x1), some (.int x2), some (.int x3), some (.int x4), some (.int x5), some (.int x6), some (.int x7), some (.int x8), some (.int x9), l10] [.int s0] h = (cond (decide (s0 ≤ x6)) (cond (isO h x0 11 && (hP h x0 3).isSome) (cond (isO h x0 11 && (hP h x0 5).isSome) (cond (isO h ((hP h x0 5).getD 0) 8) (cond (isO h ((hP h x0 3).getD 0) 9) (a_back R 100 (71, [.ref ((hP h x0 3).getD 0), .int x1, .int x2, .int x4, .int (x5 &&& (x9 ^^^ (-1 : Int32))), .int (hI h ((hP h x0 5).getD 0) 4), .int (0 : Int32)], h, true, none, 59, [some (.ref x0), some (.int x1), some (.int x2), some (.int x3), some (.int x4), some (.int x5), some (.int x6), some (.int x7), some (.int x8), some (.int x9), l10], []) (C 71 [.ref ((hP h x0 3).getD 0), .int x1, .int x2, .int x4, .int (x5 &&& (x9 ^^^ (-1 : Int32))), .int (hI h ((hP h x0 5).getD 0) 4), .int (0 : Int32)] h)) none) none) none) none) (R 100 30 [some (.ref x0), some (.int x1), some (.int x2), some (.int x3), some (.int x4), some (.int x5), some (.int x6), some (.int x7), some (.int x8), some (.int (x9 + 1)), l10] [] h)) := (tr (r100_41 ..) (tr (r100_42 ..) (cgB (tr (r100_44 ..) (tr (r100_45 ..) (cgT (tr (r100_46 ..) (tr (r100_47 ..) (tr (r100_48 ..) (tr (r100_49 ..) (tr (r100_50 ..) (tr (r100_51 ..) (tr (r100_52 ..) (tr (r100_53 ..) (tr (r100_54 ..) (tr (r100_55 ..) (cgT (tr (r100_56 ..) (cgT (tr (r100_57 ..) (r100_58 ..)))))))))))))))))) (tr (r100_43 ..) (tr (r100_70 ..) (r100_71 ..))))))
theorem b100_59 (x0 : Nat) (x1 : Int32) (x2 : Int32) (x3 : Int32) (x4 : Int32) (x5 : Int32) (x6 : Int32) (x7 : Int32) (x8 : Int32) (x9 : Int32) (l10 : Option Value) (s0 : Int32) (h : A_H) : R 100 59 [some (.ref x0), some (.int x1), some (.int x2), some (.int x3), some (.int x4), some (.int x5), some (.int x6), some (.int x7), some (.int x8), some (.int x9), l10] [.int s0] h = (a_back R 100 (101, [.int s0, .int x9, .int x8, .int x7], h, true, none, 65, [some (.ref x0), some (.int x1), some (.int x2), some (.int x3), some (.int x4), some (.int x5), some (.int x6), some (.int x7), some (.int x8), some (.int x9), some (.int s0)], []) (C 101 [.int s0, .int x9, .int x8, .int x7] h)) := (tr (r100_59 ..) (tr (r100_60 ..) (tr (r100_61 ..) (tr (r100_62 ..) (tr (r100_63 ..) (r100_64 ..))))))
theorem b100_65 (x0 : Nat) (x1 : Int32) (x2 : Int32) (x3 : Int32) (x4 : Int32) (x5 : Int32) (x6 : Int32) (x7 : Int32) (x8 : Int32) (x9 : Int32) (x10 : Int32) (s0 : Int32) (h : A_H) : R 100 65 [some (.ref x0), some (.int x1), some (.int x2), some (.int x3), some (.int x4), some (.int x5), some (.int x6), some (.int x7), some (.int x8), some (.int x9), some (.int x10)] [.int s0] h = (cond (decide (s0 = 0)) (R 100 30 [some (.ref x0), some (.int x1), some (.int x2), some (.int x3), some (.int x4), some (.int x5), some (.int x6), some (.int x7), some (.int x8), some (.int (x9 + 1)), some (.int x10)] [] h) (R 100 30 [some (.ref x0), some (.int x1), some (.int x2), some (.int x3), some (.int x4), some (.int x5), some (.int x6), some (.int x9), some (.int x10), some (.int (x9 + 1)), some (.int x10)] [] h)) := (tr (r100_65 ..) (cgB (tr (r100_70 ..) (r100_71 ..)) (tr (r100_66 ..) (tr (r100_67 ..) (tr (r100_68 ..) (tr (r100_69 ..) (tr (r100_70 ..) (r100_71 ..))))))))
theorem e101 (x0 : Int32) (x1 : Int32) (x2 : Int32) (x3 : Int32) (h : A_H) : C 101 [.int x0, .int x1, .int x2, .int x3] h = R 101 0 [some (.int x0), some (.int x1), some (.int x2), some (.int x3)] [] h := rfl
theorem r101_0 (ls : A_V) (st : List Value) (h : A_H) : R 101 0 ls st h = a_do a_nL R R 101 (s_ildl 0 1 ls st h) := a_R_eq ..
theorem r101_1 (ls : A_V) (st : List Value) (h : A_H) : R 101 1 ls st h = a_do a_nL R R 101 (s_ildl 2 2 ls st h) := a_R_eq ..
theorem r101_2 (ls : A_V) (st : List Value) (h : A_H) : R 101 2 ls st h = a_do a_nL R R 101 (s_if2 (fun x y => decide (x < y)) 11 3 ls st h) := a_R_eq ..
theorem r101_3 (ls : A_V) (st : List Value) (h : A_H) : R 101 3 ls st h = a_do a_nL R R 101 (s_ildl 0 4 ls st h) := a_R_eq ..
theorem r101_4 (ls : A_V) (st : List Value) (h : A_H) : R 101 4 ls st h = a_do a_nL R R 101 (s_ildl 2 5 ls st h) := a_R_eq ..
theorem r101_5 (ls : A_V) (st : List Value) (h : A_H) : R 101 5 ls st h = a_do a_nL R R 101 (s_if2 (fun x y => !decide (x = y)) 13 6 ls st h) := a_R_eq ..
theorem r101_6 (ls : A_V) (st : List Value) (h : A_H) : R 101 6 ls st h = a_do a_nL R R 101 (s_ildl 1 7 ls st h) := a_R_eq ..
theorem r101_7 (ls : A_V) (st : List Value) (h : A_H) : R 101 7 ls st h = a_do a_nL R R 101 (s_call 0 278 1 1 true 8 ls st h) := a_R_eq ..
theorem r101_8 (ls : A_V) (st : List Value) (h : A_H) : R 101 8 ls st h = a_do a_nL R R 101 (s_ildl 3 9 ls st h) := a_R_eq ..
theorem r101_9 (ls : A_V) (st : List Value) (h : A_H) : R 101 9 ls st h = a_do a_nL R R 101 (s_call 0 278 1 1 true 10 ls st h) := a_R_eq ..
theorem r101_10 (ls : A_V) (st : List Value) (h : A_H) : R 101 10 ls st h = a_do a_nL R R 101 (s_if2 (fun x y => decide (y ≤ x)) 13 11 ls st h) := a_R_eq ..
theorem r101_11 (ls : A_V) (st : List Value) (h : A_H) : R 101 11 ls st h = a_do a_nL R R 101 (s_push (.int 1) 12 ls st h) := a_R_eq ..
theorem r101_12 (ls : A_V) (st : List Value) (h : A_H) : R 101 12 ls st h = a_do a_nL R R 101 (s_goto 14 ls st h) := a_R_eq ..
theorem r101_13 (ls : A_V) (st : List Value) (h : A_H) : R 101 13 ls st h = a_do a_nL R R 101 (s_push (.int 0) 14 ls st h) := a_R_eq ..
theorem r101_14 (ls : A_V) (st : List Value) (h : A_H) : R 101 14 ls st h = a_do a_nL R R 101 (s_zret ls st h) := a_R_eq ..
theorem b101_0 (x0 : Int32) (x1 : Int32) (x2 : Int32) (x3 : Int32) (h : A_H) : R 101 0 [some (.int x0), some (.int x1), some (.int x2), some (.int x3)] [] h = (cond (decide (x0 < x2)) (cond (decide ((1 : Int32) = 0) || decide ((1 : Int32) = 1)) (some (some (some (.int (1 : Int32))), h)) none) (cond (!decide (x0 = x2)) (cond (decide ((0 : Int32) = 0) || decide ((0 : Int32) = 1)) (some (some (some (.int (0 : Int32))), h)) none) (a_back R 101 (278, [.int x1], h, true, none, 8, [some (.int x0), some (.int x1), some (.int x2), some (.int x3)], []) (C 278 [.int x1] h)))) := (tr (r101_0 ..) (tr (r101_1 ..) (tr (r101_2 ..) (cgB (tr (r101_11 ..) (tr (r101_12 ..) (r101_14 ..))) (tr (r101_3 ..) (tr (r101_4 ..) (tr (r101_5 ..) (cgB (tr (r101_13 ..) (r101_14 ..)) (tr (r101_6 ..) (r101_7 ..))))))))))
theorem b101_8 (x0 : Int32) (x1 : Int32) (x2 : Int32) (x3 : Int32) (s0 : Int32) (h : A_H) : R 101 8 [some (.int x0), some (.int x1), some (.int x2), some (.int x3)] [.int s0] h = (a_back R 101 (278, [.int x3], h, true, none, 10, [some (.int x0), some (.int x1), some (.int x2), some (.int x3)], [.int s0]) (C 278 [.int x3] h)) := (tr (r101_8 ..) (r101_9 ..))
theorem b101_10 (x0 : Int32) (x1 : Int32) (x2 : Int32) (x3 : Int32) (s0 : Int32) (s1 : Int32) (h : A_H) : R 101 10 [some (.int x0), some (.int x1), some (.int x2), some (.int x3)] [.int s1, .int s0] h = (cond (decide (s1 ≤ s0)) (cond (decide ((0 : Int32) = 0) || decide ((0 : Int32) = 1)) (some (some (some (.int (0 : Int32))), h)) none) (cond (decide ((1 : Int32) = 0) || decide ((1 : Int32) = 1)) (some (some (some (.int (1 : Int32))), h)) none)) := (tr (r101_10 ..) (cgB (tr (r101_13 ..) (r101_14 ..)) (tr (r101_11 ..) (tr (r101_12 ..) (r101_14 ..)))))
theorem e102 (x0 : Nat) (x1 : Int32) (x2 : Int32) (x3 : Int32) (h : A_H) : C 102 [.ref x0, .int x1, .int x2, .int x3] h = R 102 0 [some (.ref x0), some (.int x1), some (.int x2), some (.int x3)] [] h := rfl
theorem r102_0 (ls : A_V) (st : List Value) (h : A_H) : R 102 0 ls st h = a_do a_nL R R 102 (s_aldl 0 1 ls st h) := a_R_eq ..
theorem r102_1 (ls : A_V) (st : List Value) (h : A_H) : R 102 1 ls st h = a_do a_nL R R 102 (s_aldl 0 2 ls st h) := a_R_eq ..
theorem r102_2 (ls : A_V) (st : List Value) (h : A_H) : R 102 2 ls st h = a_do a_nL R R 102 (s_ildl 1 3 ls st h) := a_R_eq ..
theorem r102_3 (ls : A_V) (st : List Value) (h : A_H) : R 102 3 ls st h = a_do a_nL R R 102 (s_ildl 2 4 ls st h) := a_R_eq ..
theorem r102_4 (ls : A_V) (st : List Value) (h : A_H) : R 102 4 ls st h = a_do a_nL R R 102 (s_ildl 3 5 ls st h) := a_R_eq ..
theorem r102_5 (ls : A_V) (st : List Value) (h : A_H) : R 102 5 ls st h = a_do a_nL R R 102 (s_call 14 144 4 4 true 6 ls st h) := a_R_eq ..
theorem r102_6 (ls : A_V) (st : List Value) (h : A_H) : R 102 6 ls st h = a_do a_nL R R 102 (s_call 14 134 2 2 true 7 ls st h) := a_R_eq ..
theorem r102_7 (ls : A_V) (st : List Value) (h : A_H) : R 102 7 ls st h = a_do a_nL R R 102 (s_if1 (fun x => decide (x = 0)) 10 8 ls st h) := a_R_eq ..
theorem r102_8 (ls : A_V) (st : List Value) (h : A_H) : R 102 8 ls st h = a_do a_nL R R 102 (s_push (.int (-1)) 9 ls st h) := a_R_eq ..
theorem r102_9 (ls : A_V) (st : List Value) (h : A_H) : R 102 9 ls st h = a_do a_nL R R 102 (s_iret ls st h) := a_R_eq ..
theorem r102_10 (ls : A_V) (st : List Value) (h : A_H) : R 102 10 ls st h = a_do a_nL R R 102 (s_aldl 0 11 ls st h) := a_R_eq ..
theorem r102_11 (ls : A_V) (st : List Value) (h : A_H) : R 102 11 ls st h = a_do a_nL R R 102 (s_ildl 1 12 ls st h) := a_R_eq ..
theorem r102_12 (ls : A_V) (st : List Value) (h : A_H) : R 102 12 ls st h = a_do a_nL R R 102 (s_ildl 2 13 ls st h) := a_R_eq ..
theorem r102_13 (ls : A_V) (st : List Value) (h : A_H) : R 102 13 ls st h = a_do a_nL R R 102 (s_ildl 3 14 ls st h) := a_R_eq ..
theorem r102_14 (ls : A_V) (st : List Value) (h : A_H) : R 102 14 ls st h = a_do a_nL R R 102 (s_call 14 104 4 11 true 15 ls st h) := a_R_eq ..
theorem r102_15 (ls : A_V) (st : List Value) (h : A_H) : R 102 15 ls st h = a_do a_nL R R 102 (s_iret ls st h) := a_R_eq ..
theorem b102_0 (x0 : Nat) (x1 : Int32) (x2 : Int32) (x3 : Int32) (h : A_H) : R 102 0 [some (.ref x0), some (.int x1), some (.int x2), some (.int x3)] [] h = (cond (isO h x0 11) (a_back R 102 (144, [.ref x0, .int x1, .int x2, .int x3], h, true, none, 6, [some (.ref x0), some (.int x1), some (.int x2), some (.int x3)], [.ref x0]) (C 144 [.ref x0, .int x1, .int x2, .int x3] h)) none) := (tr (r102_0 ..) (tr (r102_1 ..) (tr (r102_2 ..) (tr (r102_3 ..) (tr (r102_4 ..) (r102_5 ..))))))
theorem b102_6 (x0 : Nat) (x1 : Int32) (x2 : Int32) (x3 : Int32) (s0 : Nat) (s1 : Int32) (h : A_H) : R 102 6 [some (.ref x0), some (.int x1), some (.int x2), some (.int x3)] [.int s1, .ref s0] h = (cond (isO h s0 11) (a_back R 102 (134, [.ref s0, .int s1], h, true, none, 7, [some (.ref x0), some (.int x1), some (.int x2), some (.int x3)], []) (C 134 [.ref s0, .int s1] h)) none) := (r102_6 ..)
theorem b102_7 (x0 : Nat) (x1 : Int32) (x2 : Int32) (x3 : Int32) (s0 : Int32) (h : A_H) : R 102 7 [some (.ref x0), some (.int x1), some (.int x2), some (.int x3)] [.int s0] h = (cond (decide (s0 = 0)) (cond (isO h x0 11) (a_back R 102 (104, [.ref x0, .int x1, .int x2, .int x3], h, true, none, 15, [some (.ref x0), some (.int x1), some (.int x2), some (.int x3)], []) (C 104 [.ref x0, .int x1, .int x2, .int x3] h)) none) (some (some (some (.int (-1 : Int32))), h))) := (tr (r102_7 ..) (cgB (tr (r102_10 ..) (tr (r102_11 ..) (tr (r102_12 ..) (tr (r102_13 ..) (r102_14 ..))))) (tr (r102_8 ..) (r102_9 ..))))
theorem b102_15 (x0 : Nat) (x1 : Int32) (x2 : Int32) (x3 : Int32) (s0 : Int32) (h : A_H) : R 102 15 [some (.ref x0), some (.int x1), some (.int x2), some (.int x3)] [.int s0] h = (some (some (some (.int s0)), h)) := (r102_15 ..)
theorem e103 (x0 : Nat) (x1 : Int32) (x2 : Int32) (x3 : Int32) (h : A_H) : C 103 [.ref x0, .int x1, .int x2, .int x3] h = R 103 0 [some (.ref x0), some (.int x1), some (.int x2), some (.int x3), none] [] h := rfl
theorem r103_0 (ls : A_V) (st : List Value) (h : A_H) : R 103 0 ls st h = a_do a_nL R R 103 (s_aldl 0 1 ls st h) := a_R_eq ..
theorem r103_1 (ls : A_V) (st : List Value) (h : A_H) : R 103 1 ls st h = a_do a_nL R R 103 (s_aldl 0 2 ls st h) := a_R_eq ..
theorem r103_2 (ls : A_V) (st : List Value) (h : A_H) : R 103 2 ls st h = a_do a_nL R R 103 (s_ildl 1 3 ls st h) := a_R_eq ..
theorem r103_3 (ls : A_V) (st : List Value) (h : A_H) : R 103 3 ls st h = a_do a_nL R R 103 (s_ildl 2 4 ls st h) := a_R_eq ..
theorem r103_4 (ls : A_V) (st : List Value) (h : A_H) : R 103 4 ls st h = a_do a_nL R R 103 (s_ildl 3 5 ls st h) := a_R_eq ..
theorem r103_5 (ls : A_V) (st : List Value) (h : A_H) : R 103 5 ls st h = a_do a_nL R R 103 (s_call 14 144 4 4 true 6 ls st h) := a_R_eq ..
theorem r103_6 (ls : A_V) (st : List Value) (h : A_H) : R 103 6 ls st h = a_do a_nL R R 103 (s_call 14 134 2 2 true 7 ls st h) := a_R_eq ..
theorem r103_7 (ls : A_V) (st : List Value) (h : A_H) : R 103 7 ls st h = a_do a_nL R R 103 (s_if1 (fun x => decide (x = 0)) 10 8 ls st h) := a_R_eq ..
theorem r103_8 (ls : A_V) (st : List Value) (h : A_H) : R 103 8 ls st h = a_do a_nL R R 103 (s_push (.int (-1)) 9 ls st h) := a_R_eq ..
theorem r103_9 (ls : A_V) (st : List Value) (h : A_H) : R 103 9 ls st h = a_do a_nL R R 103 (s_iret ls st h) := a_R_eq ..
theorem r103_10 (ls : A_V) (st : List Value) (h : A_H) : R 103 10 ls st h = a_do a_nL R R 103 (s_aldl 0 11 ls st h) := a_R_eq ..
theorem r103_11 (ls : A_V) (st : List Value) (h : A_H) : R 103 11 ls st h = a_do a_nL R R 103 (s_ildl 1 12 ls st h) := a_R_eq ..
theorem r103_12 (ls : A_V) (st : List Value) (h : A_H) : R 103 12 ls st h = a_do a_nL R R 103 (s_ildl 2 13 ls st h) := a_R_eq ..
theorem r103_13 (ls : A_V) (st : List Value) (h : A_H) : R 103 13 ls st h = a_do a_nL R R 103 (s_ildl 3 14 ls st h) := a_R_eq ..
theorem r103_14 (ls : A_V) (st : List Value) (h : A_H) : R 103 14 ls st h = a_do a_nL R R 103 (s_call 14 104 4 11 true 15 ls st h) := a_R_eq ..
theorem r103_15 (ls : A_V) (st : List Value) (h : A_H) : R 103 15 ls st h = a_do a_nL R R 103 (s_ist 4 16 ls st h) := a_R_eq ..
theorem r103_16 (ls : A_V) (st : List Value) (h : A_H) : R 103 16 ls st h = a_do a_nL R R 103 (s_aldl 0 17 ls st h) := a_R_eq ..
theorem r103_17 (ls : A_V) (st : List Value) (h : A_H) : R 103 17 ls st h = a_do a_nL R R 103 (s_getR 11 3 18 ls st h) := a_R_eq ..
theorem r103_18 (ls : A_V) (st : List Value) (h : A_H) : R 103 18 ls st h = a_do a_nL R R 103 (s_ildl 1 19 ls st h) := a_R_eq ..
theorem r103_19 (ls : A_V) (st : List Value) (h : A_H) : R 103 19 ls st h = a_do a_nL R R 103 (s_ildl 2 20 ls st h) := a_R_eq ..
theorem r103_20 (ls : A_V) (st : List Value) (h : A_H) : R 103 20 ls st h = a_do a_nL R R 103 (s_aldl 0 21 ls st h) := a_R_eq ..
theorem r103_21 (ls : A_V) (st : List Value) (h : A_H) : R 103 21 ls st h = a_do a_nL R R 103 (s_getR 11 5 22 ls st h) := a_R_eq ..
theorem r103_22 (ls : A_V) (st : List Value) (h : A_H) : R 103 22 ls st h = a_do a_nL R R 103 (s_getI 8 0 23 ls st h) := a_R_eq ..
theorem r103_23 (ls : A_V) (st : List Value) (h : A_H) : R 103 23 ls st h = a_do a_nL R R 103 (s_ildl 3 24 ls st h) := a_R_eq ..
theorem r103_24 (ls : A_V) (st : List Value) (h : A_H) : R 103 24 ls st h = a_do a_nL R R 103 (s_bi (fun x y => x + y) 25 ls st h) := a_R_eq ..
theorem r103_25 (ls : A_V) (st : List Value) (h : A_H) : R 103 25 ls st h = a_do a_nL R R 103 (s_aldl 0 26 ls st h) := a_R_eq ..
theorem r103_26 (ls : A_V) (st : List Value) (h : A_H) : R 103 26 ls st h = a_do a_nL R R 103 (s_ildl 1 27 ls st h) := a_R_eq ..
theorem r103_27 (ls : A_V) (st : List Value) (h : A_H) : R 103 27 ls st h = a_do a_nL R R 103 (s_call 14 146 2 2 true 28 ls st h) := a_R_eq ..
theorem r103_28 (ls : A_V) (st : List Value) (h : A_H) : R 103 28 ls st h = a_do a_nL R R 103 (s_ildl 4 29 ls st h) := a_R_eq ..
theorem r103_29 (ls : A_V) (st : List Value) (h : A_H) : R 103 29 ls st h = a_do a_nL R R 103 (s_push (.int 0) 30 ls st h) := a_R_eq ..
theorem r103_30 (ls : A_V) (st : List Value) (h : A_H) : R 103 30 ls st h = a_do a_nL R R 103 (s_call 12 71 7 8 true 31 ls st h) := a_R_eq ..
theorem r103_31 (ls : A_V) (st : List Value) (h : A_H) : R 103 31 ls st h = a_do a_nL R R 103 (s_iret ls st h) := a_R_eq ..
theorem b103_0 (x0 : Nat) (x1 : Int32) (x2 : Int32) (x3 : Int32) (l4 : Option Value) (h : A_H) : R 103 0 [some (.ref x0), some (.int x1), some (.int x2), some (.int x3), l4] [] h = (cond (isO h x0 11) (a_back R 103 (144, [.ref x0, .int x1, .int x2, .int x3], h, true, none, 6, [some (.ref x0), some (.int x1), some (.int x2), some (.int x3), l4], [.ref x0]) (C 144 [.ref x0, .int x1, .int x2, .int x3] h)) none) := (tr (r103_0 ..) (tr (r103_1 ..) (tr (r103_2 ..) (tr (r103_3 ..) (tr (r103_4 ..) (r103_5 ..))))))
theorem b103_6 (x0 : Nat) (x1 : Int32) (x2 : Int32) (x3 : Int32) (l4 : Option Value) (s0 : Nat) (s1 : Int32) (h : A_H) : R 103 6 [some (.ref x0), some (.int x1), some (.int x2), some (.int x3), l4] [.int s1, .ref s0] h = (cond (isO h s0 11) (a_back R 103 (134, [.ref s0, .int s1], h, true, none, 7, [some (.ref x0), some (.int x1), some (.int x2), some (.int x3), l4], []) (C 134 [.ref s0, .int s1] h)) none) := (r103_6 ..)
theorem b103_7 (x0 : Nat) (x1 : Int32) (x2 : Int32) (x3 : Int32) (l4 : Option Value) (s0 : Int32) (h : A_H) : R 103 7 [some (.ref x0), some (.int x1), some (.int x2), some (.int x3), l4] [.int s0] h = (cond (decide (s0 = 0)) (cond (isO h x0 11) (a_back R 103 (104, [.ref x0, .int x1, .int x2, .int x3], h, true, none, 15, [some (.ref x0), some (.int x1), some (.int x2), some (.int x3), l4], []) (C 104 [.ref x0, .int x1, .int x2, .int x3] h)) none) (some (some (some (.int (-1 : Int32))), h))) := (tr (r103_7 ..) (cgB (tr (r103_10 ..) (tr (r103_11 ..) (tr (r103_12 ..) (tr (r103_13 ..) (r103_14 ..))))) (tr (r103_8 ..) (r103_9 ..))))
theorem b103_15 (x0 : Nat) (x1 : Int32) (x2 : Int32) (x3 : Int32) (l4 : Option Value) (s0 : Int32) (h : A_H) : R 103 15 [some (.ref x0), some (.int x1), some (.int x2), some (.int x3), l4] [.int s0] h = (cond (isO h x0 11 && (hP h x0 3).isSome) (cond (isO h x0 11 && (hP h x0 5).isSome) (cond (isO h ((hP h x0 5).getD 0) 8) (cond (isO h x0 11) (a_back R 103 (146, [.ref x0, .int x1], h, true, none, 28, [some (.ref x0), some (.int x1), some (.int x2), some (.int x3), some (.int s0)], [.int ((hI h ((hP h x0 5).getD 0) 0) + x3), .int x2, .int x1, .ref ((hP h x0 3).getD 0)]) (C 146 [.ref x0, .int x1] h)) none) none) none) none) := (tr (r103_15 ..) (tr (r103_16 ..) (tr (r103_17 ..) (cgT (tr (r103_18 ..) (tr (r103_19 ..) (tr (r103_20 ..) (tr (r103_21 ..) (cgT (tr (r103_22 ..) (cgT (tr (r103_23 ..) (tr (r103_24 ..) (tr (r103_25 ..) (tr (r103_26 ..) (r103_27 ..))))))))))))))))
theorem b103_28 (x0 : Nat) (x1 : Int32) (x2 : Int32) (x3 : Int32) (x4 : Int32) (s0 : Nat) (s1 : Int32) (s2 : Int32) (s3 : Int32) (s4 : Int32) (h : A_H) : R 103 28 [some (.ref x0), some (.int x1), some (.int x2), some (.int x3), some (.int x4)] [.int s4, .int s3, .int s2, .int s1, .ref s0] h = (cond (isO h s0 9) (a_back R 103 (71, [.ref s0, .int s1, .int s2, .int s3, .int s4, .int x4, .int (0 : Int32)], h, true, none, 31, [some (.ref x0), some (.int x1), some (.int x2), some (.int x3), some (.int x4)], []) (C 71 [.ref s0, .int s1, .int s2, .int s3, .int s4, .int x4, .int (0 : Int32)] h)) none) := (tr (r103_28 ..) (tr (r103_29 ..) (r103_30 ..)))
theorem b103_31 (x0 : Nat) (x1 : Int32) (x2 : Int32) (x3 : Int32) (x4 : Int32) (s0 : Int32) (h : A_H) : R 103 31 [some (.ref x0), some (.int x1), some (.int x2), some (.int x3), some (.int x4)] [.int s0] h = (some (some (some (.int s0)), h)) := (r103_31 ..)
theorem e104 (x0 : Nat) (x1 : Int32) (x2 : Int32) (x3 : Int32) (h : A_H) : C 104 [.ref x0, .int x1, .int x2, .int x3] h = R 104 0 [some (.ref x0), some (.int x1), some (.int x2), some (.int x3), none, none, none, none, none, none, none] [] h := rfl
theorem r104_0 (ls : A_V) (st : List Value) (h : A_H) : R 104 0 ls st h = a_do a_nL R R 104 (s_aldl 0 1 ls st h) := a_R_eq ..
theorem r104_1 (ls : A_V) (st : List Value) (h : A_H) : R 104 1 ls st h = a_do a_nL R R 104 (s_getR 11 5 2 ls st h) := a_R_eq ..
theorem r104_2 (ls : A_V) (st : List Value) (h : A_H) : R 104 2 ls st h = a_do a_nL R R 104 (s_getI 8 0 3 ls st h) := a_R_eq ..
theorem r104_3 (ls : A_V) (st : List Value) (h : A_H) : R 104 3 ls st h = a_do a_nL R R 104 (s_ildl 3 4 ls st h) := a_R_eq ..
theorem r104_4 (ls : A_V) (st : List Value) (h : A_H) : R 104 4 ls st h = a_do a_nL R R 104 (s_bi (fun x y => x + y) 5 ls st h) := a_R_eq ..
theorem r104_5 (ls : A_V) (st : List Value) (h : A_H) : R 104 5 ls st h = a_do a_nL R R 104 (s_ist 4 6 ls st h) := a_R_eq ..
theorem r104_6 (ls : A_V) (st : List Value) (h : A_H) : R 104 6 ls st h = a_do a_nL R R 104 (s_aldl 0 7 ls st h) := a_R_eq ..
theorem r104_7 (ls : A_V) (st : List Value) (h : A_H) : R 104 7 ls st h = a_do a_nL R R 104 (s_ildl 1 8 ls st h) := a_R_eq ..
theorem r104_8 (ls : A_V) (st : List Value) (h : A_H) : R 104 8 ls st h = a_do a_nL R R 104 (s_call 14 146 2 2 true 9 ls st h) := a_R_eq ..
theorem r104_9 (ls : A_V) (st : List Value) (h : A_H) : R 104 9 ls st h = a_do a_nL R R 104 (s_ist 5 10 ls st h) := a_R_eq ..
theorem r104_10 (ls : A_V) (st : List Value) (h : A_H) : R 104 10 ls st h = a_do a_nL R R 104 (s_ildl 5 11 ls st h) := a_R_eq ..
theorem r104_11 (ls : A_V) (st : List Value) (h : A_H) : R 104 11 ls st h = a_do a_nL R R 104 (s_aldl 0 12 ls st h) := a_R_eq ..
theorem r104_12 (ls : A_V) (st : List Value) (h : A_H) : R 104 12 ls st h = a_do a_nL R R 104 (s_getR 11 3 13 ls st h) := a_R_eq ..
theorem r104_13 (ls : A_V) (st : List Value) (h : A_H) : R 104 13 ls st h = a_do a_nL R R 104 (s_ildl 2 14 ls st h) := a_R_eq ..
theorem r104_14 (ls : A_V) (st : List Value) (h : A_H) : R 104 14 ls st h = a_do a_nL R R 104 (s_ildl 4 15 ls st h) := a_R_eq ..
theorem r104_15 (ls : A_V) (st : List Value) (h : A_H) : R 104 15 ls st h = a_do a_nL R R 104 (s_ildl 5 16 ls st h) := a_R_eq ..
theorem r104_16 (ls : A_V) (st : List Value) (h : A_H) : R 104 16 ls st h = a_do a_nL R R 104 (s_ildl 5 17 ls st h) := a_R_eq ..
theorem r104_17 (ls : A_V) (st : List Value) (h : A_H) : R 104 17 ls st h = a_do a_nL R R 104 (s_call 12 69 5 8 true 18 ls st h) := a_R_eq ..
theorem r104_18 (ls : A_V) (st : List Value) (h : A_H) : R 104 18 ls st h = a_do a_nL R R 104 (s_push (.int (-1)) 19 ls st h) := a_R_eq ..
theorem r104_19 (ls : A_V) (st : List Value) (h : A_H) : R 104 19 ls st h = a_do a_nL R R 104 (s_bi (fun x y => x ^^^ y) 20 ls st h) := a_R_eq ..
theorem r104_20 (ls : A_V) (st : List Value) (h : A_H) : R 104 20 ls st h = a_do a_nL R R 104 (s_bi (fun x y => x &&& y) 21 ls st h) := a_R_eq ..
theorem r104_21 (ls : A_V) (st : List Value) (h : A_H) : R 104 21 ls st h = a_do a_nL R R 104 (s_ist 6 22 ls st h) := a_R_eq ..
theorem r104_22 (ls : A_V) (st : List Value) (h : A_H) : R 104 22 ls st h = a_do a_nL R R 104 (s_push (.int 0) 23 ls st h) := a_R_eq ..
theorem r104_23 (ls : A_V) (st : List Value) (h : A_H) : R 104 23 ls st h = a_do a_nL R R 104 (s_ist 7 24 ls st h) := a_R_eq ..
theorem r104_24 (ls : A_V) (st : List Value) (h : A_H) : R 104 24 ls st h = a_do a_nL R R 104 (s_aldl 0 25 ls st h) := a_R_eq ..
theorem r104_25 (ls : A_V) (st : List Value) (h : A_H) : R 104 25 ls st h = a_do a_nL R R 104 (s_getR 11 3 26 ls st h) := a_R_eq ..
theorem r104_26 (ls : A_V) (st : List Value) (h : A_H) : R 104 26 ls st h = a_do a_nL R R 104 (s_ildl 1 27 ls st h) := a_R_eq ..
theorem r104_27 (ls : A_V) (st : List Value) (h : A_H) : R 104 27 ls st h = a_do a_nL R R 104 (s_push (.int 0) 28 ls st h) := a_R_eq ..
theorem r104_28 (ls : A_V) (st : List Value) (h : A_H) : R 104 28 ls st h = a_do a_nL R R 104 (s_ildl 5 29 ls st h) := a_R_eq ..
theorem r104_29 (ls : A_V) (st : List Value) (h : A_H) : R 104 29 ls st h = a_do a_nL R R 104 (s_ildl 4 30 ls st h) := a_R_eq ..
theorem r104_30 (ls : A_V) (st : List Value) (h : A_H) : R 104 30 ls st h = a_do a_nL R R 104 (s_push (.int 0) 31 ls st h) := a_R_eq ..
theorem r104_31 (ls : A_V) (st : List Value) (h : A_H) : R 104 31 ls st h = a_do a_nL R R 104 (s_call 12 70 6 7 true 32 ls st h) := a_R_eq ..
theorem r104_32 (ls : A_V) (st : List Value) (h : A_H) : R 104 32 ls st h = a_do a_nL R R 104 (s_ist 8 33 ls st h) := a_R_eq ..
theorem r104_33 (ls : A_V) (st : List Value) (h : A_H) : R 104 33 ls st h = a_do a_nL R R 104 (s_push (.int 1) 34 ls st h) := a_R_eq ..
theorem r104_34 (ls : A_V) (st : List Value) (h : A_H) : R 104 34 ls st h = a_do a_nL R R 104 (s_ist 9 35 ls st h) := a_R_eq ..
theorem r104_35 (ls : A_V) (st : List Value) (h : A_H) : R 104 35 ls st h = a_do a_nL R R 104 (s_ildl 9 36 ls st h) := a_R_eq ..
theorem r104_36 (ls : A_V) (st : List Value) (h : A_H) : R 104 36 ls st h = a_do a_nL R R 104 (s_ildl 6 37 ls st h) := a_R_eq ..
theorem r104_37 (ls : A_V) (st : List Value) (h : A_H) : R 104 37 ls st h = a_do a_nL R R 104 (s_if2 (fun x y => decide (y < x)) 70 38 ls st h) := a_R_eq ..
theorem r104_38 (ls : A_V) (st : List Value) (h : A_H) : R 104 38 ls st h = a_do a_nL R R 104 (s_ildl 9 39 ls st h) := a_R_eq ..
theorem r104_39 (ls : A_V) (st : List Value) (h : A_H) : R 104 39 ls st h = a_do a_nL R R 104 (s_ildl 6 40 ls st h) := a_R_eq ..
theorem r104_40 (ls : A_V) (st : List Value) (h : A_H) : R 104 40 ls st h = a_do a_nL R R 104 (s_push (.int (-1)) 41 ls st h) := a_R_eq ..
theorem r104_41 (ls : A_V) (st : List Value) (h : A_H) : R 104 41 ls st h = a_do a_nL R R 104 (s_bi (fun x y => x ^^^ y) 42 ls st h) := a_R_eq ..
theorem r104_42 (ls : A_V) (st : List Value) (h : A_H) : R 104 42 ls st h = a_do a_nL R R 104 (s_bi (fun x y => x &&& y) 43 ls st h) := a_R_eq ..
theorem r104_43 (ls : A_V) (st : List Value) (h : A_H) : R 104 43 ls st h = a_do a_nL R R 104 (s_if1 (fun x => decide (x = 0)) 45 44 ls st h) := a_R_eq ..
theorem r104_44 (ls : A_V) (st : List Value) (h : A_H) : R 104 44 ls st h = a_do a_nL R R 104 (s_goto 68 ls st h) := a_R_eq ..
theorem r104_45 (ls : A_V) (st : List Value) (h : A_H) : R 104 45 ls st h = a_do a_nL R R 104 (s_aldl 0 46 ls st h) := a_R_eq ..
theorem r104_46 (ls : A_V) (st : List Value) (h : A_H) : R 104 46 ls st h = a_do a_nL R R 104 (s_getR 11 3 47 ls st h) := a_R_eq ..
theorem r104_47 (ls : A_V) (st : List Value) (h : A_H) : R 104 47 ls st h = a_do a_nL R R 104 (s_ildl 1 48 ls st h) := a_R_eq ..
theorem r104_48 (ls : A_V) (st : List Value) (h : A_H) : R 104 48 ls st h = a_do a_nL R R 104 (s_push (.int 0) 49 ls st h) := a_R_eq ..
theorem r104_49 (ls : A_V) (st : List Value) (h : A_H) : R 104 49 ls st h = a_do a_nL R R 104 (s_ildl 5 50 ls st h) := a_R_eq ..
theorem r104_50 (ls : A_V) (st : List Value) (h : A_H) : R 104 50 ls st h = a_do a_nL R R 104 (s_ildl 9 51 ls st h) := a_R_eq ..
theorem r104_51 (ls : A_V) (st : List Value) (h : A_H) : R 104 51 ls st h = a_do a_nL R R 104 (s_push (.int (-1)) 52 ls st h) := a_R_eq ..
theorem r104_52 (ls : A_V) (st : List Value) (h : A_H) : R 104 52 ls st h = a_do a_nL R R 104 (s_bi (fun x y => x ^^^ y) 53 ls st h) := a_R_eq ..
theorem r104_53 (ls : A_V) (st : List Value) (h : A_H) : R 104 53 ls st h = a_do a_nL R R 104 (s_bi (fun x y => x &&& y) 54 ls st h) := a_R_eq ..
theorem r104_54 (ls : A_V) (st : List Value) (h : A_H) : R 104 54 ls st h = a_do a_nL R R 104 (s_ildl 4 55 ls st h) := a_R_eq ..
theorem r104_55 (ls : A_V) (st : List Value) (h : A_H) : R 104 55 ls st h = a_do a_nL R R 104 (s_push (.int 0) 56 ls st h) := a_R_eq ..
theorem r104_56 (ls : A_V) (st : List Value) (h : A_H) : R 104 56 ls st h = a_do a_nL R R 104 (s_call 12 70 6 7 true 57 ls st h) := a_R_eq ..
theorem r104_57 (ls : A_V) (st : List Value) (h : A_H) : R 104 57 ls st h = a_do a_nL R R 104 (s_ist 10 58 ls st h) := a_R_eq ..
theorem r104_58 (ls : A_V) (st : List Value) (h : A_H) : R 104 58 ls st h = a_do a_nL R R 104 (s_ildl 10 59 ls st h) := a_R_eq ..
theorem r104_59 (ls : A_V) (st : List Value) (h : A_H) : R 104 59 ls st h = a_do a_nL R R 104 (s_ildl 9 60 ls st h) := a_R_eq ..
theorem r104_60 (ls : A_V) (st : List Value) (h : A_H) : R 104 60 ls st h = a_do a_nL R R 104 (s_ildl 8 61 ls st h) := a_R_eq ..
theorem r104_61 (ls : A_V) (st : List Value) (h : A_H) : R 104 61 ls st h = a_do a_nL R R 104 (s_ildl 7 62 ls st h) := a_R_eq ..
theorem r104_62 (ls : A_V) (st : List Value) (h : A_H) : R 104 62 ls st h = a_do a_nL R R 104 (s_call 0 101 4 4 true 63 ls st h) := a_R_eq ..
theorem r104_63 (ls : A_V) (st : List Value) (h : A_H) : R 104 63 ls st h = a_do a_nL R R 104 (s_if1 (fun x => decide (x = 0)) 68 64 ls st h) := a_R_eq ..
theorem r104_64 (ls : A_V) (st : List Value) (h : A_H) : R 104 64 ls st h = a_do a_nL R R 104 (s_ildl 10 65 ls st h) := a_R_eq ..
theorem r104_65 (ls : A_V) (st : List Value) (h : A_H) : R 104 65 ls st h = a_do a_nL R R 104 (s_ist 8 66 ls st h) := a_R_eq ..
theorem r104_66 (ls : A_V) (st : List Value) (h : A_H) : R 104 66 ls st h = a_do a_nL R R 104 (s_ildl 9 67 ls st h) := a_R_eq ..
theorem r104_67 (ls : A_V) (st : List Value) (h : A_H) : R 104 67 ls st h = a_do a_nL R R 104 (s_ist 7 68 ls st h) := a_R_eq ..
theorem r104_68 (ls : A_V) (st : List Value) (h : A_H) : R 104 68 ls st h = a_do a_nL R R 104 (s_inc 9 1 69 ls st h) := a_R_eq ..
theorem r104_69 (ls : A_V) (st : List Value) (h : A_H) : R 104 69 ls st h = a_do a_nL R R 104 (s_goto 35 ls st h) := a_R_eq ..
theorem r104_70 (ls : A_V) (st : List Value) (h : A_H) : R 104 70 ls st h = a_do a_nL R R 104 (s_ildl 7 71 ls st h) := a_R_eq ..
theorem r104_71 (ls : A_V) (st : List Value) (h : A_H) : R 104 71 ls st h = a_do a_nL R R 104 (s_iret ls st h) := a_R_eq ..
theorem b104_0 (x0 : Nat) (x1 : Int32) (x2 : Int32) (x3 : Int32) (l4 : Option Value) (l5 : Option Value) (l6 : Option Value) (l7 : Option Value) (l8 : Option Value) (l9 : Option Value) (l10 : Option Value) (h : A_H) : R 104 0 [some (.ref x0), some (.int x1), some (.int x2), some (.int x3), l4, l5, l6, l7, l8, l9, l10] [] h = (cond (isO h x0 11 && (hP h x0 5).isSome) (cond (isO h ((hP h x0 5).getD 0) 8) (cond (isO h x0 11) (a_back R 104 (146, [.ref x0, .int x1], h, true, none, 9, [some (.ref x0), some (.int x1), some (.int x2), some (.int x3), some (.int ((hI h ((hP h x0 5).getD 0) 0) + x3)), l5, l6, l7, l8, l9, l10], []) (C 146 [.ref x0, .int x1] h)) none) none) none) := (tr (r104_0 ..) (tr (r104_1 ..) (cgT (tr (r104_2 ..) (cgT (tr (r104_3 ..) (tr (r104_4 ..) (tr (r104_5 ..) (tr (r104_6 ..) (tr (r104_7 ..) (r104_8 ..)))))))))))
theorem b104_9 (x0 : Nat) (x1 : Int32) (x2 : Int32) (x3 : Int32) (x4 : Int32) (l5 : Option Value) (l6 : Option Value) (l7 : Option Value) (l8 : Option Value) (l9 : Option Value) (l10 : Option Value) (s0 : Int32) (h : A_H) : R 104 9 [some (.ref x0), some (.int x1), some (.int x2), some (.int x3), some (.int x4), l5, l6, l7, l8, l9, l10] [.int s0] h = (cond (isO h x0 11 && (hP h x0 3).isSome) (cond (isO h ((hP h x0 3).getD 0) 9) (a_back R 104 (69, [.ref ((hP h x0 3).getD 0), .int x2, .int x4, .int s0, .int s0], h, true, none, 18, [some (.ref x0), some (.int x1), some (.int x2), some (.int x3), some (.int x4), some (.int s0), l6, l7, l8, l9, l10], [.int s0]) (C 69 [.ref ((hP h x0 3).getD 0), .int x2, .int x4, .int s0, .int s0] h)) none) none) := (tr (r104_9 ..) (tr (r104_10 ..) (tr (r104_11 ..) (tr (r104_12 ..) (cgT (tr (r104_13 ..) (tr (r104_14 ..) (tr (r104_15 ..) (tr (r104_16 ..) (r104_17 ..))))))))))
theorem b104_18 (x0 : Nat) (x1 : Int32) (x2 : Int32) (x3 : Int32) (x4 : Int32) (x5 : Int32) (l6 : Option Value) (l7 : Option Value) (l8 : Option Value) (l9 : Option Value) (l10 : Option Value) (s0 : Int32) (s1 : Int32) (h : A_H) : R 104 18 [some (.ref x0), some (.int x1), some (.int x2), some (.int x3), some (.int x4), some (.int x5), l6, l7, l8, l9, l10] [.int s1, .int s0] h = (cond (isO h x0 11 && (hP h x0 3).isSome) (cond (isO h ((hP h x0 3).getD 0) 9) (a_back R 104 (70, [.ref ((hP h x0 3).getD 0), .int x1, .int (0 : Int32), .int x5, .int x4, .int (0 : Int32)], h, true, none, 32, [some (.ref x0), some (.int x1), some (.int x2), some (.int x3), some (.int x4), some (.int x5), some (.int (s0 &&& (s1 ^^^ (-1 : Int32)))), some (.int (0 : Int32)), l8, l9, l10], []) (C 70 [.ref ((hP h x0 3).getD 0), .int x1, .int (0 : Int32), .int x5, .int x4, .int (0 : Int32)] h)) none) none) := (tr (r104_18 ..) (tr (r104_19 ..) (tr (r104_20 ..) (tr (r104_21 ..) (tr (r104_22 ..) (tr (r104_23 ..) (tr (r104_24 ..) (tr (r104_25 ..) (cgT (tr (r104_26 ..) (tr (r104_27 ..) (tr (r104_28 ..) (tr (r104_29 ..) (tr (r104_30 ..) (r104_31 ..)))))))))))))))
theorem b104_32 (x0 : Nat) (x1 : Int32) (x2 : Int32) (x3 : Int32) (x4 : Int32) (x5 : Int32) (x6 : Int32) (x7 : Int32) (l8 : Option Value) (l9 : Option Value) (l10 : Option Value) (s0 : Int32) (h : A_H) : R 104 32 [some (.ref x0), some (.int x1), some (.int x2), some (.int x3), some (.int x4), some (.int x5), some (.int x6), some (.int x7), l8, l9, l10] [.int s0] h = (R 104 35 [some (.ref x0), some (.int x1), some (.int x2), some (.int x3), some (.int x4), some (.int x5), some (.int x6), some (.int x7), some (.int s0), some (.int (1 : Int32)), l10] [] h) := (tr (r104_32 ..) (tr (r104_33 ..) (r104_34 ..)))
theorem b104_35 (x0 : Nat) (x1 : Int32) (x2 : Int32) (x3 : Int32) (x4 : Int32) (x5 : Int32) (x6 : Int32) (x7 : Int32) (x8 : Int32) (x9 : Int32) (l10 : Option Value) (h : A_H) : R 104 35 [some (.ref x0), some (.int x1), some (.int x2), some (.int x3), some (.int x4), some (.int x5), some (.int x6), some (.int x7), some (.int x8), some (.int x9), l10] [] h = (cond (decide (x6 < x9)) (some (some (some (.int x7)), h)) (cond (decide ((x9 &&& (x6 ^^^ (-1 : Int32))) = 0)) (cond (isO h x0 11 && (hP h x0 3).isSome) (cond (isO h ((hP h x0 3).getD 0) 9) (a_back R 104 (70, [.ref ((hP h x0 3).getD 0), .int x1, .int (0 : Int32), .int (x5 &&& (x9 ^^^ (-1 : Int32))), .int x4, .int (0 : Int32)], h, true, none, 57, [some (.ref x0), some (.int x1), some (.int x2), some (.int x3), some (.int x4), some (.int x5), some (.int x6), some (.int x7), some (.int x8), some (.int x9), l10], []) (C 70 [.ref ((hP h x0 3).getD 0), .int x1, .int (0 : Int32), .int (x5 &&& (x9 ^^^ (-1 : Int32))), .int x4, .int (0 : Int32)] h)) none) none) (R 104 35 [some (.ref x0), some (.int x1), some (.int x2), some (.int x3), some (.int x4), some (.int x5), some (.int x6), some (.int x7), some (.int x8), some (.int (x9 + 1)), l10] [] h))) := (tr (r104_35 ..) (tr (r104_36 ..) (tr (r104_37 ..) (cgB (tr (r104_70 ..) (r104_71 ..)) (tr (r104_38 ..) (tr (r104_39 ..) (tr (r104_40 ..) (tr (r104_41 ..) (tr (r104_42 ..) (tr (r104_43 ..) (cgB (tr (r104_45 ..) (tr (r104_46 ..) (cgT (tr (r104_47 ..) (tr (r104_48 ..) (tr (r104_49 ..) (tr (r104_50 ..) (tr (r104_51 ..) (tr (r104_52 ..) (tr (r104_53 ..) (tr (r104_54 ..) (tr (r104_55 ..) (r104_56 ..))))))))))))) (tr (r104_44 ..) (tr (r104_68 ..) (r104_69 ..))))))))))))))
theorem b104_57 (x0 : Nat) (x1 : Int32) (x2 : Int32) (x3 : Int32) (x4 : Int32) (x5 : Int32) (x6 : Int32) (x7 : Int32) (x8 : Int32) (x9 : Int32) (l10 : Option Value) (s0 : Int32) (h : A_H) : R 104 57 [some (.ref x0), some (.int x1), some (.int x2), some (.int x3), some (.int x4), some (.int x5), some (.int x6), some (.int x7), some (.int x8), some (.int x9), l10] [.int s0] h = (a_back R 104 (101, [.int s0, .int x9, .int x8, .int x7], h, true, none, 63, [some (.ref x0), some (.int x1), some (.int x2), some (.int x3), some (.int x4), some (.int x5), some (.int x6), some (.int x7), some (.int x8), some (.int x9), some (.int s0)], []) (C 101 [.int s0, .int x9, .int x8, .int x7] h)) := (tr (r104_57 ..) (tr (r104_58 ..) (tr (r104_59 ..) (tr (r104_60 ..) (tr (r104_61 ..) (r104_62 ..))))))
theorem b104_63 (x0 : Nat) (x1 : Int32) (x2 : Int32) (x3 : Int32) (x4 : Int32) (x5 : Int32) (x6 : Int32) (x7 : Int32) (x8 : Int32) (x9 : Int32) (x10 : Int32) (s0 : Int32) (h : A_H) : R 104 63 [some (.ref x0), some (.int x1), some (.int x2), some (.int x3), some (.int x4), some (.int x5), some (.int x6), some (.int x7), some (.int x8), some (.int x9), some (.int x10)] [.int s0] h = (cond (decide (s0 = 0)) (R 104 35 [some (.ref x0), some (.int x1), some (.int x2), some (.int x3), some (.int x4), some (.int x5), some (.int x6), some (.int x7), some (.int x8), some (.int (x9 + 1)), some (.int x10)] [] h) (R 104 35 [some (.ref x0), some (.int x1), some (.int x2), some (.int x3), some (.int x4), some (.int x5), some (.int x6), some (.int x9), some (.int x10), some (.int (x9 + 1)), some (.int x10)] [] h)) := (tr (r104_63 ..) (cgB (tr (r104_68 ..) (r104_69 ..)) (tr (r104_64 ..) (tr (r104_65 ..) (tr (r104_66 ..) (tr (r104_67 ..) (tr (r104_68 ..) (r104_69 ..))))))))
theorem e105 (x0 : Nat) (x1 : Int32) (x2 : Int32) (x3 : Int32) (h : A_H) : C 105 [.ref x0, .int x1, .int x2, .int x3] h = R 105 0 [some (.ref x0), some (.int x1), some (.int x2), some (.int x3), none, none, none, none] [] h := rfl
theorem r105_0 (ls : A_V) (st : List Value) (h : A_H) : R 105 0 ls st h = a_do a_nL R R 105 (s_aldl 0 1 ls st h) := a_R_eq ..
theorem r105_1 (ls : A_V) (st : List Value) (h : A_H) : R 105 1 ls st h = a_do a_nL R R 105 (s_aldl 0 2 ls st h) := a_R_eq ..
theorem r105_2 (ls : A_V) (st : List Value) (h : A_H) : R 105 2 ls st h = a_do a_nL R R 105 (s_ildl 1 3 ls st h) := a_R_eq ..
theorem r105_3 (ls : A_V) (st : List Value) (h : A_H) : R 105 3 ls st h = a_do a_nL R R 105 (s_ildl 2 4 ls st h) := a_R_eq ..
theorem r105_4 (ls : A_V) (st : List Value) (h : A_H) : R 105 4 ls st h = a_do a_nL R R 105 (s_ildl 3 5 ls st h) := a_R_eq ..
theorem r105_5 (ls : A_V) (st : List Value) (h : A_H) : R 105 5 ls st h = a_do a_nL R R 105 (s_call 14 144 4 4 true 6 ls st h) := a_R_eq ..
theorem r105_6 (ls : A_V) (st : List Value) (h : A_H) : R 105 6 ls st h = a_do a_nL R R 105 (s_call 14 134 2 2 true 7 ls st h) := a_R_eq ..
theorem r105_7 (ls : A_V) (st : List Value) (h : A_H) : R 105 7 ls st h = a_do a_nL R R 105 (s_if1 (fun x => decide (x = 0)) 10 8 ls st h) := a_R_eq ..
theorem r105_8 (ls : A_V) (st : List Value) (h : A_H) : R 105 8 ls st h = a_do a_nL R R 105 (s_push (.int (-1)) 9 ls st h) := a_R_eq ..
theorem r105_9 (ls : A_V) (st : List Value) (h : A_H) : R 105 9 ls st h = a_do a_nL R R 105 (s_iret ls st h) := a_R_eq ..
theorem r105_10 (ls : A_V) (st : List Value) (h : A_H) : R 105 10 ls st h = a_do a_nL R R 105 (s_aldl 0 11 ls st h) := a_R_eq ..
theorem r105_11 (ls : A_V) (st : List Value) (h : A_H) : R 105 11 ls st h = a_do a_nL R R 105 (s_ildl 1 12 ls st h) := a_R_eq ..
theorem r105_12 (ls : A_V) (st : List Value) (h : A_H) : R 105 12 ls st h = a_do a_nL R R 105 (s_call 14 146 2 2 true 13 ls st h) := a_R_eq ..
theorem r105_13 (ls : A_V) (st : List Value) (h : A_H) : R 105 13 ls st h = a_do a_nL R R 105 (s_ist 4 14 ls st h) := a_R_eq ..
theorem r105_14 (ls : A_V) (st : List Value) (h : A_H) : R 105 14 ls st h = a_do a_nL R R 105 (s_aldl 0 15 ls st h) := a_R_eq ..
theorem r105_15 (ls : A_V) (st : List Value) (h : A_H) : R 105 15 ls st h = a_do a_nL R R 105 (s_getR 11 5 16 ls st h) := a_R_eq ..
theorem r105_16 (ls : A_V) (st : List Value) (h : A_H) : R 105 16 ls st h = a_do a_nL R R 105 (s_getI 8 0 17 ls st h) := a_R_eq ..
theorem r105_17 (ls : A_V) (st : List Value) (h : A_H) : R 105 17 ls st h = a_do a_nL R R 105 (s_ildl 3 18 ls st h) := a_R_eq ..
theorem r105_18 (ls : A_V) (st : List Value) (h : A_H) : R 105 18 ls st h = a_do a_nL R R 105 (s_bi (fun x y => x + y) 19 ls st h) := a_R_eq ..
theorem r105_19 (ls : A_V) (st : List Value) (h : A_H) : R 105 19 ls st h = a_do a_nL R R 105 (s_ist 5 20 ls st h) := a_R_eq ..
theorem r105_20 (ls : A_V) (st : List Value) (h : A_H) : R 105 20 ls st h = a_do a_nL R R 105 (s_push (.int 0) 21 ls st h) := a_R_eq ..
theorem r105_21 (ls : A_V) (st : List Value) (h : A_H) : R 105 21 ls st h = a_do a_nL R R 105 (s_ist 6 22 ls st h) := a_R_eq ..
theorem r105_22 (ls : A_V) (st : List Value) (h : A_H) : R 105 22 ls st h = a_do a_nL R R 105 (s_push (.int 0) 23 ls st h) := a_R_eq ..
theorem r105_23 (ls : A_V) (st : List Value) (h : A_H) : R 105 23 ls st h = a_do a_nL R R 105 (s_ist 7 24 ls st h) := a_R_eq ..
theorem r105_24 (ls : A_V) (st : List Value) (h : A_H) : R 105 24 ls st h = a_do a_nL R R 105 (s_ildl 7 25 ls st h) := a_R_eq ..
theorem r105_25 (ls : A_V) (st : List Value) (h : A_H) : R 105 25 ls st h = a_do a_nL R R 105 (s_aldl 0 26 ls st h) := a_R_eq ..
theorem r105_26 (ls : A_V) (st : List Value) (h : A_H) : R 105 26 ls st h = a_do a_nL R R 105 (s_getR 11 3 27 ls st h) := a_R_eq ..
theorem r105_27 (ls : A_V) (st : List Value) (h : A_H) : R 105 27 ls st h = a_do a_nL R R 105 (s_getI 9 5 28 ls st h) := a_R_eq ..
theorem r105_28 (ls : A_V) (st : List Value) (h : A_H) : R 105 28 ls st h = a_do a_nL R R 105 (s_if2 (fun x y => decide (y ≤ x)) 50 29 ls st h) := a_R_eq ..
theorem r105_29 (ls : A_V) (st : List Value) (h : A_H) : R 105 29 ls st h = a_do a_nL R R 105 (s_ildl 4 30 ls st h) := a_R_eq ..
theorem r105_30 (ls : A_V) (st : List Value) (h : A_H) : R 105 30 ls st h = a_do a_nL R R 105 (s_aldl 0 31 ls st h) := a_R_eq ..
theorem r105_31 (ls : A_V) (st : List Value) (h : A_H) : R 105 31 ls st h = a_do a_nL R R 105 (s_getR 11 5 32 ls st h) := a_R_eq ..
theorem r105_32 (ls : A_V) (st : List Value) (h : A_H) : R 105 32 ls st h = a_do a_nL R R 105 (s_getI 8 4 33 ls st h) := a_R_eq ..
theorem r105_33 (ls : A_V) (st : List Value) (h : A_H) : R 105 33 ls st h = a_do a_nL R R 105 (s_bi (fun x y => x &&& y) 34 ls st h) := a_R_eq ..
theorem r105_34 (ls : A_V) (st : List Value) (h : A_H) : R 105 34 ls st h = a_do a_nL R R 105 (s_push (.int 1) 35 ls st h) := a_R_eq ..
theorem r105_35 (ls : A_V) (st : List Value) (h : A_H) : R 105 35 ls st h = a_do a_nL R R 105 (s_ildl 7 36 ls st h) := a_R_eq ..
theorem r105_36 (ls : A_V) (st : List Value) (h : A_H) : R 105 36 ls st h = a_do a_nL R R 105 (s_bi (fun x y => x <<< (y &&& 31)) 37 ls st h) := a_R_eq ..
theorem r105_37 (ls : A_V) (st : List Value) (h : A_H) : R 105 37 ls st h = a_do a_nL R R 105 (s_bi (fun x y => x &&& y) 38 ls st h) := a_R_eq ..
theorem r105_38 (ls : A_V) (st : List Value) (h : A_H) : R 105 38 ls st h = a_do a_nL R R 105 (s_if1 (fun x => decide (x = 0)) 48 39 ls st h) := a_R_eq ..
theorem r105_39 (ls : A_V) (st : List Value) (h : A_H) : R 105 39 ls st h = a_do a_nL R R 105 (s_ildl 6 40 ls st h) := a_R_eq ..
theorem r105_40 (ls : A_V) (st : List Value) (h : A_H) : R 105 40 ls st h = a_do a_nL R R 105 (s_aldl 0 41 ls st h) := a_R_eq ..
theorem r105_41 (ls : A_V) (st : List Value) (h : A_H) : R 105 41 ls st h = a_do a_nL R R 105 (s_getR 11 3 42 ls st h) := a_R_eq ..
theorem r105_42 (ls : A_V) (st : List Value) (h : A_H) : R 105 42 ls st h = a_do a_nL R R 105 (s_ildl 7 43 ls st h) := a_R_eq ..
theorem r105_43 (ls : A_V) (st : List Value) (h : A_H) : R 105 43 ls st h = a_do a_nL R R 105 (s_ildl 5 44 ls st h) := a_R_eq ..
theorem r105_44 (ls : A_V) (st : List Value) (h : A_H) : R 105 44 ls st h = a_do a_nL R R 105 (s_ildl 4 45 ls st h) := a_R_eq ..
theorem r105_45 (ls : A_V) (st : List Value) (h : A_H) : R 105 45 ls st h = a_do a_nL R R 105 (s_call 12 62 4 7 true 46 ls st h) := a_R_eq ..
theorem r105_46 (ls : A_V) (st : List Value) (h : A_H) : R 105 46 ls st h = a_do a_nL R R 105 (s_mbi (fun x y => if x < y then y else x) 47 ls st h) := a_R_eq ..
theorem r105_47 (ls : A_V) (st : List Value) (h : A_H) : R 105 47 ls st h = a_do a_nL R R 105 (s_ist 6 48 ls st h) := a_R_eq ..
theorem r105_48 (ls : A_V) (st : List Value) (h : A_H) : R 105 48 ls st h = a_do a_nL R R 105 (s_inc 7 1 49 ls st h) := a_R_eq ..
theorem r105_49 (ls : A_V) (st : List Value) (h : A_H) : R 105 49 ls st h = a_do a_nL R R 105 (s_goto 24 ls st h) := a_R_eq ..
theorem r105_50 (ls : A_V) (st : List Value) (h : A_H) : R 105 50 ls st h = a_do a_nL R R 105 (s_push (.int 0) 51 ls st h) := a_R_eq ..
theorem r105_51 (ls : A_V) (st : List Value) (h : A_H) : R 105 51 ls st h = a_do a_nL R R 105 (s_ist 7 52 ls st h) := a_R_eq ..
theorem r105_52 (ls : A_V) (st : List Value) (h : A_H) : R 105 52 ls st h = a_do a_nL R R 105 (s_ildl 7 53 ls st h) := a_R_eq ..
theorem r105_53 (ls : A_V) (st : List Value) (h : A_H) : R 105 53 ls st h = a_do a_nL R R 105 (s_push (.int 30) 54 ls st h) := a_R_eq ..
theorem r105_54 (ls : A_V) (st : List Value) (h : A_H) : R 105 54 ls st h = a_do a_nL R R 105 (s_if2 (fun x y => decide (y < x)) 71 55 ls st h) := a_R_eq ..
theorem r105_55 (ls : A_V) (st : List Value) (h : A_H) : R 105 55 ls st h = a_do a_nL R R 105 (s_ildl 6 56 ls st h) := a_R_eq ..
theorem r105_56 (ls : A_V) (st : List Value) (h : A_H) : R 105 56 ls st h = a_do a_nL R R 105 (s_push (.int 2) 57 ls st h) := a_R_eq ..
theorem r105_57 (ls : A_V) (st : List Value) (h : A_H) : R 105 57 ls st h = a_do a_nL R R 105 (s_ildl 7 58 ls st h) := a_R_eq ..
theorem r105_58 (ls : A_V) (st : List Value) (h : A_H) : R 105 58 ls st h = a_do a_nL R R 105 (s_bi (fun x y => x * y) 59 ls st h) := a_R_eq ..
theorem r105_59 (ls : A_V) (st : List Value) (h : A_H) : R 105 59 ls st h = a_do a_nL R R 105 (s_bi (fun x y => x - y) 60 ls st h) := a_R_eq ..
theorem r105_60 (ls : A_V) (st : List Value) (h : A_H) : R 105 60 ls st h = a_do a_nL R R 105 (s_aldl 0 61 ls st h) := a_R_eq ..
theorem r105_61 (ls : A_V) (st : List Value) (h : A_H) : R 105 61 ls st h = a_do a_nL R R 105 (s_getR 11 3 62 ls st h) := a_R_eq ..
theorem r105_62 (ls : A_V) (st : List Value) (h : A_H) : R 105 62 ls st h = a_do a_nL R R 105 (s_getR 9 11 63 ls st h) := a_R_eq ..
theorem r105_63 (ls : A_V) (st : List Value) (h : A_H) : R 105 63 ls st h = a_do a_nL R R 105 (s_ildl 2 64 ls st h) := a_R_eq ..
theorem r105_64 (ls : A_V) (st : List Value) (h : A_H) : R 105 64 ls st h = a_do a_nL R R 105 (s_aal 5 65 ls st h) := a_R_eq ..
theorem r105_65 (ls : A_V) (st : List Value) (h : A_H) : R 105 65 ls st h = a_do a_nL R R 105 (s_getI 2 0 66 ls st h) := a_R_eq ..
theorem r105_66 (ls : A_V) (st : List Value) (h : A_H) : R 105 66 ls st h = a_do a_nL R R 105 (s_if2 (fun x y => decide (y ≤ x)) 69 67 ls st h) := a_R_eq ..
theorem r105_67 (ls : A_V) (st : List Value) (h : A_H) : R 105 67 ls st h = a_do a_nL R R 105 (s_ildl 7 68 ls st h) := a_R_eq ..
theorem r105_68 (ls : A_V) (st : List Value) (h : A_H) : R 105 68 ls st h = a_do a_nL R R 105 (s_iret ls st h) := a_R_eq ..
theorem r105_69 (ls : A_V) (st : List Value) (h : A_H) : R 105 69 ls st h = a_do a_nL R R 105 (s_inc 7 1 70 ls st h) := a_R_eq ..
theorem r105_70 (ls : A_V) (st : List Value) (h : A_H) : R 105 70 ls st h = a_do a_nL R R 105 (s_goto 52 ls st h) := a_R_eq ..
theorem r105_71 (ls : A_V) (st : List Value) (h : A_H) : R 105 71 ls st h = a_do a_nL R R 105 (s_push (.int (-2)) 72 ls st h) := a_R_eq ..
theorem r105_72 (ls : A_V) (st : List Value) (h : A_H) : R 105 72 ls st h = a_do a_nL R R 105 (s_iret ls st h) := a_R_eq ..
theorem b105_0 (x0 : Nat) (x1 : Int32) (x2 : Int32) (x3 : Int32) (l4 : Option Value) (l5 : Option Value) (l6 : Option Value) (l7 : Option Value) (h : A_H) : R 105 0 [some (.ref x0), some (.int x1), some (.int x2), some (.int x3), l4, l5, l6, l7] [] h = (cond (isO h x0 11) (a_back R 105 (144, [.ref x0, .int x1, .int x2, .int x3], h, true, none, 6, [some (.ref x0), some (.int x1), some (.int x2), some (.int x3), l4, l5, l6, l7], [.ref x0]) (C 144 [.ref x0, .int x1, .int x2, .int x3] h)) none) := (tr (r105_0 ..) (tr (r105_1 ..) (tr (r105_2 ..) (tr (r105_3 ..) (tr (r105_4 ..) (r105_5 ..))))))
theorem b105_6 (x0 : Nat) (x1 : Int32) (x2 : Int32) (x3 : Int32) (l4 : Option Value) (l5 : Option Value) (l6 : Option Value) (l7 : Option Value) (s0 : Nat) (s1 : Int32) (h : A_H) : R 105 6 [some (.ref x0), some (.int x1), some (.int x2), some (.int x3), l4, l5, l6, l7] [.int s1, .ref s0] h = (cond (isO h s0 11) (a_back R 105 (134, [.ref s0, .int s1], h, true, none, 7, [some (.ref x0), some (.int x1), some (.int x2), some (.int x3), l4, l5, l6, l7], []) (C 134 [.ref s0, .int s1] h)) none) := (r105_6 ..)
theorem b105_7 (x0 : Nat) (x1 : Int32) (x2 : Int32) (x3 : Int32) (l4 : Option Value) (l5 : Option Value) (l6 : Option Value) (l7 : Option Value) (s0 : Int32) (h : A_H) : R 105 7 [some (.ref x0), some (.int x1), some (.int x2), some (.int x3), l4, l5, l6, l7] [.int s0] h = (cond (decide (s0 = 0)) (cond (isO h x0 11) (a_back R 105 (146, [.ref x0, .int x1], h, true, none, 13, [some (.ref x0), some (.int x1), some (.int x2), some (.int x3), l4, l5, l6, l7], []) (C 146 [.ref x0, .int x1] h)) none) (some (some (some (.int (-1 : Int32))), h))) := (tr (r105_7 ..) (cgB (tr (r105_10 ..) (tr (r105_11 ..) (r105_12 ..))) (tr (r105_8 ..) (r105_9 ..))))
theorem b105_13 (x0 : Nat) (x1 : Int32) (x2 : Int32) (x3 : Int32) (l4 : Option Value) (l5 : Option Value) (l6 : Option Value) (l7 : Option Value) (s0 : Int32) (h : A_H) : R 105 13 [some (.ref x0), some (.int x1), some (.int x2), some (.int x3), l4, l5, l6, l7] [.int s0] h = (cond (isO h x0 11 && (hP h x0 5).isSome) (cond (isO h ((hP h x0 5).getD 0) 8) (R 105 24 [some (.ref x0), some (.int x1), some (.int x2), some (.int x3), some (.int s0), some (.int ((hI h ((hP h x0 5).getD 0) 0) + x3)), some (.int (0 : Int32)), some (.int (0 : Int32))] [] h) none) none) := (tr (r105_13 ..) (tr (r105_14 ..) (tr (r105_15 ..) (cgT (tr (r105_16 ..) (cgT (tr (r105_17 ..) (tr (r105_18 ..) (tr (r105_19 ..) (tr (r105_20 ..) (tr (r105_21 ..) (tr (r105_22 ..) (r105_23 ..)))))))))))))
theorem b105_24 (x0 : Nat) (x1 : Int32) (x2 : Int32) (x3 : Int32) (x4 : Int32) (x5 : Int32) (x6 : Int32) (x7 : Int32) (h : A_H) : R 105 24 [some (.ref x0), some (.int x1), some (.int x2), some (.int x3), some (.int x4), some (.int x5), some (.int x6), some (.int x7)] [] h = (cond (isO h x0 11 && (hP h x0 3).isSome) (cond (isO h ((hP h x0 3).getD 0) 9) (cond (decide ((hI h ((hP h x0 3).getD 0) 5) ≤ x7)) (R 105 52 [some (.ref x0), some (.int x1), some (.int x2), some (.int x3), some (.int x4), some (.int x5), some (.int x6), some (.int (0 : Int32))] [] h) (cond (isO h x0 11 && (hP h x0 5).isSome) (cond (isO h ((hP h x0 5).getD 0) 8) (cond (decide (((x4 &&& (hI h ((hP h x0 5).getD 0) 4)) &&& ((1 : Int32) <<< (x7 &&& 31))) = 0)) (R 105 24 [some (.ref x0), some (.int x1), some (.int x2), some (.int x3), some (.int x4), some (.int x5), some (.int x6), some (.int (x7 + 1))] [] h) (cond (isO h x0 11 && (hP h x0 3).isSome) (cond (isO h ((hP h x0 3).getD 0) 9) (a_back R 105 (62, [.ref ((hP h x0 3).getD 0), .int x7, .int x5, .int x4], h, true, none, 46, [some (.ref x0), some (.int x1), some (.int x2), some (.int x3), some (.int x4), some (.int x5), some (.int x6), some (.int x7)], [.int x6]) (C 62 [.ref ((hP h x0 3).getD 0), .int x7, .int x5, .int x4] h)) none) none)) none) none)) none) none) := (tr (r105_24 ..) (tr (r105_25 ..) (tr (r105_26 ..) (cgT (tr (r105_27 ..) (cgT (tr (r105_28 ..) (cgB (tr (r105_50 ..) (r105_51 ..)) (tr (r105_29 ..) (tr (r105_30 ..) (tr (r105_31 ..) (cgT (tr (r105_32 ..) (cgT (tr (r105_33 ..) (tr (r105_34 ..) (tr (r105_35 ..) (tr (r105_36 ..) (tr (r105_37 ..) (tr (r105_38 ..) (cgB (tr (r105_48 ..) (r105_49 ..)) (tr (r105_39 ..) (tr (r105_40 ..) (tr (r105_41 ..) (cgT (tr (r105_42 ..) (tr (r105_43 ..) (tr (r105_44 ..) (r105_45 ..)))))))))))))))))))))))))))))
theorem b105_46 (x0 : Nat) (x1 : Int32) (x2 : Int32) (x3 : Int32) (x4 : Int32) (x5 : Int32) (x6 : Int32) (x7 : Int32) (s0 : Int32) (s1 : Int32) (h : A_H) : R 105 46 [some (.ref x0), some (.int x1), some (.int x2), some (.int x3), some (.int x4), some (.int x5), some (.int x6), some (.int x7)] [.int s1, .int s0] h = (R 105 24 [some (.ref x0), some (.int x1), some (.int x2), some (.int x3), some (.int x4), some (.int x5), some (.int (if s0 < s1 then s1 else s0)), some (.int (x7 + 1))] [] h) := (tr (r105_46 ..) (tr (r105_47 ..) (tr (r105_48 ..) (r105_49 ..))))
theorem b105_52 (x0 : Nat) (x1 : Int32) (x2 : Int32) (x3 : Int32) (x4 : Int32) (x5 : Int32) (x6 : Int32) (x7 : Int32) (h : A_H) : R 105 52 [some (.ref x0), some (.int x1), some (.int x2), some (.int x3), some (.int x4), some (.int x5), some (.int x6), some (.int x7)] [] h = (cond (decide ((30 : Int32) < x7)) (some (some (some (.int (-2 : Int32))), h)) (cond (isO h x0 11 && (hP h x0 3).isSome) (cond (isO h ((hP h x0 3).getD 0) 9 && (hP h ((hP h x0 3).getD 0) 11).isSome) (cond (isA h ((hP h ((hP h x0 3).getD 0) 11).getD 0) 5 x2 && (hP h ((hP h ((hP h x0 3).getD 0) 11).getD 0) (x2).toNatClampNeg).isSome) (cond (isO h ((hP h ((hP h ((hP h x0 3).getD 0) 11).getD 0) (x2).toNatClampNeg).getD 0) 2) (cond (decide ((hI h ((hP h ((hP h ((hP h x0 3).getD 0) 11).getD 0) (x2).toNatClampNeg).getD 0) 0) ≤ (x6 - ((2 : Int32) * x7)))) (R 105 52 [some (.ref x0), some (.int x1), some (.int x2), some (.int x3), some (.int x4), some (.int x5), some (.int x6), some (.int (x7 + 1))] [] h) (some (some (some (.int x7)), h))) none) none) none) none)) := (tr (r105_52 ..) (tr (r105_53 ..) (tr (r105_54 ..) (cgB (tr (r105_71 ..) (r105_72 ..)) (tr (r105_55 ..) (tr (r105_56 ..) (tr (r105_57 ..) (tr (r105_58 ..) (tr (r105_59 ..) (tr (r105_60 ..) (tr (r105_61 ..) (cgT (tr (r105_62 ..) (cgT (tr (r105_63 ..) (tr (r105_64 ..) (cgT (tr (r105_65 ..) (cgT (tr (r105_66 ..) (cgB (tr (r105_69 ..) (r105_70 ..)) (tr (r105_67 ..) (r105_68 ..)))))))))))))))))))))))
theorem e106 (x0 : Nat) (x1 : Int32) (h : A_H) : C 106 [.ref x0, .int x1] h = R 106 0 [some (.ref x0), some (.int x1)] [] h := rfl
theorem r106_0 (ls : A_V) (st : List Value) (h : A_H) : R 106 0 ls st h = a_do a_nL R R 106 (s_aldl 0 1 ls st h) := a_R_eq ..
theorem r106_1 (ls : A_V) (st : List Value) (h : A_H) : R 106 1 ls st h = a_do a_nL R R 106 (s_aldl 0 2 ls st h) := a_R_eq ..
theorem r106_2 (ls : A_V) (st : List Value) (h : A_H) : R 106 2 ls st h = a_do a_nL R R 106 (s_ildl 1 3 ls st h) := a_R_eq ..
theorem r106_3 (ls : A_V) (st : List Value) (h : A_H) : R 106 3 ls st h = a_do a_nL R R 106 (s_call 14 137 2 2 true 4 ls st h) := a_R_eq ..
theorem r106_4 (ls : A_V) (st : List Value) (h : A_H) : R 106 4 ls st h = a_do a_nL R R 106 (s_call 14 134 2 2 true 5 ls st h) := a_R_eq ..
theorem r106_5 (ls : A_V) (st : List Value) (h : A_H) : R 106 5 ls st h = a_do a_nL R R 106 (s_if1 (fun x => decide (x = 0)) 8 6 ls st h) := a_R_eq ..
theorem r106_6 (ls : A_V) (st : List Value) (h : A_H) : R 106 6 ls st h = a_do a_nL R R 106 (s_push (.int (-1)) 7 ls st h) := a_R_eq ..
theorem r106_7 (ls : A_V) (st : List Value) (h : A_H) : R 106 7 ls st h = a_do a_nL R R 106 (s_iret ls st h) := a_R_eq ..
theorem r106_8 (ls : A_V) (st : List Value) (h : A_H) : R 106 8 ls st h = a_do a_nL R R 106 (s_aldl 0 9 ls st h) := a_R_eq ..
theorem r106_9 (ls : A_V) (st : List Value) (h : A_H) : R 106 9 ls st h = a_do a_nL R R 106 (s_ildl 1 10 ls st h) := a_R_eq ..
theorem r106_10 (ls : A_V) (st : List Value) (h : A_H) : R 106 10 ls st h = a_do a_nL R R 106 (s_call 14 108 2 6 true 11 ls st h) := a_R_eq ..
theorem r106_11 (ls : A_V) (st : List Value) (h : A_H) : R 106 11 ls st h = a_do a_nL R R 106 (s_iret ls st h) := a_R_eq ..
theorem b106_0 (x0 : Nat) (x1 : Int32) (h : A_H) : R 106 0 [some (.ref x0), some (.int x1)] [] h = (cond (isO h x0 11) (a_back R 106 (137, [.ref x0, .int x1], h, true, none, 4, [some (.ref x0), some (.int x1)], [.ref x0]) (C 137 [.ref x0, .int x1] h)) none) := (tr (r106_0 ..) (tr (r106_1 ..) (tr (r106_2 ..) (r106_3 ..))))
theorem b106_4 (x0 : Nat) (x1 : Int32) (s0 : Nat) (s1 : Int32) (h : A_H) : R 106 4 [some (.ref x0), some (.int x1)] [.int s1, .ref s0] h = (cond (isO h s0 11) (a_back R 106 (134, [.ref s0, .int s1], h, true, none, 5, [some (.ref x0), some (.int x1)], []) (C 134 [.ref s0, .int s1] h)) none) := (r106_4 ..)
theorem b106_5 (x0 : Nat) (x1 : Int32) (s0 : Int32) (h : A_H) : R 106 5 [some (.ref x0), some (.int x1)] [.int s0] h = (cond (decide (s0 = 0)) (cond (isO h x0 11) (a_back R 106 (108, [.ref x0, .int x1], h, true, none, 11, [some (.ref x0), some (.int x1)], []) (C 108 [.ref x0, .int x1] h)) none) (some (some (some (.int (-1 : Int32))), h))) := (tr (r106_5 ..) (cgB (tr (r106_8 ..) (tr (r106_9 ..) (r106_10 ..))) (tr (r106_6 ..) (r106_7 ..))))
theorem b106_11 (x0 : Nat) (x1 : Int32) (s0 : Int32) (h : A_H) : R 106 11 [some (.ref x0), some (.int x1)] [.int s0] h = (some (some (some (.int s0)), h)) := (r106_11 ..)
theorem e107 (x0 : Nat) (x1 : Int32) (h : A_H) : C 107 [.ref x0, .int x1] h = R 107 0 [some (.ref x0), some (.int x1)] [] h := rfl
theorem r107_0 (ls : A_V) (st : List Value) (h : A_H) : R 107 0 ls st h = a_do a_nL R R 107 (s_aldl 0 1 ls st h) := a_R_eq ..
theorem r107_1 (ls : A_V) (st : List Value) (h : A_H) : R 107 1 ls st h = a_do a_nL R R 107 (s_aldl 0 2 ls st h) := a_R_eq ..
theorem r107_2 (ls : A_V) (st : List Value) (h : A_H) : R 107 2 ls st h = a_do a_nL R R 107 (s_ildl 1 3 ls st h) := a_R_eq ..
theorem r107_3 (ls : A_V) (st : List Value) (h : A_H) : R 107 3 ls st h = a_do a_nL R R 107 (s_call 14 137 2 2 true 4 ls st h) := a_R_eq ..
theorem r107_4 (ls : A_V) (st : List Value) (h : A_H) : R 107 4 ls st h = a_do a_nL R R 107 (s_call 14 134 2 2 true 5 ls st h) := a_R_eq ..
theorem r107_5 (ls : A_V) (st : List Value) (h : A_H) : R 107 5 ls st h = a_do a_nL R R 107 (s_if1 (fun x => decide (x = 0)) 8 6 ls st h) := a_R_eq ..
theorem r107_6 (ls : A_V) (st : List Value) (h : A_H) : R 107 6 ls st h = a_do a_nL R R 107 (s_push (.int (-10000)) 7 ls st h) := a_R_eq ..
theorem r107_7 (ls : A_V) (st : List Value) (h : A_H) : R 107 7 ls st h = a_do a_nL R R 107 (s_iret ls st h) := a_R_eq ..
theorem r107_8 (ls : A_V) (st : List Value) (h : A_H) : R 107 8 ls st h = a_do a_nL R R 107 (s_aldl 0 9 ls st h) := a_R_eq ..
theorem r107_9 (ls : A_V) (st : List Value) (h : A_H) : R 107 9 ls st h = a_do a_nL R R 107 (s_ildl 1 10 ls st h) := a_R_eq ..
theorem r107_10 (ls : A_V) (st : List Value) (h : A_H) : R 107 10 ls st h = a_do a_nL R R 107 (s_aldl 0 11 ls st h) := a_R_eq ..
theorem r107_11 (ls : A_V) (st : List Value) (h : A_H) : R 107 11 ls st h = a_do a_nL R R 107 (s_ildl 1 12 ls st h) := a_R_eq ..
theorem r107_12 (ls : A_V) (st : List Value) (h : A_H) : R 107 12 ls st h = a_do a_nL R R 107 (s_call 14 108 2 6 true 13 ls st h) := a_R_eq ..
theorem r107_13 (ls : A_V) (st : List Value) (h : A_H) : R 107 13 ls st h = a_do a_nL R R 107 (s_call 14 109 3 4 true 14 ls st h) := a_R_eq ..
theorem r107_14 (ls : A_V) (st : List Value) (h : A_H) : R 107 14 ls st h = a_do a_nL R R 107 (s_iret ls st h) := a_R_eq ..
theorem b107_0 (x0 : Nat) (x1 : Int32) (h : A_H) : R 107 0 [some (.ref x0), some (.int x1)] [] h = (cond (isO h x0 11) (a_back R 107 (137, [.ref x0, .int x1], h, true, none, 4, [some (.ref x0), some (.int x1)], [.ref x0]) (C 137 [.ref x0, .int x1] h)) none) := (tr (r107_0 ..) (tr (r107_1 ..) (tr (r107_2 ..) (r107_3 ..))))
theorem b107_4 (x0 : Nat) (x1 : Int32) (s0 : Nat) (s1 : Int32) (h : A_H) : R 107 4 [some (.ref x0), some (.int x1)] [.int s1, .ref s0] h = (cond (isO h s0 11) (a_back R 107 (134, [.ref s0, .int s1], h, true, none, 5, [some (.ref x0), some (.int x1)], []) (C 134 [.ref s0, .int s1] h)) none) := (r107_4 ..)
theorem b107_5 (x0 : Nat) (x1 : Int32) (s0 : Int32) (h : A_H) : R 107 5 [some (.ref x0), some (.int x1)] [.int s0] h = (cond (decide (s0 = 0)) (cond (isO h x0 11) (a_back R 107 (108, [.ref x0, .int x1], h, true, none, 13, [some (.ref x0), some (.int x1)], [.int x1, .ref x0]) (C 108 [.ref x0, .int x1] h)) none) (some (some (some (.int (-10000 : Int32))), h))) := (tr (r107_5 ..) (cgB (tr (r107_8 ..) (tr (r107_9 ..) (tr (r107_10 ..) (tr (r107_11 ..) (r107_12 ..))))) (tr (r107_6 ..) (r107_7 ..))))
theorem b107_13 (x0 : Nat) (x1 : Int32) (s0 : Nat) (s1 : Int32) (s2 : Int32) (h : A_H) : R 107 13 [some (.ref x0), some (.int x1)] [.int s2, .int s1, .ref s0] h = (cond (isO h s0 11) (a_back R 107 (109, [.ref s0, .int s1, .int s2], h, true, none, 14, [some (.ref x0), some (.int x1)], []) (C 109 [.ref s0, .int s1, .int s2] h)) none) := (r107_13 ..)
theorem b107_14 (x0 : Nat) (x1 : Int32) (s0 : Int32) (h : A_H) : R 107 14 [some (.ref x0), some (.int x1)] [.int s0] h = (some (some (some (.int s0)), h)) := (r107_14 ..)
theorem e108 (x0 : Nat) (x1 : Int32) (h : A_H) : C 108 [.ref x0, .int x1] h = R 108 0 [some (.ref x0), some (.int x1), none, none, none, none] [] h := rfl
theorem r108_0 (ls : A_V) (st : List Value) (h : A_H) : R 108 0 ls st h = a_do a_nL R R 108 (s_push (.int 0) 1 ls st h) := a_R_eq ..
theorem r108_1 (ls : A_V) (st : List Value) (h : A_H) : R 108 1 ls st h = a_do a_nL R R 108 (s_ist 2 2 ls st h) := a_R_eq ..
theorem r108_2 (ls : A_V) (st : List Value) (h : A_H) : R 108 2 ls st h = a_do a_nL R R 108 (s_aldl 0 3 ls st h) := a_R_eq ..
theorem r108_3 (ls : A_V) (st : List Value) (h : A_H) : R 108 3 ls st h = a_do a_nL R R 108 (s_ildl 1 4 ls st h) := a_R_eq ..
theorem r108_4 (ls : A_V) (st : List Value) (h : A_H) : R 108 4 ls st h = a_do a_nL R R 108 (s_push (.int 0) 5 ls st h) := a_R_eq ..
theorem r108_5 (ls : A_V) (st : List Value) (h : A_H) : R 108 5 ls st h = a_do a_nL R R 108 (s_call 14 109 3 4 true 6 ls st h) := a_R_eq ..
theorem r108_6 (ls : A_V) (st : List Value) (h : A_H) : R 108 6 ls st h = a_do a_nL R R 108 (s_ist 3 7 ls st h) := a_R_eq ..
theorem r108_7 (ls : A_V) (st : List Value) (h : A_H) : R 108 7 ls st h = a_do a_nL R R 108 (s_push (.int 1) 8 ls st h) := a_R_eq ..
theorem r108_8 (ls : A_V) (st : List Value) (h : A_H) : R 108 8 ls st h = a_do a_nL R R 108 (s_ist 4 9 ls st h) := a_R_eq ..
theorem r108_9 (ls : A_V) (st : List Value) (h : A_H) : R 108 9 ls st h = a_do a_nL R R 108 (s_ildl 4 10 ls st h) := a_R_eq ..
theorem r108_10 (ls : A_V) (st : List Value) (h : A_H) : R 108 10 ls st h = a_do a_nL R R 108 (s_push (.int 60) 11 ls st h) := a_R_eq ..
theorem r108_11 (ls : A_V) (st : List Value) (h : A_H) : R 108 11 ls st h = a_do a_nL R R 108 (s_if2 (fun x y => decide (y < x)) 26 12 ls st h) := a_R_eq ..
theorem r108_12 (ls : A_V) (st : List Value) (h : A_H) : R 108 12 ls st h = a_do a_nL R R 108 (s_aldl 0 13 ls st h) := a_R_eq ..
theorem r108_13 (ls : A_V) (st : List Value) (h : A_H) : R 108 13 ls st h = a_do a_nL R R 108 (s_ildl 1 14 ls st h) := a_R_eq ..
theorem r108_14 (ls : A_V) (st : List Value) (h : A_H) : R 108 14 ls st h = a_do a_nL R R 108 (s_ildl 4 15 ls st h) := a_R_eq ..
theorem r108_15 (ls : A_V) (st : List Value) (h : A_H) : R 108 15 ls st h = a_do a_nL R R 108 (s_call 14 109 3 4 true 16 ls st h) := a_R_eq ..
theorem r108_16 (ls : A_V) (st : List Value) (h : A_H) : R 108 16 ls st h = a_do a_nL R R 108 (s_ist 5 17 ls st h) := a_R_eq ..
theorem r108_17 (ls : A_V) (st : List Value) (h : A_H) : R 108 17 ls st h = a_do a_nL R R 108 (s_ildl 5 18 ls st h) := a_R_eq ..
theorem r108_18 (ls : A_V) (st : List Value) (h : A_H) : R 108 18 ls st h = a_do a_nL R R 108 (s_ildl 3 19 ls st h) := a_R_eq ..
theorem r108_19 (ls : A_V) (st : List Value) (h : A_H) : R 108 19 ls st h = a_do a_nL R R 108 (s_if2 (fun x y => decide (x ≤ y)) 24 20 ls st h) := a_R_eq ..
theorem r108_20 (ls : A_V) (st : List Value) (h : A_H) : R 108 20 ls st h = a_do a_nL R R 108 (s_ildl 5 21 ls st h) := a_R_eq ..
theorem r108_21 (ls : A_V) (st : List Value) (h : A_H) : R 108 21 ls st h = a_do a_nL R R 108 (s_ist 3 22 ls st h) := a_R_eq ..
theorem r108_22 (ls : A_V) (st : List Value) (h : A_H) : R 108 22 ls st h = a_do a_nL R R 108 (s_ildl 4 23 ls st h) := a_R_eq ..
theorem r108_23 (ls : A_V) (st : List Value) (h : A_H) : R 108 23 ls st h = a_do a_nL R R 108 (s_ist 2 24 ls st h) := a_R_eq ..
theorem r108_24 (ls : A_V) (st : List Value) (h : A_H) : R 108 24 ls st h = a_do a_nL R R 108 (s_inc 4 1 25 ls st h) := a_R_eq ..
theorem r108_25 (ls : A_V) (st : List Value) (h : A_H) : R 108 25 ls st h = a_do a_nL R R 108 (s_goto 9 ls st h) := a_R_eq ..
theorem r108_26 (ls : A_V) (st : List Value) (h : A_H) : R 108 26 ls st h = a_do a_nL R R 108 (s_ildl 2 27 ls st h) := a_R_eq ..
theorem r108_27 (ls : A_V) (st : List Value) (h : A_H) : R 108 27 ls st h = a_do a_nL R R 108 (s_iret ls st h) := a_R_eq ..
theorem b108_0 (x0 : Nat) (x1 : Int32) (l2 : Option Value) (l3 : Option Value) (l4 : Option Value) (l5 : Option Value) (h : A_H) : R 108 0 [some (.ref x0), some (.int x1), l2, l3, l4, l5] [] h = (cond (isO h x0 11) (a_back R 108 (109, [.ref x0, .int x1, .int (0 : Int32)], h, true, none, 6, [some (.ref x0), some (.int x1), some (.int (0 : Int32)), l3, l4, l5], []) (C 109 [.ref x0, .int x1, .int (0 : Int32)] h)) none) := (tr (r108_0 ..) (tr (r108_1 ..) (tr (r108_2 ..) (tr (r108_3 ..) (tr (r108_4 ..) (r108_5 ..))))))
theorem b108_6 (x0 : Nat) (x1 : Int32) (x2 : Int32) (l3 : Option Value) (l4 : Option Value) (l5 : Option Value) (s0 : Int32) (h : A_H) : R 108 6 [some (.ref x0), some (.int x1), some (.int x2), l3, l4, l5] [.int s0] h = (R 108 9 [some (.ref x0), some (.int x1), some (.int x2), some (.int s0), some (.int (1 : Int32)), l5] [] h) := (tr (r108_6 ..) (tr (r108_7 ..) (r108_8 ..)))
theorem b108_9 (x0 : Nat) (x1 : Int32) (x2 : Int32) (x3 : Int32) (x4 : Int32) (l5 : Option Value) (h : A_H) : R 108 9 [some (.ref x0), some (.int x1), some (.int x2), some (.int x3), some (.int x4), l5] [] h = (cond (decide ((60 : Int32) < x4)) (some (some (some (.int x2)), h)) (cond (isO h x0 11) (a_back R 108 (109, [.ref x0, .int x1, .int x4], h, true, none, 16, [some (.ref x0), some (.int x1), some (.int x2), some (.int x3), some (.int x4), l5], []) (C 109 [.ref x0, .int x1, .int x4] h)) none)) := (tr (r108_9 ..) (tr (r108_10 ..) (tr (r108_11 ..) (cgB (tr (r108_26 ..) (r108_27 ..)) (tr (r108_12 ..) (tr (r108_13 ..) (tr (r108_14 ..) (r108_15 ..))))))))
theorem b108_16 (x0 : Nat) (x1 : Int32) (x2 : Int32) (x3 : Int32) (x4 : Int32) (l5 : Option Value) (s0 : Int32) (h : A_H) : R 108 16 [some (.ref x0), some (.int x1), some (.int x2), some (.int x3), some (.int x4), l5] [.int s0] h = (cond (decide (s0 ≤ x3)) (R 108 9 [some (.ref x0), some (.int x1), some (.int x2), some (.int x3), some (.int (x4 + 1)), some (.int s0)] [] h) (R 108 9 [some (.ref x0), some (.int x1), some (.int x4), some (.int s0), some (.int (x4 + 1)), some (.int s0)] [] h)) := (tr (r108_16 ..) (tr (r108_17 ..) (tr (r108_18 ..) (tr (r108_19 ..) (cgB (tr (r108_24 ..) (r108_25 ..)) (tr (r108_20 ..) (tr (r108_21 ..) (tr (r108_22 ..) (tr (r108_23 ..) (tr (r108_24 ..) (r108_25 ..)))))))))))
theorem e109 (x0 : Nat) (x1 : Int32) (x2 : Int32) (h : A_H) : C 109 [.ref x0, .int x1, .int x2] h = R 109 0 [some (.ref x0), some (.int x1), some (.int x2), none] [] h := rfl
theorem r109_0 (ls : A_V) (st : List Value) (h : A_H) : R 109 0 ls st h = a_do a_nL R R 109 (s_aldl 0 1 ls st h) := a_R_eq ..
theorem r109_1 (ls : A_V) (st : List Value) (h : A_H) : R 109 1 ls st h = a_do a_nL R R 109 (s_getR 11 5 2 ls st h) := a_R_eq ..
theorem r109_2 (ls : A_V) (st : List Value) (h : A_H) : R 109 2 ls st h = a_do a_nL R R 109 (s_getI 8 0 3 ls st h) := a_R_eq ..
theorem r109_3 (ls : A_V) (st : List Value) (h : A_H) : R 109 3 ls st h = a_do a_nL R R 109 (s_ildl 2 4 ls st h) := a_R_eq ..
theorem r109_4 (ls : A_V) (st : List Value) (h : A_H) : R 109 4 ls st h = a_do a_nL R R 109 (s_bi (fun x y => x + y) 5 ls st h) := a_R_eq ..
theorem r109_5 (ls : A_V) (st : List Value) (h : A_H) : R 109 5 ls st h = a_do a_nL R R 109 (s_ist 3 6 ls st h) := a_R_eq ..
theorem r109_6 (ls : A_V) (st : List Value) (h : A_H) : R 109 6 ls st h = a_do a_nL R R 109 (s_aldl 0 7 ls st h) := a_R_eq ..
theorem r109_7 (ls : A_V) (st : List Value) (h : A_H) : R 109 7 ls st h = a_do a_nL R R 109 (s_getR 11 3 8 ls st h) := a_R_eq ..
theorem r109_8 (ls : A_V) (st : List Value) (h : A_H) : R 109 8 ls st h = a_do a_nL R R 109 (s_ildl 1 9 ls st h) := a_R_eq ..
theorem r109_9 (ls : A_V) (st : List Value) (h : A_H) : R 109 9 ls st h = a_do a_nL R R 109 (s_ildl 3 10 ls st h) := a_R_eq ..
theorem r109_10 (ls : A_V) (st : List Value) (h : A_H) : R 109 10 ls st h = a_do a_nL R R 109 (s_call 12 60 3 4 true 11 ls st h) := a_R_eq ..
theorem r109_11 (ls : A_V) (st : List Value) (h : A_H) : R 109 11 ls st h = a_do a_nL R R 109 (s_aldl 0 12 ls st h) := a_R_eq ..
theorem r109_12 (ls : A_V) (st : List Value) (h : A_H) : R 109 12 ls st h = a_do a_nL R R 109 (s_getR 11 3 13 ls st h) := a_R_eq ..
theorem r109_13 (ls : A_V) (st : List Value) (h : A_H) : R 109 13 ls st h = a_do a_nL R R 109 (s_ildl 1 14 ls st h) := a_R_eq ..
theorem r109_14 (ls : A_V) (st : List Value) (h : A_H) : R 109 14 ls st h = a_do a_nL R R 109 (s_ildl 3 15 ls st h) := a_R_eq ..
theorem r109_15 (ls : A_V) (st : List Value) (h : A_H) : R 109 15 ls st h = a_do a_nL R R 109 (s_push (.int 0) 16 ls st h) := a_R_eq ..
theorem r109_16 (ls : A_V) (st : List Value) (h : A_H) : R 109 16 ls st h = a_do a_nL R R 109 (s_call 12 61 4 6 true 17 ls st h) := a_R_eq ..
theorem r109_17 (ls : A_V) (st : List Value) (h : A_H) : R 109 17 ls st h = a_do a_nL R R 109 (s_bi (fun x y => x - y) 18 ls st h) := a_R_eq ..
theorem r109_18 (ls : A_V) (st : List Value) (h : A_H) : R 109 18 ls st h = a_do a_nL R R 109 (s_aldl 0 19 ls st h) := a_R_eq ..
theorem r109_19 (ls : A_V) (st : List Value) (h : A_H) : R 109 19 ls st h = a_do a_nL R R 109 (s_getR 11 3 20 ls st h) := a_R_eq ..
theorem r109_20 (ls : A_V) (st : List Value) (h : A_H) : R 109 20 ls st h = a_do a_nL R R 109 (s_getI 9 0 21 ls st h) := a_R_eq ..
theorem r109_21 (ls : A_V) (st : List Value) (h : A_H) : R 109 21 ls st h = a_do a_nL R R 109 (s_ildl 2 22 ls st h) := a_R_eq ..
theorem r109_22 (ls : A_V) (st : List Value) (h : A_H) : R 109 22 ls st h = a_do a_nL R R 109 (s_bi (fun x y => x * y) 23 ls st h) := a_R_eq ..
theorem r109_23 (ls : A_V) (st : List Value) (h : A_H) : R 109 23 ls st h = a_do a_nL R R 109 (s_bi (fun x y => x - y) 24 ls st h) := a_R_eq ..
theorem r109_24 (ls : A_V) (st : List Value) (h : A_H) : R 109 24 ls st h = a_do a_nL R R 109 (s_iret ls st h) := a_R_eq ..
theorem b109_0 (x0 : Nat) (x1 : Int32) (x2 : Int32) (l3 : Option Value) (h : A_H) : R 109 0 [some (.ref x0), some (.int x1), some (.int x2), l3] [] h = (cond (isO h x0 11 && (hP h x0 5).isSome) (cond (isO h ((hP h x0 5).getD 0) 8) (cond (isO h x0 11 && (hP h x0 3).isSome) (cond (isO h ((hP h x0 3).getD 0) 9) (a_back R 109 (60, [.ref ((hP h x0 3).getD 0), .int x1, .int ((hI h ((hP h x0 5).getD 0) 0) + x2)], h, true, none, 11, [some (.ref x0), some (.int x1), some (.int x2), some (.int ((hI h ((hP h x0 5).getD 0) 0) + x2))], []) (C 60 [.ref ((hP h x0 3).getD 0), .int x1, .int ((hI h ((hP h x0 5).getD 0) 0) + x2)] h)) none) none) none) none) := (tr (r109_0 ..) (tr (r109_1 ..) (cgT (tr (r109_2 ..) (cgT (tr (r109_3 ..) (tr (r109_4 ..) (tr (r109_5 ..) (tr (r109_6 ..) (tr (r109_7 ..) (cgT (tr (r109_8 ..) (tr (r109_9 ..) (r109_10 ..))))))))))))))
theorem b109_11 (x0 : Nat) (x1 : Int32) (x2 : Int32) (x3 : Int32) (s0 : Int32) (h : A_H) : R 109 11 [some (.ref x0), some (.int x1), some (.int x2), some (.int x3)] [.int s0] h = (cond (isO h x0 11 && (hP h x0 3).isSome) (cond (isO h ((hP h x0 3).getD 0) 9) (a_back R 109 (61, [.ref ((hP h x0 3).getD 0), .int x1, .int x3, .int (0 : Int32)], h, true, none, 17, [some (.ref x0), some (.int x1), some (.int x2), some (.int x3)], [.int s0]) (C 61 [.ref ((hP h x0 3).getD 0), .int x1, .int x3, .int (0 : Int32)] h)) none) none) := (tr (r109_11 ..) (tr (r109_12 ..) (cgT (tr (r109_13 ..) (tr (r109_14 ..) (tr (r109_15 ..) (r109_16 ..)))))))
theorem b109_17 (x0 : Nat) (x1 : Int32) (x2 : Int32) (x3 : Int32) (s0 : Int32) (s1 : Int32) (h : A_H) : R 109 17 [some (.ref x0), some (.int x1), some (.int x2), some (.int x3)] [.int s1, .int s0] h = (cond (isO h x0 11 && (hP h x0 3).isSome) (cond (isO h ((hP h x0 3).getD 0) 9) (some (some (some (.int ((s0 - s1) - ((hI h ((hP h x0 3).getD 0) 0) * x2)))), h)) none) none) := (tr (r109_17 ..) (tr (r109_18 ..) (tr (r109_19 ..) (cgT (tr (r109_20 ..) (cgT (tr (r109_21 ..) (tr (r109_22 ..) (tr (r109_23 ..) (r109_24 ..))))))))))
theorem e110 (x0 : Nat) (x1 : Int32) (x2 : Int32) (h : A_H) : C 110 [.ref x0, .int x1, .int x2] h = R 110 0 [some (.ref x0), some (.int x1), some (.int x2)] [] h := rfl
theorem r110_0 (ls : A_V) (st : List Value) (h : A_H) : R 110 0 ls st h = a_do a_nL R R 110 (s_aldl 0 1 ls st h) := a_R_eq ..
theorem r110_1 (ls : A_V) (st : List Value) (h : A_H) : R 110 1 ls st h = a_do a_nL R R 110 (s_aldl 0 2 ls st h) := a_R_eq ..
theorem r110_2 (ls : A_V) (st : List Value) (h : A_H) : R 110 2 ls st h = a_do a_nL R R 110 (s_ildl 1 3 ls st h) := a_R_eq ..
theorem r110_3 (ls : A_V) (st : List Value) (h : A_H) : R 110 3 ls st h = a_do a_nL R R 110 (s_ildl 2 4 ls st h) := a_R_eq ..
theorem r110_4 (ls : A_V) (st : List Value) (h : A_H) : R 110 4 ls st h = a_do a_nL R R 110 (s_call 14 143 3 3 true 5 ls st h) := a_R_eq ..
theorem r110_5 (ls : A_V) (st : List Value) (h : A_H) : R 110 5 ls st h = a_do a_nL R R 110 (s_call 14 134 2 2 true 6 ls st h) := a_R_eq ..
theorem r110_6 (ls : A_V) (st : List Value) (h : A_H) : R 110 6 ls st h = a_do a_nL R R 110 (s_if1 (fun x => decide (x = 0)) 9 7 ls st h) := a_R_eq ..
theorem r110_7 (ls : A_V) (st : List Value) (h : A_H) : R 110 7 ls st h = a_do a_nL R R 110 (s_push (.int (-10000)) 8 ls st h) := a_R_eq ..
theorem r110_8 (ls : A_V) (st : List Value) (h : A_H) : R 110 8 ls st h = a_do a_nL R R 110 (s_iret ls st h) := a_R_eq ..
theorem r110_9 (ls : A_V) (st : List Value) (h : A_H) : R 110 9 ls st h = a_do a_nL R R 110 (s_aldl 0 10 ls st h) := a_R_eq ..
theorem r110_10 (ls : A_V) (st : List Value) (h : A_H) : R 110 10 ls st h = a_do a_nL R R 110 (s_getR 11 3 11 ls st h) := a_R_eq ..
theorem r110_11 (ls : A_V) (st : List Value) (h : A_H) : R 110 11 ls st h = a_do a_nL R R 110 (s_ildl 1 12 ls st h) := a_R_eq ..
theorem r110_12 (ls : A_V) (st : List Value) (h : A_H) : R 110 12 ls st h = a_do a_nL R R 110 (s_aldl 0 13 ls st h) := a_R_eq ..
theorem r110_13 (ls : A_V) (st : List Value) (h : A_H) : R 110 13 ls st h = a_do a_nL R R 110 (s_getR 11 5 14 ls st h) := a_R_eq ..
theorem r110_14 (ls : A_V) (st : List Value) (h : A_H) : R 110 14 ls st h = a_do a_nL R R 110 (s_getI 8 0 15 ls st h) := a_R_eq ..
theorem r110_15 (ls : A_V) (st : List Value) (h : A_H) : R 110 15 ls st h = a_do a_nL R R 110 (s_ildl 2 16 ls st h) := a_R_eq ..
theorem r110_16 (ls : A_V) (st : List Value) (h : A_H) : R 110 16 ls st h = a_do a_nL R R 110 (s_bi (fun x y => x + y) 17 ls st h) := a_R_eq ..
theorem r110_17 (ls : A_V) (st : List Value) (h : A_H) : R 110 17 ls st h = a_do a_nL R R 110 (s_call 12 64 3 7 true 18 ls st h) := a_R_eq ..
theorem r110_18 (ls : A_V) (st : List Value) (h : A_H) : R 110 18 ls st h = a_do a_nL R R 110 (s_iret ls st h) := a_R_eq ..
theorem b110_0 (x0 : Nat) (x1 : Int32) (x2 : Int32) (h : A_H) : R 110 0 [some (.ref x0), some (.int x1), some (.int x2)] [] h = (cond (isO h x0 11) (a_back R 110 (143, [.ref x0, .int x1, .int x2], h, true, none, 5, [some (.ref x0), some (.int x1), some (.int x2)], [.ref x0]) (C 143 [.ref x0, .int x1, .int x2] h)) none) := (tr (r110_0 ..) (tr (r110_1 ..) (tr (r110_2 ..) (tr (r110_3 ..) (r110_4 ..)))))
theorem b110_5 (x0 : Nat) (x1 : Int32) (x2 : Int32) (s0 : Nat) (s1 : Int32) (h : A_H) : R 110 5 [some (.ref x0), some (.int x1), some (.int x2)] [.int s1, .ref s0] h = (cond (isO h s0 11) (a_back R 110 (134, [.ref s0, .int s1], h, true, none, 6, [some (.ref x0), some (.int x1), some (.int x2)], []) (C 134 [.ref s0, .int s1] h)) none) := (r110_5 ..)
theorem b110_6 (x0 : Nat) (x1 : Int32) (x2 : Int32) (s0 : Int32) (h : A_H) : R 110 6 [some (.ref x0), some (.int x1), some (.int x2)] [.int s0] h = (cond (decide (s0 = 0)) (cond (isO h x0 11 && (hP h x0 3).isSome) (cond (isO h x0 11 && (hP h x0 5).isSome) (cond (isO h ((hP h x0 5).getD 0) 8) (cond (isO h ((hP h x0 3).getD 0) 9) (a_back R 110 (64, [.ref ((hP h x0 3).getD 0), .int x1, .int ((hI h ((hP h x0 5).getD 0) 0) + x2)], h, true, none, 18, [some (.ref x0), some (.int x1), some (.int x2)], []) (C 64 [.ref ((hP h x0 3).getD 0), .int x1, .int ((hI h ((hP h x0 5).getD 0) 0) + x2)] h)) none) none) none) none) (some (some (some (.int (-10000 : Int32))), h))) := (tr (r110_6 ..) (cgB (tr (r110_9 ..) (tr (r110_10 ..) (cgT (tr (r110_11 ..) (tr (r110_12 ..) (tr (r110_13 ..) (cgT (tr (r110_14 ..) (cgT (tr (r110_15 ..) (tr (r110_16 ..) (r110_17 ..)))))))))))) (tr (r110_7 ..) (r110_8 ..))))
theorem b110_18 (x0 : Nat) (x1 : Int32) (x2 : Int32) (s0 : Int32) (h : A_H) : R 110 18 [some (.ref x0), some (.int x1), some (.int x2)] [.int s0] h = (some (some (some (.int s0)), h)) := (r110_18 ..)
theorem e111 (x0 : Nat) (h : A_H) : C 111 [.ref x0] h = R 111 0 [some (.ref x0), none, none, none, none, none, none] [] h := rfl
theorem r111_0 (ls : A_V) (st : List Value) (h : A_H) : R 111 0 ls st h = a_do a_nL R R 111 (s_aldl 0 1 ls st h) := a_R_eq ..
theorem r111_1 (ls : A_V) (st : List Value) (h : A_H) : R 111 1 ls st h = a_do a_nL R R 111 (s_aldl 0 2 ls st h) := a_R_eq ..
theorem r111_2 (ls : A_V) (st : List Value) (h : A_H) : R 111 2 ls st h = a_do a_nL R R 111 (s_call 14 136 1 1 true 3 ls st h) := a_R_eq ..
theorem r111_3 (ls : A_V) (st : List Value) (h : A_H) : R 111 3 ls st h = a_do a_nL R R 111 (s_call 14 134 2 2 true 4 ls st h) := a_R_eq ..
theorem r111_4 (ls : A_V) (st : List Value) (h : A_H) : R 111 4 ls st h = a_do a_nL R R 111 (s_if1 (fun x => decide (x = 0)) 7 5 ls st h) := a_R_eq ..
theorem r111_5 (ls : A_V) (st : List Value) (h : A_H) : R 111 5 ls st h = a_do a_nL R R 111 (s_push (.int (-1)) 6 ls st h) := a_R_eq ..
theorem r111_6 (ls : A_V) (st : List Value) (h : A_H) : R 111 6 ls st h = a_do a_nL R R 111 (s_iret ls st h) := a_R_eq ..
theorem r111_7 (ls : A_V) (st : List Value) (h : A_H) : R 111 7 ls st h = a_do a_nL R R 111 (s_aldl 0 8 ls st h) := a_R_eq ..
theorem r111_8 (ls : A_V) (st : List Value) (h : A_H) : R 111 8 ls st h = a_do a_nL R R 111 (s_getR 11 5 9 ls st h) := a_R_eq ..
theorem r111_9 (ls : A_V) (st : List Value) (h : A_H) : R 111 9 ls st h = a_do a_nL R R 111 (s_call 11 51 1 1 true 10 ls st h) := a_R_eq ..
theorem r111_10 (ls : A_V) (st : List Value) (h : A_H) : R 111 10 ls st h = a_do a_nL R R 111 (s_ist 1 11 ls st h) := a_R_eq ..
theorem r111_11 (ls : A_V) (st : List Value) (h : A_H) : R 111 11 ls st h = a_do a_nL R R 111 (s_push (.int (-2)) 12 ls st h) := a_R_eq ..
theorem r111_12 (ls : A_V) (st : List Value) (h : A_H) : R 111 12 ls st h = a_do a_nL R R 111 (s_ist 2 13 ls st h) := a_R_eq ..
theorem r111_13 (ls : A_V) (st : List Value) (h : A_H) : R 111 13 ls st h = a_do a_nL R R 111 (s_push (.int (-10000)) 14 ls st h) := a_R_eq ..
theorem r111_14 (ls : A_V) (st : List Value) (h : A_H) : R 111 14 ls st h = a_do a_nL R R 111 (s_ist 3 15 ls st h) := a_R_eq ..
theorem r111_15 (ls : A_V) (st : List Value) (h : A_H) : R 111 15 ls st h = a_do a_nL R R 111 (s_push (.int 0) 16 ls st h) := a_R_eq ..
theorem r111_16 (ls : A_V) (st : List Value) (h : A_H) : R 111 16 ls st h = a_do a_nL R R 111 (s_ist 4 17 ls st h) := a_R_eq ..
theorem r111_17 (ls : A_V) (st : List Value) (h : A_H) : R 111 17 ls st h = a_do a_nL R R 111 (s_ildl 4 18 ls st h) := a_R_eq ..
theorem r111_18 (ls : A_V) (st : List Value) (h : A_H) : R 111 18 ls st h = a_do a_nL R R 111 (s_aldl 0 19 ls st h) := a_R_eq ..
theorem r111_19 (ls : A_V) (st : List Value) (h : A_H) : R 111 19 ls st h = a_do a_nL R R 111 (s_getR 11 3 20 ls st h) := a_R_eq ..
theorem r111_20 (ls : A_V) (st : List Value) (h : A_H) : R 111 20 ls st h = a_do a_nL R R 111 (s_getI 9 5 21 ls st h) := a_R_eq ..
theorem r111_21 (ls : A_V) (st : List Value) (h : A_H) : R 111 21 ls st h = a_do a_nL R R 111 (s_if2 (fun x y => decide (y ≤ x)) 58 22 ls st h) := a_R_eq ..
theorem r111_22 (ls : A_V) (st : List Value) (h : A_H) : R 111 22 ls st h = a_do a_nL R R 111 (s_push (.int 0) 23 ls st h) := a_R_eq ..
theorem r111_23 (ls : A_V) (st : List Value) (h : A_H) : R 111 23 ls st h = a_do a_nL R R 111 (s_ist 5 24 ls st h) := a_R_eq ..
theorem r111_24 (ls : A_V) (st : List Value) (h : A_H) : R 111 24 ls st h = a_do a_nL R R 111 (s_ildl 5 25 ls st h) := a_R_eq ..
theorem r111_25 (ls : A_V) (st : List Value) (h : A_H) : R 111 25 ls st h = a_do a_nL R R 111 (s_push (.int 60) 26 ls st h) := a_R_eq ..
theorem r111_26 (ls : A_V) (st : List Value) (h : A_H) : R 111 26 ls st h = a_do a_nL R R 111 (s_if2 (fun x y => decide (y < x)) 56 27 ls st h) := a_R_eq ..
theorem r111_27 (ls : A_V) (st : List Value) (h : A_H) : R 111 27 ls st h = a_do a_nL R R 111 (s_ildl 1 28 ls st h) := a_R_eq ..
theorem r111_28 (ls : A_V) (st : List Value) (h : A_H) : R 111 28 ls st h = a_do a_nL R R 111 (s_ildl 4 29 ls st h) := a_R_eq ..
theorem r111_29 (ls : A_V) (st : List Value) (h : A_H) : R 111 29 ls st h = a_do a_nL R R 111 (s_bi (fun x y => x >>> (y &&& 31)) 30 ls st h) := a_R_eq ..
theorem r111_30 (ls : A_V) (st : List Value) (h : A_H) : R 111 30 ls st h = a_do a_nL R R 111 (s_push (.int 1) 31 ls st h) := a_R_eq ..
theorem r111_31 (ls : A_V) (st : List Value) (h : A_H) : R 111 31 ls st h = a_do a_nL R R 111 (s_bi (fun x y => x &&& y) 32 ls st h) := a_R_eq ..
theorem r111_32 (ls : A_V) (st : List Value) (h : A_H) : R 111 32 ls st h = a_do a_nL R R 111 (s_if1 (fun x => !decide (x = 0)) 56 33 ls st h) := a_R_eq ..
theorem r111_33 (ls : A_V) (st : List Value) (h : A_H) : R 111 33 ls st h = a_do a_nL R R 111 (s_aldl 0 34 ls st h) := a_R_eq ..
theorem r111_34 (ls : A_V) (st : List Value) (h : A_H) : R 111 34 ls st h = a_do a_nL R R 111 (s_getR 11 3 35 ls st h) := a_R_eq ..
theorem r111_35 (ls : A_V) (st : List Value) (h : A_H) : R 111 35 ls st h = a_do a_nL R R 111 (s_ildl 4 36 ls st h) := a_R_eq ..
theorem r111_36 (ls : A_V) (st : List Value) (h : A_H) : R 111 36 ls st h = a_do a_nL R R 111 (s_aldl 0 37 ls st h) := a_R_eq ..
theorem r111_37 (ls : A_V) (st : List Value) (h : A_H) : R 111 37 ls st h = a_do a_nL R R 111 (s_getR 11 5 38 ls st h) := a_R_eq ..
theorem r111_38 (ls : A_V) (st : List Value) (h : A_H) : R 111 38 ls st h = a_do a_nL R R 111 (s_getI 8 0 39 ls st h) := a_R_eq ..
theorem r111_39 (ls : A_V) (st : List Value) (h : A_H) : R 111 39 ls st h = a_do a_nL R R 111 (s_ildl 5 40 ls st h) := a_R_eq ..
theorem r111_40 (ls : A_V) (st : List Value) (h : A_H) : R 111 40 ls st h = a_do a_nL R R 111 (s_bi (fun x y => x + y) 41 ls st h) := a_R_eq ..
theorem r111_41 (ls : A_V) (st : List Value) (h : A_H) : R 111 41 ls st h = a_do a_nL R R 111 (s_call 12 64 3 7 true 42 ls st h) := a_R_eq ..
theorem r111_42 (ls : A_V) (st : List Value) (h : A_H) : R 111 42 ls st h = a_do a_nL R R 111 (s_ist 6 43 ls st h) := a_R_eq ..
theorem r111_43 (ls : A_V) (st : List Value) (h : A_H) : R 111 43 ls st h = a_do a_nL R R 111 (s_ildl 6 44 ls st h) := a_R_eq ..
theorem r111_44 (ls : A_V) (st : List Value) (h : A_H) : R 111 44 ls st h = a_do a_nL R R 111 (s_ildl 3 45 ls st h) := a_R_eq ..
theorem r111_45 (ls : A_V) (st : List Value) (h : A_H) : R 111 45 ls st h = a_do a_nL R R 111 (s_if2 (fun x y => decide (x ≤ y)) 54 46 ls st h) := a_R_eq ..
theorem r111_46 (ls : A_V) (st : List Value) (h : A_H) : R 111 46 ls st h = a_do a_nL R R 111 (s_ildl 6 47 ls st h) := a_R_eq ..
theorem r111_47 (ls : A_V) (st : List Value) (h : A_H) : R 111 47 ls st h = a_do a_nL R R 111 (s_ist 3 48 ls st h) := a_R_eq ..
theorem r111_48 (ls : A_V) (st : List Value) (h : A_H) : R 111 48 ls st h = a_do a_nL R R 111 (s_push (.int 100) 49 ls st h) := a_R_eq ..
theorem r111_49 (ls : A_V) (st : List Value) (h : A_H) : R 111 49 ls st h = a_do a_nL R R 111 (s_ildl 4 50 ls st h) := a_R_eq ..
theorem r111_50 (ls : A_V) (st : List Value) (h : A_H) : R 111 50 ls st h = a_do a_nL R R 111 (s_bi (fun x y => x * y) 51 ls st h) := a_R_eq ..
theorem r111_51 (ls : A_V) (st : List Value) (h : A_H) : R 111 51 ls st h = a_do a_nL R R 111 (s_ildl 5 52 ls st h) := a_R_eq ..
theorem r111_52 (ls : A_V) (st : List Value) (h : A_H) : R 111 52 ls st h = a_do a_nL R R 111 (s_bi (fun x y => x + y) 53 ls st h) := a_R_eq ..
theorem r111_53 (ls : A_V) (st : List Value) (h : A_H) : R 111 53 ls st h = a_do a_nL R R 111 (s_ist 2 54 ls st h) := a_R_eq ..
theorem r111_54 (ls : A_V) (st : List Value) (h : A_H) : R 111 54 ls st h = a_do a_nL R R 111 (s_inc 5 1 55 ls st h) := a_R_eq ..
theorem r111_55 (ls : A_V) (st : List Value) (h : A_H) : R 111 55 ls st h = a_do a_nL R R 111 (s_goto 24 ls st h) := a_R_eq ..
theorem r111_56 (ls : A_V) (st : List Value) (h : A_H) : R 111 56 ls st h = a_do a_nL R R 111 (s_inc 4 1 57 ls st h) := a_R_eq ..
theorem r111_57 (ls : A_V) (st : List Value) (h : A_H) : R 111 57 ls st h = a_do a_nL R R 111 (s_goto 17 ls st h) := a_R_eq ..
theorem r111_58 (ls : A_V) (st : List Value) (h : A_H) : R 111 58 ls st h = a_do a_nL R R 111 (s_ildl 2 59 ls st h) := a_R_eq ..
theorem r111_59 (ls : A_V) (st : List Value) (h : A_H) : R 111 59 ls st h = a_do a_nL R R 111 (s_iret ls st h) := a_R_eq ..
theorem b111_0 (x0 : Nat) (l1 : Option Value) (l2 : Option Value) (l3 : Option Value) (l4 : Option Value) (l5 : Option Value) (l6 : Option Value) (h : A_H) : R 111 0 [some (.ref x0), l1, l2, l3, l4, l5, l6] [] h = (cond (isO h x0 11) (a_back R 111 (136, [.ref x0], h, true, none, 3, [some (.ref x0), l1, l2, l3, l4, l5, l6], [.ref x0]) (C 136 [.ref x0] h)) none) := (tr (r111_0 ..) (tr (r111_1 ..) (r111_2 ..)))
theorem b111_3 (x0 : Nat) (l1 : Option Value) (l2 : Option Value) (l3 : Option Value) (l4 : Option Value) (l5 : Option Value) (l6 : Option Value) (s0 : Nat) (s1 : Int32) (h : A_H) : R 111 3 [some (.ref x0), l1, l2, l3, l4, l5, l6] [.int s1, .ref s0] h = (cond (isO h s0 11) (a_back R 111 (134, [.ref s0, .int s1], h, true, none, 4, [some (.ref x0), l1, l2, l3, l4, l5, l6], []) (C 134 [.ref s0, .int s1] h)) none) := (r111_3 ..)
theorem b111_4 (x0 : Nat) (l1 : Option Value) (l2 : Option Value) (l3 : Option Value) (l4 : Option Value) (l5 : Option Value) (l6 : Option Value) (s0 : Int32) (h : A_H) : R 111 4 [some (.ref x0), l1, l2, l3, l4, l5, l6] [.int s0] h = (cond (decide (s0 = 0)) (cond (isO h x0 11 && (hP h x0 5).isSome) (cond (isO h ((hP h x0 5).getD 0) 8) (a_back R 111 (51, [.ref ((hP h x0 5).getD 0)], h, true, none, 10, [some (.ref x0), l1, l2, l3, l4, l5, l6], []) (C 51 [.ref ((hP h x0 5).getD 0)] h)) none) none) (some (some (some (.int (-1 : Int32))), h))) := (tr (r111_4 ..) (cgB (tr (r111_7 ..) (tr (r111_8 ..) (cgT (r111_9 ..)))) (tr (r111_5 ..) (r111_6 ..))))
theorem b111_10 (x0 : Nat) (l1 : Option Value) (l2 : Option Value) (l3 : Option Value) (l4 : Option Value) (l5 : Option Value) (l6 : Option Value) (s0 : Int32) (h : A_H) : R 111 10 [some (.ref x0), l1, l2, l3, l4, l5, l6] [.int s0] h = (R 111 17 [some (.ref x0), some (.int s0), some (.int (-2 : Int32)), some (.int (-10000 : Int32)), some (.int (0 : Int32)), l5, l6] [] h) := (tr (r111_10 ..) (tr (r111_11 ..) (tr (r111_12 ..) (tr (r111_13 ..) (tr (r111_14 ..) (tr (r111_15 ..) (r111_16 ..)))))))
theorem b111_17 (x0 : Nat) (x1 : Int32) (x2 : Int32) (x3 : Int32) (x4 : Int32) (l5 : Option Value) (l6 : Option Value) (h : A_H) : R 111 17 [some (.ref x0), some (.int x1), some (.int x2), some (.int x3), some (.int x4), l5, l6] [] h = (cond (isO h x0 11 && (hP h x0 3).isSome) (cond (isO h ((hP h x0 3).getD 0) 9) (cond (decide ((hI h ((hP h x0 3).getD 0) 5) ≤ x4)) (some (some (some (.int x2)), h)) (R 111 24 [some (.ref x0), some (.int x1), some (.int x2), some (.int x3), some (.int x4), some (.int (0 : Int32)), l6] [] h)) none) none) := (tr (r111_17 ..) (tr (r111_18 ..) (tr (r111_19 ..) (cgT (tr (r111_20 ..) (cgT (tr (r111_21 ..) (cgB (tr (r111_58 ..) (r111_59 ..)) (tr (r111_22 ..) (r111_23 ..))))))))))
theorem b111_24 (x0 : Nat) (x1 : Int32) (x2 : Int32) (x3 : Int32) (x4 : Int32) (x5 : Int32) (l6 : Option Value) (h : A_H) : R 111 24 [some (.ref x0), some (.int x1), some (.int x2), some (.int x3), some (.int x4), some (.int x5), l6] [] h = (cond (decide ((60 : Int32) < x5)) (R 111 17 [some (.ref x0), some (.int x1), some (.int x2), some (.int x3), some (.int (x4 + 1)), some (.int x5), l6] [] h) (cond (!decide (((x1 >>> (x4 &&& 31)) &&& (1 : Int32)) = 0)) (R 111 17 [some (.ref x0), some (.int x1), some (.int x2), some (.int x3), some (.int (x4 + 1)), some (.int x5), l6] [] h) (cond (isO h x0 11 && (hP h x0 3).isSome) (cond (isO h x0 11 && (hP h x0 5).isSome) (cond (isO h ((hP h x0 5).getD 0) 8) (cond (isO h ((hP h x0 3).getD 0) 9) (a_back R 111 (64, [.ref ((hP h x0 3).getD 0), .int x4, .int ((hI h ((hP h x0 5).getD 0) 0) + x5)], h, true, none, 42, [some (.ref x0), some (.int x1), some (.int x2), some (.int x3), some (.int x4), some (.int x5), l6], []) (C 64 [.ref ((hP h x0 3).getD 0), .int x4, .int ((hI h ((hP h x0 5).getD 0) 0) + x5)] h)) none) none) none) none))) := (tr (r111_24 ..) (tr (r111_25 ..) (tr (r111_26 ..) (cgB (tr (r111_56 ..) (r111_57 ..)) (tr (r111_27 ..) (tr (r111_28 ..) (tr (r111_29 ..) (tr (r111_30 ..) (tr (r111_31 ..) (tr (r111_32 ..) (cgB (tr (r111_56 ..) (r111_57 ..)) (tr (r111_33 ..) (tr (r111_34 ..) (cgT (tr (r111_35 ..) (tr (r111_36 ..) (tr (r111_37 ..) (cgT (tr (r111_38 ..) (cgT (tr (r111_39 ..) (tr (r111_40 ..) (r111_41 ..)))))))))))))))))))))))
theorem b111_42 (x0 : Nat) (x1 : Int32) (x2 : Int32) (x3 : Int32) (x4 : Int32) (x5 : Int32) (l6 : Option Value) (s0 : Int32) (h : A_H) : R 111 42 [some (.ref x0), some (.int x1), some (.int x2), some (.int x3), some (.int x4), some (.int x5), l6] [.int s0] h = (cond (decide (s0 ≤ x3)) (R 111 24 [some (.ref x0), some (.int x1), some (.int x2), some (.int x3), some (.int x4), some (.int (x5 + 1)), some (.int s0)] [] h) (R 111 24 [some (.ref x0), some (.int x1), some (.int (((100 : Int32) * x4) + x5)), some (.int s0), some (.int x4), some (.int (x5 + 1)), some (.int s0)] [] h)) := (tr (r111_42 ..) (tr (r111_43 ..) (tr (r111_44 ..) (tr (r111_45 ..) (cgB (tr (r111_54 ..) (r111_55 ..)) (tr (r111_46 ..) (tr (r111_47 ..) (tr (r111_48 ..) (tr (r111_49 ..) (tr (r111_50 ..) (tr (r111_51 ..) (tr (r111_52 ..) (tr (r111_53 ..) (tr (r111_54 ..) (r111_55 ..)))))))))))))))
theorem e112 (x0 : Nat) (x1 : Int32) (h : A_H) : C 112 [.ref x0, .int x1] h = R 112 0 [some (.ref x0), some (.int x1), none, none, none, none, none, none] [] h := rfl
theorem r112_0 (ls : A_V) (st : List Value) (h : A_H) : R 112 0 ls st h = a_do a_nL R R 112 (s_ildl 1 1 ls st h) := a_R_eq ..
theorem r112_1 (ls : A_V) (st : List Value) (h : A_H) : R 112 1 ls st h = a_do a_nL R R 112 (s_if1 (fun x => decide (x < 0)) 7 2 ls st h) := a_R_eq ..
theorem r112_2 (ls : A_V) (st : List Value) (h : A_H) : R 112 2 ls st h = a_do a_nL R R 112 (s_ildl 1 3 ls st h) := a_R_eq ..
theorem r112_3 (ls : A_V) (st : List Value) (h : A_H) : R 112 3 ls st h = a_do a_nL R R 112 (s_push (.int 4) 4 ls st h) := a_R_eq ..
theorem r112_4 (ls : A_V) (st : List Value) (h : A_H) : R 112 4 ls st h = a_do a_nL R R 112 (s_if2 (fun x y => decide (y < x)) 7 5 ls st h) := a_R_eq ..
theorem r112_5 (ls : A_V) (st : List Value) (h : A_H) : R 112 5 ls st h = a_do a_nL R R 112 (s_push (.int 1) 6 ls st h) := a_R_eq ..
theorem r112_6 (ls : A_V) (st : List Value) (h : A_H) : R 112 6 ls st h = a_do a_nL R R 112 (s_goto 8 ls st h) := a_R_eq ..
theorem r112_7 (ls : A_V) (st : List Value) (h : A_H) : R 112 7 ls st h = a_do a_nL R R 112 (s_push (.int 0) 8 ls st h) := a_R_eq ..
theorem r112_8 (ls : A_V) (st : List Value) (h : A_H) : R 112 8 ls st h = a_do a_nL R R 112 (s_ist 2 9 ls st h) := a_R_eq ..
theorem r112_9 (ls : A_V) (st : List Value) (h : A_H) : R 112 9 ls st h = a_do a_nL R R 112 (s_aldl 0 10 ls st h) := a_R_eq ..
theorem r112_10 (ls : A_V) (st : List Value) (h : A_H) : R 112 10 ls st h = a_do a_nL R R 112 (s_aldl 0 11 ls st h) := a_R_eq ..
theorem r112_11 (ls : A_V) (st : List Value) (h : A_H) : R 112 11 ls st h = a_do a_nL R R 112 (s_call 14 136 1 1 true 12 ls st h) := a_R_eq ..
theorem r112_12 (ls : A_V) (st : List Value) (h : A_H) : R 112 12 ls st h = a_do a_nL R R 112 (s_ildl 2 13 ls st h) := a_R_eq ..
theorem r112_13 (ls : A_V) (st : List Value) (h : A_H) : R 112 13 ls st h = a_do a_nL R R 112 (s_if1 (fun x => decide (x = 0)) 16 14 ls st h) := a_R_eq ..
theorem r112_14 (ls : A_V) (st : List Value) (h : A_H) : R 112 14 ls st h = a_do a_nL R R 112 (s_push (.int 0) 15 ls st h) := a_R_eq ..
theorem r112_15 (ls : A_V) (st : List Value) (h : A_H) : R 112 15 ls st h = a_do a_nL R R 112 (s_goto 17 ls st h) := a_R_eq ..
theorem r112_16 (ls : A_V) (st : List Value) (h : A_H) : R 112 16 ls st h = a_do a_nL R R 112 (s_push (.int 2) 17 ls st h) := a_R_eq ..
theorem r112_17 (ls : A_V) (st : List Value) (h : A_H) : R 112 17 ls st h = a_do a_nL R R 112 (s_call 0 135 2 2 true 18 ls st h) := a_R_eq ..
theorem r112_18 (ls : A_V) (st : List Value) (h : A_H) : R 112 18 ls st h = a_do a_nL R R 112 (s_call 14 134 2 2 true 19 ls st h) := a_R_eq ..
theorem r112_19 (ls : A_V) (st : List Value) (h : A_H) : R 112 19 ls st h = a_do a_nL R R 112 (s_if1 (fun x => decide (x = 0)) 22 20 ls st h) := a_R_eq ..
theorem r112_20 (ls : A_V) (st : List Value) (h : A_H) : R 112 20 ls st h = a_do a_nL R R 112 (s_push (.int (-1)) 21 ls st h) := a_R_eq ..
theorem r112_21 (ls : A_V) (st : List Value) (h : A_H) : R 112 21 ls st h = a_do a_nL R R 112 (s_iret ls st h) := a_R_eq ..
theorem r112_22 (ls : A_V) (st : List Value) (h : A_H) : R 112 22 ls st h = a_do a_nL R R 112 (s_ildl 1 23 ls st h) := a_R_eq ..
theorem r112_23 (ls : A_V) (st : List Value) (h : A_H) : R 112 23 ls st h = a_do a_nL R R 112 (s_aldl 0 24 ls st h) := a_R_eq ..
theorem r112_24 (ls : A_V) (st : List Value) (h : A_H) : R 112 24 ls st h = a_do a_nL R R 112 (s_getR 11 3 25 ls st h) := a_R_eq ..
theorem r112_25 (ls : A_V) (st : List Value) (h : A_H) : R 112 25 ls st h = a_do a_nL R R 112 (s_getI 9 3 26 ls st h) := a_R_eq ..
theorem r112_26 (ls : A_V) (st : List Value) (h : A_H) : R 112 26 ls st h = a_do a_nL R R 112 (s_mbi (fun x y => if y < x then y else x) 27 ls st h) := a_R_eq ..
theorem r112_27 (ls : A_V) (st : List Value) (h : A_H) : R 112 27 ls st h = a_do a_nL R R 112 (s_ist 3 28 ls st h) := a_R_eq ..
theorem r112_28 (ls : A_V) (st : List Value) (h : A_H) : R 112 28 ls st h = a_do a_nL R R 112 (s_push (.int 0) 29 ls st h) := a_R_eq ..
theorem r112_29 (ls : A_V) (st : List Value) (h : A_H) : R 112 29 ls st h = a_do a_nL R R 112 (s_ist 4 30 ls st h) := a_R_eq ..
theorem r112_30 (ls : A_V) (st : List Value) (h : A_H) : R 112 30 ls st h = a_do a_nL R R 112 (s_push (.int (-1)) 31 ls st h) := a_R_eq ..
theorem r112_31 (ls : A_V) (st : List Value) (h : A_H) : R 112 31 ls st h = a_do a_nL R R 112 (s_ist 5 32 ls st h) := a_R_eq ..
theorem r112_32 (ls : A_V) (st : List Value) (h : A_H) : R 112 32 ls st h = a_do a_nL R R 112 (s_push (.int 0) 33 ls st h) := a_R_eq ..
theorem r112_33 (ls : A_V) (st : List Value) (h : A_H) : R 112 33 ls st h = a_do a_nL R R 112 (s_ist 6 34 ls st h) := a_R_eq ..
theorem r112_34 (ls : A_V) (st : List Value) (h : A_H) : R 112 34 ls st h = a_do a_nL R R 112 (s_ildl 6 35 ls st h) := a_R_eq ..
theorem r112_35 (ls : A_V) (st : List Value) (h : A_H) : R 112 35 ls st h = a_do a_nL R R 112 (s_push (.int 1) 36 ls st h) := a_R_eq ..
theorem r112_36 (ls : A_V) (st : List Value) (h : A_H) : R 112 36 ls st h = a_do a_nL R R 112 (s_aldl 0 37 ls st h) := a_R_eq ..
theorem r112_37 (ls : A_V) (st : List Value) (h : A_H) : R 112 37 ls st h = a_do a_nL R R 112 (s_getR 11 3 38 ls st h) := a_R_eq ..
theorem r112_38 (ls : A_V) (st : List Value) (h : A_H) : R 112 38 ls st h = a_do a_nL R R 112 (s_getI 9 3 39 ls st h) := a_R_eq ..
theorem r112_39 (ls : A_V) (st : List Value) (h : A_H) : R 112 39 ls st h = a_do a_nL R R 112 (s_bi (fun x y => x <<< (y &&& 31)) 40 ls st h) := a_R_eq ..
theorem r112_40 (ls : A_V) (st : List Value) (h : A_H) : R 112 40 ls st h = a_do a_nL R R 112 (s_if2 (fun x y => decide (y ≤ x)) 60 41 ls st h) := a_R_eq ..
theorem r112_41 (ls : A_V) (st : List Value) (h : A_H) : R 112 41 ls st h = a_do a_nL R R 112 (s_ildl 6 42 ls st h) := a_R_eq ..
theorem r112_42 (ls : A_V) (st : List Value) (h : A_H) : R 112 42 ls st h = a_do a_nL R R 112 (s_call 0 278 1 1 true 43 ls st h) := a_R_eq ..
theorem r112_43 (ls : A_V) (st : List Value) (h : A_H) : R 112 43 ls st h = a_do a_nL R R 112 (s_ildl 3 44 ls st h) := a_R_eq ..
theorem r112_44 (ls : A_V) (st : List Value) (h : A_H) : R 112 44 ls st h = a_do a_nL R R 112 (s_if2 (fun x y => !decide (x = y)) 49 45 ls st h) := a_R_eq ..
theorem r112_45 (ls : A_V) (st : List Value) (h : A_H) : R 112 45 ls st h = a_do a_nL R R 112 (s_aldl 0 46 ls st h) := a_R_eq ..
theorem r112_46 (ls : A_V) (st : List Value) (h : A_H) : R 112 46 ls st h = a_do a_nL R R 112 (s_ildl 6 47 ls st h) := a_R_eq ..
theorem r112_47 (ls : A_V) (st : List Value) (h : A_H) : R 112 47 ls st h = a_do a_nL R R 112 (s_call 14 113 2 4 true 48 ls st h) := a_R_eq ..
theorem r112_48 (ls : A_V) (st : List Value) (h : A_H) : R 112 48 ls st h = a_do a_nL R R 112 (s_goto 50 ls st h) := a_R_eq ..
theorem r112_49 (ls : A_V) (st : List Value) (h : A_H) : R 112 49 ls st h = a_do a_nL R R 112 (s_push (.int (-1)) 50 ls st h) := a_R_eq ..
theorem r112_50 (ls : A_V) (st : List Value) (h : A_H) : R 112 50 ls st h = a_do a_nL R R 112 (s_ist 7 51 ls st h) := a_R_eq ..
theorem r112_51 (ls : A_V) (st : List Value) (h : A_H) : R 112 51 ls st h = a_do a_nL R R 112 (s_ildl 7 52 ls st h) := a_R_eq ..
theorem r112_52 (ls : A_V) (st : List Value) (h : A_H) : R 112 52 ls st h = a_do a_nL R R 112 (s_ildl 5 53 ls st h) := a_R_eq ..
theorem r112_53 (ls : A_V) (st : List Value) (h : A_H) : R 112 53 ls st h = a_do a_nL R R 112 (s_if2 (fun x y => decide (x ≤ y)) 58 54 ls st h) := a_R_eq ..
theorem r112_54 (ls : A_V) (st : List Value) (h : A_H) : R 112 54 ls st h = a_do a_nL R R 112 (s_ildl 7 55 ls st h) := a_R_eq ..
theorem r112_55 (ls : A_V) (st : List Value) (h : A_H) : R 112 55 ls st h = a_do a_nL R R 112 (s_ist 5 56 ls st h) := a_R_eq ..
theorem r112_56 (ls : A_V) (st : List Value) (h : A_H) : R 112 56 ls st h = a_do a_nL R R 112 (s_ildl 6 57 ls st h) := a_R_eq ..
theorem r112_57 (ls : A_V) (st : List Value) (h : A_H) : R 112 57 ls st h = a_do a_nL R R 112 (s_ist 4 58 ls st h) := a_R_eq ..
theorem r112_58 (ls : A_V) (st : List Value) (h : A_H) : R 112 58 ls st h = a_do a_nL R R 112 (s_inc 6 1 59 ls st h) := a_R_eq ..
theorem r112_59 (ls : A_V) (st : List Value) (h : A_H) : R 112 59 ls st h = a_do a_nL R R 112 (s_goto 34 ls st h) := a_R_eq ..
theorem r112_60 (ls : A_V) (st : List Value) (h : A_H) : R 112 60 ls st h = a_do a_nL R R 112 (s_ildl 4 61 ls st h) := a_R_eq ..
theorem r112_61 (ls : A_V) (st : List Value) (h : A_H) : R 112 61 ls st h = a_do a_nL R R 112 (s_iret ls st h) := a_R_eq ..
theorem b112_0 (x0 : Nat) (x1 : Int32) (l2 : Option Value) (l3 : Option Value) (l4 : Option Value) (l5 : Option Value) (l6 : Option Value) (l7 : Option Value) (h : A_H) : R 112 0 [some (.ref x0), some (.int x1), l2, l3, l4, l5, l6, l7] [] h = (cond (decide (x1 < 0)) (cond (isO h x0 11) (a_back R 112 (136, [.ref x0], h, true, none, 12, [some (.ref x0), some (.int x1), some (.int (0 : Int32)), l3, l4, l5, l6, l7], [.ref x0]) (C 136 [.ref x0] h)) none) (cond (decide ((4 : Int32) < x1)) (cond (isO h x0 11) (a_back R 112 (136, [.ref x0], h, true, none, 12, [some (.ref x0), some (.int x1), some (.int (0 : Int32)), l3, l4, l5, l6, l7], [.ref x0]) (C 136 [.ref x0] h)) none) (cond (isO h x0 11) (a_back R 112 (136, [.ref x0], h, true, none, 12, [some (.ref x0), some (.int x1), some (.int (1 : Int32)), l3, l4, l5, l6, l7], [.ref x0]) (C 136 [.ref x0] h)) none))) := (tr (r112_0 ..) (tr (r112_1 ..) (cgB (tr (r112_7 ..) (tr (r112_8 ..) (tr (r112_9 ..) (tr (r112_10 ..) (r112_11 ..))))) (tr (r112_2 ..) (tr (r112_3 ..) (tr (r112_4 ..) (cgB (tr (r112_7 ..) (tr (r112_8 ..) (tr (r112_9 ..) (tr (r112_10 ..) (r112_11 ..))))) (tr (r112_5 ..) (tr (r112_6 ..) (tr (r112_8 ..) (tr (r112_9 ..) (tr (r112_10 ..) (r112_11 ..)))))))))))))
theorem b112_12 (x0 : Nat) (x1 : Int32) (x2 : Int32) (l3 : Option Value) (l4 : Option Value) (l5 : Option Value) (l6 : Option Value) (l7 : Option Value) (s0 : Nat) (s1 : Int32) (h : A_H) : R 112 12 [some (.ref x0), some (.int x1), some (.int x2), l3, l4, l5, l6, l7] [.int s1, .ref s0] h = (cond (decide (x2 = 0)) (a_back R 112 (135, [.int s1, .int (2 : Int32)], h, true, none, 18, [some (.ref x0), some (.int x1), some (.int x2), l3, l4, l5, l6, l7], [.ref s0]) (C 135 [.int s1, .int (2 : Int32)] h)) (a_back R 112 (135, [.int s1, .int (0 : Int32)], h, true, none, 18, [some (.ref x0), some (.int x1), some (.int x2), l3, l4, l5, l6, l7], [.ref s0]) (C 135 [.int s1, .int (0 : Int32)] h))) := (tr (r112_12 ..) (tr (r112_13 ..) (cgB (tr (r112_16 ..) (r112_17 ..)) (tr (r112_14 ..) (tr (r112_15 ..) (r112_17 ..))))))
theorem b112_18 (x0 : Nat) (x1 : Int32) (x2 : Int32) (l3 : Option Value) (l4 : Option Value) (l5 : Option Value) (l6 : Option Value) (l7 : Option Value) (s0 : Nat) (s1 : Int32) (h : A_H) : R 112 18 [some (.ref x0), some (.int x1), some (.int x2), l3, l4, l5, l6, l7] [.int s1, .ref s0] h = (cond (isO h s0 11) (a_back R 112 (134, [.ref s0, .int s1], h, true, none, 19, [some (.ref x0), some (.int x1), some (.int x2), l3, l4, l5, l6, l7], []) (C 134 [.ref s0, .int s1] h)) none) := (r112_18 ..)
theorem b112_19 (x0 : Nat) (x1 : Int32) (x2 : Int32) (l3 : Option Value) (l4 : Option Value) (l5 : Option Value) (l6 : Option Value) (l7 : Option Value) (s0 : Int32) (h : A_H) : R 112 19 [some (.ref x0), some (.int x1), some (.int x2), l3, l4, l5, l6, l7] [.int s0] h = (cond (decide (s0 = 0)) (cond (isO h x0 11 && (hP h x0 3).isSome) (cond (isO h ((hP h x0 3).getD 0) 9) (R 112 34 [some (.ref x0), some (.int x1), some (.int x2), some (.int (if (hI h ((hP h x0 3).getD 0) 3) < x1 then (hI h ((hP h x0 3).getD 0) 3) else x1)), some (.int (0 : Int32)), some (.int (-1 : Int32)), some (.int (0 : Int32)), l7] [] h) none) none) (some (some (some (.int (-1 : Int32))), h))) := (tr (r112_19 ..) (cgB (tr (r112_22 ..) (tr (r112_23 ..) (tr (r112_24 ..) (cgT (tr (r112_25 ..) (cgT (tr (r112_26 ..) (tr (r112_27 ..) (tr (r112_28 ..) (tr (r112_29 ..) (tr (r112_30 ..) (tr (r112_31 ..) (tr (r112_32 ..) (r112_33 ..)))))))))))))) (tr (r112_20 ..) (r112_21 ..))))
theorem b112_34 (x0 : Nat) (x1 : Int32) (x2 : Int32) (x3 : Int32) (x4 : Int32) (x5 : Int32) (x6 : Int32) (l7 : Option Value) (h : A_H) : R 112 34 [some (.ref x0), some (.int x1), some (.int x2), some (.int x3), some (.int x4), some (.int x5), some (.int x6), l7] [] h = (cond (isO h x0 11 && (hP h x0 3).isSome) (cond (isO h ((hP h x0 3).getD 0) 9) (cond (decide (((1 : Int32) <<< ((hI h ((hP h x0 3).getD 0) 3) &&& 31)) ≤ x6)) (some (some (some (.int x4)), h)) (a_back R 112 (278, [.int x6], h, true, none, 43, [some (.ref x0), some (.int x1), some (.int x2), some (.int x3), some (.int x4), some (.int x5), some (.int x6), l7], []) (C 278 [.int x6] h))) none) none) := (tr (r112_34 ..) (tr (r112_35 ..) (tr (r112_36 ..) (tr (r112_37 ..) (cgT (tr (r112_38 ..) (cgT (tr (r112_39 ..) (tr (r112_40 ..) (cgB (tr (r112_60 ..) (r112_61 ..)) (tr (r112_41 ..) (r112_42 ..))))))))))))
theorem b112_43 (x0 : Nat) (x1 : Int32) (x2 : Int32) (x3 : Int32) (x4 : Int32) (x5 : Int32) (x6 : Int32) (l7 : Option Value) (s0 : Int32) (h : A_H) : R 112 43 [some (.ref x0), some (.int x1), some (.int x2), some (.int x3), some (.int x4), some (.int x5), some (.int x6), l7] [.int s0] h = (cond (!decide (s0 = x3)) (cond (decide ((-1 : Int32) ≤ x5)) (R 112 34 [some (.ref x0), some (.int x1), some (.int x2), some (.int x3), some (.int x4), some (.int x5), some (.int (x6 + 1)), some (.int (-1 : Int32))] [] h) (R 112 34 [some (.ref x0), some (.int x1), some (.int x2), some (.int x3), some (.int x6), some (.int (-1 : Int32)), some (.int (x6 + 1)), some (.int (-1 : Int32))] [] h)) (cond (isO h x0 11) (a_back R 112 (113, [.ref x0, .int x6], h, true, none, 48, [some (.ref x0), some (.int x1), some (.int x2), some (.int x3), some (.int x4), some (.int x5), some (.int x6), l7], []) (C 113 [.ref x0, .int x6] h)) none)) := (tr (r112_43 ..) (tr (r112_44 ..) (cgB (tr (r112_49 ..) (tr (r112_50 ..) (tr (r112_51 ..) (tr (r112_52 ..) (tr (r112_53 ..) (cgB (tr (r112_58 ..) (r112_59 ..)) (tr (r112_54 ..) (tr (r112_55 ..) (tr (r112_56 ..) (tr (r112_57 ..) (tr (r112_58 ..) (r112_59 ..)))))))))))) (tr (r112_45 ..) (tr (r112_46 ..) (r112_47 ..))))))
theorem b112_48 (x0 : Nat) (x1 : Int32) (x2 : Int32) (x3 : Int32) (x4 : Int32) (x5 : Int32) (x6 : Int32) (l7 : Option Value) (s0 : Int32) (h : A_H) : R 112 48 [some (.ref x0), some (.int x1), some (.int x2), some (.int x3), some (.int x4), some (.int x5), some (.int x6), l7] [.int s0] h = (cond (decide (s0 ≤ x5)) (R 112 34 [some (.ref x0), some (.int x1), some (.int x2), some (.int x3), some (.int x4), some (.int x5), some (.int (x6 + 1)), some (.int s0)] [] h) (R 112 34 [some (.ref x0), some (.int x1), some (.int x2), some (.int x3), some (.int x6), some (.int s0), some (.int (x6 + 1)), some (.int s0)] [] h)) := (tr (r112_48 ..) (tr (r112_50 ..) (tr (r112_51 ..) (tr (r112_52 ..) (tr (r112_53 ..) (cgB (tr (r112_58 ..) (r112_59 ..)) (tr (r112_54 ..) (tr (r112_55 ..) (tr (r112_56 ..) (tr (r112_57 ..) (tr (r112_58 ..) (r112_59 ..))))))))))))
theorem e113 (x0 : Nat) (x1 : Int32) (h : A_H) : C 113 [.ref x0, .int x1] h = R 113 0 [some (.ref x0), some (.int x1), none, none] [] h := rfl
theorem r113_0 (ls : A_V) (st : List Value) (h : A_H) : R 113 0 ls st h = a_do a_nL R R 113 (s_push (.int 0) 1 ls st h) := a_R_eq ..
theorem r113_1 (ls : A_V) (st : List Value) (h : A_H) : R 113 1 ls st h = a_do a_nL R R 113 (s_ist 2 2 ls st h) := a_R_eq ..
theorem r113_2 (ls : A_V) (st : List Value) (h : A_H) : R 113 2 ls st h = a_do a_nL R R 113 (s_push (.int 0) 3 ls st h) := a_R_eq ..
theorem r113_3 (ls : A_V) (st : List Value) (h : A_H) : R 113 3 ls st h = a_do a_nL R R 113 (s_ist 3 4 ls st h) := a_R_eq ..
theorem r113_4 (ls : A_V) (st : List Value) (h : A_H) : R 113 4 ls st h = a_do a_nL R R 113 (s_ildl 3 5 ls st h) := a_R_eq ..
theorem r113_5 (ls : A_V) (st : List Value) (h : A_H) : R 113 5 ls st h = a_do a_nL R R 113 (s_aldl 0 6 ls st h) := a_R_eq ..
theorem r113_6 (ls : A_V) (st : List Value) (h : A_H) : R 113 6 ls st h = a_do a_nL R R 113 (s_getR 11 3 7 ls st h) := a_R_eq ..
theorem r113_7 (ls : A_V) (st : List Value) (h : A_H) : R 113 7 ls st h = a_do a_nL R R 113 (s_getI 9 3 8 ls st h) := a_R_eq ..
theorem r113_8 (ls : A_V) (st : List Value) (h : A_H) : R 113 8 ls st h = a_do a_nL R R 113 (s_if2 (fun x y => decide (y ≤ x)) 33 9 ls st h) := a_R_eq ..
theorem r113_9 (ls : A_V) (st : List Value) (h : A_H) : R 113 9 ls st h = a_do a_nL R R 113 (s_ildl 1 10 ls st h) := a_R_eq ..
theorem r113_10 (ls : A_V) (st : List Value) (h : A_H) : R 113 10 ls st h = a_do a_nL R R 113 (s_ildl 3 11 ls st h) := a_R_eq ..
theorem r113_11 (ls : A_V) (st : List Value) (h : A_H) : R 113 11 ls st h = a_do a_nL R R 113 (s_bi (fun x y => x >>> (y &&& 31)) 12 ls st h) := a_R_eq ..
theorem r113_12 (ls : A_V) (st : List Value) (h : A_H) : R 113 12 ls st h = a_do a_nL R R 113 (s_push (.int 1) 13 ls st h) := a_R_eq ..
theorem r113_13 (ls : A_V) (st : List Value) (h : A_H) : R 113 13 ls st h = a_do a_nL R R 113 (s_bi (fun x y => x &&& y) 14 ls st h) := a_R_eq ..
theorem r113_14 (ls : A_V) (st : List Value) (h : A_H) : R 113 14 ls st h = a_do a_nL R R 113 (s_if1 (fun x => decide (x = 0)) 31 15 ls st h) := a_R_eq ..
theorem r113_15 (ls : A_V) (st : List Value) (h : A_H) : R 113 15 ls st h = a_do a_nL R R 113 (s_ildl 2 16 ls st h) := a_R_eq ..
theorem r113_16 (ls : A_V) (st : List Value) (h : A_H) : R 113 16 ls st h = a_do a_nL R R 113 (s_aldl 0 17 ls st h) := a_R_eq ..
theorem r113_17 (ls : A_V) (st : List Value) (h : A_H) : R 113 17 ls st h = a_do a_nL R R 113 (s_getR 11 3 18 ls st h) := a_R_eq ..
theorem r113_18 (ls : A_V) (st : List Value) (h : A_H) : R 113 18 ls st h = a_do a_nL R R 113 (s_aldl 0 19 ls st h) := a_R_eq ..
theorem r113_19 (ls : A_V) (st : List Value) (h : A_H) : R 113 19 ls st h = a_do a_nL R R 113 (s_ildl 3 20 ls st h) := a_R_eq ..
theorem r113_20 (ls : A_V) (st : List Value) (h : A_H) : R 113 20 ls st h = a_do a_nL R R 113 (s_call 14 146 2 2 true 21 ls st h) := a_R_eq ..
theorem r113_21 (ls : A_V) (st : List Value) (h : A_H) : R 113 21 ls st h = a_do a_nL R R 113 (s_aldl 0 22 ls st h) := a_R_eq ..
theorem r113_22 (ls : A_V) (st : List Value) (h : A_H) : R 113 22 ls st h = a_do a_nL R R 113 (s_getR 11 5 23 ls st h) := a_R_eq ..
theorem r113_23 (ls : A_V) (st : List Value) (h : A_H) : R 113 23 ls st h = a_do a_nL R R 113 (s_getI 8 4 24 ls st h) := a_R_eq ..
theorem r113_24 (ls : A_V) (st : List Value) (h : A_H) : R 113 24 ls st h = a_do a_nL R R 113 (s_bi (fun x y => x &&& y) 25 ls st h) := a_R_eq ..
theorem r113_25 (ls : A_V) (st : List Value) (h : A_H) : R 113 25 ls st h = a_do a_nL R R 113 (s_aldl 0 26 ls st h) := a_R_eq ..
theorem r113_26 (ls : A_V) (st : List Value) (h : A_H) : R 113 26 ls st h = a_do a_nL R R 113 (s_getR 11 5 27 ls st h) := a_R_eq ..
theorem r113_27 (ls : A_V) (st : List Value) (h : A_H) : R 113 27 ls st h = a_do a_nL R R 113 (s_getI 8 0 28 ls st h) := a_R_eq ..
theorem r113_28 (ls : A_V) (st : List Value) (h : A_H) : R 113 28 ls st h = a_do a_nL R R 113 (s_call 12 67 3 5 true 29 ls st h) := a_R_eq ..
theorem r113_29 (ls : A_V) (st : List Value) (h : A_H) : R 113 29 ls st h = a_do a_nL R R 113 (s_bi (fun x y => x + y) 30 ls st h) := a_R_eq ..
theorem r113_30 (ls : A_V) (st : List Value) (h : A_H) : R 113 30 ls st h = a_do a_nL R R 113 (s_ist 2 31 ls st h) := a_R_eq ..
theorem r113_31 (ls : A_V) (st : List Value) (h : A_H) : R 113 31 ls st h = a_do a_nL R R 113 (s_inc 3 1 32 ls st h) := a_R_eq ..
theorem r113_32 (ls : A_V) (st : List Value) (h : A_H) : R 113 32 ls st h = a_do a_nL R R 113 (s_goto 4 ls st h) := a_R_eq ..
theorem r113_33 (ls : A_V) (st : List Value) (h : A_H) : R 113 33 ls st h = a_do a_nL R R 113 (s_ildl 2 34 ls st h) := a_R_eq ..
theorem r113_34 (ls : A_V) (st : List Value) (h : A_H) : R 113 34 ls st h = a_do a_nL R R 113 (s_iret ls st h) := a_R_eq ..
theorem b113_0 (x0 : Nat) (x1 : Int32) (l2 : Option Value) (l3 : Option Value) (h : A_H) : R 113 0 [some (.ref x0), some (.int x1), l2, l3] [] h = (R 113 4 [some (.ref x0), some (.int x1), some (.int (0 : Int32)), some (.int (0 : Int32))] [] h) := (tr (r113_0 ..) (tr (r113_1 ..) (tr (r113_2 ..) (r113_3 ..))))
theorem b113_4 (x0 : Nat) (x1 : Int32) (x2 : Int32) (x3 : Int32) (h : A_H) : R 113 4 [some (.ref x0), some (.int x1), some (.int x2), some (.int x3)] [] h = (cond (isO h x0 11 && (hP h x0 3).isSome) (cond (isO h ((hP h x0 3).getD 0) 9) (cond (decide ((hI h ((hP h x0 3).getD 0) 3) ≤ x3)) (some (some (some (.int x2)), h)) (cond (decide (((x1 >>> (x3 &&& 31)) &&& (1 : Int32)) = 0)) (R 113 4 [some (.ref x0), some (.int x1), some (.int x2), some (.int (x3 + 1))] [] h) (cond (isO h x0 11 && (hP h x0 3).isSome) (cond (isO h x0 11) (a_back R 113 (146, [.ref x0, .int x3], h, true, none, 21, [some (.ref x0), some (.int x1), some (.int x2), some (.int x3)], [.ref ((hP h x0 3).getD 0), .int x2]) (C 146 [.ref x0, .int x3] h)) none) none))) none) none) := (tr (r113_4 ..) (tr (r113_5 ..) (tr (r113_6 ..) (cgT (tr (r113_7 ..) (cgT (tr (r113_8 ..) (cgB (tr (r113_33 ..) (r113_34 ..)) (tr (r113_9 ..) (tr (r113_10 ..) (tr (r113_11 ..) (tr (r113_12 ..) (tr (r113_13 ..) (tr (r113_14 ..) (cgB (tr (r113_31 ..) (r113_32 ..)) (tr (r113_15 ..) (tr (r113_16 ..) (tr (r113_17 ..) (cgT (tr (r113_18 ..) (tr (r113_19 ..) (r113_20 ..))))))))))))))))))))))
theorem b113_21 (x0 : Nat) (x1 : Int32) (x2 : Int32) (x3 : Int32) (s0 : Int32) (s1 : Nat) (s2 : Int32) (h : A_H) : R 113 21 [some (.ref x0), some (.int x1), some (.int x2), some (.int x3)] [.int s2, .ref s1, .int s0] h = (cond (isO h x0 11 && (hP h x0 5).isSome) (cond (isO h ((hP h x0 5).getD 0) 8) (cond (isO h x0 11 && (hP h x0 5).isSome) (cond (isO h ((hP h x0 5).getD 0) 8) (cond (isO h s1 9) (a_back R 113 (67, [.ref s1, .int (s2 &&& (hI h ((hP h x0 5).getD 0) 4)), .int (hI h ((hP h x0 5).getD 0) 0)], h, true, none, 29, [some (.ref x0), some (.int x1), some (.int x2), some (.int x3)], [.int s0]) (C 67 [.ref s1, .int (s2 &&& (hI h ((hP h x0 5).getD 0) 4)), .int (hI h ((hP h x0 5).getD 0) 0)] h)) none) none) none) none) none) := (tr (r113_21 ..) (tr (r113_22 ..) (cgT (tr (r113_23 ..) (cgT (tr (r113_24 ..) (tr (r113_25 ..) (tr (r113_26 ..) (cgT (tr (r113_27 ..) (cgT (r113_28 ..))))))))))))
theorem b113_29 (x0 : Nat) (x1 : Int32) (x2 : Int32) (x3 : Int32) (s0 : Int32) (s1 : Int32) (h : A_H) : R 113 29 [some (.ref x0), some (.int x1), some (.int x2), some (.int x3)] [.int s1, .int s0] h = (R 113 4 [some (.ref x0), some (.int x1), some (.int (s0 + s1)), some (.int (x3 + 1))] [] h) := (tr (r113_29 ..) (tr (r113_30 ..) (tr (r113_31 ..) (r113_32 ..))))
theorem e114 (x0 : Nat) (x1 : Int32) (h : A_H) : C 114 [.ref x0, .int x1] h = R 114 0 [some (.ref x0), some (.int x1)] [] h := rfl
theorem r114_0 (ls : A_V) (st : List Value) (h : A_H) : R 114 0 ls st h = a_do a_nL R R 114 (s_aldl 0 1 ls st h) := a_R_eq ..
theorem r114_1 (ls : A_V) (st : List Value) (h : A_H) : R 114 1 ls st h = a_do a_nL R R 114 (s_ildl 1 2 ls st h) := a_R_eq ..
theorem r114_2 (ls : A_V) (st : List Value) (h : A_H) : R 114 2 ls st h = a_do a_nL R R 114 (s_if1 (fun x => decide (x < 0)) 10 3 ls st h) := a_R_eq ..
theorem r114_3 (ls : A_V) (st : List Value) (h : A_H) : R 114 3 ls st h = a_do a_nL R R 114 (s_ildl 1 4 ls st h) := a_R_eq ..
theorem r114_4 (ls : A_V) (st : List Value) (h : A_H) : R 114 4 ls st h = a_do a_nL R R 114 (s_aldl 0 5 ls st h) := a_R_eq ..
theorem r114_5 (ls : A_V) (st : List Value) (h : A_H) : R 114 5 ls st h = a_do a_nL R R 114 (s_getR 11 3 6 ls st h) := a_R_eq ..
theorem r114_6 (ls : A_V) (st : List Value) (h : A_H) : R 114 6 ls st h = a_do a_nL R R 114 (s_getI 9 6 7 ls st h) := a_R_eq ..
theorem r114_7 (ls : A_V) (st : List Value) (h : A_H) : R 114 7 ls st h = a_do a_nL R R 114 (s_if2 (fun x y => decide (y ≤ x)) 10 8 ls st h) := a_R_eq ..
theorem r114_8 (ls : A_V) (st : List Value) (h : A_H) : R 114 8 ls st h = a_do a_nL R R 114 (s_push (.int 0) 9 ls st h) := a_R_eq ..
theorem r114_9 (ls : A_V) (st : List Value) (h : A_H) : R 114 9 ls st h = a_do a_nL R R 114 (s_goto 11 ls st h) := a_R_eq ..
theorem r114_10 (ls : A_V) (st : List Value) (h : A_H) : R 114 10 ls st h = a_do a_nL R R 114 (s_push (.int 1) 11 ls st h) := a_R_eq ..
theorem r114_11 (ls : A_V) (st : List Value) (h : A_H) : R 114 11 ls st h = a_do a_nL R R 114 (s_call 14 134 2 2 true 12 ls st h) := a_R_eq ..
theorem r114_12 (ls : A_V) (st : List Value) (h : A_H) : R 114 12 ls st h = a_do a_nL R R 114 (s_if1 (fun x => decide (x = 0)) 15 13 ls st h) := a_R_eq ..
theorem r114_13 (ls : A_V) (st : List Value) (h : A_H) : R 114 13 ls st h = a_do a_nL R R 114 (s_push (.int (-1)) 14 ls st h) := a_R_eq ..
theorem r114_14 (ls : A_V) (st : List Value) (h : A_H) : R 114 14 ls st h = a_do a_nL R R 114 (s_iret ls st h) := a_R_eq ..
theorem r114_15 (ls : A_V) (st : List Value) (h : A_H) : R 114 15 ls st h = a_do a_nL R R 114 (s_aldl 0 16 ls st h) := a_R_eq ..
theorem r114_16 (ls : A_V) (st : List Value) (h : A_H) : R 114 16 ls st h = a_do a_nL R R 114 (s_getR 11 7 17 ls st h) := a_R_eq ..
theorem r114_17 (ls : A_V) (st : List Value) (h : A_H) : R 114 17 ls st h = a_do a_nL R R 114 (s_aldl 0 18 ls st h) := a_R_eq ..
theorem r114_18 (ls : A_V) (st : List Value) (h : A_H) : R 114 18 ls st h = a_do a_nL R R 114 (s_getR 11 3 19 ls st h) := a_R_eq ..
theorem r114_19 (ls : A_V) (st : List Value) (h : A_H) : R 114 19 ls st h = a_do a_nL R R 114 (s_push (.int 0) 20 ls st h) := a_R_eq ..
theorem r114_20 (ls : A_V) (st : List Value) (h : A_H) : R 114 20 ls st h = a_do a_nL R R 114 (s_call 9 18 3 5 false 21 ls st h) := a_R_eq ..
theorem r114_21 (ls : A_V) (st : List Value) (h : A_H) : R 114 21 ls st h = a_do a_nL R R 114 (s_aldl 0 22 ls st h) := a_R_eq ..
theorem r114_22 (ls : A_V) (st : List Value) (h : A_H) : R 114 22 ls st h = a_do a_nL R R 114 (s_getR 11 7 23 ls st h) := a_R_eq ..
theorem r114_23 (ls : A_V) (st : List Value) (h : A_H) : R 114 23 ls st h = a_do a_nL R R 114 (s_getR 6 1 24 ls st h) := a_R_eq ..
theorem r114_24 (ls : A_V) (st : List Value) (h : A_H) : R 114 24 ls st h = a_do a_nL R R 114 (s_ildl 1 25 ls st h) := a_R_eq ..
theorem r114_25 (ls : A_V) (st : List Value) (h : A_H) : R 114 25 ls st h = a_do a_nL R R 114 (s_ial 0 26 ls st h) := a_R_eq ..
theorem r114_26 (ls : A_V) (st : List Value) (h : A_H) : R 114 26 ls st h = a_do a_nL R R 114 (s_iret ls st h) := a_R_eq ..
theorem b114_0 (x0 : Nat) (x1 : Int32) (h : A_H) : R 114 0 [some (.ref x0), some (.int x1)] [] h = (cond (decide (x1 < 0)) (cond (isO h x0 11) (a_back R 114 (134, [.ref x0, .int (1 : Int32)], h, true, none, 12, [some (.ref x0), some (.int x1)], []) (C 134 [.ref x0, .int (1 : Int32)] h)) none) (cond (isO h x0 11 && (hP h x0 3).isSome) (cond (isO h ((hP h x0 3).getD 0) 9) (cond (decide ((hI h ((hP h x0 3).getD 0) 6) ≤ x1)) (cond (isO h x0 11) (a_back R 114 (134, [.ref x0, .int (1 : Int32)], h, true, none, 12, [some (.ref x0), some (.int x1)], []) (C 134 [.ref x0, .int (1 : Int32)] h)) none) (cond (isO h x0 11) (a_back R 114 (134, [.ref x0, .int (0 : Int32)], h, true, none, 12, [some (.ref x0), some (.int x1)], []) (C 134 [.ref x0, .int (0 : Int32)] h)) none)) none) none)) := (tr (r114_0 ..) (tr (r114_1 ..) (tr (r114_2 ..) (cgB (tr (r114_10 ..) (r114_11 ..)) (tr (r114_3 ..) (tr (r114_4 ..) (tr (r114_5 ..) (cgT (tr (r114_6 ..) (cgT (tr (r114_7 ..) (cgB (tr (r114_10 ..) (r114_11 ..)) (tr (r114_8 ..) (tr (r114_9 ..) (r114_11 ..)))))))))))))))
theorem b114_12 (x0 : Nat) (x1 : Int32) (s0 : Int32) (h : A_H) : R 114 12 [some (.ref x0), some (.int x1)] [.int s0] h = (cond (decide (s0 = 0)) (cond (isO h x0 11 && (hP h x0 7).isSome) (cond (isO h x0 11 && (hP h x0 3).isSome) (cond (isO h ((hP h x0 7).getD 0) 6) (a_back R 114 (18, [.ref ((hP h x0 7).getD 0), .ref ((hP h x0 3).getD 0), .int (0 : Int32)], h, false, none, 21, [some (.ref x0), some (.int x1)], []) (C 18 [.ref ((hP h x0 7).getD 0), .ref ((hP h x0 3).getD 0), .int (0 : Int32)] h)) none) none) none) (some (some (some (.int (-1 : Int32))), h))) := (tr (r114_12 ..) (cgB (tr (r114_15 ..) (tr (r114_16 ..) (cgT (tr (r114_17 ..) (tr (r114_18 ..) (cgT (tr (r114_19 ..) (r114_20 ..)))))))) (tr (r114_13 ..) (r114_14 ..))))
theorem b114_21 (x0 : Nat) (x1 : Int32) (h : A_H) : R 114 21 [some (.ref x0), some (.int x1)] [] h = (cond (isO h x0 11 && (hP h x0 7).isSome) (cond (isO h ((hP h x0 7).getD 0) 6 && (hP h ((hP h x0 7).getD 0) 1).isSome) (cond (isA h ((hP h ((hP h x0 7).getD 0) 1).getD 0) 0 x1) (some (some (some (.int (hI h ((hP h ((hP h x0 7).getD 0) 1).getD 0) (x1).toNatClampNeg))), h)) none) none) none) := (tr (r114_21 ..) (tr (r114_22 ..) (cgT (tr (r114_23 ..) (cgT (tr (r114_24 ..) (tr (r114_25 ..) (cgT (r114_26 ..)))))))))
theorem e115 (x0 : Nat) (h : A_H) : C 115 [.ref x0] h = R 115 0 [some (.ref x0), none] [] h := rfl
theorem r115_0 (ls : A_V) (st : List Value) (h : A_H) : R 115 0 ls st h = a_do a_nL R R 115 (s_aldl 0 1 ls st h) := a_R_eq ..
theorem r115_1 (ls : A_V) (st : List Value) (h : A_H) : R 115 1 ls st h = a_do a_nL R R 115 (s_aldl 0 2 ls st h) := a_R_eq ..
theorem r115_2 (ls : A_V) (st : List Value) (h : A_H) : R 115 2 ls st h = a_do a_nL R R 115 (s_call 14 136 1 1 true 3 ls st h) := a_R_eq ..
theorem r115_3 (ls : A_V) (st : List Value) (h : A_H) : R 115 3 ls st h = a_do a_nL R R 115 (s_call 14 134 2 2 true 4 ls st h) := a_R_eq ..
theorem r115_4 (ls : A_V) (st : List Value) (h : A_H) : R 115 4 ls st h = a_do a_nL R R 115 (s_if1 (fun x => decide (x = 0)) 7 5 ls st h) := a_R_eq ..
theorem r115_5 (ls : A_V) (st : List Value) (h : A_H) : R 115 5 ls st h = a_do a_nL R R 115 (s_push (.int (-1)) 6 ls st h) := a_R_eq ..
theorem r115_6 (ls : A_V) (st : List Value) (h : A_H) : R 115 6 ls st h = a_do a_nL R R 115 (s_iret ls st h) := a_R_eq ..
theorem r115_7 (ls : A_V) (st : List Value) (h : A_H) : R 115 7 ls st h = a_do a_nL R R 115 (s_push (.int 0) 8 ls st h) := a_R_eq ..
theorem r115_8 (ls : A_V) (st : List Value) (h : A_H) : R 115 8 ls st h = a_do a_nL R R 115 (s_ist 1 9 ls st h) := a_R_eq ..
theorem r115_9 (ls : A_V) (st : List Value) (h : A_H) : R 115 9 ls st h = a_do a_nL R R 115 (s_ildl 1 10 ls st h) := a_R_eq ..
theorem r115_10 (ls : A_V) (st : List Value) (h : A_H) : R 115 10 ls st h = a_do a_nL R R 115 (s_aldl 0 11 ls st h) := a_R_eq ..
theorem r115_11 (ls : A_V) (st : List Value) (h : A_H) : R 115 11 ls st h = a_do a_nL R R 115 (s_getR 11 3 12 ls st h) := a_R_eq ..
theorem r115_12 (ls : A_V) (st : List Value) (h : A_H) : R 115 12 ls st h = a_do a_nL R R 115 (s_getI 9 6 13 ls st h) := a_R_eq ..
theorem r115_13 (ls : A_V) (st : List Value) (h : A_H) : R 115 13 ls st h = a_do a_nL R R 115 (s_if2 (fun x y => decide (y ≤ x)) 27 14 ls st h) := a_R_eq ..
theorem r115_14 (ls : A_V) (st : List Value) (h : A_H) : R 115 14 ls st h = a_do a_nL R R 115 (s_aldl 0 15 ls st h) := a_R_eq ..
theorem r115_15 (ls : A_V) (st : List Value) (h : A_H) : R 115 15 ls st h = a_do a_nL R R 115 (s_getR 11 3 16 ls st h) := a_R_eq ..
theorem r115_16 (ls : A_V) (st : List Value) (h : A_H) : R 115 16 ls st h = a_do a_nL R R 115 (s_aldl 0 17 ls st h) := a_R_eq ..
theorem r115_17 (ls : A_V) (st : List Value) (h : A_H) : R 115 17 ls st h = a_do a_nL R R 115 (s_getR 11 3 18 ls st h) := a_R_eq ..
theorem r115_18 (ls : A_V) (st : List Value) (h : A_H) : R 115 18 ls st h = a_do a_nL R R 115 (s_getR 9 13 19 ls st h) := a_R_eq ..
theorem r115_19 (ls : A_V) (st : List Value) (h : A_H) : R 115 19 ls st h = a_do a_nL R R 115 (s_ildl 1 20 ls st h) := a_R_eq ..
theorem r115_20 (ls : A_V) (st : List Value) (h : A_H) : R 115 20 ls st h = a_do a_nL R R 115 (s_aal 7 21 ls st h) := a_R_eq ..
theorem r115_21 (ls : A_V) (st : List Value) (h : A_H) : R 115 21 ls st h = a_do a_nL R R 115 (s_call 12 72 2 3 true 22 ls st h) := a_R_eq ..
theorem r115_22 (ls : A_V) (st : List Value) (h : A_H) : R 115 22 ls st h = a_do a_nL R R 115 (s_if1 (fun x => !decide (x = 0)) 25 23 ls st h) := a_R_eq ..
theorem r115_23 (ls : A_V) (st : List Value) (h : A_H) : R 115 23 ls st h = a_do a_nL R R 115 (s_ildl 1 24 ls st h) := a_R_eq ..
theorem r115_24 (ls : A_V) (st : List Value) (h : A_H) : R 115 24 ls st h = a_do a_nL R R 115 (s_iret ls st h) := a_R_eq ..
theorem r115_25 (ls : A_V) (st : List Value) (h : A_H) : R 115 25 ls st h = a_do a_nL R R 115 (s_inc 1 1 26 ls st h) := a_R_eq ..
theorem r115_26 (ls : A_V) (st : List Value) (h : A_H) : R 115 26 ls st h = a_do a_nL R R 115 (s_goto 9 ls st h) := a_R_eq ..
theorem r115_27 (ls : A_V) (st : List Value) (h : A_H) : R 115 27 ls st h = a_do a_nL R R 115 (s_push (.int (-2)) 28 ls st h) := a_R_eq ..
theorem r115_28 (ls : A_V) (st : List Value) (h : A_H) : R 115 28 ls st h = a_do a_nL R R 115 (s_iret ls st h) := a_R_eq ..
theorem b115_0 (x0 : Nat) (l1 : Option Value) (h : A_H) : R 115 0 [some (.ref x0), l1] [] h = (cond (isO h x0 11) (a_back R 115 (136, [.ref x0], h, true, none, 3, [some (.ref x0), l1], [.ref x0]) (C 136 [.ref x0] h)) none) := (tr (r115_0 ..) (tr (r115_1 ..) (r115_2 ..)))
theorem b115_3 (x0 : Nat) (l1 : Option Value) (s0 : Nat) (s1 : Int32) (h : A_H) : R 115 3 [some (.ref x0), l1] [.int s1, .ref s0] h = (cond (isO h s0 11) (a_back R 115 (134, [.ref s0, .int s1], h, true, none, 4, [some (.ref x0), l1], []) (C 134 [.ref s0, .int s1] h)) none) := (r115_3 ..)
theorem b115_4 (x0 : Nat) (l1 : Option Value) (s0 : Int32) (h : A_H) : R 115 4 [some (.ref x0), l1] [.int s0] h = (cond (decide (s0 = 0)) (R 115 9 [some (.ref x0), some (.int (0 : Int32))] [] h) (some (some (some (.int (-1 : Int32))), h))) := (tr (r115_4 ..) (cgB (tr (r115_7 ..) (r115_8 ..)) (tr (r115_5 ..) (r115_6 ..))))
theorem b115_9 (x0 : Nat) (x1 : Int32) (h : A_H) : R 115 9 [some (.ref x0), some (.int x1)] [] h = (cond (isO h x0 11 && (hP h x0 3).isSome) (cond (isO h ((hP h x0 3).getD 0) 9) (cond (decide ((hI h ((hP h x0 3).getD 0) 6) ≤ x1)) (some (some (some (.int (-2 : Int32))), h)) (cond (isO h x0 11 && (hP h x0 3).isSome) (cond (isO h x0 11 && (hP h x0 3).isSome) (cond (isO h ((hP h x0 3).getD 0) 9 && (hP h ((hP h x0 3).getD 0) 13).isSome) (cond (isA h ((hP h ((hP h x0 3).getD 0) 13).getD 0) 7 x1 && (hP h ((hP h ((hP h x0 3).getD 0) 13).getD 0) (x1).toNatClampNeg).isSome) (cond (isO h ((hP h x0 3).getD 0) 9) (a_back R 115 (72, [.ref ((hP h x0 3).getD 0), .ref ((hP h ((hP h ((hP h x0 3).getD 0) 13).getD 0) (x1).toNatClampNeg).getD 0)], h, true, none, 22, [some (.ref x0), some (.int x1)], []) (C 72 [.ref ((hP h x0 3).getD 0), .ref ((hP h ((hP h ((hP h x0 3).getD 0) 13).getD 0) (x1).toNatClampNeg).getD 0)] h)) none) none) none) none) none)) none) none) := (tr (r115_9 ..) (tr (r115_10 ..) (tr (r115_11 ..) (cgT (tr (r115_12 ..) (cgT (tr (r115_13 ..) (cgB (tr (r115_27 ..) (r115_28 ..)) (tr (r115_14 ..) (tr (r115_15 ..) (cgT (tr (r115_16 ..) (tr (r115_17 ..) (cgT (tr (r115_18 ..) (cgT (tr (r115_19 ..) (tr (r115_20 ..) (cgT (r115_21 ..))))))))))))))))))))
theorem b115_22 (x0 : Nat) (x1 : Int32) (s0 : Int32) (h : A_H) : R 115 22 [some (.ref x0), some (.int x1)] [.int s0] h = (cond (!decide (s0 = 0)) (R 115 9 [some (.ref x0), some (.int (x1 + 1))] [] h) (some (some (some (.int x1)), h))) := (tr (r115_22 ..) (cgB (tr (r115_25 ..) (r115_26 ..)) (tr (r115_23 ..) (r115_24 ..))))
theorem e116 (x0 : Nat) (x1 : Int32) (h : A_H) : C 116 [.ref x0, .int x1] h = R 116 0 [some (.ref x0), some (.int x1)] [] h := rfl
theorem r116_0 (ls : A_V) (st : List Value) (h : A_H) : R 116 0 ls st h = a_do a_nL R R 116 (s_aldl 0 1 ls st h) := a_R_eq ..
theorem r116_1 (ls : A_V) (st : List Value) (h : A_H) : R 116 1 ls st h = a_do a_nL R R 116 (s_aldl 0 2 ls st h) := a_R_eq ..
theorem r116_2 (ls : A_V) (st : List Value) (h : A_H) : R 116 2 ls st h = a_do a_nL R R 116 (s_call 14 136 1 1 true 3 ls st h) := a_R_eq ..
theorem r116_3 (ls : A_V) (st : List Value) (h : A_H) : R 116 3 ls st h = a_do a_nL R R 116 (s_call 14 134 2 2 true 4 ls st h) := a_R_eq ..
theorem r116_4 (ls : A_V) (st : List Value) (h : A_H) : R 116 4 ls st h = a_do a_nL R R 116 (s_if1 (fun x => decide (x = 0)) 7 5 ls st h) := a_R_eq ..
theorem r116_5 (ls : A_V) (st : List Value) (h : A_H) : R 116 5 ls st h = a_do a_nL R R 116 (s_push (.int (-1)) 6 ls st h) := a_R_eq ..
theorem r116_6 (ls : A_V) (st : List Value) (h : A_H) : R 116 6 ls st h = a_do a_nL R R 116 (s_iret ls st h) := a_R_eq ..
theorem r116_7 (ls : A_V) (st : List Value) (h : A_H) : R 116 7 ls st h = a_do a_nL R R 116 (s_aldl 0 8 ls st h) := a_R_eq ..
theorem r116_8 (ls : A_V) (st : List Value) (h : A_H) : R 116 8 ls st h = a_do a_nL R R 116 (s_getR 11 7 9 ls st h) := a_R_eq ..
theorem r116_9 (ls : A_V) (st : List Value) (h : A_H) : R 116 9 ls st h = a_do a_nL R R 116 (s_aldl 0 10 ls st h) := a_R_eq ..
theorem r116_10 (ls : A_V) (st : List Value) (h : A_H) : R 116 10 ls st h = a_do a_nL R R 116 (s_getR 11 3 11 ls st h) := a_R_eq ..
theorem r116_11 (ls : A_V) (st : List Value) (h : A_H) : R 116 11 ls st h = a_do a_nL R R 116 (s_push (.int 0) 12 ls st h) := a_R_eq ..
theorem r116_12 (ls : A_V) (st : List Value) (h : A_H) : R 116 12 ls st h = a_do a_nL R R 116 (s_call 9 18 3 5 false 13 ls st h) := a_R_eq ..
theorem r116_13 (ls : A_V) (st : List Value) (h : A_H) : R 116 13 ls st h = a_do a_nL R R 116 (s_ildl 1 14 ls st h) := a_R_eq ..
theorem r116_14 (ls : A_V) (st : List Value) (h : A_H) : R 116 14 ls st h = a_do a_nL R R 116 (s_if1 (fun x => decide (x = 0)) 20 15 ls st h) := a_R_eq ..
theorem r116_15 (ls : A_V) (st : List Value) (h : A_H) : R 116 15 ls st h = a_do a_nL R R 116 (s_aldl 0 16 ls st h) := a_R_eq ..
theorem r116_16 (ls : A_V) (st : List Value) (h : A_H) : R 116 16 ls st h = a_do a_nL R R 116 (s_getR 11 7 17 ls st h) := a_R_eq ..
theorem r116_17 (ls : A_V) (st : List Value) (h : A_H) : R 116 17 ls st h = a_do a_nL R R 116 (s_getR 6 0 18 ls st h) := a_R_eq ..
theorem r116_18 (ls : A_V) (st : List Value) (h : A_H) : R 116 18 ls st h = a_do a_nL R R 116 (s_getI 8 3 19 ls st h) := a_R_eq ..
theorem r116_19 (ls : A_V) (st : List Value) (h : A_H) : R 116 19 ls st h = a_do a_nL R R 116 (s_goto 24 ls st h) := a_R_eq ..
theorem r116_20 (ls : A_V) (st : List Value) (h : A_H) : R 116 20 ls st h = a_do a_nL R R 116 (s_aldl 0 21 ls st h) := a_R_eq ..
theorem r116_21 (ls : A_V) (st : List Value) (h : A_H) : R 116 21 ls st h = a_do a_nL R R 116 (s_getR 11 7 22 ls st h) := a_R_eq ..
theorem r116_22 (ls : A_V) (st : List Value) (h : A_H) : R 116 22 ls st h = a_do a_nL R R 116 (s_getR 6 0 23 ls st h) := a_R_eq ..
theorem r116_23 (ls : A_V) (st : List Value) (h : A_H) : R 116 23 ls st h = a_do a_nL R R 116 (s_getI 8 2 24 ls st h) := a_R_eq ..
theorem r116_24 (ls : A_V) (st : List Value) (h : A_H) : R 116 24 ls st h = a_do a_nL R R 116 (s_iret ls st h) := a_R_eq ..
theorem b116_0 (x0 : Nat) (x1 : Int32) (h : A_H) : R 116 0 [some (.ref x0), some (.int x1)] [] h = (cond (isO h x0 11) (a_back R 116 (136, [.ref x0], h, true, none, 3, [some (.ref x0), some (.int x1)], [.ref x0]) (C 136 [.ref x0] h)) none) := (tr (r116_0 ..) (tr (r116_1 ..) (r116_2 ..)))
theorem b116_3 (x0 : Nat) (x1 : Int32) (s0 : Nat) (s1 : Int32) (h : A_H) : R 116 3 [some (.ref x0), some (.int x1)] [.int s1, .ref s0] h = (cond (isO h s0 11) (a_back R 116 (134, [.ref s0, .int s1], h, true, none, 4, [some (.ref x0), some (.int x1)], []) (C 134 [.ref s0, .int s1] h)) none) := (r116_3 ..)
theorem b116_4 (x0 : Nat) (x1 : Int32) (s0 : Int32) (h : A_H) : R 116 4 [some (.ref x0), some (.int x1)] [.int s0] h = (cond (decide (s0 = 0)) (cond (isO h x0 11 && (hP h x0 7).isSome) (cond (isO h x0 11 && (hP h x0 3).isSome) (cond (isO h ((hP h x0 7).getD 0) 6) (a_back R 116 (18, [.ref ((hP h x0 7).getD 0), .ref ((hP h x0 3).getD 0), .int (0 : Int32)], h, false, none, 13, [some (.ref x0), some (.int x1)], []) (C 18 [.ref ((hP h x0 7).getD 0), .ref ((hP h x0 3).getD 0), .int (0 : Int32)] h)) none) none) none) (some (some (some (.int (-1 : Int32))), h))) := (tr (r116_4 ..) (cgB (tr (r116_7 ..) (tr (r116_8 ..) (cgT (tr (r116_9 ..) (tr (r116_10 ..) (cgT (tr (r116_11 ..) (r116_12 ..)))))))) (tr (r116_5 ..) (r116_6 ..))))
theorem b116_13 (x0 : Nat) (x1 : Int32) (h : A_H) : R 116 13 [some (.ref x0), some (.int x1)] [] h = (cond (decide (x1 = 0)) (cond (isO h x0 11 && (hP h x0 7).isSome) (cond (isO h ((hP h x0 7).getD 0) 6 && (hP h ((hP h x0 7).getD 0) 0).isSome) (cond (isO h ((hP h ((hP h x0 7).getD 0) 0).getD 0) 8) (some (some (some (.int (hI h ((hP h ((hP h x0 7).getD 0) 0).getD 0) 2))), h)) none) none) none) (cond (isO h x0 11 && (hP h x0 7).isSome) (cond (isO h ((hP h x0 7).getD 0) 6 && (hP h ((hP h x0 7).getD 0) 0).isSome) (cond (isO h ((hP h ((hP h x0 7).getD 0) 0).getD 0) 8) (some (some (some (.int (hI h ((hP h ((hP h x0 7).getD 0) 0).getD 0) 3))), h)) none) none) none)) := (tr (r116_13 ..) (tr (r116_14 ..) (cgB (tr (r116_20 ..) (tr (r116_21 ..) (cgT (tr (r116_22 ..) (cgT (tr (r116_23 ..) (cgT (r116_24 ..)))))))) (tr (r116_15 ..) (tr (r116_16 ..) (cgT (tr (r116_17 ..) (cgT (tr (r116_18 ..) (cgT (tr (r116_19 ..) (r116_24 ..))))))))))))
theorem e117 (x0 : Nat) (h : A_H) : C 117 [.ref x0] h = R 117 0 [some (.ref x0), none] [] h := rfl
theorem r117_0 (ls : A_V) (st : List Value) (h : A_H) : R 117 0 ls st h = a_do a_nL R R 117 (s_aldl 0 1 ls st h) := a_R_eq ..
theorem r117_1 (ls : A_V) (st : List Value) (h : A_H) : R 117 1 ls st h = a_do a_nL R R 117 (s_getR 11 3 2 ls st h) := a_R_eq ..
theorem r117_2 (ls : A_V) (st : List Value) (h : A_H) : R 117 2 ls st h = a_do a_nL R R 117 (s_getR 9 14 3 ls st h) := a_R_eq ..
theorem r117_3 (ls : A_V) (st : List Value) (h : A_H) : R 117 3 ls st h = a_do a_nL R R 117 (s_getI 1 0 4 ls st h) := a_R_eq ..
theorem r117_4 (ls : A_V) (st : List Value) (h : A_H) : R 117 4 ls st h = a_do a_nL R R 117 (s_if1 (fun x => decide (x ≤ 0)) 7 5 ls st h) := a_R_eq ..
theorem r117_5 (ls : A_V) (st : List Value) (h : A_H) : R 117 5 ls st h = a_do a_nL R R 117 (s_push (.int 1) 6 ls st h) := a_R_eq ..
theorem r117_6 (ls : A_V) (st : List Value) (h : A_H) : R 117 6 ls st h = a_do a_nL R R 117 (s_goto 8 ls st h) := a_R_eq ..
theorem r117_7 (ls : A_V) (st : List Value) (h : A_H) : R 117 7 ls st h = a_do a_nL R R 117 (s_push (.int 0) 8 ls st h) := a_R_eq ..
theorem r117_8 (ls : A_V) (st : List Value) (h : A_H) : R 117 8 ls st h = a_do a_nL R R 117 (s_ist 1 9 ls st h) := a_R_eq ..
theorem r117_9 (ls : A_V) (st : List Value) (h : A_H) : R 117 9 ls st h = a_do a_nL R R 117 (s_aldl 0 10 ls st h) := a_R_eq ..
theorem r117_10 (ls : A_V) (st : List Value) (h : A_H) : R 117 10 ls st h = a_do a_nL R R 117 (s_aldl 0 11 ls st h) := a_R_eq ..
theorem r117_11 (ls : A_V) (st : List Value) (h : A_H) : R 117 11 ls st h = a_do a_nL R R 117 (s_call 14 136 1 1 true 12 ls st h) := a_R_eq ..
theorem r117_12 (ls : A_V) (st : List Value) (h : A_H) : R 117 12 ls st h = a_do a_nL R R 117 (s_ildl 1 13 ls st h) := a_R_eq ..
theorem r117_13 (ls : A_V) (st : List Value) (h : A_H) : R 117 13 ls st h = a_do a_nL R R 117 (s_if1 (fun x => decide (x = 0)) 16 14 ls st h) := a_R_eq ..
theorem r117_14 (ls : A_V) (st : List Value) (h : A_H) : R 117 14 ls st h = a_do a_nL R R 117 (s_push (.int 0) 15 ls st h) := a_R_eq ..
theorem r117_15 (ls : A_V) (st : List Value) (h : A_H) : R 117 15 ls st h = a_do a_nL R R 117 (s_goto 17 ls st h) := a_R_eq ..
theorem r117_16 (ls : A_V) (st : List Value) (h : A_H) : R 117 16 ls st h = a_do a_nL R R 117 (s_push (.int 6) 17 ls st h) := a_R_eq ..
theorem r117_17 (ls : A_V) (st : List Value) (h : A_H) : R 117 17 ls st h = a_do a_nL R R 117 (s_call 0 135 2 2 true 18 ls st h) := a_R_eq ..
theorem r117_18 (ls : A_V) (st : List Value) (h : A_H) : R 117 18 ls st h = a_do a_nL R R 117 (s_call 14 134 2 2 true 19 ls st h) := a_R_eq ..
theorem r117_19 (ls : A_V) (st : List Value) (h : A_H) : R 117 19 ls st h = a_do a_nL R R 117 (s_if1 (fun x => decide (x = 0)) 22 20 ls st h) := a_R_eq ..
theorem r117_20 (ls : A_V) (st : List Value) (h : A_H) : R 117 20 ls st h = a_do a_nL R R 117 (s_push (.int (-1)) 21 ls st h) := a_R_eq ..
theorem r117_21 (ls : A_V) (st : List Value) (h : A_H) : R 117 21 ls st h = a_do a_nL R R 117 (s_iret ls st h) := a_R_eq ..
theorem r117_22 (ls : A_V) (st : List Value) (h : A_H) : R 117 22 ls st h = a_do a_nL R R 117 (s_aldl 0 23 ls st h) := a_R_eq ..
theorem r117_23 (ls : A_V) (st : List Value) (h : A_H) : R 117 23 ls st h = a_do a_nL R R 117 (s_getR 11 3 24 ls st h) := a_R_eq ..
theorem r117_24 (ls : A_V) (st : List Value) (h : A_H) : R 117 24 ls st h = a_do a_nL R R 117 (s_getR 9 14 25 ls st h) := a_R_eq ..
theorem r117_25 (ls : A_V) (st : List Value) (h : A_H) : R 117 25 ls st h = a_do a_nL R R 117 (s_aldl 0 26 ls st h) := a_R_eq ..
theorem r117_26 (ls : A_V) (st : List Value) (h : A_H) : R 117 26 ls st h = a_do a_nL R R 117 (s_getR 11 3 27 ls st h) := a_R_eq ..
theorem r117_27 (ls : A_V) (st : List Value) (h : A_H) : R 117 27 ls st h = a_do a_nL R R 117 (s_call 4 3 2 4 true 28 ls st h) := a_R_eq ..
theorem r117_28 (ls : A_V) (st : List Value) (h : A_H) : R 117 28 ls st h = a_do a_nL R R 117 (s_iret ls st h) := a_R_eq ..
theorem b117_0 (x0 : Nat) (l1 : Option Value) (h : A_H) : R 117 0 [some (.ref x0), l1] [] h = (cond (isO h x0 11 && (hP h x0 3).isSome) (cond (isO h ((hP h x0 3).getD 0) 9 && (hP h ((hP h x0 3).getD 0) 14).isSome) (cond (isO h ((hP h ((hP h x0 3).getD 0) 14).getD 0) 1) (cond (decide ((hI h ((hP h ((hP h x0 3).getD 0) 14).getD 0) 0) ≤ 0)) (cond (isO h x0 11) (a_back R 117 (136, [.ref x0], h, true, none, 12, [some (.ref x0), some (.int (0 : Int32))], [.ref x0]) (C 136 [.ref x0] h)) none) (cond (isO h x0 11) (a_back R 117 (136, [.ref x0], h, true, none, 12, [some (.ref x0), some (.int (1 : Int32))], [.ref x0]) (C 136 [.ref x0] h)) none)) none) none) none) := (tr (r117_0 ..) (tr (r117_1 ..) (cgT (tr (r117_2 ..) (cgT (tr (r117_3 ..) (cgT (tr (r117_4 ..) (cgB (tr (r117_7 ..) (tr (r117_8 ..) (tr (r117_9 ..) (tr (r117_10 ..) (r117_11 ..))))) (tr (r117_5 ..) (tr (r117_6 ..) (tr (r117_8 ..) (tr (r117_9 ..) (tr (r117_10 ..) (r117_11 ..)))))))))))))))
theorem b117_12 (x0 : Nat) (x1 : Int32) (s0 : Nat) (s1 : Int32) (h : A_H) : R 117 12 [some (.ref x0), some (.int x1)] [.int s1, .ref s0] h = (cond (decide (x1 = 0)) (a_back R 117 (135, [.int s1, .int (6 : Int32)], h, true, none, 18, [some (.ref x0), some (.int x1)], [.ref s0]) (C 135 [.int s1, .int (6 : Int32)] h)) (a_back R 117 (135, [.int s1, .int (0 : Int32)], h, true, none, 18, [some (.ref x0), some (.int x1)], [.ref s0]) (C 135 [.int s1, .int (0 : Int32)] h))) := (tr (r117_12 ..) (tr (r117_13 ..) (cgB (tr (r117_16 ..) (r117_17 ..)) (tr (r117_14 ..) (tr (r117_15 ..) (r117_17 ..))))))
theorem b117_18 (x0 : Nat) (x1 : Int32) (s0 : Nat) (s1 : Int32) (h : A_H) : R 117 18 [some (.ref x0), some (.int x1)] [.int s1, .ref s0] h = (cond (isO h s0 11) (a_back R 117 (134, [.ref s0, .int s1], h, true, none, 19, [some (.ref x0), some (.int x1)], []) (C 134 [.ref s0, .int s1] h)) none) := (r117_18 ..)
theorem b117_19 (x0 : Nat) (x1 : Int32) (s0 : Int32) (h : A_H) : R 117 19 [some (.ref x0), some (.int x1)] [.int s0] h = (cond (decide (s0 = 0)) (cond (isO h x0 11 && (hP h x0 3).isSome) (cond (isO h ((hP h x0 3).getD 0) 9 && (hP h ((hP h x0 3).getD 0) 14).isSome) (cond (isO h x0 11 && (hP h x0 3).isSome) (cond (isO h ((hP h ((hP h x0 3).getD 0) 14).getD 0) 1) (a_back R 117 (3, [.ref ((hP h ((hP h x0 3).getD 0) 14).getD 0), .ref ((hP h x0 3).getD 0)], h, true, none, 28, [some (.ref x0), some (.int x1)], []) (C 3 [.ref ((hP h ((hP h x0 3).getD 0) 14).getD 0), .ref ((hP h x0 3).getD 0)] h)) none) none) none) none) (some (some (some (.int (-1 : Int32))), h))) := (tr (r117_19 ..) (cgB (tr (r117_22 ..) (tr (r117_23 ..) (cgT (tr (r117_24 ..) (cgT (tr (r117_25 ..) (tr (r117_26 ..) (cgT (r117_27 ..))))))))) (tr (r117_20 ..) (r117_21 ..))))
theorem b117_28 (x0 : Nat) (x1 : Int32) (s0 : Int32) (h : A_H) : R 117 28 [some (.ref x0), some (.int x1)] [.int s0] h = (some (some (some (.int s0)), h)) := (r117_28 ..)
theorem e118 (x0 : Nat) (x1 : Int32) (h : A_H) : C 118 [.ref x0, .int x1] h = R 118 0 [some (.ref x0), some (.int x1)] [] h := rfl
theorem r118_0 (ls : A_V) (st : List Value) (h : A_H) : R 118 0 ls st h = a_do a_nL R R 118 (s_aldl 0 1 ls st h) := a_R_eq ..
theorem r118_1 (ls : A_V) (st : List Value) (h : A_H) : R 118 1 ls st h = a_do a_nL R R 118 (s_aldl 0 2 ls st h) := a_R_eq ..
theorem r118_2 (ls : A_V) (st : List Value) (h : A_H) : R 118 2 ls st h = a_do a_nL R R 118 (s_ildl 1 3 ls st h) := a_R_eq ..
theorem r118_3 (ls : A_V) (st : List Value) (h : A_H) : R 118 3 ls st h = a_do a_nL R R 118 (s_call 14 140 2 2 true 4 ls st h) := a_R_eq ..
theorem r118_4 (ls : A_V) (st : List Value) (h : A_H) : R 118 4 ls st h = a_do a_nL R R 118 (s_call 14 134 2 2 true 5 ls st h) := a_R_eq ..
theorem r118_5 (ls : A_V) (st : List Value) (h : A_H) : R 118 5 ls st h = a_do a_nL R R 118 (s_if1 (fun x => decide (x = 0)) 8 6 ls st h) := a_R_eq ..
theorem r118_6 (ls : A_V) (st : List Value) (h : A_H) : R 118 6 ls st h = a_do a_nL R R 118 (s_push (.int (-1)) 7 ls st h) := a_R_eq ..
theorem r118_7 (ls : A_V) (st : List Value) (h : A_H) : R 118 7 ls st h = a_do a_nL R R 118 (s_iret ls st h) := a_R_eq ..
theorem r118_8 (ls : A_V) (st : List Value) (h : A_H) : R 118 8 ls st h = a_do a_nL R R 118 (s_aldl 0 9 ls st h) := a_R_eq ..
theorem r118_9 (ls : A_V) (st : List Value) (h : A_H) : R 118 9 ls st h = a_do a_nL R R 118 (s_getR 11 3 10 ls st h) := a_R_eq ..
theorem r118_10 (ls : A_V) (st : List Value) (h : A_H) : R 118 10 ls st h = a_do a_nL R R 118 (s_getR 9 14 11 ls st h) := a_R_eq ..
theorem r118_11 (ls : A_V) (st : List Value) (h : A_H) : R 118 11 ls st h = a_do a_nL R R 118 (s_aldl 0 12 ls st h) := a_R_eq ..
theorem r118_12 (ls : A_V) (st : List Value) (h : A_H) : R 118 12 ls st h = a_do a_nL R R 118 (s_getR 11 3 13 ls st h) := a_R_eq ..
theorem r118_13 (ls : A_V) (st : List Value) (h : A_H) : R 118 13 ls st h = a_do a_nL R R 118 (s_ildl 1 14 ls st h) := a_R_eq ..
theorem r118_14 (ls : A_V) (st : List Value) (h : A_H) : R 118 14 ls st h = a_do a_nL R R 118 (s_call 4 4 3 5 true 15 ls st h) := a_R_eq ..
theorem r118_15 (ls : A_V) (st : List Value) (h : A_H) : R 118 15 ls st h = a_do a_nL R R 118 (s_iret ls st h) := a_R_eq ..
theorem b118_0 (x0 : Nat) (x1 : Int32) (h : A_H) : R 118 0 [some (.ref x0), some (.int x1)] [] h = (cond (isO h x0 11) (a_back R 118 (140, [.ref x0, .int x1], h, true, none, 4, [some (.ref x0), some (.int x1)], [.ref x0]) (C 140 [.ref x0, .int x1] h)) none) := (tr (r118_0 ..) (tr (r118_1 ..) (tr (r118_2 ..) (r118_3 ..))))
theorem b118_4 (x0 : Nat) (x1 : Int32) (s0 : Nat) (s1 : Int32) (h : A_H) : R 118 4 [some (.ref x0), some (.int x1)] [.int s1, .ref s0] h = (cond (isO h s0 11) (a_back R 118 (134, [.ref s0, .int s1], h, true, none, 5, [some (.ref x0), some (.int x1)], []) (C 134 [.ref s0, .int s1] h)) none) := (r118_4 ..)
theorem b118_5 (x0 : Nat) (x1 : Int32) (s0 : Int32) (h : A_H) : R 118 5 [some (.ref x0), some (.int x1)] [.int s0] h = (cond (decide (s0 = 0)) (cond (isO h x0 11 && (hP h x0 3).isSome) (cond (isO h ((hP h x0 3).getD 0) 9 && (hP h ((hP h x0 3).getD 0) 14).isSome) (cond (isO h x0 11 && (hP h x0 3).isSome) (cond (isO h ((hP h ((hP h x0 3).getD 0) 14).getD 0) 1) (a_back R 118 (4, [.ref ((hP h ((hP h x0 3).getD 0) 14).getD 0), .ref ((hP h x0 3).getD 0), .int x1], h, true, none, 15, [some (.ref x0), some (.int x1)], []) (C 4 [.ref ((hP h ((hP h x0 3).getD 0) 14).getD 0), .ref ((hP h x0 3).getD 0), .int x1] h)) none) none) none) none) (some (some (some (.int (-1 : Int32))), h))) := (tr (r118_5 ..) (cgB (tr (r118_8 ..) (tr (r118_9 ..) (cgT (tr (r118_10 ..) (cgT (tr (r118_11 ..) (tr (r118_12 ..) (cgT (tr (r118_13 ..) (r118_14 ..)))))))))) (tr (r118_6 ..) (r118_7 ..))))
theorem b118_15 (x0 : Nat) (x1 : Int32) (s0 : Int32) (h : A_H) : R 118 15 [some (.ref x0), some (.int x1)] [.int s0] h = (some (some (some (.int s0)), h)) := (r118_15 ..)
theorem e119 (x0 : Nat) (x1 : Int32) (h : A_H) : C 119 [.ref x0, .int x1] h = R 119 0 [some (.ref x0), some (.int x1), none, none] [] h := rfl
theorem r119_0 (ls : A_V) (st : List Value) (h : A_H) : R 119 0 ls st h = a_do a_nL R R 119 (s_aldl 0 1 ls st h) := a_R_eq ..
theorem r119_1 (ls : A_V) (st : List Value) (h : A_H) : R 119 1 ls st h = a_do a_nL R R 119 (s_aldl 0 2 ls st h) := a_R_eq ..
theorem r119_2 (ls : A_V) (st : List Value) (h : A_H) : R 119 2 ls st h = a_do a_nL R R 119 (s_ildl 1 3 ls st h) := a_R_eq ..
theorem r119_3 (ls : A_V) (st : List Value) (h : A_H) : R 119 3 ls st h = a_do a_nL R R 119 (s_call 14 140 2 2 true 4 ls st h) := a_R_eq ..
theorem r119_4 (ls : A_V) (st : List Value) (h : A_H) : R 119 4 ls st h = a_do a_nL R R 119 (s_call 14 134 2 2 true 5 ls st h) := a_R_eq ..
theorem r119_5 (ls : A_V) (st : List Value) (h : A_H) : R 119 5 ls st h = a_do a_nL R R 119 (s_if1 (fun x => decide (x = 0)) 8 6 ls st h) := a_R_eq ..
theorem r119_6 (ls : A_V) (st : List Value) (h : A_H) : R 119 6 ls st h = a_do a_nL R R 119 (s_push (.int (-1)) 7 ls st h) := a_R_eq ..
theorem r119_7 (ls : A_V) (st : List Value) (h : A_H) : R 119 7 ls st h = a_do a_nL R R 119 (s_iret ls st h) := a_R_eq ..
theorem r119_8 (ls : A_V) (st : List Value) (h : A_H) : R 119 8 ls st h = a_do a_nL R R 119 (s_aldl 0 9 ls st h) := a_R_eq ..
theorem r119_9 (ls : A_V) (st : List Value) (h : A_H) : R 119 9 ls st h = a_do a_nL R R 119 (s_getR 11 3 10 ls st h) := a_R_eq ..
theorem r119_10 (ls : A_V) (st : List Value) (h : A_H) : R 119 10 ls st h = a_do a_nL R R 119 (s_getR 9 14 11 ls st h) := a_R_eq ..
theorem r119_11 (ls : A_V) (st : List Value) (h : A_H) : R 119 11 ls st h = a_do a_nL R R 119 (s_aldl 0 12 ls st h) := a_R_eq ..
theorem r119_12 (ls : A_V) (st : List Value) (h : A_H) : R 119 12 ls st h = a_do a_nL R R 119 (s_getR 11 3 13 ls st h) := a_R_eq ..
theorem r119_13 (ls : A_V) (st : List Value) (h : A_H) : R 119 13 ls st h = a_do a_nL R R 119 (s_ildl 1 14 ls st h) := a_R_eq ..
theorem r119_14 (ls : A_V) (st : List Value) (h : A_H) : R 119 14 ls st h = a_do a_nL R R 119 (s_call 4 4 3 5 true 15 ls st h) := a_R_eq ..
theorem r119_15 (ls : A_V) (st : List Value) (h : A_H) : R 119 15 ls st h = a_do a_nL R R 119 (s_ist 2 16 ls st h) := a_R_eq ..
theorem r119_16 (ls : A_V) (st : List Value) (h : A_H) : R 119 16 ls st h = a_do a_nL R R 119 (s_push (.int 0) 17 ls st h) := a_R_eq ..
theorem r119_17 (ls : A_V) (st : List Value) (h : A_H) : R 119 17 ls st h = a_do a_nL R R 119 (s_ist 3 18 ls st h) := a_R_eq ..
theorem r119_18 (ls : A_V) (st : List Value) (h : A_H) : R 119 18 ls st h = a_do a_nL R R 119 (s_ildl 3 19 ls st h) := a_R_eq ..
theorem r119_19 (ls : A_V) (st : List Value) (h : A_H) : R 119 19 ls st h = a_do a_nL R R 119 (s_aldl 0 20 ls st h) := a_R_eq ..
theorem r119_20 (ls : A_V) (st : List Value) (h : A_H) : R 119 20 ls st h = a_do a_nL R R 119 (s_getR 11 3 21 ls st h) := a_R_eq ..
theorem r119_21 (ls : A_V) (st : List Value) (h : A_H) : R 119 21 ls st h = a_do a_nL R R 119 (s_getI 9 3 22 ls st h) := a_R_eq ..
theorem r119_22 (ls : A_V) (st : List Value) (h : A_H) : R 119 22 ls st h = a_do a_nL R R 119 (s_if2 (fun x y => decide (y ≤ x)) 32 23 ls st h) := a_R_eq ..
theorem r119_23 (ls : A_V) (st : List Value) (h : A_H) : R 119 23 ls st h = a_do a_nL R R 119 (s_ildl 2 24 ls st h) := a_R_eq ..
theorem r119_24 (ls : A_V) (st : List Value) (h : A_H) : R 119 24 ls st h = a_do a_nL R R 119 (s_push (.int 1) 25 ls st h) := a_R_eq ..
theorem r119_25 (ls : A_V) (st : List Value) (h : A_H) : R 119 25 ls st h = a_do a_nL R R 119 (s_ildl 3 26 ls st h) := a_R_eq ..
theorem r119_26 (ls : A_V) (st : List Value) (h : A_H) : R 119 26 ls st h = a_do a_nL R R 119 (s_bi (fun x y => x <<< (y &&& 31)) 27 ls st h) := a_R_eq ..
theorem r119_27 (ls : A_V) (st : List Value) (h : A_H) : R 119 27 ls st h = a_do a_nL R R 119 (s_if2 (fun x y => !decide (x = y)) 30 28 ls st h) := a_R_eq ..
theorem r119_28 (ls : A_V) (st : List Value) (h : A_H) : R 119 28 ls st h = a_do a_nL R R 119 (s_ildl 3 29 ls st h) := a_R_eq ..
theorem r119_29 (ls : A_V) (st : List Value) (h : A_H) : R 119 29 ls st h = a_do a_nL R R 119 (s_iret ls st h) := a_R_eq ..
theorem r119_30 (ls : A_V) (st : List Value) (h : A_H) : R 119 30 ls st h = a_do a_nL R R 119 (s_inc 3 1 31 ls st h) := a_R_eq ..
theorem r119_31 (ls : A_V) (st : List Value) (h : A_H) : R 119 31 ls st h = a_do a_nL R R 119 (s_goto 18 ls st h) := a_R_eq ..
theorem r119_32 (ls : A_V) (st : List Value) (h : A_H) : R 119 32 ls st h = a_do a_nL R R 119 (s_push (.int (-2)) 33 ls st h) := a_R_eq ..
theorem r119_33 (ls : A_V) (st : List Value) (h : A_H) : R 119 33 ls st h = a_do a_nL R R 119 (s_iret ls st h) := a_R_eq ..
theorem b119_0 (x0 : Nat) (x1 : Int32) (l2 : Option Value) (l3 : Option Value) (h : A_H) : R 119 0 [some (.ref x0), some (.int x1), l2, l3] [] h = (cond (isO h x0 11) (a_back R 119 (140, [.ref x0, .int x1], h, true, none, 4, [some (.ref x0), some (.int x1), l2, l3], [.ref x0]) (C 140 [.ref x0, .int x1] h)) none) := (tr (r119_0 ..) (tr (r119_1 ..) (tr (r119_2 ..) (r119_3 ..))))
theorem b119_4 (x0 : Nat) (x1 : Int32) (l2 : Option Value) (l3 : Option Value) (s0 : Nat) (s1 : Int32) (h : A_H) : R 119 4 [some (.ref x0), some (.int x1), l2, l3] [.int s1, .ref s0] h = (cond (isO h s0 11) (a_back R 119 (134, [.ref s0, .int s1], h, true, none, 5, [some (.ref x0), some (.int x1), l2, l3], []) (C 134 [.ref s0, .int s1] h)) none) := (r119_4 ..)
theorem b119_5 (x0 : Nat) (x1 : Int32) (l2 : Option Value) (l3 : Option Value) (s0 : Int32) (h : A_H) : R 119 5 [some (.ref x0), some (.int x1), l2, l3] [.int s0] h = (cond (decide (s0 = 0)) (cond (isO h x0 11 && (hP h x0 3).isSome) (cond (isO h ((hP h x0 3).getD 0) 9 && (hP h ((hP h x0 3).getD 0) 14).isSome) (cond (isO h x0 11 && (hP h x0 3).isSome) (cond (isO h ((hP h ((hP h x0 3).getD 0) 14).getD 0) 1) (a_back R 119 (4, [.ref ((hP h ((hP h x0 3).getD 0) 14).getD 0), .ref ((hP h x0 3).getD 0), .int x1], h, true, none, 15, [some (.ref x0), some (.int x1), l2, l3], []) (C 4 [.ref ((hP h ((hP h x0 3).getD 0) 14).getD 0), .ref ((hP h x0 3).getD 0), .int x1] h)) none) none) none) none) (some (some (some (.int (-1 : Int32))), h))) := (tr (r119_5 ..) (cgB (tr (r119_8 ..) (tr (r119_9 ..) (cgT (tr (r119_10 ..) (cgT (tr (r119_11 ..) (tr (r119_12 ..) (cgT (tr (r119_13 ..) (r119_14 ..)))))))))) (tr (r119_6 ..) (r119_7 ..))))
theorem b119_15 (x0 : Nat) (x1 : Int32) (l2 : Option Value) (l3 : Option Value) (s0 : Int32) (h : A_H) : R 119 15 [some (.ref x0), some (.int x1), l2, l3] [.int s0] h = (R 119 18 [some (.ref x0), some (.int x1), some (.int s0), some (.int (0 : Int32))] [] h) := (tr (r119_15 ..) (tr (r119_16 ..) (r119_17 ..)))
theorem b119_18 (x0 : Nat) (x1 : Int32) (x2 : Int32) (x3 : Int32) (h : A_H) : R 119 18 [some (.ref x0), some (.int x1), some (.int x2), some (.int x3)] [] h = (cond (isO h x0 11 && (hP h x0 3).isSome) (cond (isO h ((hP h x0 3).getD 0) 9) (cond (decide ((hI h ((hP h x0 3).getD 0) 3) ≤ x3)) (some (some (some (.int (-2 : Int32))), h)) (cond (!decide (x2 = ((1 : Int32) <<< (x3 &&& 31)))) (R 119 18 [some (.ref x0), some (.int x1), some (.int x2), some (.int (x3 + 1))] [] h) (some (some (some (.int x3)), h)))) none) none) := (tr (r119_18 ..) (tr (r119_19 ..) (tr (r119_20 ..) (cgT (tr (r119_21 ..) (cgT (tr (r119_22 ..) (cgB (tr (r119_32 ..) (r119_33 ..)) (tr (r119_23 ..) (tr (r119_24 ..) (tr (r119_25 ..) (tr (r119_26 ..) (tr (r119_27 ..) (cgB (tr (r119_30 ..) (r119_31 ..)) (tr (r119_28 ..) (r119_29 ..))))))))))))))))
theorem e120 (x0 : Nat) (x1 : Int32) (x2 : Int32) (x3 : Int32) (h : A_H) : C 120 [.ref x0, .int x1, .int x2, .int x3] h = R 120 0 [some (.ref x0), some (.int x1), some (.int x2), some (.int x3), none, none, none, none, none, none, none] [] h := rfl
theorem r120_0 (ls : A_V) (st : List Value) (h : A_H) : R 120 0 ls st h = a_do a_nL R R 120 (s_ildl 1 1 ls st h) := a_R_eq ..
theorem r120_1 (ls : A_V) (st : List Value) (h : A_H) : R 120 1 ls st h = a_do a_nL R R 120 (s_if1 (fun x => decide (x < 0)) 12 2 ls st h) := a_R_eq ..
theorem r120_2 (ls : A_V) (st : List Value) (h : A_H) : R 120 2 ls st h = a_do a_nL R R 120 (s_ildl 1 3 ls st h) := a_R_eq ..
theorem r120_3 (ls : A_V) (st : List Value) (h : A_H) : R 120 3 ls st h = a_do a_nL R R 120 (s_push (.int 999) 4 ls st h) := a_R_eq ..
theorem r120_4 (ls : A_V) (st : List Value) (h : A_H) : R 120 4 ls st h = a_do a_nL R R 120 (s_if2 (fun x y => decide (y < x)) 12 5 ls st h) := a_R_eq ..
theorem r120_5 (ls : A_V) (st : List Value) (h : A_H) : R 120 5 ls st h = a_do a_nL R R 120 (s_ildl 2 6 ls st h) := a_R_eq ..
theorem r120_6 (ls : A_V) (st : List Value) (h : A_H) : R 120 6 ls st h = a_do a_nL R R 120 (s_if1 (fun x => decide (x < 0)) 12 7 ls st h) := a_R_eq ..
theorem r120_7 (ls : A_V) (st : List Value) (h : A_H) : R 120 7 ls st h = a_do a_nL R R 120 (s_ildl 2 8 ls st h) := a_R_eq ..
theorem r120_8 (ls : A_V) (st : List Value) (h : A_H) : R 120 8 ls st h = a_do a_nL R R 120 (s_push (.int 5) 9 ls st h) := a_R_eq ..
theorem r120_9 (ls : A_V) (st : List Value) (h : A_H) : R 120 9 ls st h = a_do a_nL R R 120 (s_if2 (fun x y => decide (y < x)) 12 10 ls st h) := a_R_eq ..
theorem r120_10 (ls : A_V) (st : List Value) (h : A_H) : R 120 10 ls st h = a_do a_nL R R 120 (s_push (.int 1) 11 ls st h) := a_R_eq ..
theorem r120_11 (ls : A_V) (st : List Value) (h : A_H) : R 120 11 ls st h = a_do a_nL R R 120 (s_goto 13 ls st h) := a_R_eq ..
theorem r120_12 (ls : A_V) (st : List Value) (h : A_H) : R 120 12 ls st h = a_do a_nL R R 120 (s_push (.int 0) 13 ls st h) := a_R_eq ..
theorem r120_13 (ls : A_V) (st : List Value) (h : A_H) : R 120 13 ls st h = a_do a_nL R R 120 (s_ist 4 14 ls st h) := a_R_eq ..
theorem r120_14 (ls : A_V) (st : List Value) (h : A_H) : R 120 14 ls st h = a_do a_nL R R 120 (s_aldl 0 15 ls st h) := a_R_eq ..
theorem r120_15 (ls : A_V) (st : List Value) (h : A_H) : R 120 15 ls st h = a_do a_nL R R 120 (s_aldl 0 16 ls st h) := a_R_eq ..
theorem r120_16 (ls : A_V) (st : List Value) (h : A_H) : R 120 16 ls st h = a_do a_nL R R 120 (s_call 14 136 1 1 true 17 ls st h) := a_R_eq ..
theorem r120_17 (ls : A_V) (st : List Value) (h : A_H) : R 120 17 ls st h = a_do a_nL R R 120 (s_ildl 4 18 ls st h) := a_R_eq ..
theorem r120_18 (ls : A_V) (st : List Value) (h : A_H) : R 120 18 ls st h = a_do a_nL R R 120 (s_if1 (fun x => decide (x = 0)) 21 19 ls st h) := a_R_eq ..
theorem r120_19 (ls : A_V) (st : List Value) (h : A_H) : R 120 19 ls st h = a_do a_nL R R 120 (s_push (.int 0) 20 ls st h) := a_R_eq ..
theorem r120_20 (ls : A_V) (st : List Value) (h : A_H) : R 120 20 ls st h = a_do a_nL R R 120 (s_goto 22 ls st h) := a_R_eq ..
theorem r120_21 (ls : A_V) (st : List Value) (h : A_H) : R 120 21 ls st h = a_do a_nL R R 120 (s_push (.int 2) 22 ls st h) := a_R_eq ..
theorem r120_22 (ls : A_V) (st : List Value) (h : A_H) : R 120 22 ls st h = a_do a_nL R R 120 (s_call 0 135 2 2 true 23 ls st h) := a_R_eq ..
theorem r120_23 (ls : A_V) (st : List Value) (h : A_H) : R 120 23 ls st h = a_do a_nL R R 120 (s_call 14 134 2 2 true 24 ls st h) := a_R_eq ..
theorem r120_24 (ls : A_V) (st : List Value) (h : A_H) : R 120 24 ls st h = a_do a_nL R R 120 (s_if1 (fun x => decide (x = 0)) 27 25 ls st h) := a_R_eq ..
theorem r120_25 (ls : A_V) (st : List Value) (h : A_H) : R 120 25 ls st h = a_do a_nL R R 120 (s_push (.long (-1)) 26 ls st h) := a_R_eq ..
theorem r120_26 (ls : A_V) (st : List Value) (h : A_H) : R 120 26 ls st h = a_do a_nL R R 120 (s_lret ls st h) := a_R_eq ..
theorem r120_27 (ls : A_V) (st : List Value) (h : A_H) : R 120 27 ls st h = a_do a_nL R R 120 (s_ildl 1 28 ls st h) := a_R_eq ..
theorem r120_28 (ls : A_V) (st : List Value) (h : A_H) : R 120 28 ls st h = a_do a_nL R R 120 (s_i2l 29 ls st h) := a_R_eq ..
theorem r120_29 (ls : A_V) (st : List Value) (h : A_H) : R 120 29 ls st h = a_do a_nL R R 120 (s_lst 5 30 ls st h) := a_R_eq ..
theorem r120_30 (ls : A_V) (st : List Value) (h : A_H) : R 120 30 ls st h = a_do a_nL R R 120 (s_push (.long 1) 31 ls st h) := a_R_eq ..
theorem r120_31 (ls : A_V) (st : List Value) (h : A_H) : R 120 31 ls st h = a_do a_nL R R 120 (s_lst 7 32 ls st h) := a_R_eq ..
theorem r120_32 (ls : A_V) (st : List Value) (h : A_H) : R 120 32 ls st h = a_do a_nL R R 120 (s_push (.int 0) 33 ls st h) := a_R_eq ..
theorem r120_33 (ls : A_V) (st : List Value) (h : A_H) : R 120 33 ls st h = a_do a_nL R R 120 (s_ist 9 34 ls st h) := a_R_eq ..
theorem r120_34 (ls : A_V) (st : List Value) (h : A_H) : R 120 34 ls st h = a_do a_nL R R 120 (s_ildl 9 35 ls st h) := a_R_eq ..
theorem r120_35 (ls : A_V) (st : List Value) (h : A_H) : R 120 35 ls st h = a_do a_nL R R 120 (s_ildl 2 36 ls st h) := a_R_eq ..
theorem r120_36 (ls : A_V) (st : List Value) (h : A_H) : R 120 36 ls st h = a_do a_nL R R 120 (s_if2 (fun x y => decide (y ≤ x)) 52 37 ls st h) := a_R_eq ..
theorem r120_37 (ls : A_V) (st : List Value) (h : A_H) : R 120 37 ls st h = a_do a_nL R R 120 (s_lldl 5 38 ls st h) := a_R_eq ..
theorem r120_38 (ls : A_V) (st : List Value) (h : A_H) : R 120 38 ls st h = a_do a_nL R R 120 (s_push (.int 100) 39 ls st h) := a_R_eq ..
theorem r120_39 (ls : A_V) (st : List Value) (h : A_H) : R 120 39 ls st h = a_do a_nL R R 120 (s_aldl 0 40 ls st h) := a_R_eq ..
theorem r120_40 (ls : A_V) (st : List Value) (h : A_H) : R 120 40 ls st h = a_do a_nL R R 120 (s_getR 11 3 41 ls st h) := a_R_eq ..
theorem r120_41 (ls : A_V) (st : List Value) (h : A_H) : R 120 41 ls st h = a_do a_nL R R 120 (s_getI 9 1 42 ls st h) := a_R_eq ..
theorem r120_42 (ls : A_V) (st : List Value) (h : A_H) : R 120 42 ls st h = a_do a_nL R R 120 (s_bi (fun x y => x + y) 43 ls st h) := a_R_eq ..
theorem r120_43 (ls : A_V) (st : List Value) (h : A_H) : R 120 43 ls st h = a_do a_nL R R 120 (s_i2l 44 ls st h) := a_R_eq ..
theorem r120_44 (ls : A_V) (st : List Value) (h : A_H) : R 120 44 ls st h = a_do a_nL R R 120 (s_bl (fun x y => x * y) 45 ls st h) := a_R_eq ..
theorem r120_45 (ls : A_V) (st : List Value) (h : A_H) : R 120 45 ls st h = a_do a_nL R R 120 (s_lst 5 46 ls st h) := a_R_eq ..
theorem r120_46 (ls : A_V) (st : List Value) (h : A_H) : R 120 46 ls st h = a_do a_nL R R 120 (s_lldl 7 47 ls st h) := a_R_eq ..
theorem r120_47 (ls : A_V) (st : List Value) (h : A_H) : R 120 47 ls st h = a_do a_nL R R 120 (s_push (.long 100) 48 ls st h) := a_R_eq ..
theorem r120_48 (ls : A_V) (st : List Value) (h : A_H) : R 120 48 ls st h = a_do a_nL R R 120 (s_bl (fun x y => x * y) 49 ls st h) := a_R_eq ..
theorem r120_49 (ls : A_V) (st : List Value) (h : A_H) : R 120 49 ls st h = a_do a_nL R R 120 (s_lst 7 50 ls st h) := a_R_eq ..
theorem r120_50 (ls : A_V) (st : List Value) (h : A_H) : R 120 50 ls st h = a_do a_nL R R 120 (s_inc 9 1 51 ls st h) := a_R_eq ..
theorem r120_51 (ls : A_V) (st : List Value) (h : A_H) : R 120 51 ls st h = a_do a_nL R R 120 (s_goto 34 ls st h) := a_R_eq ..
theorem r120_52 (ls : A_V) (st : List Value) (h : A_H) : R 120 52 ls st h = a_do a_nL R R 120 (s_lldl 5 53 ls st h) := a_R_eq ..
theorem r120_53 (ls : A_V) (st : List Value) (h : A_H) : R 120 53 ls st h = a_do a_nL R R 120 (s_lldl 7 54 ls st h) := a_R_eq ..
theorem r120_54 (ls : A_V) (st : List Value) (h : A_H) : R 120 54 ls st h = a_do a_nL R R 120 (s_call 0 121 2 11 true 55 ls st h) := a_R_eq ..
theorem r120_55 (ls : A_V) (st : List Value) (h : A_H) : R 120 55 ls st h = a_do a_nL R R 120 (s_lst 9 56 ls st h) := a_R_eq ..
theorem r120_56 (ls : A_V) (st : List Value) (h : A_H) : R 120 56 ls st h = a_do a_nL R R 120 (s_ildl 3 57 ls st h) := a_R_eq ..
theorem r120_57 (ls : A_V) (st : List Value) (h : A_H) : R 120 57 ls st h = a_do a_nL R R 120 (s_if1 (fun x => decide (x = 0)) 60 58 ls st h) := a_R_eq ..
theorem r120_58 (ls : A_V) (st : List Value) (h : A_H) : R 120 58 ls st h = a_do a_nL R R 120 (s_lldl 7 59 ls st h) := a_R_eq ..
theorem r120_59 (ls : A_V) (st : List Value) (h : A_H) : R 120 59 ls st h = a_do a_nL R R 120 (s_goto 61 ls st h) := a_R_eq ..
theorem r120_60 (ls : A_V) (st : List Value) (h : A_H) : R 120 60 ls st h = a_do a_nL R R 120 (s_lldl 5 61 ls st h) := a_R_eq ..
theorem r120_61 (ls : A_V) (st : List Value) (h : A_H) : R 120 61 ls st h = a_do a_nL R R 120 (s_lldl 9 62 ls st h) := a_R_eq ..
theorem r120_62 (ls : A_V) (st : List Value) (h : A_H) : R 120 62 ls st h = a_do a_nL R R 120 (s_bld (fun x y => x / y) 63 ls st h) := a_R_eq ..
theorem r120_63 (ls : A_V) (st : List Value) (h : A_H) : R 120 63 ls st h = a_do a_nL R R 120 (s_lret ls st h) := a_R_eq ..
theorem b120_0 (x0 : Nat) (x1 : Int32) (x2 : Int32) (x3 : Int32) (l4 : Option Value) (l5 : Option Value) (l6 : Option Value) (l7 : Option Value) (l8 : Option Value) (l9 : Option Value) (l10 : Option Value) (h : A_H) : R 120 0 [some (.ref x0), some (.int x1), some (.int x2), some (.int x3), l4, l5, l6, l7, l8, l9, l10] [] h = (cond (decide (x1 < 0)) (cond (isO h x0 11) (a_back R 120 (136, [.ref x0], h, true, none, 17, [some (.ref x0), some (.int x1), some (.int x2), some (.int x3), some (.int (0 : Int32)), l5, l6, l7, l8, l9, l10], [.ref x0]) (C 136 [.ref x0] h)) none) (cond (decide ((999 : Int32) < x1)) (cond (isO h x0 11) (a_back R 120 (136, [.ref x0], h, true, none, 17, [some (.ref x0), some (.int x1), some (.int x2), some (.int x3), some (.int (0 : Int32)), l5, l6, l7, l8, l9, l10], [.ref x0]) (C 136 [.ref x0] h)) none) (cond (decide (x2 < 0)) (cond (isO h x0 11) (a_back R 120 (136, [.ref x0], h, true, none, 17, [some (.ref x0), some (.int x1), some (.int x2), some (.int x3), some (.int (0 : Int32)), l5, l6, l7, l8, l9, l10], [.ref x0]) (C 136 [.ref x0] h)) none) (cond (decide ((5 : Int32) < x2)) (cond (isO h x0 11) (a_back R 120 (136, [.ref x0], h, true, none, 17, [some (.ref x0), some (.int x1), some (.int x2), some (.int x3), some (.int (0 : Int32)), l5, l6, l7, l8, l9, l10], [.ref x0]) (C 136 [.ref x0] h)) none) (cond (isO h x0 11) (a_back R 120 (136, [.ref x0], h, true, none, 17, [some (.ref x0), some (.int x1), some (.int x2), some (.int x3), some (.int (1 : Int32)), l5, l6, l7, l8, l9, l10], [.ref x0]) (C 136 [.ref x0] h)) none))))) := (tr (r120_0 ..) (tr (r120_1 ..) (cgB (tr (r120_12 ..) (tr (r120_13 ..) (tr (r120_14 ..) (tr (r120_15 ..) (r120_16 ..))))) (tr (r120_2 ..) (tr (r120_3 ..) (tr (r120_4 ..) (cgB (tr (r120_12 ..) (tr (r120_13 ..) (tr (r120_14 ..) (tr (r120_15 ..) (r120_16 ..))))) (tr (r120_5 ..) (tr (r120_6 ..) (cgB (tr (r120_12 ..) (tr (r120_13 ..) (tr (r120_14 ..) (tr (r120_15 ..) (r120_16 ..))))) (tr (r120_7 ..) (tr (r120_8 ..) (tr (r120_9 ..) (cgB (tr (r120_12 ..) (tr (r120_13 ..) (tr (r120_14 ..) (tr (r120_15 ..) (r120_16 ..))))) (tr (r120_10 ..) (tr (r120_11 ..) (tr (r120_13 ..) (tr (r120_14 ..) (tr (r120_15 ..) (r120_16 ..))))))))))))))))))))
theorem b120_17 (x0 : Nat) (x1 : Int32) (x2 : Int32) (x3 : Int32) (x4 : Int32) (l5 : Option Value) (l6 : Option Value) (l7 : Option Value) (l8 : Option Value) (l9 : Option Value) (l10 : Option Value) (s0 : Nat) (s1 : Int32) (h : A_H) : R 120 17 [some (.ref x0), some (.int x1), some (.int x2), some (.int x3), some (.int x4), l5, l6, l7, l8, l9, l10] [.int s1, .ref s0] h = (cond (decide (x4 = 0)) (a_back R 120 (135, [.int s1, .int (2 : Int32)], h, true, none, 23, [some (.ref x0), some (.int x1), some (.int x2), some (.int x3), some (.int x4), l5, l6, l7, l8, l9, l10], [.ref s0]) (C 135 [.int s1, .int (2 : Int32)] h)) (a_back R 120 (135, [.int s1, .int (0 : Int32)], h, true, none, 23, [some (.ref x0), some (.int x1), some (.int x2), some (.int x3), some (.int x4), l5, l6, l7, l8, l9, l10], [.ref s0]) (C 135 [.int s1, .int (0 : Int32)] h))) := (tr (r120_17 ..) (tr (r120_18 ..) (cgB (tr (r120_21 ..) (r120_22 ..)) (tr (r120_19 ..) (tr (r120_20 ..) (r120_22 ..))))))
theorem b120_23 (x0 : Nat) (x1 : Int32) (x2 : Int32) (x3 : Int32) (x4 : Int32) (l5 : Option Value) (l6 : Option Value) (l7 : Option Value) (l8 : Option Value) (l9 : Option Value) (l10 : Option Value) (s0 : Nat) (s1 : Int32) (h : A_H) : R 120 23 [some (.ref x0), some (.int x1), some (.int x2), some (.int x3), some (.int x4), l5, l6, l7, l8, l9, l10] [.int s1, .ref s0] h = (cond (isO h s0 11) (a_back R 120 (134, [.ref s0, .int s1], h, true, none, 24, [some (.ref x0), some (.int x1), some (.int x2), some (.int x3), some (.int x4), l5, l6, l7, l8, l9, l10], []) (C 134 [.ref s0, .int s1] h)) none) := (r120_23 ..)
theorem b120_24 (x0 : Nat) (x1 : Int32) (x2 : Int32) (x3 : Int32) (x4 : Int32) (l5 : Option Value) (l6 : Option Value) (l7 : Option Value) (l8 : Option Value) (l9 : Option Value) (l10 : Option Value) (s0 : Int32) (h : A_H) : R 120 24 [some (.ref x0), some (.int x1), some (.int x2), some (.int x3), some (.int x4), l5, l6, l7, l8, l9, l10] [.int s0] h = (cond (decide (s0 = 0)) (R 120 34 [some (.ref x0), some (.int x1), some (.int x2), some (.int x3), some (.int x4), some (.long (x1).toInt64), none, some (.long (1 : Int64)), none, some (.int (0 : Int32)), l10] [] h) (some (some (some (.long (-1 : Int64))), h))) := (tr (r120_24 ..) (cgB (tr (r120_27 ..) (tr (r120_28 ..) (tr (r120_29 ..) (tr (r120_30 ..) (tr (r120_31 ..) (tr (r120_32 ..) (r120_33 ..))))))) (tr (r120_25 ..) (r120_26 ..))))
theorem b120_34 (x0 : Nat) (x1 : Int32) (x2 : Int32) (x3 : Int32) (x4 : Int32) (x5 : Int64) (x7 : Int64) (x9 : Int32) (l10 : Option Value) (h : A_H) : R 120 34 [some (.ref x0), some (.int x1), some (.int x2), some (.int x3), some (.int x4), some (.long x5), none, some (.long x7), none, some (.int x9), l10] [] h = (cond (decide (x2 ≤ x9)) (a_back R 120 (121, [.long x5, .long x7], h, true, none, 55, [some (.ref x0), some (.int x1), some (.int x2), some (.int x3), some (.int x4), some (.long x5), none, some (.long x7), none, some (.int x9), l10], []) (C 121 [.long x5, .long x7] h)) (cond (isO h x0 11 && (hP h x0 3).isSome) (cond (isO h ((hP h x0 3).getD 0) 9) (R 120 34 [some (.ref x0), some (.int x1), some (.int x2), some (.int x3), some (.int x4), some (.long (x5 * (((100 : Int32) + (hI h ((hP h x0 3).getD 0) 1))).toInt64)), none, some (.long (x7 * (100 : Int64))), none, some (.int (x9 + 1)), l10] [] h) none) none)) := (tr (r120_34 ..) (tr (r120_35 ..) (tr (r120_36 ..) (cgB (tr (r120_52 ..) (tr (r120_53 ..) (r120_54 ..))) (tr (r120_37 ..) (tr (r120_38 ..) (tr (r120_39 ..) (tr (r120_40 ..) (cgT (tr (r120_41 ..) (cgT (tr (r120_42 ..) (tr (r120_43 ..) (tr (r120_44 ..) (tr (r120_45 ..) (tr (r120_46 ..) (tr (r120_47 ..) (tr (r120_48 ..) (tr (r120_49 ..) (tr (r120_50 ..) (r120_51 ..)))))))))))))))))))))
theorem b120_55 (x0 : Nat) (x1 : Int32) (x2 : Int32) (x3 : Int32) (x4 : Int32) (x5 : Int64) (x7 : Int64) (x9 : Int32) (l10 : Option Value) (s0 : Int64) (h : A_H) : R 120 55 [some (.ref x0), some (.int x1), some (.int x2), some (.int x3), some (.int x4), some (.long x5), none, some (.long x7), none, some (.int x9), l10] [.long s0] h = (cond (decide (x3 = 0)) (cond (!decide (s0 = 0)) (some (some (some (.long (x5 / s0))), h)) none) (cond (!decide (s0 = 0)) (some (some (some (.long (x7 / s0))), h)) none)) := (tr (r120_55 ..) (tr (r120_56 ..) (tr (r120_57 ..) (cgB (tr (r120_60 ..) (tr (r120_61 ..) (tr (r120_62 ..) (cgT (r120_63 ..))))) (tr (r120_58 ..) (tr (r120_59 ..) (tr (r120_61 ..) (tr (r120_62 ..) (cgT (r120_63 ..))))))))))
theorem e121 (x0 : Int64) (x1 : Int64) (h : A_H) : C 121 [.long x0, .long x1] h = R 121 0 [some (.long x0), none, some (.long x1), none, none, none, none, none, none, none, none] [] h := rfl
theorem r121_0 (ls : A_V) (st : List Value) (h : A_H) : R 121 0 ls st h = a_do a_nL R R 121 (s_lldl 0 1 ls st h) := a_R_eq ..
theorem r121_1 (ls : A_V) (st : List Value) (h : A_H) : R 121 1 ls st h = a_do a_nL R R 121 (s_lst 4 2 ls st h) := a_R_eq ..
theorem r121_2 (ls : A_V) (st : List Value) (h : A_H) : R 121 2 ls st h = a_do a_nL R R 121 (s_lldl 2 3 ls st h) := a_R_eq ..
theorem r121_3 (ls : A_V) (st : List Value) (h : A_H) : R 121 3 ls st h = a_do a_nL R R 121 (s_lst 6 4 ls st h) := a_R_eq ..
theorem r121_4 (ls : A_V) (st : List Value) (h : A_H) : R 121 4 ls st h = a_do a_nL R R 121 (s_push (.int 0) 5 ls st h) := a_R_eq ..
theorem r121_5 (ls : A_V) (st : List Value) (h : A_H) : R 121 5 ls st h = a_do a_nL R R 121 (s_ist 8 6 ls st h) := a_R_eq ..
theorem r121_6 (ls : A_V) (st : List Value) (h : A_H) : R 121 6 ls st h = a_do a_nL R R 121 (s_ildl 8 7 ls st h) := a_R_eq ..
theorem r121_7 (ls : A_V) (st : List Value) (h : A_H) : R 121 7 ls st h = a_do a_nL R R 121 (s_push (.int 200) 8 ls st h) := a_R_eq ..
theorem r121_8 (ls : A_V) (st : List Value) (h : A_H) : R 121 8 ls st h = a_do a_nL R R 121 (s_if2 (fun x y => decide (y ≤ x)) 23 9 ls st h) := a_R_eq ..
theorem r121_9 (ls : A_V) (st : List Value) (h : A_H) : R 121 9 ls st h = a_do a_nL R R 121 (s_lldl 6 10 ls st h) := a_R_eq ..
theorem r121_10 (ls : A_V) (st : List Value) (h : A_H) : R 121 10 ls st h = a_do a_nL R R 121 (s_push (.long 0) 11 ls st h) := a_R_eq ..
theorem r121_11 (ls : A_V) (st : List Value) (h : A_H) : R 121 11 ls st h = a_do a_nL R R 121 (s_lcmp 12 ls st h) := a_R_eq ..
theorem r121_12 (ls : A_V) (st : List Value) (h : A_H) : R 121 12 ls st h = a_do a_nL R R 121 (s_if1 (fun x => decide (x = 0)) 23 13 ls st h) := a_R_eq ..
theorem r121_13 (ls : A_V) (st : List Value) (h : A_H) : R 121 13 ls st h = a_do a_nL R R 121 (s_lldl 4 14 ls st h) := a_R_eq ..
theorem r121_14 (ls : A_V) (st : List Value) (h : A_H) : R 121 14 ls st h = a_do a_nL R R 121 (s_lldl 6 15 ls st h) := a_R_eq ..
theorem r121_15 (ls : A_V) (st : List Value) (h : A_H) : R 121 15 ls st h = a_do a_nL R R 121 (s_bld (fun x y => x - x / y * y) 16 ls st h) := a_R_eq ..
theorem r121_16 (ls : A_V) (st : List Value) (h : A_H) : R 121 16 ls st h = a_do a_nL R R 121 (s_lst 9 17 ls st h) := a_R_eq ..
theorem r121_17 (ls : A_V) (st : List Value) (h : A_H) : R 121 17 ls st h = a_do a_nL R R 121 (s_lldl 6 18 ls st h) := a_R_eq ..
theorem r121_18 (ls : A_V) (st : List Value) (h : A_H) : R 121 18 ls st h = a_do a_nL R R 121 (s_lst 4 19 ls st h) := a_R_eq ..
theorem r121_19 (ls : A_V) (st : List Value) (h : A_H) : R 121 19 ls st h = a_do a_nL R R 121 (s_lldl 9 20 ls st h) := a_R_eq ..
theorem r121_20 (ls : A_V) (st : List Value) (h : A_H) : R 121 20 ls st h = a_do a_nL R R 121 (s_lst 6 21 ls st h) := a_R_eq ..
theorem r121_21 (ls : A_V) (st : List Value) (h : A_H) : R 121 21 ls st h = a_do a_nL R R 121 (s_inc 8 1 22 ls st h) := a_R_eq ..
theorem r121_22 (ls : A_V) (st : List Value) (h : A_H) : R 121 22 ls st h = a_do a_nL R R 121 (s_goto 6 ls st h) := a_R_eq ..
theorem r121_23 (ls : A_V) (st : List Value) (h : A_H) : R 121 23 ls st h = a_do a_nL R R 121 (s_push (.long 1) 24 ls st h) := a_R_eq ..
theorem r121_24 (ls : A_V) (st : List Value) (h : A_H) : R 121 24 ls st h = a_do a_nL R R 121 (s_lldl 4 25 ls st h) := a_R_eq ..
theorem r121_25 (ls : A_V) (st : List Value) (h : A_H) : R 121 25 ls st h = a_do a_nL R R 121 (s_mbl (fun x y => if y < x then x else y) 26 ls st h) := a_R_eq ..
theorem r121_26 (ls : A_V) (st : List Value) (h : A_H) : R 121 26 ls st h = a_do a_nL R R 121 (s_lret ls st h) := a_R_eq ..
theorem b121_0 (x0 : Int64) (x2 : Int64) (l4 : Option Value) (l5 : Option Value) (l6 : Option Value) (l7 : Option Value) (l8 : Option Value) (l9 : Option Value) (l10 : Option Value) (h : A_H) : R 121 0 [some (.long x0), none, some (.long x2), none, l4, l5, l6, l7, l8, l9, l10] [] h = (R 121 6 [some (.long x0), none, some (.long x2), none, some (.long x0), none, some (.long x2), none, some (.int (0 : Int32)), l9, l10] [] h) := (tr (r121_0 ..) (tr (r121_1 ..) (tr (r121_2 ..) (tr (r121_3 ..) (tr (r121_4 ..) (r121_5 ..))))))
theorem b121_6 (x0 : Int64) (x2 : Int64) (x4 : Int64) (x6 : Int64) (x8 : Int32) (l9 : Option Value) (l10 : Option Value) (h : A_H) : R 121 6 [some (.long x0), none, some (.long x2), none, some (.long x4), none, some (.long x6), none, some (.int x8), l9, l10] [] h = (cond (decide ((200 : Int32) ≤ x8)) (some (some (some (.long (if x4 < (1 : Int64) then (1 : Int64) else x4))), h)) (cond (decide ((lg_cmp x6 (0 : Int64)) = 0)) (some (some (some (.long (if x4 < (1 : Int64) then (1 : Int64) else x4))), h)) (cond (!decide (x6 = 0)) (R 121 6 [some (.long x0), none, some (.long x2), none, some (.long x6), none, some (.long (x4 - x4 / x6 * x6)), none, some (.int (x8 + 1)), some (.long (x4 - x4 / x6 * x6)), none] [] h) none))) := (tr (r121_6 ..) (tr (r121_7 ..) (tr (r121_8 ..) (cgB (tr (r121_23 ..) (tr (r121_24 ..) (tr (r121_25 ..) (r121_26 ..)))) (tr (r121_9 ..) (tr (r121_10 ..) (tr (r121_11 ..) (tr (r121_12 ..) (cgB (tr (r121_23 ..) (tr (r121_24 ..) (tr (r121_25 ..) (r121_26 ..)))) (tr (r121_13 ..) (tr (r121_14 ..) (tr (r121_15 ..) (cgT (tr (r121_16 ..) (tr (r121_17 ..) (tr (r121_18 ..) (tr (r121_19 ..) (tr (r121_20 ..) (tr (r121_21 ..) (r121_22 ..))))))))))))))))))))
theorem e122 (x0 : Nat) (x1 : Int32) (h : A_H) : C 122 [.ref x0, .int x1] h = R 122 0 [some (.ref x0), some (.int x1)] [] h := rfl
theorem r122_0 (ls : A_V) (st : List Value) (h : A_H) : R 122 0 ls st h = a_do a_nL R R 122 (s_aldl 0 1 ls st h) := a_R_eq ..
theorem r122_1 (ls : A_V) (st : List Value) (h : A_H) : R 122 1 ls st h = a_do a_nL R R 122 (s_aldl 0 2 ls st h) := a_R_eq ..
theorem r122_2 (ls : A_V) (st : List Value) (h : A_H) : R 122 2 ls st h = a_do a_nL R R 122 (s_call 14 136 1 1 true 3 ls st h) := a_R_eq ..
theorem r122_3 (ls : A_V) (st : List Value) (h : A_H) : R 122 3 ls st h = a_do a_nL R R 122 (s_ildl 1 4 ls st h) := a_R_eq ..
theorem r122_4 (ls : A_V) (st : List Value) (h : A_H) : R 122 4 ls st h = a_do a_nL R R 122 (s_call 0 142 1 1 true 5 ls st h) := a_R_eq ..
theorem r122_5 (ls : A_V) (st : List Value) (h : A_H) : R 122 5 ls st h = a_do a_nL R R 122 (s_call 0 135 2 2 true 6 ls st h) := a_R_eq ..
theorem r122_6 (ls : A_V) (st : List Value) (h : A_H) : R 122 6 ls st h = a_do a_nL R R 122 (s_call 14 134 2 2 true 7 ls st h) := a_R_eq ..
theorem r122_7 (ls : A_V) (st : List Value) (h : A_H) : R 122 7 ls st h = a_do a_nL R R 122 (s_if1 (fun x => decide (x = 0)) 10 8 ls st h) := a_R_eq ..
theorem r122_8 (ls : A_V) (st : List Value) (h : A_H) : R 122 8 ls st h = a_do a_nL R R 122 (s_push (.int (-1)) 9 ls st h) := a_R_eq ..
theorem r122_9 (ls : A_V) (st : List Value) (h : A_H) : R 122 9 ls st h = a_do a_nL R R 122 (s_iret ls st h) := a_R_eq ..
theorem r122_10 (ls : A_V) (st : List Value) (h : A_H) : R 122 10 ls st h = a_do a_nL R R 122 (s_aldl 0 11 ls st h) := a_R_eq ..
theorem r122_11 (ls : A_V) (st : List Value) (h : A_H) : R 122 11 ls st h = a_do a_nL R R 122 (s_getR 11 7 12 ls st h) := a_R_eq ..
theorem r122_12 (ls : A_V) (st : List Value) (h : A_H) : R 122 12 ls st h = a_do a_nL R R 122 (s_ildl 1 13 ls st h) := a_R_eq ..
theorem r122_13 (ls : A_V) (st : List Value) (h : A_H) : R 122 13 ls st h = a_do a_nL R R 122 (s_putI 6 2 14 ls st h) := a_R_eq ..
theorem r122_14 (ls : A_V) (st : List Value) (h : A_H) : R 122 14 ls st h = a_do a_nL R R 122 (s_aldl 0 15 ls st h) := a_R_eq ..
theorem r122_15 (ls : A_V) (st : List Value) (h : A_H) : R 122 15 ls st h = a_do a_nL R R 122 (s_getR 11 7 16 ls st h) := a_R_eq ..
theorem r122_16 (ls : A_V) (st : List Value) (h : A_H) : R 122 16 ls st h = a_do a_nL R R 122 (s_aldl 0 17 ls st h) := a_R_eq ..
theorem r122_17 (ls : A_V) (st : List Value) (h : A_H) : R 122 17 ls st h = a_do a_nL R R 122 (s_getR 11 3 18 ls st h) := a_R_eq ..
theorem r122_18 (ls : A_V) (st : List Value) (h : A_H) : R 122 18 ls st h = a_do a_nL R R 122 (s_push (.int 1) 19 ls st h) := a_R_eq ..
theorem r122_19 (ls : A_V) (st : List Value) (h : A_H) : R 122 19 ls st h = a_do a_nL R R 122 (s_call 9 18 3 5 false 20 ls st h) := a_R_eq ..
theorem r122_20 (ls : A_V) (st : List Value) (h : A_H) : R 122 20 ls st h = a_do a_nL R R 122 (s_aldl 0 21 ls st h) := a_R_eq ..
theorem r122_21 (ls : A_V) (st : List Value) (h : A_H) : R 122 21 ls st h = a_do a_nL R R 122 (s_getR 11 7 22 ls st h) := a_R_eq ..
theorem r122_22 (ls : A_V) (st : List Value) (h : A_H) : R 122 22 ls st h = a_do a_nL R R 122 (s_getR 6 0 23 ls st h) := a_R_eq ..
theorem r122_23 (ls : A_V) (st : List Value) (h : A_H) : R 122 23 ls st h = a_do a_nL R R 122 (s_call 11 54 1 3 true 24 ls st h) := a_R_eq ..
theorem r122_24 (ls : A_V) (st : List Value) (h : A_H) : R 122 24 ls st h = a_do a_nL R R 122 (s_iret ls st h) := a_R_eq ..
theorem b122_0 (x0 : Nat) (x1 : Int32) (h : A_H) : R 122 0 [some (.ref x0), some (.int x1)] [] h = (cond (isO h x0 11) (a_back R 122 (136, [.ref x0], h, true, none, 3, [some (.ref x0), some (.int x1)], [.ref x0]) (C 136 [.ref x0] h)) none) := (tr (r122_0 ..) (tr (r122_1 ..) (r122_2 ..)))
theorem b122_3 (x0 : Nat) (x1 : Int32) (s0 : Nat) (s1 : Int32) (h : A_H) : R 122 3 [some (.ref x0), some (.int x1)] [.int s1, .ref s0] h = (a_back R 122 (142, [.int x1], h, true, none, 5, [some (.ref x0), some (.int x1)], [.int s1, .ref s0]) (C 142 [.int x1] h)) := (tr (r122_3 ..) (r122_4 ..))
theorem b122_5 (x0 : Nat) (x1 : Int32) (s0 : Nat) (s1 : Int32) (s2 : Int32) (h : A_H) : R 122 5 [some (.ref x0), some (.int x1)] [.int s2, .int s1, .ref s0] h = (a_back R 122 (135, [.int s1, .int s2], h, true, none, 6, [some (.ref x0), some (.int x1)], [.ref s0]) (C 135 [.int s1, .int s2] h)) := (r122_5 ..)
theorem b122_6 (x0 : Nat) (x1 : Int32) (s0 : Nat) (s1 : Int32) (h : A_H) : R 122 6 [some (.ref x0), some (.int x1)] [.int s1, .ref s0] h = (cond (isO h s0 11) (a_back R 122 (134, [.ref s0, .int s1], h, true, none, 7, [some (.ref x0), some (.int x1)], []) (C 134 [.ref s0, .int s1] h)) none) := (r122_6 ..)
theorem b122_7 (x0 : Nat) (x1 : Int32) (s0 : Int32) (h : A_H) : R 122 7 [some (.ref x0), some (.int x1)] [.int s0] h = (cond (decide (s0 = 0)) (cond (isO h x0 11 && (hP h x0 7).isSome) (cond (isO h ((hP h x0 7).getD 0) 6) (R 122 14 [some (.ref x0), some (.int x1)] [] (wI h ((hP h x0 7).getD 0) 2 x1)) none) none) (some (some (some (.int (-1 : Int32))), h))) := (tr (r122_7 ..) (cgB (tr (r122_10 ..) (tr (r122_11 ..) (cgT (tr (r122_12 ..) (r122_13 ..))))) (tr (r122_8 ..) (r122_9 ..))))
theorem b122_14 (x0 : Nat) (x1 : Int32) (h : A_H) : R 122 14 [some (.ref x0), some (.int x1)] [] h = (cond (isO h x0 11 && (hP h x0 7).isSome) (cond (isO h x0 11 && (hP h x0 3).isSome) (cond (isO h ((hP h x0 7).getD 0) 6) (a_back R 122 (18, [.ref ((hP h x0 7).getD 0), .ref ((hP h x0 3).getD 0), .int (1 : Int32)], h, false, none, 20, [some (.ref x0), some (.int x1)], []) (C 18 [.ref ((hP h x0 7).getD 0), .ref ((hP h x0 3).getD 0), .int (1 : Int32)] h)) none) none) none) := (tr (r122_14 ..) (tr (r122_15 ..) (cgT (tr (r122_16 ..) (tr (r122_17 ..) (cgT (tr (r122_18 ..) (r122_19 ..))))))))
theorem b122_20 (x0 : Nat) (x1 : Int32) (h : A_H) : R 122 20 [some (.ref x0), some (.int x1)] [] h = (cond (isO h x0 11 && (hP h x0 7).isSome) (cond (isO h ((hP h x0 7).getD 0) 6 && (hP h ((hP h x0 7).getD 0) 0).isSome) (cond (isO h ((hP h ((hP h x0 7).getD 0) 0).getD 0) 8) (a_back R 122 (54, [.ref ((hP h ((hP h x0 7).getD 0) 0).getD 0)], h, true, none, 24, [some (.ref x0), some (.int x1)], []) (C 54 [.ref ((hP h ((hP h x0 7).getD 0) 0).getD 0)] h)) none) none) none) := (tr (r122_20 ..) (tr (r122_21 ..) (cgT (tr (r122_22 ..) (cgT (r122_23 ..))))))
theorem b122_24 (x0 : Nat) (x1 : Int32) (s0 : Int32) (h : A_H) : R 122 24 [some (.ref x0), some (.int x1)] [.int s0] h = (some (some (some (.int s0)), h)) := (r122_24 ..)
theorem e123 (x0 : Nat) (x1 : Int32) (x2 : Int32) (x3 : Int32) (h : A_H) : C 123 [.ref x0, .int x1, .int x2, .int x3] h = R 123 0 [some (.ref x0), some (.int x1), some (.int x2), some (.int x3), none, none, none] [] h := rfl
theorem r123_0 (ls : A_V) (st : List Value) (h : A_H) : R 123 0 ls st h = a_do a_nL R R 123 (s_ildl 3 1 ls st h) := a_R_eq ..
theorem r123_1 (ls : A_V) (st : List Value) (h : A_H) : R 123 1 ls st h = a_do a_nL R R 123 (s_push (.int 1) 2 ls st h) := a_R_eq ..
theorem r123_2 (ls : A_V) (st : List Value) (h : A_H) : R 123 2 ls st h = a_do a_nL R R 123 (s_if2 (fun x y => decide (x < y)) 8 3 ls st h) := a_R_eq ..
theorem r123_3 (ls : A_V) (st : List Value) (h : A_H) : R 123 3 ls st h = a_do a_nL R R 123 (s_ildl 3 4 ls st h) := a_R_eq ..
theorem r123_4 (ls : A_V) (st : List Value) (h : A_H) : R 123 4 ls st h = a_do a_nL R R 123 (s_push (.int 50) 5 ls st h) := a_R_eq ..
theorem r123_5 (ls : A_V) (st : List Value) (h : A_H) : R 123 5 ls st h = a_do a_nL R R 123 (s_if2 (fun x y => decide (y < x)) 8 6 ls st h) := a_R_eq ..
theorem r123_6 (ls : A_V) (st : List Value) (h : A_H) : R 123 6 ls st h = a_do a_nL R R 123 (s_push (.int 0) 7 ls st h) := a_R_eq ..
theorem r123_7 (ls : A_V) (st : List Value) (h : A_H) : R 123 7 ls st h = a_do a_nL R R 123 (s_goto 9 ls st h) := a_R_eq ..
theorem r123_8 (ls : A_V) (st : List Value) (h : A_H) : R 123 8 ls st h = a_do a_nL R R 123 (s_push (.int 2) 9 ls st h) := a_R_eq ..
theorem r123_9 (ls : A_V) (st : List Value) (h : A_H) : R 123 9 ls st h = a_do a_nL R R 123 (s_ist 4 10 ls st h) := a_R_eq ..
theorem r123_10 (ls : A_V) (st : List Value) (h : A_H) : R 123 10 ls st h = a_do a_nL R R 123 (s_aldl 0 11 ls st h) := a_R_eq ..
theorem r123_11 (ls : A_V) (st : List Value) (h : A_H) : R 123 11 ls st h = a_do a_nL R R 123 (s_aldl 0 12 ls st h) := a_R_eq ..
theorem r123_12 (ls : A_V) (st : List Value) (h : A_H) : R 123 12 ls st h = a_do a_nL R R 123 (s_ildl 1 13 ls st h) := a_R_eq ..
theorem r123_13 (ls : A_V) (st : List Value) (h : A_H) : R 123 13 ls st h = a_do a_nL R R 123 (s_call 14 137 2 2 true 14 ls st h) := a_R_eq ..
theorem r123_14 (ls : A_V) (st : List Value) (h : A_H) : R 123 14 ls st h = a_do a_nL R R 123 (s_ildl 2 15 ls st h) := a_R_eq ..
theorem r123_15 (ls : A_V) (st : List Value) (h : A_H) : R 123 15 ls st h = a_do a_nL R R 123 (s_call 0 142 1 1 true 16 ls st h) := a_R_eq ..
theorem r123_16 (ls : A_V) (st : List Value) (h : A_H) : R 123 16 ls st h = a_do a_nL R R 123 (s_ildl 4 17 ls st h) := a_R_eq ..
theorem r123_17 (ls : A_V) (st : List Value) (h : A_H) : R 123 17 ls st h = a_do a_nL R R 123 (s_call 0 135 2 2 true 18 ls st h) := a_R_eq ..
theorem r123_18 (ls : A_V) (st : List Value) (h : A_H) : R 123 18 ls st h = a_do a_nL R R 123 (s_call 0 135 2 2 true 19 ls st h) := a_R_eq ..
theorem r123_19 (ls : A_V) (st : List Value) (h : A_H) : R 123 19 ls st h = a_do a_nL R R 123 (s_call 14 134 2 2 true 20 ls st h) := a_R_eq ..
theorem r123_20 (ls : A_V) (st : List Value) (h : A_H) : R 123 20 ls st h = a_do a_nL R R 123 (s_if1 (fun x => decide (x = 0)) 23 21 ls st h) := a_R_eq ..
theorem r123_21 (ls : A_V) (st : List Value) (h : A_H) : R 123 21 ls st h = a_do a_nL R R 123 (s_push (.int (-1)) 22 ls st h) := a_R_eq ..
theorem r123_22 (ls : A_V) (st : List Value) (h : A_H) : R 123 22 ls st h = a_do a_nL R R 123 (s_iret ls st h) := a_R_eq ..
theorem r123_23 (ls : A_V) (st : List Value) (h : A_H) : R 123 23 ls st h = a_do a_nL R R 123 (s_aldl 0 24 ls st h) := a_R_eq ..
theorem r123_24 (ls : A_V) (st : List Value) (h : A_H) : R 123 24 ls st h = a_do a_nL R R 123 (s_getR 11 7 25 ls st h) := a_R_eq ..
theorem r123_25 (ls : A_V) (st : List Value) (h : A_H) : R 123 25 ls st h = a_do a_nL R R 123 (s_ildl 2 26 ls st h) := a_R_eq ..
theorem r123_26 (ls : A_V) (st : List Value) (h : A_H) : R 123 26 ls st h = a_do a_nL R R 123 (s_putI 6 2 27 ls st h) := a_R_eq ..
theorem r123_27 (ls : A_V) (st : List Value) (h : A_H) : R 123 27 ls st h = a_do a_nL R R 123 (s_push (.int 0) 28 ls st h) := a_R_eq ..
theorem r123_28 (ls : A_V) (st : List Value) (h : A_H) : R 123 28 ls st h = a_do a_nL R R 123 (s_ist 5 29 ls st h) := a_R_eq ..
theorem r123_29 (ls : A_V) (st : List Value) (h : A_H) : R 123 29 ls st h = a_do a_nL R R 123 (s_push (.int 0) 30 ls st h) := a_R_eq ..
theorem r123_30 (ls : A_V) (st : List Value) (h : A_H) : R 123 30 ls st h = a_do a_nL R R 123 (s_ist 6 31 ls st h) := a_R_eq ..
theorem r123_31 (ls : A_V) (st : List Value) (h : A_H) : R 123 31 ls st h = a_do a_nL R R 123 (s_ildl 6 32 ls st h) := a_R_eq ..
theorem r123_32 (ls : A_V) (st : List Value) (h : A_H) : R 123 32 ls st h = a_do a_nL R R 123 (s_ildl 3 33 ls st h) := a_R_eq ..
theorem r123_33 (ls : A_V) (st : List Value) (h : A_H) : R 123 33 ls st h = a_do a_nL R R 123 (s_if2 (fun x y => decide (y ≤ x)) 53 34 ls st h) := a_R_eq ..
theorem r123_34 (ls : A_V) (st : List Value) (h : A_H) : R 123 34 ls st h = a_do a_nL R R 123 (s_aldl 0 35 ls st h) := a_R_eq ..
theorem r123_35 (ls : A_V) (st : List Value) (h : A_H) : R 123 35 ls st h = a_do a_nL R R 123 (s_getR 11 7 36 ls st h) := a_R_eq ..
theorem r123_36 (ls : A_V) (st : List Value) (h : A_H) : R 123 36 ls st h = a_do a_nL R R 123 (s_aldl 0 37 ls st h) := a_R_eq ..
theorem r123_37 (ls : A_V) (st : List Value) (h : A_H) : R 123 37 ls st h = a_do a_nL R R 123 (s_getR 11 3 38 ls st h) := a_R_eq ..
theorem r123_38 (ls : A_V) (st : List Value) (h : A_H) : R 123 38 ls st h = a_do a_nL R R 123 (s_push (.int 1) 39 ls st h) := a_R_eq ..
theorem r123_39 (ls : A_V) (st : List Value) (h : A_H) : R 123 39 ls st h = a_do a_nL R R 123 (s_call 9 18 3 5 false 40 ls st h) := a_R_eq ..
theorem r123_40 (ls : A_V) (st : List Value) (h : A_H) : R 123 40 ls st h = a_do a_nL R R 123 (s_ildl 5 41 ls st h) := a_R_eq ..
theorem r123_41 (ls : A_V) (st : List Value) (h : A_H) : R 123 41 ls st h = a_do a_nL R R 123 (s_aldl 0 42 ls st h) := a_R_eq ..
theorem r123_42 (ls : A_V) (st : List Value) (h : A_H) : R 123 42 ls st h = a_do a_nL R R 123 (s_getR 11 7 43 ls st h) := a_R_eq ..
theorem r123_43 (ls : A_V) (st : List Value) (h : A_H) : R 123 43 ls st h = a_do a_nL R R 123 (s_getR 6 0 44 ls st h) := a_R_eq ..
theorem r123_44 (ls : A_V) (st : List Value) (h : A_H) : R 123 44 ls st h = a_do a_nL R R 123 (s_getI 8 3 45 ls st h) := a_R_eq ..
theorem r123_45 (ls : A_V) (st : List Value) (h : A_H) : R 123 45 ls st h = a_do a_nL R R 123 (s_ildl 1 46 ls st h) := a_R_eq ..
theorem r123_46 (ls : A_V) (st : List Value) (h : A_H) : R 123 46 ls st h = a_do a_nL R R 123 (s_bi (fun x y => x >>> (y &&& 31)) 47 ls st h) := a_R_eq ..
theorem r123_47 (ls : A_V) (st : List Value) (h : A_H) : R 123 47 ls st h = a_do a_nL R R 123 (s_push (.int 1) 48 ls st h) := a_R_eq ..
theorem r123_48 (ls : A_V) (st : List Value) (h : A_H) : R 123 48 ls st h = a_do a_nL R R 123 (s_bi (fun x y => x &&& y) 49 ls st h) := a_R_eq ..
theorem r123_49 (ls : A_V) (st : List Value) (h : A_H) : R 123 49 ls st h = a_do a_nL R R 123 (s_bi (fun x y => x + y) 50 ls st h) := a_R_eq ..
theorem r123_50 (ls : A_V) (st : List Value) (h : A_H) : R 123 50 ls st h = a_do a_nL R R 123 (s_ist 5 51 ls st h) := a_R_eq ..
theorem r123_51 (ls : A_V) (st : List Value) (h : A_H) : R 123 51 ls st h = a_do a_nL R R 123 (s_inc 6 1 52 ls st h) := a_R_eq ..
theorem r123_52 (ls : A_V) (st : List Value) (h : A_H) : R 123 52 ls st h = a_do a_nL R R 123 (s_goto 31 ls st h) := a_R_eq ..
theorem r123_53 (ls : A_V) (st : List Value) (h : A_H) : R 123 53 ls st h = a_do a_nL R R 123 (s_ildl 5 54 ls st h) := a_R_eq ..
theorem r123_54 (ls : A_V) (st : List Value) (h : A_H) : R 123 54 ls st h = a_do a_nL R R 123 (s_iret ls st h) := a_R_eq ..
theorem b123_0 (x0 : Nat) (x1 : Int32) (x2 : Int32) (x3 : Int32) (l4 : Option Value) (l5 : Option Value) (l6 : Option Value) (h : A_H) : R 123 0 [some (.ref x0), some (.int x1), some (.int x2), some (.int x3), l4, l5, l6] [] h = (cond (decide (x3 < (1 : Int32))) (cond (isO h x0 11) (a_back R 123 (137, [.ref x0, .int x1], h, true, none, 14, [some (.ref x0), some (.int x1), some (.int x2), some (.int x3), some (.int (2 : Int32)), l5, l6], [.ref x0]) (C 137 [.ref x0, .int x1] h)) none) (cond (decide ((50 : Int32) < x3)) (cond (isO h x0 11) (a_back R 123 (137, [.ref x0, .int x1], h, true, none, 14, [some (.ref x0), some (.int x1), some (.int x2), some (.int x3), some (.int (2 : Int32)), l5, l6], [.ref x0]) (C 137 [.ref x0, .int x1] h)) none) (cond (isO h x0 11) (a_back R 123 (137, [.ref x0, .int x1], h, true, none, 14, [some (.ref x0), some (.int x1), some (.int x2), some (.int x3), some (.int (0 : Int32)), l5, l6], [.ref x0]) (C 137 [.ref x0, .int x1] h)) none))) := (tr (r123_0 ..) (tr (r123_1 ..) (tr (r123_2 ..) (cgB (tr (r123_8 ..) (tr (r123_9 ..) (tr (r123_10 ..) (tr (r123_11 ..) (tr (r123_12 ..) (r123_13 ..)))))) (tr (r123_3 ..) (tr (r123_4 ..) (tr (r123_5 ..) (cgB (tr (r123_8 ..) (tr (r123_9 ..) (tr (r123_10 ..) (tr (r123_11 ..) (tr (r123_12 ..) (r123_13 ..)))))) (tr (r123_6 ..) (tr (r123_7 ..) (tr (r123_9 ..) (tr (r123_10 ..) (tr (r123_11 ..) (tr (r123_12 ..) (r123_13 ..)))))))))))))))
theorem b123_14 (x0 : Nat) (x1 : Int32) (x2 : Int32) (x3 : Int32) (x4 : Int32) (l5 : Option Value) (l6 : Option Value) (s0 : Nat) (s1 : Int32) (h : A_H) : R 123 14 [some (.ref x0), some (.int x1), some (.int x2), some (.int x3), some (.int x4), l5, l6] [.int s1, .ref s0] h = (a_back R 123 (142, [.int x2], h, true, none, 16, [some (.ref x0), some (.int x1), some (.int x2), some (.int x3), some (.int x4), l5, l6], [.int s1, .ref s0]) (C 142 [.int x2] h)) := (tr (r123_14 ..) (r123_15 ..))
theorem b123_16 (x0 : Nat) (x1 : Int32) (x2 : Int32) (x3 : Int32) (x4 : Int32) (l5 : Option Value) (l6 : Option Value) (s0 : Nat) (s1 : Int32) (s2 : Int32) (h : A_H) : R 123 16 [some (.ref x0), some (.int x1), some (.int x2), some (.int x3), some (.int x4), l5, l6] [.int s2, .int s1, .ref s0] h = (a_back R 123 (135, [.int s2, .int x4], h, true, none, 18, [some (.ref x0), some (.int x1), some (.int x2), some (.int x3), some (.int x4), l5, l6], [.int s1, .ref s0]) (C 135 [.int s2, .int x4] h)) := (tr (r123_16 ..) (r123_17 ..))
theorem b123_18 (x0 : Nat) (x1 : Int32) (x2 : Int32) (x3 : Int32) (x4 : Int32) (l5 : Option Value) (l6 : Option Value) (s0 : Nat) (s1 : Int32) (s2 : Int32) (h : A_H) : R 123 18 [some (.ref x0), some (.int x1), some (.int x2), some (.int x3), some (.int x4), l5, l6] [.int s2, .int s1, .ref s0] h = (a_back R 123 (135, [.int s1, .int s2], h, true, none, 19, [some (.ref x0), some (.int x1), some (.int x2), some (.int x3), some (.int x4), l5, l6], [.ref s0]) (C 135 [.int s1, .int s2] h)) := (r123_18 ..)
theorem b123_19 (x0 : Nat) (x1 : Int32) (x2 : Int32) (x3 : Int32) (x4 : Int32) (l5 : Option Value) (l6 : Option Value) (s0 : Nat) (s1 : Int32) (h : A_H) : R 123 19 [some (.ref x0), some (.int x1), some (.int x2), some (.int x3), some (.int x4), l5, l6] [.int s1, .ref s0] h = (cond (isO h s0 11) (a_back R 123 (134, [.ref s0, .int s1], h, true, none, 20, [some (.ref x0), some (.int x1), some (.int x2), some (.int x3), some (.int x4), l5, l6], []) (C 134 [.ref s0, .int s1] h)) none) := (r123_19 ..)
theorem b123_20 (x0 : Nat) (x1 : Int32) (x2 : Int32) (x3 : Int32) (x4 : Int32) (l5 : Option Value) (l6 : Option Value) (s0 : Int32) (h : A_H) : R 123 20 [some (.ref x0), some (.int x1), some (.int x2), some (.int x3), some (.int x4), l5, l6] [.int s0] h = (cond (decide (s0 = 0)) (cond (isO h x0 11 && (hP h x0 7).isSome) (cond (isO h ((hP h x0 7).getD 0) 6) (R 123 27 [some (.ref x0), some (.int x1), some (.int x2), some (.int x3), some (.int x4), l5, l6] [] (wI h ((hP h x0 7).getD 0) 2 x2)) none) none) (some (some (some (.int (-1 : Int32))), h))) := (tr (r123_20 ..) (cgB (tr (r123_23 ..) (tr (r123_24 ..) (cgT (tr (r123_25 ..) (r123_26 ..))))) (tr (r123_21 ..) (r123_22 ..))))
theorem b123_27 (x0 : Nat) (x1 : Int32) (x2 : Int32) (x3 : Int32) (x4 : Int32) (l5 : Option Value) (l6 : Option Value) (h : A_H) : R 123 27 [some (.ref x0), some (.int x1), some (.int x2), some (.int x3), some (.int x4), l5, l6] [] h = (R 123 31 [some (.ref x0), some (.int x1), some (.int x2), some (.int x3), some (.int x4), some (.int (0 : Int32)), some (.int (0 : Int32))] [] h) := (tr (r123_27 ..) (tr (r123_28 ..) (tr (r123_29 ..) (r123_30 ..))))
theorem b123_31 (x0 : Nat) (x1 : Int32) (x2 : Int32) (x3 : Int32) (x4 : Int32) (x5 : Int32) (x6 : Int32) (h : A_H) : R 123 31 [some (.ref x0), some (.int x1), some (.int x2), some (.int x3), some (.int x4), some (.int x5), some (.int x6)] [] h = (cond (decide (x3 ≤ x6)) (some (some (some (.int x5)), h)) (cond (isO h x0 11 && (hP h x0 7).isSome) (cond (isO h x0 11 && (hP h x0 3).isSome) (cond (isO h ((hP h x0 7).getD 0) 6) (a_back R 123 (18, [.ref ((hP h x0 7).getD 0), .ref ((hP h x0 3).getD 0), .int (1 : Int32)], h, false, none, 40, [some (.ref x0), some (.int x1), some (.int x2), some (.int x3), some (.int x4), some (.int x5), some (.int x6)], []) (C 18 [.ref ((hP h x0 7).getD 0), .ref ((hP h x0 3).getD 0), .int (1 : Int32)] h)) none) none) none)) := (tr (r123_31 ..) (tr (r123_32 ..) (tr (r123_33 ..) (cgB (tr (r123_53 ..) (r123_54 ..)) (tr (r123_34 ..) (tr (r123_35 ..) (cgT (tr (r123_36 ..) (tr (r123_37 ..) (cgT (tr (r123_38 ..) (r123_39 ..))))))))))))
theorem b123_40 (x0 : Nat) (x1 : Int32) (x2 : Int32) (x3 : Int32) (x4 : Int32) (x5 : Int32) (x6 : Int32) (h : A_H) : R 123 40 [some (.ref x0), some (.int x1), some (.int x2), some (.int x3), some (.int x4), some (.int x5), some (.int x6)] [] h = (cond (isO h x0 11 && (hP h x0 7).isSome) (cond (isO h ((hP h x0 7).getD 0) 6 && (hP h ((hP h x0 7).getD 0) 0).isSome) (cond (isO h ((hP h ((hP h x0 7).getD 0) 0).getD 0) 8) (R 123 31 [some (.ref x0), some (.int x1), some (.int x2), some (.int x3), some (.int x4), some (.int (x5 + (((hI h ((hP h ((hP h x0 7).getD 0) 0).getD 0) 3) >>> (x1 &&& 31)) &&& (1 : Int32)))), some (.int (x6 + 1))] [] h) none) none) none) := (tr (r123_40 ..) (tr (r123_41 ..) (tr (r123_42 ..) (cgT (tr (r123_43 ..) (cgT (tr (r123_44 ..) (cgT (tr (r123_45 ..) (tr (r123_46 ..) (tr (r123_47 ..) (tr (r123_48 ..) (tr (r123_49 ..) (tr (r123_50 ..) (tr (r123_51 ..) (r123_52 ..))))))))))))))))
theorem e124 (x0 : Nat) (x1 : Int32) (h : A_H) : C 124 [.ref x0, .int x1] h = R 124 0 [some (.ref x0), some (.int x1)] [] h := rfl
theorem r124_0 (ls : A_V) (st : List Value) (h : A_H) : R 124 0 ls st h = a_do a_nL R R 124 (s_aldl 0 1 ls st h) := a_R_eq ..
theorem r124_1 (ls : A_V) (st : List Value) (h : A_H) : R 124 1 ls st h = a_do a_nL R R 124 (s_aldl 0 2 ls st h) := a_R_eq ..
theorem r124_2 (ls : A_V) (st : List Value) (h : A_H) : R 124 2 ls st h = a_do a_nL R R 124 (s_ildl 1 3 ls st h) := a_R_eq ..
theorem r124_3 (ls : A_V) (st : List Value) (h : A_H) : R 124 3 ls st h = a_do a_nL R R 124 (s_call 14 137 2 2 true 4 ls st h) := a_R_eq ..
theorem r124_4 (ls : A_V) (st : List Value) (h : A_H) : R 124 4 ls st h = a_do a_nL R R 124 (s_aldl 0 5 ls st h) := a_R_eq ..
theorem r124_5 (ls : A_V) (st : List Value) (h : A_H) : R 124 5 ls st h = a_do a_nL R R 124 (s_ildl 1 6 ls st h) := a_R_eq ..
theorem r124_6 (ls : A_V) (st : List Value) (h : A_H) : R 124 6 ls st h = a_do a_nL R R 124 (s_call 14 145 2 2 true 7 ls st h) := a_R_eq ..
theorem r124_7 (ls : A_V) (st : List Value) (h : A_H) : R 124 7 ls st h = a_do a_nL R R 124 (s_call 0 135 2 2 true 8 ls st h) := a_R_eq ..
theorem r124_8 (ls : A_V) (st : List Value) (h : A_H) : R 124 8 ls st h = a_do a_nL R R 124 (s_call 14 134 2 2 true 9 ls st h) := a_R_eq ..
theorem r124_9 (ls : A_V) (st : List Value) (h : A_H) : R 124 9 ls st h = a_do a_nL R R 124 (s_if1 (fun x => decide (x = 0)) 12 10 ls st h) := a_R_eq ..
theorem r124_10 (ls : A_V) (st : List Value) (h : A_H) : R 124 10 ls st h = a_do a_nL R R 124 (s_push (.int 0) 11 ls st h) := a_R_eq ..
theorem r124_11 (ls : A_V) (st : List Value) (h : A_H) : R 124 11 ls st h = a_do a_nL R R 124 (s_zret ls st h) := a_R_eq ..
theorem r124_12 (ls : A_V) (st : List Value) (h : A_H) : R 124 12 ls st h = a_do a_nL R R 124 (s_aldl 0 13 ls st h) := a_R_eq ..
theorem r124_13 (ls : A_V) (st : List Value) (h : A_H) : R 124 13 ls st h = a_do a_nL R R 124 (s_aldl 0 14 ls st h) := a_R_eq ..
theorem r124_14 (ls : A_V) (st : List Value) (h : A_H) : R 124 14 ls st h = a_do a_nL R R 124 (s_aldl 0 15 ls st h) := a_R_eq ..
theorem r124_15 (ls : A_V) (st : List Value) (h : A_H) : R 124 15 ls st h = a_do a_nL R R 124 (s_getR 11 3 16 ls st h) := a_R_eq ..
theorem r124_16 (ls : A_V) (st : List Value) (h : A_H) : R 124 16 ls st h = a_do a_nL R R 124 (s_getR 9 12 17 ls st h) := a_R_eq ..
theorem r124_17 (ls : A_V) (st : List Value) (h : A_H) : R 124 17 ls st h = a_do a_nL R R 124 (s_ildl 1 18 ls st h) := a_R_eq ..
theorem r124_18 (ls : A_V) (st : List Value) (h : A_H) : R 124 18 ls st h = a_do a_nL R R 124 (s_aal 6 19 ls st h) := a_R_eq ..
theorem r124_19 (ls : A_V) (st : List Value) (h : A_H) : R 124 19 ls st h = a_do a_nL R R 124 (s_getI 3 2 20 ls st h) := a_R_eq ..
theorem r124_20 (ls : A_V) (st : List Value) (h : A_H) : R 124 20 ls st h = a_do a_nL R R 124 (s_call 14 147 2 3 true 21 ls st h) := a_R_eq ..
theorem r124_21 (ls : A_V) (st : List Value) (h : A_H) : R 124 21 ls st h = a_do a_nL R R 124 (s_if1 (fun x => decide (x ≤ 0)) 24 22 ls st h) := a_R_eq ..
theorem r124_22 (ls : A_V) (st : List Value) (h : A_H) : R 124 22 ls st h = a_do a_nL R R 124 (s_push (.int 0) 23 ls st h) := a_R_eq ..
theorem r124_23 (ls : A_V) (st : List Value) (h : A_H) : R 124 23 ls st h = a_do a_nL R R 124 (s_goto 25 ls st h) := a_R_eq ..
theorem r124_24 (ls : A_V) (st : List Value) (h : A_H) : R 124 24 ls st h = a_do a_nL R R 124 (s_push (.int 5) 25 ls st h) := a_R_eq ..
theorem r124_25 (ls : A_V) (st : List Value) (h : A_H) : R 124 25 ls st h = a_do a_nL R R 124 (s_call 14 134 2 2 true 26 ls st h) := a_R_eq ..
theorem r124_26 (ls : A_V) (st : List Value) (h : A_H) : R 124 26 ls st h = a_do a_nL R R 124 (s_if1 (fun x => decide (x = 0)) 29 27 ls st h) := a_R_eq ..
theorem r124_27 (ls : A_V) (st : List Value) (h : A_H) : R 124 27 ls st h = a_do a_nL R R 124 (s_push (.int 0) 28 ls st h) := a_R_eq ..
theorem r124_28 (ls : A_V) (st : List Value) (h : A_H) : R 124 28 ls st h = a_do a_nL R R 124 (s_zret ls st h) := a_R_eq ..
theorem r124_29 (ls : A_V) (st : List Value) (h : A_H) : R 124 29 ls st h = a_do a_nL R R 124 (s_aldl 0 30 ls st h) := a_R_eq ..
theorem r124_30 (ls : A_V) (st : List Value) (h : A_H) : R 124 30 ls st h = a_do a_nL R R 124 (s_getR 11 6 31 ls st h) := a_R_eq ..
theorem r124_31 (ls : A_V) (st : List Value) (h : A_H) : R 124 31 ls st h = a_do a_nL R R 124 (s_aldl 0 32 ls st h) := a_R_eq ..
theorem r124_32 (ls : A_V) (st : List Value) (h : A_H) : R 124 32 ls st h = a_do a_nL R R 124 (s_getR 11 5 33 ls st h) := a_R_eq ..
theorem r124_33 (ls : A_V) (st : List Value) (h : A_H) : R 124 33 ls st h = a_do a_nL R R 124 (s_call 7 12 2 2 false 34 ls st h) := a_R_eq ..
theorem r124_34 (ls : A_V) (st : List Value) (h : A_H) : R 124 34 ls st h = a_do a_nL R R 124 (s_aldl 0 35 ls st h) := a_R_eq ..
theorem r124_35 (ls : A_V) (st : List Value) (h : A_H) : R 124 35 ls st h = a_do a_nL R R 124 (s_getR 11 5 36 ls st h) := a_R_eq ..
theorem r124_36 (ls : A_V) (st : List Value) (h : A_H) : R 124 36 ls st h = a_do a_nL R R 124 (s_dup 37 ls st h) := a_R_eq ..
theorem r124_37 (ls : A_V) (st : List Value) (h : A_H) : R 124 37 ls st h = a_do a_nL R R 124 (s_getI 8 1 38 ls st h) := a_R_eq ..
theorem r124_38 (ls : A_V) (st : List Value) (h : A_H) : R 124 38 ls st h = a_do a_nL R R 124 (s_push (.int 1) 39 ls st h) := a_R_eq ..
theorem r124_39 (ls : A_V) (st : List Value) (h : A_H) : R 124 39 ls st h = a_do a_nL R R 124 (s_ildl 1 40 ls st h) := a_R_eq ..
theorem r124_40 (ls : A_V) (st : List Value) (h : A_H) : R 124 40 ls st h = a_do a_nL R R 124 (s_bi (fun x y => x <<< (y &&& 31)) 41 ls st h) := a_R_eq ..
theorem r124_41 (ls : A_V) (st : List Value) (h : A_H) : R 124 41 ls st h = a_do a_nL R R 124 (s_bi (fun x y => x ||| y) 42 ls st h) := a_R_eq ..
theorem r124_42 (ls : A_V) (st : List Value) (h : A_H) : R 124 42 ls st h = a_do a_nL R R 124 (s_putI 8 1 43 ls st h) := a_R_eq ..
theorem r124_43 (ls : A_V) (st : List Value) (h : A_H) : R 124 43 ls st h = a_do a_nL R R 124 (s_push (.int 1) 44 ls st h) := a_R_eq ..
theorem r124_44 (ls : A_V) (st : List Value) (h : A_H) : R 124 44 ls st h = a_do a_nL R R 124 (s_zret ls st h) := a_R_eq ..
theorem b124_0 (x0 : Nat) (x1 : Int32) (h : A_H) : R 124 0 [some (.ref x0), some (.int x1)] [] h = (cond (isO h x0 11) (a_back R 124 (137, [.ref x0, .int x1], h, true, none, 4, [some (.ref x0), some (.int x1)], [.ref x0]) (C 137 [.ref x0, .int x1] h)) none) := (tr (r124_0 ..) (tr (r124_1 ..) (tr (r124_2 ..) (r124_3 ..))))
theorem b124_4 (x0 : Nat) (x1 : Int32) (s0 : Nat) (s1 : Int32) (h : A_H) : R 124 4 [some (.ref x0), some (.int x1)] [.int s1, .ref s0] h = (cond (isO h x0 11) (a_back R 124 (145, [.ref x0, .int x1], h, true, none, 7, [some (.ref x0), some (.int x1)], [.int s1, .ref s0]) (C 145 [.ref x0, .int x1] h)) none) := (tr (r124_4 ..) (tr (r124_5 ..) (r124_6 ..)))
theorem b124_7 (x0 : Nat) (x1 : Int32) (s0 : Nat) (s1 : Int32) (s2 : Int32) (h : A_H) : R 124 7 [some (.ref x0), some (.int x1)] [.int s2, .int s1, .ref s0] h = (a_back R 124 (135, [.int s1, .int s2], h, true, none, 8, [some (.ref x0), some (.int x1)], [.ref s0]) (C 135 [.int s1, .int s2] h)) := (r124_7 ..)
theorem b124_8 (x0 : Nat) (x1 : Int32) (s0 : Nat) (s1 : Int32) (h : A_H) : R 124 8 [some (.ref x0), some (.int x1)] [.int s1, .ref s0] h = (cond (isO h s0 11) (a_back R 124 (134, [.ref s0, .int s1], h, true, none, 9, [some (.ref x0), some (.int x1)], []) (C 134 [.ref s0, .int s1] h)) none) := (r124_8 ..)
theorem b124_9 (x0 : Nat) (x1 : Int32) (s0 : Int32) (h : A_H) : R 124 9 [some (.ref x0), some (.int x1)] [.int s0] h = (cond (decide (s0 = 0)) (cond (isO h x0 11 && (hP h x0 3).isSome) (cond (isO h ((hP h x0 3).getD 0) 9 && (hP h ((hP h x0 3).getD 0) 12).isSome) (cond (isA h ((hP h ((hP h x0 3).getD 0) 12).getD 0) 6 x1 && (hP h ((hP h ((hP h x0 3).getD 0) 12).getD 0) (x1).toNatClampNeg).isSome) (cond (isO h ((hP h ((hP h ((hP h x0 3).getD 0) 12).getD 0) (x1).toNatClampNeg).getD 0) 3) (cond (isO h x0 11) (a_back R 124 (147, [.ref x0, .int (hI h ((hP h ((hP h ((hP h x0 3).getD 0) 12).getD 0) (x1).toNatClampNeg).getD 0) 2)], h, true, none, 21, [some (.ref x0), some (.int x1)], [.ref x0]) (C 147 [.ref x0, .int (hI h ((hP h ((hP h ((hP h x0 3).getD 0) 12).getD 0) (x1).toNatClampNeg).getD 0) 2)] h)) none) none) none) none) none) (cond (decide ((0 : Int32) = 0) || decide ((0 : Int32) = 1)) (some (some (some (.int (0 : Int32))), h)) none)) := (tr (r124_9 ..) (cgB (tr (r124_12 ..) (tr (r124_13 ..) (tr (r124_14 ..) (tr (r124_15 ..) (cgT (tr (r124_16 ..) (cgT (tr (r124_17 ..) (tr (r124_18 ..) (cgT (tr (r124_19 ..) (cgT (r124_20 ..))))))))))))) (tr (r124_10 ..) (r124_11 ..))))
theorem b124_21 (x0 : Nat) (x1 : Int32) (s0 : Nat) (s1 : Int32) (h : A_H) : R 124 21 [some (.ref x0), some (.int x1)] [.int s1, .ref s0] h = (cond (decide (s1 ≤ 0)) (cond (isO h s0 11) (a_back R 124 (134, [.ref s0, .int (5 : Int32)], h, true, none, 26, [some (.ref x0), some (.int x1)], []) (C 134 [.ref s0, .int (5 : Int32)] h)) none) (cond (isO h s0 11) (a_back R 124 (134, [.ref s0, .int (0 : Int32)], h, true, none, 26, [some (.ref x0), some (.int x1)], []) (C 134 [.ref s0, .int (0 : Int32)] h)) none)) := (tr (r124_21 ..) (cgB (tr (r124_24 ..) (r124_25 ..)) (tr (r124_22 ..) (tr (r124_23 ..) (r124_25 ..)))))
theorem b124_26 (x0 : Nat) (x1 : Int32) (s0 : Int32) (h : A_H) : R 124 26 [some (.ref x0), some (.int x1)] [.int s0] h = (cond (decide (s0 = 0)) (cond (isO h x0 11 && (hP h x0 6).isSome) (cond (isO h x0 11 && (hP h x0 5).isSome) (cond (isO h ((hP h x0 6).getD 0) 4) (a_back R 124 (12, [.ref ((hP h x0 6).getD 0), .ref ((hP h x0 5).getD 0)], h, false, none, 34, [some (.ref x0), some (.int x1)], []) (C 12 [.ref ((hP h x0 6).getD 0), .ref ((hP h x0 5).getD 0)] h)) none) none) none) (cond (decide ((0 : Int32) = 0) || decide ((0 : Int32) = 1)) (some (some (some (.int (0 : Int32))), h)) none)) := (tr (r124_26 ..) (cgB (tr (r124_29 ..) (tr (r124_30 ..) (cgT (tr (r124_31 ..) (tr (r124_32 ..) (cgT (r124_33 ..))))))) (tr (r124_27 ..) (r124_28 ..))))
theorem b124_34 (x0 : Nat) (x1 : Int32) (h : A_H) : R 124 34 [some (.ref x0), some (.int x1)] [] h = (cond (isO h x0 11 && (hP h x0 5).isSome) (cond (isO h ((hP h x0 5).getD 0) 8) (cond (isO h ((hP h x0 5).getD 0) 8) (R 124 43 [some (.ref x0), some (.int x1)] [] (wI h ((hP h x0 5).getD 0) 1 ((hI h ((hP h x0 5).getD 0) 1) ||| ((1 : Int32) <<< (x1 &&& 31))))) none) none) none) := (tr (r124_34 ..) (tr (r124_35 ..) (cgT (tr (r124_36 ..) (tr (r124_37 ..) (cgT (tr (r124_38 ..) (tr (r124_39 ..) (tr (r124_40 ..) (tr (r124_41 ..) (r124_42 ..)))))))))))
theorem b124_43 (x0 : Nat) (x1 : Int32) (h : A_H) : R 124 43 [some (.ref x0), some (.int x1)] [] h = (cond (decide ((1 : Int32) = 0) || decide ((1 : Int32) = 1)) (some (some (some (.int (1 : Int32))), h)) none) := (tr (r124_43 ..) (r124_44 ..))
theorem e125 (x0 : Nat) (x1 : Int32) (x2 : Int32) (h : A_H) : C 125 [.ref x0, .int x1, .int x2] h = R 125 0 [some (.ref x0), some (.int x1), some (.int x2), none] [] h := rfl
theorem r125_0 (ls : A_V) (st : List Value) (h : A_H) : R 125 0 ls st h = a_do a_nL R R 125 (s_aldl 0 1 ls st h) := a_R_eq ..
theorem r125_1 (ls : A_V) (st : List Value) (h : A_H) : R 125 1 ls st h = a_do a_nL R R 125 (s_aldl 0 2 ls st h) := a_R_eq ..
theorem r125_2 (ls : A_V) (st : List Value) (h : A_H) : R 125 2 ls st h = a_do a_nL R R 125 (s_ildl 1 3 ls st h) := a_R_eq ..
theorem r125_3 (ls : A_V) (st : List Value) (h : A_H) : R 125 3 ls st h = a_do a_nL R R 125 (s_call 14 137 2 2 true 4 ls st h) := a_R_eq ..
theorem r125_4 (ls : A_V) (st : List Value) (h : A_H) : R 125 4 ls st h = a_do a_nL R R 125 (s_aldl 0 5 ls st h) := a_R_eq ..
theorem r125_5 (ls : A_V) (st : List Value) (h : A_H) : R 125 5 ls st h = a_do a_nL R R 125 (s_ildl 1 6 ls st h) := a_R_eq ..
theorem r125_6 (ls : A_V) (st : List Value) (h : A_H) : R 125 6 ls st h = a_do a_nL R R 125 (s_call 14 145 2 2 true 7 ls st h) := a_R_eq ..
theorem r125_7 (ls : A_V) (st : List Value) (h : A_H) : R 125 7 ls st h = a_do a_nL R R 125 (s_call 0 135 2 2 true 8 ls st h) := a_R_eq ..
theorem r125_8 (ls : A_V) (st : List Value) (h : A_H) : R 125 8 ls st h = a_do a_nL R R 125 (s_call 14 134 2 2 true 9 ls st h) := a_R_eq ..
theorem r125_9 (ls : A_V) (st : List Value) (h : A_H) : R 125 9 ls st h = a_do a_nL R R 125 (s_if1 (fun x => decide (x = 0)) 12 10 ls st h) := a_R_eq ..
theorem r125_10 (ls : A_V) (st : List Value) (h : A_H) : R 125 10 ls st h = a_do a_nL R R 125 (s_push (.int 0) 11 ls st h) := a_R_eq ..
theorem r125_11 (ls : A_V) (st : List Value) (h : A_H) : R 125 11 ls st h = a_do a_nL R R 125 (s_zret ls st h) := a_R_eq ..
theorem r125_12 (ls : A_V) (st : List Value) (h : A_H) : R 125 12 ls st h = a_do a_nL R R 125 (s_aldl 0 13 ls st h) := a_R_eq ..
theorem r125_13 (ls : A_V) (st : List Value) (h : A_H) : R 125 13 ls st h = a_do a_nL R R 125 (s_getR 11 5 14 ls st h) := a_R_eq ..
theorem r125_14 (ls : A_V) (st : List Value) (h : A_H) : R 125 14 ls st h = a_do a_nL R R 125 (s_getI 8 4 15 ls st h) := a_R_eq ..
theorem r125_15 (ls : A_V) (st : List Value) (h : A_H) : R 125 15 ls st h = a_do a_nL R R 125 (s_ildl 1 16 ls st h) := a_R_eq ..
theorem r125_16 (ls : A_V) (st : List Value) (h : A_H) : R 125 16 ls st h = a_do a_nL R R 125 (s_bi (fun x y => x >>> (y &&& 31)) 17 ls st h) := a_R_eq ..
theorem r125_17 (ls : A_V) (st : List Value) (h : A_H) : R 125 17 ls st h = a_do a_nL R R 125 (s_push (.int 1) 18 ls st h) := a_R_eq ..
theorem r125_18 (ls : A_V) (st : List Value) (h : A_H) : R 125 18 ls st h = a_do a_nL R R 125 (s_bi (fun x y => x &&& y) 19 ls st h) := a_R_eq ..
theorem r125_19 (ls : A_V) (st : List Value) (h : A_H) : R 125 19 ls st h = a_do a_nL R R 125 (s_if1 (fun x => decide (x = 0)) 22 20 ls st h) := a_R_eq ..
theorem r125_20 (ls : A_V) (st : List Value) (h : A_H) : R 125 20 ls st h = a_do a_nL R R 125 (s_push (.int 1) 21 ls st h) := a_R_eq ..
theorem r125_21 (ls : A_V) (st : List Value) (h : A_H) : R 125 21 ls st h = a_do a_nL R R 125 (s_goto 23 ls st h) := a_R_eq ..
theorem r125_22 (ls : A_V) (st : List Value) (h : A_H) : R 125 22 ls st h = a_do a_nL R R 125 (s_push (.int 0) 23 ls st h) := a_R_eq ..
theorem r125_23 (ls : A_V) (st : List Value) (h : A_H) : R 125 23 ls st h = a_do a_nL R R 125 (s_ist 3 24 ls st h) := a_R_eq ..
theorem r125_24 (ls : A_V) (st : List Value) (h : A_H) : R 125 24 ls st h = a_do a_nL R R 125 (s_aldl 0 25 ls st h) := a_R_eq ..
theorem r125_25 (ls : A_V) (st : List Value) (h : A_H) : R 125 25 ls st h = a_do a_nL R R 125 (s_ildl 3 26 ls st h) := a_R_eq ..
theorem r125_26 (ls : A_V) (st : List Value) (h : A_H) : R 125 26 ls st h = a_do a_nL R R 125 (s_ildl 2 27 ls st h) := a_R_eq ..
theorem r125_27 (ls : A_V) (st : List Value) (h : A_H) : R 125 27 ls st h = a_do a_nL R R 125 (s_if2 (fun x y => !decide (x = y)) 30 28 ls st h) := a_R_eq ..
theorem r125_28 (ls : A_V) (st : List Value) (h : A_H) : R 125 28 ls st h = a_do a_nL R R 125 (s_push (.int 5) 29 ls st h) := a_R_eq ..
theorem r125_29 (ls : A_V) (st : List Value) (h : A_H) : R 125 29 ls st h = a_do a_nL R R 125 (s_goto 31 ls st h) := a_R_eq ..
theorem r125_30 (ls : A_V) (st : List Value) (h : A_H) : R 125 30 ls st h = a_do a_nL R R 125 (s_push (.int 0) 31 ls st h) := a_R_eq ..
theorem r125_31 (ls : A_V) (st : List Value) (h : A_H) : R 125 31 ls st h = a_do a_nL R R 125 (s_call 14 134 2 2 true 32 ls st h) := a_R_eq ..
theorem r125_32 (ls : A_V) (st : List Value) (h : A_H) : R 125 32 ls st h = a_do a_nL R R 125 (s_if1 (fun x => decide (x = 0)) 35 33 ls st h) := a_R_eq ..
theorem r125_33 (ls : A_V) (st : List Value) (h : A_H) : R 125 33 ls st h = a_do a_nL R R 125 (s_push (.int 0) 34 ls st h) := a_R_eq ..
theorem r125_34 (ls : A_V) (st : List Value) (h : A_H) : R 125 34 ls st h = a_do a_nL R R 125 (s_zret ls st h) := a_R_eq ..
theorem r125_35 (ls : A_V) (st : List Value) (h : A_H) : R 125 35 ls st h = a_do a_nL R R 125 (s_aldl 0 36 ls st h) := a_R_eq ..
theorem r125_36 (ls : A_V) (st : List Value) (h : A_H) : R 125 36 ls st h = a_do a_nL R R 125 (s_getR 11 6 37 ls st h) := a_R_eq ..
theorem r125_37 (ls : A_V) (st : List Value) (h : A_H) : R 125 37 ls st h = a_do a_nL R R 125 (s_aldl 0 38 ls st h) := a_R_eq ..
theorem r125_38 (ls : A_V) (st : List Value) (h : A_H) : R 125 38 ls st h = a_do a_nL R R 125 (s_getR 11 5 39 ls st h) := a_R_eq ..
theorem r125_39 (ls : A_V) (st : List Value) (h : A_H) : R 125 39 ls st h = a_do a_nL R R 125 (s_call 7 12 2 2 false 40 ls st h) := a_R_eq ..
theorem r125_40 (ls : A_V) (st : List Value) (h : A_H) : R 125 40 ls st h = a_do a_nL R R 125 (s_aldl 0 41 ls st h) := a_R_eq ..
theorem r125_41 (ls : A_V) (st : List Value) (h : A_H) : R 125 41 ls st h = a_do a_nL R R 125 (s_getR 11 5 42 ls st h) := a_R_eq ..
theorem r125_42 (ls : A_V) (st : List Value) (h : A_H) : R 125 42 ls st h = a_do a_nL R R 125 (s_dup 43 ls st h) := a_R_eq ..
theorem r125_43 (ls : A_V) (st : List Value) (h : A_H) : R 125 43 ls st h = a_do a_nL R R 125 (s_getI 8 4 44 ls st h) := a_R_eq ..
theorem r125_44 (ls : A_V) (st : List Value) (h : A_H) : R 125 44 ls st h = a_do a_nL R R 125 (s_push (.int 1) 45 ls st h) := a_R_eq ..
theorem r125_45 (ls : A_V) (st : List Value) (h : A_H) : R 125 45 ls st h = a_do a_nL R R 125 (s_ildl 1 46 ls st h) := a_R_eq ..
theorem r125_46 (ls : A_V) (st : List Value) (h : A_H) : R 125 46 ls st h = a_do a_nL R R 125 (s_bi (fun x y => x <<< (y &&& 31)) 47 ls st h) := a_R_eq ..
theorem r125_47 (ls : A_V) (st : List Value) (h : A_H) : R 125 47 ls st h = a_do a_nL R R 125 (s_bi (fun x y => x ^^^ y) 48 ls st h) := a_R_eq ..
theorem r125_48 (ls : A_V) (st : List Value) (h : A_H) : R 125 48 ls st h = a_do a_nL R R 125 (s_putI 8 4 49 ls st h) := a_R_eq ..
theorem r125_49 (ls : A_V) (st : List Value) (h : A_H) : R 125 49 ls st h = a_do a_nL R R 125 (s_push (.int 1) 50 ls st h) := a_R_eq ..
theorem r125_50 (ls : A_V) (st : List Value) (h : A_H) : R 125 50 ls st h = a_do a_nL R R 125 (s_zret ls st h) := a_R_eq ..
theorem b125_0 (x0 : Nat) (x1 : Int32) (x2 : Int32) (l3 : Option Value) (h : A_H) : R 125 0 [some (.ref x0), some (.int x1), some (.int x2), l3] [] h = (cond (isO h x0 11) (a_back R 125 (137, [.ref x0, .int x1], h, true, none, 4, [some (.ref x0), some (.int x1), some (.int x2), l3], [.ref x0]) (C 137 [.ref x0, .int x1] h)) none) := (tr (r125_0 ..) (tr (r125_1 ..) (tr (r125_2 ..) (r125_3 ..))))
theorem b125_4 (x0 : Nat) (x1 : Int32) (x2 : Int32) (l3 : Option Value) (s0 : Nat) (s1 : Int32) (h : A_H) : R 125 4 [some (.ref x0), some (.int x1), some (.int x2), l3] [.int s1, .ref s0] h = (cond (isO h x0 11) (a_back R 125 (145, [.ref x0, .int x1], h, true, none, 7, [some (.ref x0), some (.int x1), some (.int x2), l3], [.int s1, .ref s0]) (C 145 [.ref x0, .int x1] h)) none) := (tr (r125_4 ..) (tr (r125_5 ..) (r125_6 ..)))
theorem b125_7 (x0 : Nat) (x1 : Int32) (x2 : Int32) (l3 : Option Value) (s0 : Nat) (s1 : Int32) (s2 : Int32) (h : A_H) : R 125 7 [some (.ref x0), some (.int x1), some (.int x2), l3] [.int s2, .int s1, .ref s0] h = (a_back R 125 (135, [.int s1, .int s2], h, true, none, 8, [some (.ref x0), some (.int x1), some (.int x2), l3], [.ref s0]) (C 135 [.int s1, .int s2] h)) := (r125_7 ..)
theorem b125_8 (x0 : Nat) (x1 : Int32) (x2 : Int32) (l3 : Option Value) (s0 : Nat) (s1 : Int32) (h : A_H) : R 125 8 [some (.ref x0), some (.int x1), some (.int x2), l3] [.int s1, .ref s0] h = (cond (isO h s0 11) (a_back R 125 (134, [.ref s0, .int s1], h, true, none, 9, [some (.ref x0), some (.int x1), some (.int x2), l3], []) (C 134 [.ref s0, .int s1] h)) none) := (r125_8 ..)
theorem b125_9 (x0 : Nat) (x1 : Int32) (x2 : Int32) (l3 : Option Value) (s0 : Int32) (h : A_H) : R 125 9 [some (.ref x0), some (.int x1), some (.int x2), l3] [.int s0] h = (cond (decide (s0 = 0)) (cond (isO h x0 11 && (hP h x0 5).isSome) (cond (isO h ((hP h x0 5).getD 0) 8) (cond (decide ((((hI h ((hP h x0 5).getD 0) 4) >>> (x1 &&& 31)) &&& (1 : Int32)) = 0)) (cond (!decide ((0 : Int32) = x2)) (cond (isO h x0 11) (a_back R 125 (134, [.ref x0, .int (0 : Int32)], h, true, none, 32, [some (.ref x0), some (.int x1), some (.int x2), some (.int (0 : Int32))], []) (C 134 [.ref x0, .int (0 : Int32)] h)) none) (cond (isO h x0 11) (a_back R 125 (134, [.ref x0, .int (5 : Int32)], h, true, none, 32, [some (.ref x0), some (.int x1), some (.int x2), some (.int (0 : Int32))], []) (C 134 [.ref x0, .int (5 : Int32)] h)) none)) (cond (!decide ((1 : Int32) = x2)) (cond (isO h x0 11) (a_back R 125 (134, [.ref x0, .int (0 : Int32)], h, true, none, 32, [some (.ref x0), some (.int x1), some (.int x2), some (.int (1 : Int32))], []) (C 134 [.ref x0, .int (0 : Int32)] h)) none) (cond (isO h x0 11) (a_back R 125 (134, [.ref x0, .int (5 : Int32)], h, true, none, 32, [some (.ref x0), some (.int x1), some (.int x2), some (.int (1 : Int32))], []) (C 134 [.ref x0, .int (5 : Int32)] h)) none))) none) none) (cond (decide ((0 : Int32) = 0) || decide ((0 : Int32) = 1)) (some (some (some (.int (0 : Int32))), h)) none)) := (tr (r125_9 ..) (cgB (tr (r125_12 ..) (tr (r125_13 ..) (cgT (tr (r125_14 ..) (cgT (tr (r125_15 ..) (tr (r125_16 ..) (tr (r125_17 ..) (tr (r125_18 ..) (tr (r125_19 ..) (cgB (tr (r125_22 ..) (tr (r125_23 ..) (tr (r125_24 ..) (tr (r125_25 ..) (tr (r125_26 ..) (tr (r125_27 ..) (cgB (tr (r125_30 ..) (r125_31 ..)) (tr (r125_28 ..) (tr (r125_29 ..) (r125_31 ..)))))))))) (tr (r125_20 ..) (tr (r125_21 ..) (tr (r125_23 ..) (tr (r125_24 ..) (tr (r125_25 ..) (tr (r125_26 ..) (tr (r125_27 ..) (cgB (tr (r125_30 ..) (r125_31 ..)) (tr (r125_28 ..) (tr (r125_29 ..) (r125_31 ..)))))))))))))))))))))) (tr (r125_10 ..) (r125_11 ..))))
theorem b125_32 (x0 : Nat) (x1 : Int32) (x2 : Int32) (x3 : Int32) (s0 : Int32) (h : A_H) : R 125 32 [some (.ref x0), some (.int x1), some (.int x2), some (.int x3)] [.int s0] h = (cond (decide (s0 = 0)) (cond (isO h x0 11 && (hP h x0 6).isSome) (cond (isO h x0 11 && (hP h x0 5).isSome) (cond (isO h ((hP h x0 6).getD 0) 4) (a_back R 125 (12, [.ref ((hP h x0 6).getD 0), .ref ((hP h x0 5).getD 0)], h, false, none, 40, [some (.ref x0), some (.int x1), some (.int x2), some (.int x3)], []) (C 12 [.ref ((hP h x0 6).getD 0), .ref ((hP h x0 5).getD 0)] h)) none) none) none) (cond (decide ((0 : Int32) = 0) || decide ((0 : Int32) = 1)) (some (some (some (.int (0 : Int32))), h)) none)) := (tr (r125_32 ..) (cgB (tr (r125_35 ..) (tr (r125_36 ..) (cgT (tr (r125_37 ..) (tr (r125_38 ..) (cgT (r125_39 ..))))))) (tr (r125_33 ..) (r125_34 ..))))
theorem b125_40 (x0 : Nat) (x1 : Int32) (x2 : Int32) (x3 : Int32) (h : A_H) : R 125 40 [some (.ref x0), some (.int x1), some (.int x2), some (.int x3)] [] h = (cond (isO h x0 11 && (hP h x0 5).isSome) (cond (isO h ((hP h x0 5).getD 0) 8) (cond (isO h ((hP h x0 5).getD 0) 8) (R 125 49 [some (.ref x0), some (.int x1), some (.int x2), some (.int x3)] [] (wI h ((hP h x0 5).getD 0) 4 ((hI h ((hP h x0 5).getD 0) 4) ^^^ ((1 : Int32) <<< (x1 &&& 31))))) none) none) none) := (tr (r125_40 ..) (tr (r125_41 ..) (cgT (tr (r125_42 ..) (tr (r125_43 ..) (cgT (tr (r125_44 ..) (tr (r125_45 ..) (tr (r125_46 ..) (tr (r125_47 ..) (r125_48 ..)))))))))))
theorem b125_49 (x0 : Nat) (x1 : Int32) (x2 : Int32) (x3 : Int32) (h : A_H) : R 125 49 [some (.ref x0), some (.int x1), some (.int x2), some (.int x3)] [] h = (cond (decide ((1 : Int32) = 0) || decide ((1 : Int32) = 1)) (some (some (some (.int (1 : Int32))), h)) none) := (tr (r125_49 ..) (r125_50 ..))
theorem e126 (x0 : Nat) (x1 : Int32) (x2 : Int32) (h : A_H) : C 126 [.ref x0, .int x1, .int x2] h = R 126 0 [some (.ref x0), some (.int x1), some (.int x2), none, none, none] [] h := rfl
theorem r126_0 (ls : A_V) (st : List Value) (h : A_H) : R 126 0 ls st h = a_do a_nL R R 126 (s_aldl 0 1 ls st h) := a_R_eq ..
theorem r126_1 (ls : A_V) (st : List Value) (h : A_H) : R 126 1 ls st h = a_do a_nL R R 126 (s_aldl 0 2 ls st h) := a_R_eq ..
theorem r126_2 (ls : A_V) (st : List Value) (h : A_H) : R 126 2 ls st h = a_do a_nL R R 126 (s_ildl 1 3 ls st h) := a_R_eq ..
theorem r126_3 (ls : A_V) (st : List Value) (h : A_H) : R 126 3 ls st h = a_do a_nL R R 126 (s_ildl 2 4 ls st h) := a_R_eq ..
theorem r126_4 (ls : A_V) (st : List Value) (h : A_H) : R 126 4 ls st h = a_do a_nL R R 126 (s_push (.int 0) 5 ls st h) := a_R_eq ..
theorem r126_5 (ls : A_V) (st : List Value) (h : A_H) : R 126 5 ls st h = a_do a_nL R R 126 (s_call 14 144 4 4 true 6 ls st h) := a_R_eq ..
theorem r126_6 (ls : A_V) (st : List Value) (h : A_H) : R 126 6 ls st h = a_do a_nL R R 126 (s_call 14 134 2 2 true 7 ls st h) := a_R_eq ..
theorem r126_7 (ls : A_V) (st : List Value) (h : A_H) : R 126 7 ls st h = a_do a_nL R R 126 (s_if1 (fun x => decide (x = 0)) 10 8 ls st h) := a_R_eq ..
theorem r126_8 (ls : A_V) (st : List Value) (h : A_H) : R 126 8 ls st h = a_do a_nL R R 126 (s_push (.int (-1)) 9 ls st h) := a_R_eq ..
theorem r126_9 (ls : A_V) (st : List Value) (h : A_H) : R 126 9 ls st h = a_do a_nL R R 126 (s_iret ls st h) := a_R_eq ..
theorem r126_10 (ls : A_V) (st : List Value) (h : A_H) : R 126 10 ls st h = a_do a_nL R R 126 (s_aldl 0 11 ls st h) := a_R_eq ..
theorem r126_11 (ls : A_V) (st : List Value) (h : A_H) : R 126 11 ls st h = a_do a_nL R R 126 (s_ildl 1 12 ls st h) := a_R_eq ..
theorem r126_12 (ls : A_V) (st : List Value) (h : A_H) : R 126 12 ls st h = a_do a_nL R R 126 (s_call 14 146 2 2 true 13 ls st h) := a_R_eq ..
theorem r126_13 (ls : A_V) (st : List Value) (h : A_H) : R 126 13 ls st h = a_do a_nL R R 126 (s_ist 3 14 ls st h) := a_R_eq ..
theorem r126_14 (ls : A_V) (st : List Value) (h : A_H) : R 126 14 ls st h = a_do a_nL R R 126 (s_aldl 0 15 ls st h) := a_R_eq ..
theorem r126_15 (ls : A_V) (st : List Value) (h : A_H) : R 126 15 ls st h = a_do a_nL R R 126 (s_ildl 3 16 ls st h) := a_R_eq ..
theorem r126_16 (ls : A_V) (st : List Value) (h : A_H) : R 126 16 ls st h = a_do a_nL R R 126 (s_if1 (fun x => !decide (x = 0)) 19 17 ls st h) := a_R_eq ..
theorem r126_17 (ls : A_V) (st : List Value) (h : A_H) : R 126 17 ls st h = a_do a_nL R R 126 (s_push (.int 5) 18 ls st h) := a_R_eq ..
theorem r126_18 (ls : A_V) (st : List Value) (h : A_H) : R 126 18 ls st h = a_do a_nL R R 126 (s_goto 20 ls st h) := a_R_eq ..
theorem r126_19 (ls : A_V) (st : List Value) (h : A_H) : R 126 19 ls st h = a_do a_nL R R 126 (s_push (.int 0) 20 ls st h) := a_R_eq ..
theorem r126_20 (ls : A_V) (st : List Value) (h : A_H) : R 126 20 ls st h = a_do a_nL R R 126 (s_call 14 134 2 2 true 21 ls st h) := a_R_eq ..
theorem r126_21 (ls : A_V) (st : List Value) (h : A_H) : R 126 21 ls st h = a_do a_nL R R 126 (s_if1 (fun x => decide (x = 0)) 24 22 ls st h) := a_R_eq ..
theorem r126_22 (ls : A_V) (st : List Value) (h : A_H) : R 126 22 ls st h = a_do a_nL R R 126 (s_push (.int (-1)) 23 ls st h) := a_R_eq ..
theorem r126_23 (ls : A_V) (st : List Value) (h : A_H) : R 126 23 ls st h = a_do a_nL R R 126 (s_iret ls st h) := a_R_eq ..
theorem r126_24 (ls : A_V) (st : List Value) (h : A_H) : R 126 24 ls st h = a_do a_nL R R 126 (s_aldl 0 25 ls st h) := a_R_eq ..
theorem r126_25 (ls : A_V) (st : List Value) (h : A_H) : R 126 25 ls st h = a_do a_nL R R 126 (s_getR 11 6 26 ls st h) := a_R_eq ..
theorem r126_26 (ls : A_V) (st : List Value) (h : A_H) : R 126 26 ls st h = a_do a_nL R R 126 (s_aldl 0 27 ls st h) := a_R_eq ..
theorem r126_27 (ls : A_V) (st : List Value) (h : A_H) : R 126 27 ls st h = a_do a_nL R R 126 (s_getR 11 5 28 ls st h) := a_R_eq ..
theorem r126_28 (ls : A_V) (st : List Value) (h : A_H) : R 126 28 ls st h = a_do a_nL R R 126 (s_call 7 12 2 2 false 29 ls st h) := a_R_eq ..
theorem r126_29 (ls : A_V) (st : List Value) (h : A_H) : R 126 29 ls st h = a_do a_nL R R 126 (s_aldl 0 30 ls st h) := a_R_eq ..
theorem r126_30 (ls : A_V) (st : List Value) (h : A_H) : R 126 30 ls st h = a_do a_nL R R 126 (s_getR 11 3 31 ls st h) := a_R_eq ..
theorem r126_31 (ls : A_V) (st : List Value) (h : A_H) : R 126 31 ls st h = a_do a_nL R R 126 (s_ildl 2 32 ls st h) := a_R_eq ..
theorem r126_32 (ls : A_V) (st : List Value) (h : A_H) : R 126 32 ls st h = a_do a_nL R R 126 (s_aldl 0 33 ls st h) := a_R_eq ..
theorem r126_33 (ls : A_V) (st : List Value) (h : A_H) : R 126 33 ls st h = a_do a_nL R R 126 (s_getR 11 5 34 ls st h) := a_R_eq ..
theorem r126_34 (ls : A_V) (st : List Value) (h : A_H) : R 126 34 ls st h = a_do a_nL R R 126 (s_getI 8 0 35 ls st h) := a_R_eq ..
theorem r126_35 (ls : A_V) (st : List Value) (h : A_H) : R 126 35 ls st h = a_do a_nL R R 126 (s_ildl 3 36 ls st h) := a_R_eq ..
theorem r126_36 (ls : A_V) (st : List Value) (h : A_H) : R 126 36 ls st h = a_do a_nL R R 126 (s_aldl 0 37 ls st h) := a_R_eq ..
theorem r126_37 (ls : A_V) (st : List Value) (h : A_H) : R 126 37 ls st h = a_do a_nL R R 126 (s_getR 11 5 38 ls st h) := a_R_eq ..
theorem r126_38 (ls : A_V) (st : List Value) (h : A_H) : R 126 38 ls st h = a_do a_nL R R 126 (s_getI 8 4 39 ls st h) := a_R_eq ..
theorem r126_39 (ls : A_V) (st : List Value) (h : A_H) : R 126 39 ls st h = a_do a_nL R R 126 (s_call 12 69 5 8 true 40 ls st h) := a_R_eq ..
theorem r126_40 (ls : A_V) (st : List Value) (h : A_H) : R 126 40 ls st h = a_do a_nL R R 126 (s_ist 4 41 ls st h) := a_R_eq ..
theorem r126_41 (ls : A_V) (st : List Value) (h : A_H) : R 126 41 ls st h = a_do a_nL R R 126 (s_aldl 0 42 ls st h) := a_R_eq ..
theorem r126_42 (ls : A_V) (st : List Value) (h : A_H) : R 126 42 ls st h = a_do a_nL R R 126 (s_getR 11 3 43 ls st h) := a_R_eq ..
theorem r126_43 (ls : A_V) (st : List Value) (h : A_H) : R 126 43 ls st h = a_do a_nL R R 126 (s_ildl 1 44 ls st h) := a_R_eq ..
theorem r126_44 (ls : A_V) (st : List Value) (h : A_H) : R 126 44 ls st h = a_do a_nL R R 126 (s_ildl 4 45 ls st h) := a_R_eq ..
theorem r126_45 (ls : A_V) (st : List Value) (h : A_H) : R 126 45 ls st h = a_do a_nL R R 126 (s_ildl 3 46 ls st h) := a_R_eq ..
theorem r126_46 (ls : A_V) (st : List Value) (h : A_H) : R 126 46 ls st h = a_do a_nL R R 126 (s_aldl 0 47 ls st h) := a_R_eq ..
theorem r126_47 (ls : A_V) (st : List Value) (h : A_H) : R 126 47 ls st h = a_do a_nL R R 126 (s_getR 11 5 48 ls st h) := a_R_eq ..
theorem r126_48 (ls : A_V) (st : List Value) (h : A_H) : R 126 48 ls st h = a_do a_nL R R 126 (s_getI 8 4 49 ls st h) := a_R_eq ..
theorem r126_49 (ls : A_V) (st : List Value) (h : A_H) : R 126 49 ls st h = a_do a_nL R R 126 (s_push (.int (-1)) 50 ls st h) := a_R_eq ..
theorem r126_50 (ls : A_V) (st : List Value) (h : A_H) : R 126 50 ls st h = a_do a_nL R R 126 (s_bi (fun x y => x ^^^ y) 51 ls st h) := a_R_eq ..
theorem r126_51 (ls : A_V) (st : List Value) (h : A_H) : R 126 51 ls st h = a_do a_nL R R 126 (s_bi (fun x y => x &&& y) 52 ls st h) := a_R_eq ..
theorem r126_52 (ls : A_V) (st : List Value) (h : A_H) : R 126 52 ls st h = a_do a_nL R R 126 (s_aldl 0 53 ls st h) := a_R_eq ..
theorem r126_53 (ls : A_V) (st : List Value) (h : A_H) : R 126 53 ls st h = a_do a_nL R R 126 (s_getR 11 5 54 ls st h) := a_R_eq ..
theorem r126_54 (ls : A_V) (st : List Value) (h : A_H) : R 126 54 ls st h = a_do a_nL R R 126 (s_getI 8 0 55 ls st h) := a_R_eq ..
theorem r126_55 (ls : A_V) (st : List Value) (h : A_H) : R 126 55 ls st h = a_do a_nL R R 126 (s_push (.int 0) 56 ls st h) := a_R_eq ..
theorem r126_56 (ls : A_V) (st : List Value) (h : A_H) : R 126 56 ls st h = a_do a_nL R R 126 (s_call 12 70 6 7 true 57 ls st h) := a_R_eq ..
theorem r126_57 (ls : A_V) (st : List Value) (h : A_H) : R 126 57 ls st h = a_do a_nL R R 126 (s_ist 5 58 ls st h) := a_R_eq ..
theorem r126_58 (ls : A_V) (st : List Value) (h : A_H) : R 126 58 ls st h = a_do a_nL R R 126 (s_aldl 0 59 ls st h) := a_R_eq ..
theorem r126_59 (ls : A_V) (st : List Value) (h : A_H) : R 126 59 ls st h = a_do a_nL R R 126 (s_getR 11 5 60 ls st h) := a_R_eq ..
theorem r126_60 (ls : A_V) (st : List Value) (h : A_H) : R 126 60 ls st h = a_do a_nL R R 126 (s_ildl 1 61 ls st h) := a_R_eq ..
theorem r126_61 (ls : A_V) (st : List Value) (h : A_H) : R 126 61 ls st h = a_do a_nL R R 126 (s_ildl 3 62 ls st h) := a_R_eq ..
theorem r126_62 (ls : A_V) (st : List Value) (h : A_H) : R 126 62 ls st h = a_do a_nL R R 126 (s_ildl 4 63 ls st h) := a_R_eq ..
theorem r126_63 (ls : A_V) (st : List Value) (h : A_H) : R 126 63 ls st h = a_do a_nL R R 126 (s_ildl 5 64 ls st h) := a_R_eq ..
theorem r126_64 (ls : A_V) (st : List Value) (h : A_H) : R 126 64 ls st h = a_do a_nL R R 126 (s_call 11 53 5 5 false 65 ls st h) := a_R_eq ..
theorem r126_65 (ls : A_V) (st : List Value) (h : A_H) : R 126 65 ls st h = a_do a_nL R R 126 (s_ildl 5 66 ls st h) := a_R_eq ..
theorem r126_66 (ls : A_V) (st : List Value) (h : A_H) : R 126 66 ls st h = a_do a_nL R R 126 (s_iret ls st h) := a_R_eq ..
theorem b126_0 (x0 : Nat) (x1 : Int32) (x2 : Int32) (l3 : Option Value) (l4 : Option Value) (l5 : Option Value) (h : A_H) : R 126 0 [some (.ref x0), some (.int x1), some (.int x2), l3, l4, l5] [] h = (cond (isO h x0 11) (a_back R 126 (144, [.ref x0, .int x1, .int x2, .int (0 : Int32)], h, true, none, 6, [some (.ref x0), some (.int x1), some (.int x2), l3, l4, l5], [.ref x0]) (C 144 [.ref x0, .int x1, .int x2, .int (0 : Int32)] h)) none) := (tr (r126_0 ..) (tr (r126_1 ..) (tr (r126_2 ..) (tr (r126_3 ..) (tr (r126_4 ..) (r126_5 ..))))))
theorem b126_6 (x0 : Nat) (x1 : Int32) (x2 : Int32) (l3 : Option Value) (l4 : Option Value) (l5 : Option Value) (s0 : Nat) (s1 : Int32) (h : A_H) : R 126 6 [some (.ref x0), some (.int x1), some (.int x2), l3, l4, l5] [.int s1, .ref s0] h = (cond (isO h s0 11) (a_back R 126 (134, [.ref s0, .int s1], h, true, none, 7, [some (.ref x0), some (.int x1), some (.int x2), l3, l4, l5], []) (C 134 [.ref s0, .int s1] h)) none) := (r126_6 ..)
theorem b126_7 (x0 : Nat) (x1 : Int32) (x2 : Int32) (l3 : Option Value) (l4 : Option Value) (l5 : Option Value) (s0 : Int32) (h : A_H) : R 126 7 [some (.ref x0), some (.int x1), some (.int x2), l3, l4, l5] [.int s0] h = (cond (decide (s0 = 0)) (cond (isO h x0 11) (a_back R 126 (146, [.ref x0, .int x1], h, true, none, 13, [some (.ref x0), some (.int x1), some (.int x2), l3, l4, l5], []) (C 146 [.ref x0, .int x1] h)) none) (some (some (some (.int (-1 : Int32))), h))) := (tr (r126_7 ..) (cgB (tr (r126_10 ..) (tr (r126_11 ..) (r126_12 ..))) (tr (r126_8 ..) (r126_9 ..))))
theorem b126_13 (x0 : Nat) (x1 : Int32) (x2 : Int32) (l3 : Option Value) (l4 : Option Value) (l5 : Option Value) (s0 : Int32) (h : A_H) : R 126 13 [some (.ref x0), some (.int x1), some (.int x2), l3, l4, l5] [.int s0] h = (cond (!decide (s0 = 0)) (cond (isO h x0 11) (a_back R 126 (134, [.ref x0, .int (0 : Int32)], h, true, none, 21, [some (.ref x0), some (.int x1), some (.int x2), some (.int s0), l4, l5], []) (C 134 [.ref x0, .int (0 : Int32)] h)) none) (cond (isO h x0 11) (a_back R 126 (134, [.ref x0, .int (5 : Int32)], h, true, none, 21, [some (.ref x0), some (.int x1), some (.int x2), some (.int s0), l4, l5], []) (C 134 [.ref x0, .int (5 : Int32)] h)) none)) := (tr (r126_13 ..) (tr (r126_14 ..) (tr (r126_15 ..) (tr (r126_16 ..) (cgB (tr (r126_19 ..) (r126_20 ..)) (tr (r126_17 ..) (tr (r126_18 ..) (r126_20 ..))))))))
theorem b126_21 (x0 : Nat) (x1 : Int32) (x2 : Int32) (x3 : Int32) (l4 : Option Value) (l5 : Option Value) (s0 : Int32) (h : A_H) : R 126 21 [some (.ref x0), some (.int x1), some (.int x2), some (.int x3), l4, l5] [.int s0] h = (cond (decide (s0 = 0)) (cond (isO h x0 11 && (hP h x0 6).isSome) (cond (isO h x0 11 && (hP h x0 5).isSome) (cond (isO h ((hP h x0 6).getD 0) 4) (a_back R 126 (12, [.ref ((hP h x0 6).getD 0), .ref ((hP h x0 5).getD 0)], h, false, none, 29, [some (.ref x0), some (.int x1), some (.int x2), some (.int x3), l4, l5], []) (C 12 [.ref ((hP h x0 6).getD 0), .ref ((hP h x0 5).getD 0)] h)) none) none) none) (some (some (some (.int (-1 : Int32))), h))) := (tr (r126_21 ..) (cgB (tr (r126_24 ..) (tr (r126_25 ..) (cgT (tr (r126_26 ..) (tr (r126_27 ..) (cgT (r126_28 ..))))))) (tr (r126_22 ..) (r126_23 ..))))
theorem b126_29 (x0 : Nat) (x1 : Int32) (x2 : Int32) (x3 : Int32) (l4 : Option Value) (l5 : Option Value) (h : A_H) : R 126 29 [some (.ref x0), some (.int x1), some (.int x2), some (.int x3), l4, l5] [] h = (cond (isO h x0 11 && (hP h x0 3).isSome) (cond (isO h x0 11 && (hP h x0 5).isSome) (cond (isO h ((hP h x0 5).getD 0) 8) (cond (isO h x0 11 && (hP h x0 5).isSome) (cond (isO h ((hP h x0 5).getD 0) 8) (cond (isO h ((hP h x0 3).getD 0) 9) (a_back R 126 (69, [.ref ((hP h x0 3).getD 0), .int x2, .int (hI h ((hP h x0 5).getD 0) 0), .int x3, .int (hI h ((hP h x0 5).getD 0) 4)], h, true, none, 40, [some (.ref x0), some (.int x1), some (.int x2), some (.int x3), l4, l5], []) (C 69 [.ref ((hP h x0 3).getD 0), .int x2, .int (hI h ((hP h x0 5).getD 0) 0), .int x3, .int (hI h ((hP h x0 5).getD 0) 4)] h)) none) none) none) none) none) none) := (tr (r126_29 ..) (tr (r126_30 ..) (cgT (tr (r126_31 ..) (tr (r126_32 ..) (tr (r126_33 ..) (cgT (tr (r126_34 ..) (cgT (tr (r126_35 ..) (tr (r126_36 ..) (tr (r126_37 ..) (cgT (tr (r126_38 ..) (cgT (r126_39 ..))))))))))))))))
theorem b126_40 (x0 : Nat) (x1 : Int32) (x2 : Int32) (x3 : Int32) (l4 : Option Value) (l5 : Option Value) (s0 : Int32) (h : A_H) : R 126 40 [some (.ref x0), some (.int x1), some (.int x2), some (.int x3), l4, l5] [.int s0] h = (cond (isO h x0 11 && (hP h x0 3).isSome) (cond (isO h x0 11 && (hP h x0 5).isSome) (cond (isO h ((hP h x0 5).getD 0) 8) (cond (isO h x0 11 && (hP h x0 5).isSome) (cond (isO h ((hP h x0 5).getD 0) 8) (cond (isO h ((hP h x0 3).getD 0) 9) (a_back R 126 (70, [.ref ((hP h x0 3).getD 0), .int x1, .int s0, .int (x3 &&& ((hI h ((hP h x0 5).getD 0) 4) ^^^ (-1 : Int32))), .int (hI h ((hP h x0 5).getD 0) 0), .int (0 : Int32)], h, true, none, 57, [some (.ref x0), some (.int x1), some (.int x2), some (.int x3), some (.int s0), l5], []) (C 70 [.ref ((hP h x0 3).getD 0), .int x1, .int s0, .int (x3 &&& ((hI h ((hP h x0 5).getD 0) 4) ^^^ (-1 : Int32))), .int (hI h ((hP h x0 5).getD 0) 0), .int (0 : Int32)] h)) none) none) none) none) none) none) := (tr (r126_40 ..) (tr (r126_41 ..) (tr (r126_42 ..) (cgT (tr (r126_43 ..) (tr (r126_44 ..) (tr (r126_45 ..) (tr (r126_46 ..) (tr (r126_47 ..) (cgT (tr (r126_48 ..) (cgT (tr (r126_49 ..) (tr (r126_50 ..) (tr (r126_51 ..) (tr (r126_52 ..) (tr (r126_53 ..) (cgT (tr (r126_54 ..) (cgT (tr (r126_55 ..) (r126_56 ..))))))))))))))))))))))
theorem b126_57 (x0 : Nat) (x1 : Int32) (x2 : Int32) (x3 : Int32) (x4 : Int32) (l5 : Option Value) (s0 : Int32) (h : A_H) : R 126 57 [some (.ref x0), some (.int x1), some (.int x2), some (.int x3), some (.int x4), l5] [.int s0] h = (cond (isO h x0 11 && (hP h x0 5).isSome) (cond (isO h ((hP h x0 5).getD 0) 8) (a_back R 126 (53, [.ref ((hP h x0 5).getD 0), .int x1, .int x3, .int x4, .int s0], h, false, none, 65, [some (.ref x0), some (.int x1), some (.int x2), some (.int x3), some (.int x4), some (.int s0)], []) (C 53 [.ref ((hP h x0 5).getD 0), .int x1, .int x3, .int x4, .int s0] h)) none) none) := (tr (r126_57 ..) (tr (r126_58 ..) (tr (r126_59 ..) (cgT (tr (r126_60 ..) (tr (r126_61 ..) (tr (r126_62 ..) (tr (r126_63 ..) (r126_64 ..)))))))))
theorem b126_65 (x0 : Nat) (x1 : Int32) (x2 : Int32) (x3 : Int32) (x4 : Int32) (x5 : Int32) (h : A_H) : R 126 65 [some (.ref x0), some (.int x1), some (.int x2), some (.int x3), some (.int x4), some (.int x5)] [] h = (some (some (some (.int x5)), h)) := (tr (r126_65 ..) (r126_66 ..))
theorem e127 (x0 : Nat) (x1 : Int32) (h : A_H) : C 127 [.ref x0, .int x1] h = R 127 0 [some (.ref x0), some (.int x1)] [] h := rfl
theorem r127_0 (ls : A_V) (st : List Value) (h : A_H) : R 127 0 ls st h = a_do a_nL R R 127 (s_aldl 0 1 ls st h) := a_R_eq ..
theorem r127_1 (ls : A_V) (st : List Value) (h : A_H) : R 127 1 ls st h = a_do a_nL R R 127 (s_aldl 0 2 ls st h) := a_R_eq ..
theorem r127_2 (ls : A_V) (st : List Value) (h : A_H) : R 127 2 ls st h = a_do a_nL R R 127 (s_call 14 136 1 1 true 3 ls st h) := a_R_eq ..
theorem r127_3 (ls : A_V) (st : List Value) (h : A_H) : R 127 3 ls st h = a_do a_nL R R 127 (s_ildl 1 4 ls st h) := a_R_eq ..
theorem r127_4 (ls : A_V) (st : List Value) (h : A_H) : R 127 4 ls st h = a_do a_nL R R 127 (s_push (.int 1) 5 ls st h) := a_R_eq ..
theorem r127_5 (ls : A_V) (st : List Value) (h : A_H) : R 127 5 ls st h = a_do a_nL R R 127 (s_if2 (fun x y => decide (x < y)) 11 6 ls st h) := a_R_eq ..
theorem r127_6 (ls : A_V) (st : List Value) (h : A_H) : R 127 6 ls st h = a_do a_nL R R 127 (s_ildl 1 7 ls st h) := a_R_eq ..
theorem r127_7 (ls : A_V) (st : List Value) (h : A_H) : R 127 7 ls st h = a_do a_nL R R 127 (s_push (.int 60) 8 ls st h) := a_R_eq ..
theorem r127_8 (ls : A_V) (st : List Value) (h : A_H) : R 127 8 ls st h = a_do a_nL R R 127 (s_if2 (fun x y => decide (y < x)) 11 9 ls st h) := a_R_eq ..
theorem r127_9 (ls : A_V) (st : List Value) (h : A_H) : R 127 9 ls st h = a_do a_nL R R 127 (s_push (.int 0) 10 ls st h) := a_R_eq ..
theorem r127_10 (ls : A_V) (st : List Value) (h : A_H) : R 127 10 ls st h = a_do a_nL R R 127 (s_goto 12 ls st h) := a_R_eq ..
theorem r127_11 (ls : A_V) (st : List Value) (h : A_H) : R 127 11 ls st h = a_do a_nL R R 127 (s_push (.int 2) 12 ls st h) := a_R_eq ..
theorem r127_12 (ls : A_V) (st : List Value) (h : A_H) : R 127 12 ls st h = a_do a_nL R R 127 (s_call 0 135 2 2 true 13 ls st h) := a_R_eq ..
theorem r127_13 (ls : A_V) (st : List Value) (h : A_H) : R 127 13 ls st h = a_do a_nL R R 127 (s_call 14 134 2 2 true 14 ls st h) := a_R_eq ..
theorem r127_14 (ls : A_V) (st : List Value) (h : A_H) : R 127 14 ls st h = a_do a_nL R R 127 (s_if1 (fun x => decide (x = 0)) 17 15 ls st h) := a_R_eq ..
theorem r127_15 (ls : A_V) (st : List Value) (h : A_H) : R 127 15 ls st h = a_do a_nL R R 127 (s_push (.int (-1)) 16 ls st h) := a_R_eq ..
theorem r127_16 (ls : A_V) (st : List Value) (h : A_H) : R 127 16 ls st h = a_do a_nL R R 127 (s_iret ls st h) := a_R_eq ..
theorem r127_17 (ls : A_V) (st : List Value) (h : A_H) : R 127 17 ls st h = a_do a_nL R R 127 (s_aldl 0 18 ls st h) := a_R_eq ..
theorem r127_18 (ls : A_V) (st : List Value) (h : A_H) : R 127 18 ls st h = a_do a_nL R R 127 (s_aldl 0 19 ls st h) := a_R_eq ..
theorem r127_19 (ls : A_V) (st : List Value) (h : A_H) : R 127 19 ls st h = a_do a_nL R R 127 (s_getR 11 5 20 ls st h) := a_R_eq ..
theorem r127_20 (ls : A_V) (st : List Value) (h : A_H) : R 127 20 ls st h = a_do a_nL R R 127 (s_getI 8 0 21 ls st h) := a_R_eq ..
theorem r127_21 (ls : A_V) (st : List Value) (h : A_H) : R 127 21 ls st h = a_do a_nL R R 127 (s_ildl 1 22 ls st h) := a_R_eq ..
theorem r127_22 (ls : A_V) (st : List Value) (h : A_H) : R 127 22 ls st h = a_do a_nL R R 127 (s_bi (fun x y => x + y) 23 ls st h) := a_R_eq ..
theorem r127_23 (ls : A_V) (st : List Value) (h : A_H) : R 127 23 ls st h = a_do a_nL R R 127 (s_push (.int 300) 24 ls st h) := a_R_eq ..
theorem r127_24 (ls : A_V) (st : List Value) (h : A_H) : R 127 24 ls st h = a_do a_nL R R 127 (s_if2 (fun x y => decide (x ≤ y)) 27 25 ls st h) := a_R_eq ..
theorem r127_25 (ls : A_V) (st : List Value) (h : A_H) : R 127 25 ls st h = a_do a_nL R R 127 (s_push (.int 3) 26 ls st h) := a_R_eq ..
theorem r127_26 (ls : A_V) (st : List Value) (h : A_H) : R 127 26 ls st h = a_do a_nL R R 127 (s_goto 28 ls st h) := a_R_eq ..
theorem r127_27 (ls : A_V) (st : List Value) (h : A_H) : R 127 27 ls st h = a_do a_nL R R 127 (s_push (.int 0) 28 ls st h) := a_R_eq ..
theorem r127_28 (ls : A_V) (st : List Value) (h : A_H) : R 127 28 ls st h = a_do a_nL R R 127 (s_call 14 134 2 2 true 29 ls st h) := a_R_eq ..
theorem r127_29 (ls : A_V) (st : List Value) (h : A_H) : R 127 29 ls st h = a_do a_nL R R 127 (s_if1 (fun x => decide (x = 0)) 32 30 ls st h) := a_R_eq ..
theorem r127_30 (ls : A_V) (st : List Value) (h : A_H) : R 127 30 ls st h = a_do a_nL R R 127 (s_push (.int (-1)) 31 ls st h) := a_R_eq ..
theorem r127_31 (ls : A_V) (st : List Value) (h : A_H) : R 127 31 ls st h = a_do a_nL R R 127 (s_iret ls st h) := a_R_eq ..
theorem r127_32 (ls : A_V) (st : List Value) (h : A_H) : R 127 32 ls st h = a_do a_nL R R 127 (s_aldl 0 33 ls st h) := a_R_eq ..
theorem r127_33 (ls : A_V) (st : List Value) (h : A_H) : R 127 33 ls st h = a_do a_nL R R 127 (s_getR 11 6 34 ls st h) := a_R_eq ..
theorem r127_34 (ls : A_V) (st : List Value) (h : A_H) : R 127 34 ls st h = a_do a_nL R R 127 (s_aldl 0 35 ls st h) := a_R_eq ..
theorem r127_35 (ls : A_V) (st : List Value) (h : A_H) : R 127 35 ls st h = a_do a_nL R R 127 (s_getR 11 5 36 ls st h) := a_R_eq ..
theorem r127_36 (ls : A_V) (st : List Value) (h : A_H) : R 127 36 ls st h = a_do a_nL R R 127 (s_call 7 12 2 2 false 37 ls st h) := a_R_eq ..
theorem r127_37 (ls : A_V) (st : List Value) (h : A_H) : R 127 37 ls st h = a_do a_nL R R 127 (s_aldl 0 38 ls st h) := a_R_eq ..
theorem r127_38 (ls : A_V) (st : List Value) (h : A_H) : R 127 38 ls st h = a_do a_nL R R 127 (s_getR 11 5 39 ls st h) := a_R_eq ..
theorem r127_39 (ls : A_V) (st : List Value) (h : A_H) : R 127 39 ls st h = a_do a_nL R R 127 (s_dup 40 ls st h) := a_R_eq ..
theorem r127_40 (ls : A_V) (st : List Value) (h : A_H) : R 127 40 ls st h = a_do a_nL R R 127 (s_getI 8 0 41 ls st h) := a_R_eq ..
theorem r127_41 (ls : A_V) (st : List Value) (h : A_H) : R 127 41 ls st h = a_do a_nL R R 127 (s_ildl 1 42 ls st h) := a_R_eq ..
theorem r127_42 (ls : A_V) (st : List Value) (h : A_H) : R 127 42 ls st h = a_do a_nL R R 127 (s_bi (fun x y => x + y) 43 ls st h) := a_R_eq ..
theorem r127_43 (ls : A_V) (st : List Value) (h : A_H) : R 127 43 ls st h = a_do a_nL R R 127 (s_putI 8 0 44 ls st h) := a_R_eq ..
theorem r127_44 (ls : A_V) (st : List Value) (h : A_H) : R 127 44 ls st h = a_do a_nL R R 127 (s_aldl 0 45 ls st h) := a_R_eq ..
theorem r127_45 (ls : A_V) (st : List Value) (h : A_H) : R 127 45 ls st h = a_do a_nL R R 127 (s_getR 11 5 46 ls st h) := a_R_eq ..
theorem r127_46 (ls : A_V) (st : List Value) (h : A_H) : R 127 46 ls st h = a_do a_nL R R 127 (s_getI 8 0 47 ls st h) := a_R_eq ..
theorem r127_47 (ls : A_V) (st : List Value) (h : A_H) : R 127 47 ls st h = a_do a_nL R R 127 (s_iret ls st h) := a_R_eq ..
theorem b127_0 (x0 : Nat) (x1 : Int32) (h : A_H) : R 127 0 [some (.ref x0), some (.int x1)] [] h = (cond (isO h x0 11) (a_back R 127 (136, [.ref x0], h, true, none, 3, [some (.ref x0), some (.int x1)], [.ref x0]) (C 136 [.ref x0] h)) none) := (tr (r127_0 ..) (tr (r127_1 ..) (r127_2 ..)))
theorem b127_3 (x0 : Nat) (x1 : Int32) (s0 : Nat) (s1 : Int32) (h : A_H) : R 127 3 [some (.ref x0), some (.int x1)] [.int s1, .ref s0] h = (cond (decide (x1 < (1 : Int32))) (a_back R 127 (135, [.int s1, .int (2 : Int32)], h, true, none, 13, [some (.ref x0), some (.int x1)], [.ref s0]) (C 135 [.int s1, .int (2 : Int32)] h)) (cond (decide ((60 : Int32) < x1)) (a_back R 127 (135, [.int s1, .int (2 : Int32)], h, true, none, 13, [some (.ref x0), some (.int x1)], [.ref s0]) (C 135 [.int s1, .int (2 : Int32)] h)) (a_back R 127 (135, [.int s1, .int (0 : Int32)], h, true, none, 13, [some (.ref x0), some (.int x1)], [.ref s0]) (C 135 [.int s1, .int (0 : Int32)] h)))) := (tr (r127_3 ..) (tr (r127_4 ..) (tr (r127_5 ..) (cgB (tr (r127_11 ..) (r127_12 ..)) (tr (r127_6 ..) (tr (r127_7 ..) (tr (r127_8 ..) (cgB (tr (r127_11 ..) (r127_12 ..)) (tr (r127_9 ..) (tr (r127_10 ..) (r127_12 ..)))))))))))
theorem b127_13 (x0 : Nat) (x1 : Int32) (s0 : Nat) (s1 : Int32) (h : A_H) : R 127 13 [some (.ref x0), some (.int x1)] [.int s1, .ref s0] h = (cond (isO h s0 11) (a_back R 127 (134, [.ref s0, .int s1], h, true, none, 14, [some (.ref x0), some (.int x1)], []) (C 134 [.ref s0, .int s1] h)) none) := (r127_13 ..)
theorem b127_14 (x0 : Nat) (x1 : Int32) (s0 : Int32) (h : A_H) : R 127 14 [some (.ref x0), some (.int x1)] [.int s0] h = (cond (decide (s0 = 0)) (cond (isO h x0 11 && (hP h x0 5).isSome) (cond (isO h ((hP h x0 5).getD 0) 8) (cond (decide (((hI h ((hP h x0 5).getD 0) 0) + x1) ≤ (300 : Int32))) (cond (isO h x0 11) (a_back R 127 (134, [.ref x0, .int (0 : Int32)], h, true, none, 29, [some (.ref x0), some (.int x1)], []) (C 134 [.ref x0, .int (0 : Int32)] h)) none) (cond (isO h x0 11) (a_back R 127 (134, [.ref x0, .int (3 : Int32)], h, true, none, 29, [some (.ref x0), some (.int x1)], []) (C 134 [.ref x0, .int (3 : Int32)] h)) none)) none) none) (some (some (some (.int (-1 : Int32))), h))) := (tr (r127_14 ..) (cgB (tr (r127_17 ..) (tr (r127_18 ..) (tr (r127_19 ..) (cgT (tr (r127_20 ..) (cgT (tr (r127_21 ..) (tr (r127_22 ..) (tr (r127_23 ..) (tr (r127_24 ..) (cgB (tr (r127_27 ..) (r127_28 ..)) (tr (r127_25 ..) (tr (r127_26 ..) (r127_28 ..)))))))))))))) (tr (r127_15 ..) (r127_16 ..))))
theorem b127_29 (x0 : Nat) (x1 : Int32) (s0 : Int32) (h : A_H) : R 127 29 [some (.ref x0), some (.int x1)] [.int s0] h = (cond (decide (s0 = 0)) (cond (isO h x0 11 && (hP h x0 6).isSome) (cond (isO h x0 11 && (hP h x0 5).isSome) (cond (isO h ((hP h x0 6).getD 0) 4) (a_back R 127 (12, [.ref ((hP h x0 6).getD 0), .ref ((hP h x0 5).getD 0)], h, false, none, 37, [some (.ref x0), some (.int x1)], []) (C 12 [.ref ((hP h x0 6).getD 0), .ref ((hP h x0 5).getD 0)] h)) none) none) none) (some (some (some (.int (-1 : Int32))), h))) := (tr (r127_29 ..) (cgB (tr (r127_32 ..) (tr (r127_33 ..) (cgT (tr (r127_34 ..) (tr (r127_35 ..) (cgT (r127_36 ..))))))) (tr (r127_30 ..) (r127_31 ..))))
theorem b127_37 (x0 : Nat) (x1 : Int32) (h : A_H) : R 127 37 [some (.ref x0), some (.int x1)] [] h = (cond (isO h x0 11 && (hP h x0 5).isSome) (cond (isO h ((hP h x0 5).getD 0) 8) (cond (isO h ((hP h x0 5).getD 0) 8) (R 127 44 [some (.ref x0), some (.int x1)] [] (wI h ((hP h x0 5).getD 0) 0 ((hI h ((hP h x0 5).getD 0) 0) + x1))) none) none) none) := (tr (r127_37 ..) (tr (r127_38 ..) (cgT (tr (r127_39 ..) (tr (r127_40 ..) (cgT (tr (r127_41 ..) (tr (r127_42 ..) (r127_43 ..)))))))))
theorem b127_44 (x0 : Nat) (x1 : Int32) (h : A_H) : R 127 44 [some (.ref x0), some (.int x1)] [] h = (cond (isO h x0 11 && (hP h x0 5).isSome) (cond (isO h ((hP h x0 5).getD 0) 8) (some (some (some (.int (hI h ((hP h x0 5).getD 0) 0))), h)) none) none) := (tr (r127_44 ..) (tr (r127_45 ..) (cgT (tr (r127_46 ..) (cgT (r127_47 ..))))))
theorem e128 (x0 : Nat) (h : A_H) : C 128 [.ref x0] h = R 128 0 [some (.ref x0)] [] h := rfl
theorem r128_0 (ls : A_V) (st : List Value) (h : A_H) : R 128 0 ls st h = a_do a_nL R R 128 (s_aldl 0 1 ls st h) := a_R_eq ..
theorem r128_1 (ls : A_V) (st : List Value) (h : A_H) : R 128 1 ls st h = a_do a_nL R R 128 (s_aldl 0 2 ls st h) := a_R_eq ..
theorem r128_2 (ls : A_V) (st : List Value) (h : A_H) : R 128 2 ls st h = a_do a_nL R R 128 (s_getR 11 6 3 ls st h) := a_R_eq ..
theorem r128_3 (ls : A_V) (st : List Value) (h : A_H) : R 128 3 ls st h = a_do a_nL R R 128 (s_aldl 0 4 ls st h) := a_R_eq ..
theorem r128_4 (ls : A_V) (st : List Value) (h : A_H) : R 128 4 ls st h = a_do a_nL R R 128 (s_getR 11 5 5 ls st h) := a_R_eq ..
theorem r128_5 (ls : A_V) (st : List Value) (h : A_H) : R 128 5 ls st h = a_do a_nL R R 128 (s_call 7 13 2 2 true 6 ls st h) := a_R_eq ..
theorem r128_6 (ls : A_V) (st : List Value) (h : A_H) : R 128 6 ls st h = a_do a_nL R R 128 (s_if1 (fun x => decide (x = 0)) 9 7 ls st h) := a_R_eq ..
theorem r128_7 (ls : A_V) (st : List Value) (h : A_H) : R 128 7 ls st h = a_do a_nL R R 128 (s_push (.int 0) 8 ls st h) := a_R_eq ..
theorem r128_8 (ls : A_V) (st : List Value) (h : A_H) : R 128 8 ls st h = a_do a_nL R R 128 (s_goto 10 ls st h) := a_R_eq ..
theorem r128_9 (ls : A_V) (st : List Value) (h : A_H) : R 128 9 ls st h = a_do a_nL R R 128 (s_push (.int 6) 10 ls st h) := a_R_eq ..
theorem r128_10 (ls : A_V) (st : List Value) (h : A_H) : R 128 10 ls st h = a_do a_nL R R 128 (s_call 14 134 2 2 true 11 ls st h) := a_R_eq ..
theorem r128_11 (ls : A_V) (st : List Value) (h : A_H) : R 128 11 ls st h = a_do a_nL R R 128 (s_if1 (fun x => !decide (x = 0)) 14 12 ls st h) := a_R_eq ..
theorem r128_12 (ls : A_V) (st : List Value) (h : A_H) : R 128 12 ls st h = a_do a_nL R R 128 (s_push (.int 1) 13 ls st h) := a_R_eq ..
theorem r128_13 (ls : A_V) (st : List Value) (h : A_H) : R 128 13 ls st h = a_do a_nL R R 128 (s_goto 15 ls st h) := a_R_eq ..
theorem r128_14 (ls : A_V) (st : List Value) (h : A_H) : R 128 14 ls st h = a_do a_nL R R 128 (s_push (.int 0) 15 ls st h) := a_R_eq ..
theorem r128_15 (ls : A_V) (st : List Value) (h : A_H) : R 128 15 ls st h = a_do a_nL R R 128 (s_zret ls st h) := a_R_eq ..
theorem b128_0 (x0 : Nat) (h : A_H) : R 128 0 [some (.ref x0)] [] h = (cond (isO h x0 11 && (hP h x0 6).isSome) (cond (isO h x0 11 && (hP h x0 5).isSome) (cond (isO h ((hP h x0 6).getD 0) 4) (a_back R 128 (13, [.ref ((hP h x0 6).getD 0), .ref ((hP h x0 5).getD 0)], h, true, none, 6, [some (.ref x0)], [.ref x0]) (C 13 [.ref ((hP h x0 6).getD 0), .ref ((hP h x0 5).getD 0)] h)) none) none) none) := (tr (r128_0 ..) (tr (r128_1 ..) (tr (r128_2 ..) (cgT (tr (r128_3 ..) (tr (r128_4 ..) (cgT (r128_5 ..))))))))
theorem b128_6 (x0 : Nat) (s0 : Nat) (s1 : Int32) (h : A_H) : R 128 6 [some (.ref x0)] [.int s1, .ref s0] h = (cond (decide (s1 = 0)) (cond (isO h s0 11) (a_back R 128 (134, [.ref s0, .int (6 : Int32)], h, true, none, 11, [some (.ref x0)], []) (C 134 [.ref s0, .int (6 : Int32)] h)) none) (cond (isO h s0 11) (a_back R 128 (134, [.ref s0, .int (0 : Int32)], h, true, none, 11, [some (.ref x0)], []) (C 134 [.ref s0, .int (0 : Int32)] h)) none)) := (tr (r128_6 ..) (cgB (tr (r128_9 ..) (r128_10 ..)) (tr (r128_7 ..) (tr (r128_8 ..) (r128_10 ..)))))
theorem b128_11 (x0 : Nat) (s0 : Int32) (h : A_H) : R 128 11 [some (.ref x0)] [.int s0] h = (cond (!decide (s0 = 0)) (cond (decide ((0 : Int32) = 0) || decide ((0 : Int32) = 1)) (some (some (some (.int (0 : Int32))), h)) none) (cond (decide ((1 : Int32) = 0) || decide ((1 : Int32) = 1)) (some (some (some (.int (1 : Int32))), h)) none)) := (tr (r128_11 ..) (cgB (tr (r128_14 ..) (r128_15 ..)) (tr (r128_12 ..) (tr (r128_13 ..) (r128_15 ..)))))
theorem e129 (x0 : Nat) (h : A_H) : C 129 [.ref x0] h = R 129 0 [some (.ref x0), none] [] h := rfl
theorem r129_0 (ls : A_V) (st : List Value) (h : A_H) : R 129 0 ls st h = a_do a_nL R R 129 (s_aldl 0 1 ls st h) := a_R_eq ..
theorem r129_1 (ls : A_V) (st : List Value) (h : A_H) : R 129 1 ls st h = a_do a_nL R R 129 (s_getR 11 6 2 ls st h) := a_R_eq ..
theorem r129_2 (ls : A_V) (st : List Value) (h : A_H) : R 129 2 ls st h = a_do a_nL R R 129 (s_getI 4 4 3 ls st h) := a_R_eq ..
theorem r129_3 (ls : A_V) (st : List Value) (h : A_H) : R 129 3 ls st h = a_do a_nL R R 129 (s_push (.int 3) 4 ls st h) := a_R_eq ..
theorem r129_4 (ls : A_V) (st : List Value) (h : A_H) : R 129 4 ls st h = a_do a_nL R R 129 (s_if2 (fun x y => decide (y ≤ x)) 7 5 ls st h) := a_R_eq ..
theorem r129_5 (ls : A_V) (st : List Value) (h : A_H) : R 129 5 ls st h = a_do a_nL R R 129 (s_push (.int 1) 6 ls st h) := a_R_eq ..
theorem r129_6 (ls : A_V) (st : List Value) (h : A_H) : R 129 6 ls st h = a_do a_nL R R 129 (s_goto 8 ls st h) := a_R_eq ..
theorem r129_7 (ls : A_V) (st : List Value) (h : A_H) : R 129 7 ls st h = a_do a_nL R R 129 (s_push (.int 0) 8 ls st h) := a_R_eq ..
theorem r129_8 (ls : A_V) (st : List Value) (h : A_H) : R 129 8 ls st h = a_do a_nL R R 129 (s_ist 1 9 ls st h) := a_R_eq ..
theorem r129_9 (ls : A_V) (st : List Value) (h : A_H) : R 129 9 ls st h = a_do a_nL R R 129 (s_aldl 0 10 ls st h) := a_R_eq ..
theorem r129_10 (ls : A_V) (st : List Value) (h : A_H) : R 129 10 ls st h = a_do a_nL R R 129 (s_aldl 0 11 ls st h) := a_R_eq ..
theorem r129_11 (ls : A_V) (st : List Value) (h : A_H) : R 129 11 ls st h = a_do a_nL R R 129 (s_call 14 136 1 1 true 12 ls st h) := a_R_eq ..
theorem r129_12 (ls : A_V) (st : List Value) (h : A_H) : R 129 12 ls st h = a_do a_nL R R 129 (s_ildl 1 13 ls st h) := a_R_eq ..
theorem r129_13 (ls : A_V) (st : List Value) (h : A_H) : R 129 13 ls st h = a_do a_nL R R 129 (s_if1 (fun x => decide (x = 0)) 16 14 ls st h) := a_R_eq ..
theorem r129_14 (ls : A_V) (st : List Value) (h : A_H) : R 129 14 ls st h = a_do a_nL R R 129 (s_push (.int 0) 15 ls st h) := a_R_eq ..
theorem r129_15 (ls : A_V) (st : List Value) (h : A_H) : R 129 15 ls st h = a_do a_nL R R 129 (s_goto 17 ls st h) := a_R_eq ..
theorem r129_16 (ls : A_V) (st : List Value) (h : A_H) : R 129 16 ls st h = a_do a_nL R R 129 (s_push (.int 3) 17 ls st h) := a_R_eq ..
theorem r129_17 (ls : A_V) (st : List Value) (h : A_H) : R 129 17 ls st h = a_do a_nL R R 129 (s_call 0 135 2 2 true 18 ls st h) := a_R_eq ..
theorem r129_18 (ls : A_V) (st : List Value) (h : A_H) : R 129 18 ls st h = a_do a_nL R R 129 (s_call 14 134 2 2 true 19 ls st h) := a_R_eq ..
theorem r129_19 (ls : A_V) (st : List Value) (h : A_H) : R 129 19 ls st h = a_do a_nL R R 129 (s_if1 (fun x => decide (x = 0)) 22 20 ls st h) := a_R_eq ..
theorem r129_20 (ls : A_V) (st : List Value) (h : A_H) : R 129 20 ls st h = a_do a_nL R R 129 (s_push (.int (-1)) 21 ls st h) := a_R_eq ..
theorem r129_21 (ls : A_V) (st : List Value) (h : A_H) : R 129 21 ls st h = a_do a_nL R R 129 (s_iret ls st h) := a_R_eq ..
theorem r129_22 (ls : A_V) (st : List Value) (h : A_H) : R 129 22 ls st h = a_do a_nL R R 129 (s_aldl 0 23 ls st h) := a_R_eq ..
theorem r129_23 (ls : A_V) (st : List Value) (h : A_H) : R 129 23 ls st h = a_do a_nL R R 129 (s_getR 11 6 24 ls st h) := a_R_eq ..
theorem r129_24 (ls : A_V) (st : List Value) (h : A_H) : R 129 24 ls st h = a_do a_nL R R 129 (s_aldl 0 25 ls st h) := a_R_eq ..
theorem r129_25 (ls : A_V) (st : List Value) (h : A_H) : R 129 25 ls st h = a_do a_nL R R 129 (s_getR 11 5 26 ls st h) := a_R_eq ..
theorem r129_26 (ls : A_V) (st : List Value) (h : A_H) : R 129 26 ls st h = a_do a_nL R R 129 (s_call 7 14 2 2 true 27 ls st h) := a_R_eq ..
theorem r129_27 (ls : A_V) (st : List Value) (h : A_H) : R 129 27 ls st h = a_do a_nL R R 129 (s_iret ls st h) := a_R_eq ..
theorem b129_0 (x0 : Nat) (l1 : Option Value) (h : A_H) : R 129 0 [some (.ref x0), l1] [] h = (cond (isO h x0 11 && (hP h x0 6).isSome) (cond (isO h ((hP h x0 6).getD 0) 4) (cond (decide ((3 : Int32) ≤ (hI h ((hP h x0 6).getD 0) 4))) (cond (isO h x0 11) (a_back R 129 (136, [.ref x0], h, true, none, 12, [some (.ref x0), some (.int (0 : Int32))], [.ref x0]) (C 136 [.ref x0] h)) none) (cond (isO h x0 11) (a_back R 129 (136, [.ref x0], h, true, none, 12, [some (.ref x0), some (.int (1 : Int32))], [.ref x0]) (C 136 [.ref x0] h)) none)) none) none) := (tr (r129_0 ..) (tr (r129_1 ..) (cgT (tr (r129_2 ..) (cgT (tr (r129_3 ..) (tr (r129_4 ..) (cgB (tr (r129_7 ..) (tr (r129_8 ..) (tr (r129_9 ..) (tr (r129_10 ..) (r129_11 ..))))) (tr (r129_5 ..) (tr (r129_6 ..) (tr (r129_8 ..) (tr (r129_9 ..) (tr (r129_10 ..) (r129_11 ..))))))))))))))
theorem b129_12 (x0 : Nat) (x1 : Int32) (s0 : Nat) (s1 : Int32) (h : A_H) : R 129 12 [some (.ref x0), some (.int x1)] [.int s1, .ref s0] h = (cond (decide (x1 = 0)) (a_back R 129 (135, [.int s1, .int (3 : Int32)], h, true, none, 18, [some (.ref x0), some (.int x1)], [.ref s0]) (C 135 [.int s1, .int (3 : Int32)] h)) (a_back R 129 (135, [.int s1, .int (0 : Int32)], h, true, none, 18, [some (.ref x0), some (.int x1)], [.ref s0]) (C 135 [.int s1, .int (0 : Int32)] h))) := (tr (r129_12 ..) (tr (r129_13 ..) (cgB (tr (r129_16 ..) (r129_17 ..)) (tr (r129_14 ..) (tr (r129_15 ..) (r129_17 ..))))))
theorem b129_18 (x0 : Nat) (x1 : Int32) (s0 : Nat) (s1 : Int32) (h : A_H) : R 129 18 [some (.ref x0), some (.int x1)] [.int s1, .ref s0] h = (cond (isO h s0 11) (a_back R 129 (134, [.ref s0, .int s1], h, true, none, 19, [some (.ref x0), some (.int x1)], []) (C 134 [.ref s0, .int s1] h)) none) := (r129_18 ..)
theorem b129_19 (x0 : Nat) (x1 : Int32) (s0 : Int32) (h : A_H) : R 129 19 [some (.ref x0), some (.int x1)] [.int s0] h = (cond (decide (s0 = 0)) (cond (isO h x0 11 && (hP h x0 6).isSome) (cond (isO h x0 11 && (hP h x0 5).isSome) (cond (isO h ((hP h x0 6).getD 0) 4) (a_back R 129 (14, [.ref ((hP h x0 6).getD 0), .ref ((hP h x0 5).getD 0)], h, true, none, 27, [some (.ref x0), some (.int x1)], []) (C 14 [.ref ((hP h x0 6).getD 0), .ref ((hP h x0 5).getD 0)] h)) none) none) none) (some (some (some (.int (-1 : Int32))), h))) := (tr (r129_19 ..) (cgB (tr (r129_22 ..) (tr (r129_23 ..) (cgT (tr (r129_24 ..) (tr (r129_25 ..) (cgT (r129_26 ..))))))) (tr (r129_20 ..) (r129_21 ..))))
theorem b129_27 (x0 : Nat) (x1 : Int32) (s0 : Int32) (h : A_H) : R 129 27 [some (.ref x0), some (.int x1)] [.int s0] h = (some (some (some (.int s0)), h)) := (r129_27 ..)
theorem e130 (x0 : Nat) (x1 : Int32) (h : A_H) : C 130 [.ref x0, .int x1] h = R 130 0 [some (.ref x0), some (.int x1)] [] h := rfl
theorem r130_0 (ls : A_V) (st : List Value) (h : A_H) : R 130 0 ls st h = a_do a_nL R R 130 (s_aldl 0 1 ls st h) := a_R_eq ..
theorem r130_1 (ls : A_V) (st : List Value) (h : A_H) : R 130 1 ls st h = a_do a_nL R R 130 (s_aldl 0 2 ls st h) := a_R_eq ..
theorem r130_2 (ls : A_V) (st : List Value) (h : A_H) : R 130 2 ls st h = a_do a_nL R R 130 (s_getR 11 6 3 ls st h) := a_R_eq ..
theorem r130_3 (ls : A_V) (st : List Value) (h : A_H) : R 130 3 ls st h = a_do a_nL R R 130 (s_ildl 1 4 ls st h) := a_R_eq ..
theorem r130_4 (ls : A_V) (st : List Value) (h : A_H) : R 130 4 ls st h = a_do a_nL R R 130 (s_aldl 0 5 ls st h) := a_R_eq ..
theorem r130_5 (ls : A_V) (st : List Value) (h : A_H) : R 130 5 ls st h = a_do a_nL R R 130 (s_getR 11 5 6 ls st h) := a_R_eq ..
theorem r130_6 (ls : A_V) (st : List Value) (h : A_H) : R 130 6 ls st h = a_do a_nL R R 130 (s_call 7 15 3 3 true 7 ls st h) := a_R_eq ..
theorem r130_7 (ls : A_V) (st : List Value) (h : A_H) : R 130 7 ls st h = a_do a_nL R R 130 (s_if1 (fun x => decide (x = 0)) 10 8 ls st h) := a_R_eq ..
theorem r130_8 (ls : A_V) (st : List Value) (h : A_H) : R 130 8 ls st h = a_do a_nL R R 130 (s_push (.int 0) 9 ls st h) := a_R_eq ..
theorem r130_9 (ls : A_V) (st : List Value) (h : A_H) : R 130 9 ls st h = a_do a_nL R R 130 (s_goto 11 ls st h) := a_R_eq ..
theorem r130_10 (ls : A_V) (st : List Value) (h : A_H) : R 130 10 ls st h = a_do a_nL R R 130 (s_push (.int 1) 11 ls st h) := a_R_eq ..
theorem r130_11 (ls : A_V) (st : List Value) (h : A_H) : R 130 11 ls st h = a_do a_nL R R 130 (s_call 14 134 2 2 true 12 ls st h) := a_R_eq ..
theorem r130_12 (ls : A_V) (st : List Value) (h : A_H) : R 130 12 ls st h = a_do a_nL R R 130 (s_if1 (fun x => !decide (x = 0)) 15 13 ls st h) := a_R_eq ..
theorem r130_13 (ls : A_V) (st : List Value) (h : A_H) : R 130 13 ls st h = a_do a_nL R R 130 (s_push (.int 1) 14 ls st h) := a_R_eq ..
theorem r130_14 (ls : A_V) (st : List Value) (h : A_H) : R 130 14 ls st h = a_do a_nL R R 130 (s_goto 16 ls st h) := a_R_eq ..
theorem r130_15 (ls : A_V) (st : List Value) (h : A_H) : R 130 15 ls st h = a_do a_nL R R 130 (s_push (.int 0) 16 ls st h) := a_R_eq ..
theorem r130_16 (ls : A_V) (st : List Value) (h : A_H) : R 130 16 ls st h = a_do a_nL R R 130 (s_zret ls st h) := a_R_eq ..
theorem b130_0 (x0 : Nat) (x1 : Int32) (h : A_H) : R 130 0 [some (.ref x0), some (.int x1)] [] h = (cond (isO h x0 11 && (hP h x0 6).isSome) (cond (isO h x0 11 && (hP h x0 5).isSome) (cond (isO h ((hP h x0 6).getD 0) 4) (a_back R 130 (15, [.ref ((hP h x0 6).getD 0), .int x1, .ref ((hP h x0 5).getD 0)], h, true, none, 7, [some (.ref x0), some (.int x1)], [.ref x0]) (C 15 [.ref ((hP h x0 6).getD 0), .int x1, .ref ((hP h x0 5).getD 0)] h)) none) none) none) := (tr (r130_0 ..) (tr (r130_1 ..) (tr (r130_2 ..) (cgT (tr (r130_3 ..) (tr (r130_4 ..) (tr (r130_5 ..) (cgT (r130_6 ..)))))))))
theorem b130_7 (x0 : Nat) (x1 : Int32) (s0 : Nat) (s1 : Int32) (h : A_H) : R 130 7 [some (.ref x0), some (.int x1)] [.int s1, .ref s0] h = (cond (decide (s1 = 0)) (cond (isO h s0 11) (a_back R 130 (134, [.ref s0, .int (1 : Int32)], h, true, none, 12, [some (.ref x0), some (.int x1)], []) (C 134 [.ref s0, .int (1 : Int32)] h)) none) (cond (isO h s0 11) (a_back R 130 (134, [.ref s0, .int (0 : Int32)], h, true, none, 12, [some (.ref x0), some (.int x1)], []) (C 134 [.ref s0, .int (0 : Int32)] h)) none)) := (tr (r130_7 ..) (cgB (tr (r130_10 ..) (r130_11 ..)) (tr (r130_8 ..) (tr (r130_9 ..) (r130_11 ..)))))
theorem b130_12 (x0 : Nat) (x1 : Int32) (s0 : Int32) (h : A_H) : R 130 12 [some (.ref x0), some (.int x1)] [.int s0] h = (cond (!decide (s0 = 0)) (cond (decide ((0 : Int32) = 0) || decide ((0 : Int32) = 1)) (some (some (some (.int (0 : Int32))), h)) none) (cond (decide ((1 : Int32) = 0) || decide ((1 : Int32) = 1)) (some (some (some (.int (1 : Int32))), h)) none)) := (tr (r130_12 ..) (cgB (tr (r130_15 ..) (r130_16 ..)) (tr (r130_13 ..) (tr (r130_14 ..) (r130_16 ..)))))
theorem e131 (x0 : Nat) (x1 : Int32) (h : A_H) : C 131 [.ref x0, .int x1] h = R 131 0 [some (.ref x0), some (.int x1), none, none] [] h := rfl
theorem r131_0 (ls : A_V) (st : List Value) (h : A_H) : R 131 0 ls st h = a_do a_nL R R 131 (s_ildl 1 1 ls st h) := a_R_eq ..
theorem r131_1 (ls : A_V) (st : List Value) (h : A_H) : R 131 1 ls st h = a_do a_nL R R 131 (s_ist 2 2 ls st h) := a_R_eq ..
theorem r131_2 (ls : A_V) (st : List Value) (h : A_H) : R 131 2 ls st h = a_do a_nL R R 131 (s_push (.int 0) 3 ls st h) := a_R_eq ..
theorem r131_3 (ls : A_V) (st : List Value) (h : A_H) : R 131 3 ls st h = a_do a_nL R R 131 (s_ist 3 4 ls st h) := a_R_eq ..
theorem r131_4 (ls : A_V) (st : List Value) (h : A_H) : R 131 4 ls st h = a_do a_nL R R 131 (s_ildl 3 5 ls st h) := a_R_eq ..
theorem r131_5 (ls : A_V) (st : List Value) (h : A_H) : R 131 5 ls st h = a_do a_nL R R 131 (s_aldl 0 6 ls st h) := a_R_eq ..
theorem r131_6 (ls : A_V) (st : List Value) (h : A_H) : R 131 6 ls st h = a_do a_nL R R 131 (s_getR 11 3 7 ls st h) := a_R_eq ..
theorem r131_7 (ls : A_V) (st : List Value) (h : A_H) : R 131 7 ls st h = a_do a_nL R R 131 (s_getI 9 5 8 ls st h) := a_R_eq ..
theorem r131_8 (ls : A_V) (st : List Value) (h : A_H) : R 131 8 ls st h = a_do a_nL R R 131 (s_if2 (fun x y => decide (y ≤ x)) 26 9 ls st h) := a_R_eq ..
theorem r131_9 (ls : A_V) (st : List Value) (h : A_H) : R 131 9 ls st h = a_do a_nL R R 131 (s_ildl 2 10 ls st h) := a_R_eq ..
theorem r131_10 (ls : A_V) (st : List Value) (h : A_H) : R 131 10 ls st h = a_do a_nL R R 131 (s_if1 (fun x => decide (x < 0)) 26 11 ls st h) := a_R_eq ..
theorem r131_11 (ls : A_V) (st : List Value) (h : A_H) : R 131 11 ls st h = a_do a_nL R R 131 (s_aldl 0 12 ls st h) := a_R_eq ..
theorem r131_12 (ls : A_V) (st : List Value) (h : A_H) : R 131 12 ls st h = a_do a_nL R R 131 (s_getR 11 3 13 ls st h) := a_R_eq ..
theorem r131_13 (ls : A_V) (st : List Value) (h : A_H) : R 131 13 ls st h = a_do a_nL R R 131 (s_ildl 3 14 ls st h) := a_R_eq ..
theorem r131_14 (ls : A_V) (st : List Value) (h : A_H) : R 131 14 ls st h = a_do a_nL R R 131 (s_aldl 0 15 ls st h) := a_R_eq ..
theorem r131_15 (ls : A_V) (st : List Value) (h : A_H) : R 131 15 ls st h = a_do a_nL R R 131 (s_getR 11 5 16 ls st h) := a_R_eq ..
theorem r131_16 (ls : A_V) (st : List Value) (h : A_H) : R 131 16 ls st h = a_do a_nL R R 131 (s_getI 8 0 17 ls st h) := a_R_eq ..
theorem r131_17 (ls : A_V) (st : List Value) (h : A_H) : R 131 17 ls st h = a_do a_nL R R 131 (s_call 12 59 3 4 true 18 ls st h) := a_R_eq ..
theorem r131_18 (ls : A_V) (st : List Value) (h : A_H) : R 131 18 ls st h = a_do a_nL R R 131 (s_if1 (fun x => decide (x = 0)) 24 19 ls st h) := a_R_eq ..
theorem r131_19 (ls : A_V) (st : List Value) (h : A_H) : R 131 19 ls st h = a_do a_nL R R 131 (s_ildl 2 20 ls st h) := a_R_eq ..
theorem r131_20 (ls : A_V) (st : List Value) (h : A_H) : R 131 20 ls st h = a_do a_nL R R 131 (s_if1 (fun x => !decide (x = 0)) 23 21 ls st h) := a_R_eq ..
theorem r131_21 (ls : A_V) (st : List Value) (h : A_H) : R 131 21 ls st h = a_do a_nL R R 131 (s_ildl 3 22 ls st h) := a_R_eq ..
theorem r131_22 (ls : A_V) (st : List Value) (h : A_H) : R 131 22 ls st h = a_do a_nL R R 131 (s_iret ls st h) := a_R_eq ..
theorem r131_23 (ls : A_V) (st : List Value) (h : A_H) : R 131 23 ls st h = a_do a_nL R R 131 (s_inc 2 (-1) 24 ls st h) := a_R_eq ..
theorem r131_24 (ls : A_V) (st : List Value) (h : A_H) : R 131 24 ls st h = a_do a_nL R R 131 (s_inc 3 1 25 ls st h) := a_R_eq ..
theorem r131_25 (ls : A_V) (st : List Value) (h : A_H) : R 131 25 ls st h = a_do a_nL R R 131 (s_goto 4 ls st h) := a_R_eq ..
theorem r131_26 (ls : A_V) (st : List Value) (h : A_H) : R 131 26 ls st h = a_do a_nL R R 131 (s_thr ls st h) := a_R_eq ..
theorem b131_0 (x0 : Nat) (x1 : Int32) (l2 : Option Value) (l3 : Option Value) (h : A_H) : R 131 0 [some (.ref x0), some (.int x1), l2, l3] [] h = (R 131 4 [some (.ref x0), some (.int x1), some (.int x1), some (.int (0 : Int32))] [] h) := (tr (r131_0 ..) (tr (r131_1 ..) (tr (r131_2 ..) (r131_3 ..))))
theorem b131_4 (x0 : Nat) (x1 : Int32) (x2 : Int32) (x3 : Int32) (h : A_H) : R 131 4 [some (.ref x0), some (.int x1), some (.int x2), some (.int x3)] [] h = (cond (isO h x0 11 && (hP h x0 3).isSome) (cond (isO h ((hP h x0 3).getD 0) 9) (cond (decide ((hI h ((hP h x0 3).getD 0) 5) ≤ x3)) (some (none, nw h 14 0 6)) (cond (decide (x2 < 0)) (some (none, nw h 14 0 6)) (cond (isO h x0 11 && (hP h x0 3).isSome) (cond (isO h x0 11 && (hP h x0 5).isSome) (cond (isO h ((hP h x0 5).getD 0) 8) (cond (isO h ((hP h x0 3).getD 0) 9) (a_back R 131 (59, [.ref ((hP h x0 3).getD 0), .int x3, .int (hI h ((hP h x0 5).getD 0) 0)], h, true, none, 18, [some (.ref x0), some (.int x1), some (.int x2), some (.int x3)], []) (C 59 [.ref ((hP h x0 3).getD 0), .int x3, .int (hI h ((hP h x0 5).getD 0) 0)] h)) none) none) none) none))) none) none) := (tr (r131_4 ..) (tr (r131_5 ..) (tr (r131_6 ..) (cgT (tr (r131_7 ..) (cgT (tr (r131_8 ..) (cgB (r131_26 ..) (tr (r131_9 ..) (tr (r131_10 ..) (cgB (r131_26 ..) (tr (r131_11 ..) (tr (r131_12 ..) (cgT (tr (r131_13 ..) (tr (r131_14 ..) (tr (r131_15 ..) (cgT (tr (r131_16 ..) (cgT (r131_17 ..)))))))))))))))))))))
theorem b131_18 (x0 : Nat) (x1 : Int32) (x2 : Int32) (x3 : Int32) (s0 : Int32) (h : A_H) : R 131 18 [some (.ref x0), some (.int x1), some (.int x2), some (.int x3)] [.int s0] h = (cond (decide (s0 = 0)) (R 131 4 [some (.ref x0), some (.int x1), some (.int x2), some (.int (x3 + 1))] [] h) (cond (!decide (x2 = 0)) (R 131 4 [some (.ref x0), some (.int x1), some (.int (x2 + (-1))), some (.int (x3 + 1))] [] h) (some (some (some (.int x3)), h)))) := (tr (r131_18 ..) (cgB (tr (r131_24 ..) (r131_25 ..)) (tr (r131_19 ..) (tr (r131_20 ..) (cgB (tr (r131_23 ..) (tr (r131_24 ..) (r131_25 ..))) (tr (r131_21 ..) (r131_22 ..)))))))
theorem e132 (x0 : Nat) (x1 : Int32) (h : A_H) : C 132 [.ref x0, .int x1] h = R 132 0 [some (.ref x0), some (.int x1)] [] h := rfl
theorem r132_0 (ls : A_V) (st : List Value) (h : A_H) : R 132 0 ls st h = a_do a_nL R R 132 (s_ildl 1 1 ls st h) := a_R_eq ..
theorem r132_1 (ls : A_V) (st : List Value) (h : A_H) : R 132 1 ls st h = a_do a_nL R R 132 (s_sw [(0, 2), (1, 6), (2, 10), (3, 14), (4, 18), (5, 22), (6, 26), (7, 30), (8, 34), (9, 39), (10, 43), (11, 47), (12, 51)] 54 ls st h) := a_R_eq ..
theorem r132_2 (ls : A_V) (st : List Value) (h : A_H) : R 132 2 ls st h = a_do a_nL R R 132 (s_aldl 0 3 ls st h) := a_R_eq ..
theorem r132_3 (ls : A_V) (st : List Value) (h : A_H) : R 132 3 ls st h = a_do a_nL R R 132 (s_getR 11 3 4 ls st h) := a_R_eq ..
theorem r132_4 (ls : A_V) (st : List Value) (h : A_H) : R 132 4 ls st h = a_do a_nL R R 132 (s_getI 9 0 5 ls st h) := a_R_eq ..
theorem r132_5 (ls : A_V) (st : List Value) (h : A_H) : R 132 5 ls st h = a_do a_nL R R 132 (s_iret ls st h) := a_R_eq ..
theorem r132_6 (ls : A_V) (st : List Value) (h : A_H) : R 132 6 ls st h = a_do a_nL R R 132 (s_aldl 0 7 ls st h) := a_R_eq ..
theorem r132_7 (ls : A_V) (st : List Value) (h : A_H) : R 132 7 ls st h = a_do a_nL R R 132 (s_getR 11 3 8 ls st h) := a_R_eq ..
theorem r132_8 (ls : A_V) (st : List Value) (h : A_H) : R 132 8 ls st h = a_do a_nL R R 132 (s_getI 9 1 9 ls st h) := a_R_eq ..
theorem r132_9 (ls : A_V) (st : List Value) (h : A_H) : R 132 9 ls st h = a_do a_nL R R 132 (s_iret ls st h) := a_R_eq ..
theorem r132_10 (ls : A_V) (st : List Value) (h : A_H) : R 132 10 ls st h = a_do a_nL R R 132 (s_aldl 0 11 ls st h) := a_R_eq ..
theorem r132_11 (ls : A_V) (st : List Value) (h : A_H) : R 132 11 ls st h = a_do a_nL R R 132 (s_getR 11 3 12 ls st h) := a_R_eq ..
theorem r132_12 (ls : A_V) (st : List Value) (h : A_H) : R 132 12 ls st h = a_do a_nL R R 132 (s_getI 9 2 13 ls st h) := a_R_eq ..
theorem r132_13 (ls : A_V) (st : List Value) (h : A_H) : R 132 13 ls st h = a_do a_nL R R 132 (s_iret ls st h) := a_R_eq ..
theorem r132_14 (ls : A_V) (st : List Value) (h : A_H) : R 132 14 ls st h = a_do a_nL R R 132 (s_aldl 0 15 ls st h) := a_R_eq ..
theorem r132_15 (ls : A_V) (st : List Value) (h : A_H) : R 132 15 ls st h = a_do a_nL R R 132 (s_getR 11 3 16 ls st h) := a_R_eq ..
theorem r132_16 (ls : A_V) (st : List Value) (h : A_H) : R 132 16 ls st h = a_do a_nL R R 132 (s_getI 9 3 17 ls st h) := a_R_eq ..
theorem r132_17 (ls : A_V) (st : List Value) (h : A_H) : R 132 17 ls st h = a_do a_nL R R 132 (s_iret ls st h) := a_R_eq ..
theorem r132_18 (ls : A_V) (st : List Value) (h : A_H) : R 132 18 ls st h = a_do a_nL R R 132 (s_aldl 0 19 ls st h) := a_R_eq ..
theorem r132_19 (ls : A_V) (st : List Value) (h : A_H) : R 132 19 ls st h = a_do a_nL R R 132 (s_getR 11 3 20 ls st h) := a_R_eq ..
theorem r132_20 (ls : A_V) (st : List Value) (h : A_H) : R 132 20 ls st h = a_do a_nL R R 132 (s_getI 9 4 21 ls st h) := a_R_eq ..
theorem r132_21 (ls : A_V) (st : List Value) (h : A_H) : R 132 21 ls st h = a_do a_nL R R 132 (s_iret ls st h) := a_R_eq ..
theorem r132_22 (ls : A_V) (st : List Value) (h : A_H) : R 132 22 ls st h = a_do a_nL R R 132 (s_aldl 0 23 ls st h) := a_R_eq ..
theorem r132_23 (ls : A_V) (st : List Value) (h : A_H) : R 132 23 ls st h = a_do a_nL R R 132 (s_getR 11 3 24 ls st h) := a_R_eq ..
theorem r132_24 (ls : A_V) (st : List Value) (h : A_H) : R 132 24 ls st h = a_do a_nL R R 132 (s_getI 9 5 25 ls st h) := a_R_eq ..
theorem r132_25 (ls : A_V) (st : List Value) (h : A_H) : R 132 25 ls st h = a_do a_nL R R 132 (s_iret ls st h) := a_R_eq ..
theorem r132_26 (ls : A_V) (st : List Value) (h : A_H) : R 132 26 ls st h = a_do a_nL R R 132 (s_aldl 0 27 ls st h) := a_R_eq ..
theorem r132_27 (ls : A_V) (st : List Value) (h : A_H) : R 132 27 ls st h = a_do a_nL R R 132 (s_getR 11 3 28 ls st h) := a_R_eq ..
theorem r132_28 (ls : A_V) (st : List Value) (h : A_H) : R 132 28 ls st h = a_do a_nL R R 132 (s_getI 9 6 29 ls st h) := a_R_eq ..
theorem r132_29 (ls : A_V) (st : List Value) (h : A_H) : R 132 29 ls st h = a_do a_nL R R 132 (s_iret ls st h) := a_R_eq ..
theorem r132_30 (ls : A_V) (st : List Value) (h : A_H) : R 132 30 ls st h = a_do a_nL R R 132 (s_aldl 0 31 ls st h) := a_R_eq ..
theorem r132_31 (ls : A_V) (st : List Value) (h : A_H) : R 132 31 ls st h = a_do a_nL R R 132 (s_getR 11 3 32 ls st h) := a_R_eq ..
theorem r132_32 (ls : A_V) (st : List Value) (h : A_H) : R 132 32 ls st h = a_do a_nL R R 132 (s_getI 9 7 33 ls st h) := a_R_eq ..
theorem r132_33 (ls : A_V) (st : List Value) (h : A_H) : R 132 33 ls st h = a_do a_nL R R 132 (s_iret ls st h) := a_R_eq ..
theorem r132_34 (ls : A_V) (st : List Value) (h : A_H) : R 132 34 ls st h = a_do a_nL R R 132 (s_aldl 0 35 ls st h) := a_R_eq ..
theorem r132_35 (ls : A_V) (st : List Value) (h : A_H) : R 132 35 ls st h = a_do a_nL R R 132 (s_getR 11 3 36 ls st h) := a_R_eq ..
theorem r132_36 (ls : A_V) (st : List Value) (h : A_H) : R 132 36 ls st h = a_do a_nL R R 132 (s_getR 9 14 37 ls st h) := a_R_eq ..
theorem r132_37 (ls : A_V) (st : List Value) (h : A_H) : R 132 37 ls st h = a_do a_nL R R 132 (s_getI 1 0 38 ls st h) := a_R_eq ..
theorem r132_38 (ls : A_V) (st : List Value) (h : A_H) : R 132 38 ls st h = a_do a_nL R R 132 (s_iret ls st h) := a_R_eq ..
theorem r132_39 (ls : A_V) (st : List Value) (h : A_H) : R 132 39 ls st h = a_do a_nL R R 132 (s_aldl 0 40 ls st h) := a_R_eq ..
theorem r132_40 (ls : A_V) (st : List Value) (h : A_H) : R 132 40 ls st h = a_do a_nL R R 132 (s_getR 11 5 41 ls st h) := a_R_eq ..
theorem r132_41 (ls : A_V) (st : List Value) (h : A_H) : R 132 41 ls st h = a_do a_nL R R 132 (s_getI 8 0 42 ls st h) := a_R_eq ..
theorem r132_42 (ls : A_V) (st : List Value) (h : A_H) : R 132 42 ls st h = a_do a_nL R R 132 (s_iret ls st h) := a_R_eq ..
theorem r132_43 (ls : A_V) (st : List Value) (h : A_H) : R 132 43 ls st h = a_do a_nL R R 132 (s_aldl 0 44 ls st h) := a_R_eq ..
theorem r132_44 (ls : A_V) (st : List Value) (h : A_H) : R 132 44 ls st h = a_do a_nL R R 132 (s_getR 11 6 45 ls st h) := a_R_eq ..
theorem r132_45 (ls : A_V) (st : List Value) (h : A_H) : R 132 45 ls st h = a_do a_nL R R 132 (s_getI 4 2 46 ls st h) := a_R_eq ..
theorem r132_46 (ls : A_V) (st : List Value) (h : A_H) : R 132 46 ls st h = a_do a_nL R R 132 (s_iret ls st h) := a_R_eq ..
theorem r132_47 (ls : A_V) (st : List Value) (h : A_H) : R 132 47 ls st h = a_do a_nL R R 132 (s_aldl 0 48 ls st h) := a_R_eq ..
theorem r132_48 (ls : A_V) (st : List Value) (h : A_H) : R 132 48 ls st h = a_do a_nL R R 132 (s_getR 11 6 49 ls st h) := a_R_eq ..
theorem r132_49 (ls : A_V) (st : List Value) (h : A_H) : R 132 49 ls st h = a_do a_nL R R 132 (s_getI 4 4 50 ls st h) := a_R_eq ..
theorem r132_50 (ls : A_V) (st : List Value) (h : A_H) : R 132 50 ls st h = a_do a_nL R R 132 (s_iret ls st h) := a_R_eq ..
theorem r132_51 (ls : A_V) (st : List Value) (h : A_H) : R 132 51 ls st h = a_do a_nL R R 132 (s_aldl 0 52 ls st h) := a_R_eq ..
theorem r132_52 (ls : A_V) (st : List Value) (h : A_H) : R 132 52 ls st h = a_do a_nL R R 132 (s_getI 11 1 53 ls st h) := a_R_eq ..
theorem r132_53 (ls : A_V) (st : List Value) (h : A_H) : R 132 53 ls st h = a_do a_nL R R 132 (s_iret ls st h) := a_R_eq ..
theorem r132_54 (ls : A_V) (st : List Value) (h : A_H) : R 132 54 ls st h = a_do a_nL R R 132 (s_push (.int (-1)) 55 ls st h) := a_R_eq ..
theorem r132_55 (ls : A_V) (st : List Value) (h : A_H) : R 132 55 ls st h = a_do a_nL R R 132 (s_iret ls st h) := a_R_eq ..
theorem b132_0 (x0 : Nat) (x1 : Int32) (h : A_H) : R 132 0 [some (.ref x0), some (.int x1)] [] h = (cond (decide (x1 = 0)) (cond (isO h x0 11 && (hP h x0 3).isSome) (cond (isO h ((hP h x0 3).getD 0) 9) (some (some (some (.int (hI h ((hP h x0 3).getD 0) 0))), h)) none) none) (cond (decide (x1 = 1)) (cond (isO h x0 11 && (hP h x0 3).isSome) (cond (isO h ((hP h x0 3).getD 0) 9) (some (some (some (.int (hI h ((hP h x0 3).getD 0) 1))), h)) none) none) (cond (decide (x1 = 2)) (cond (isO h x0 11 && (hP h x0 3).isSome) (cond (isO h ((hP h x0 3).getD 0) 9) (some (some (some (.int (hI h ((hP h x0 3).getD 0) 2))), h)) none) none) (cond (decide (x1 = 3)) (cond (isO h x0 11 && (hP h x0 3).isSome) (cond (isO h ((hP h x0 3).getD 0) 9) (some (some (some (.int (hI h ((hP h x0 3).getD 0) 3))), h)) none) none) (cond (decide (x1 = 4)) (cond (isO h x0 11 && (hP h x0 3).isSome) (cond (isO h ((hP h x0 3).getD 0) 9) (some (some (some (.int (hI h ((hP h x0 3).getD 0) 4))), h)) none) none) (cond (decide (x1 = 5)) (cond (isO h x0 11 && (hP h x0 3).isSome) (cond (isO h ((hP h x0 3).getD 0) 9) (some (some (some (.int (hI h ((hP h x0 3).getD 0) 5))), h)) none) none) (cond (decide (x1 = 6)) (cond (isO h x0 11 && (hP h x0 3).isSome) (cond (isO h ((hP h x0 3).getD 0) 9) (some (some (some (.int (hI h ((hP h x0 3).getD 0) 6))), h)) none) none) (cond (decide (x1 = 7)) (cond (isO h x0 11 && (hP h x0 3).isSome) (cond (isO h ((hP h x0 3).getD 0) 9) (some (some (some (.int (hI h ((hP h x0 3).getD 0) 7))), h)) none) none) (cond (decide (x1 = 8)) (cond (isO h x0 11 && (hP h x0 3).isSome) (cond (isO h ((hP h x0 3).getD 0) 9 && (hP h ((hP h x0 3).getD 0) 14).isSome) (cond (isO h ((hP h ((hP h x0 3).getD 0) 14).getD 0) 1) (some (some (some (.int (hI h ((hP h ((hP h x0 3).getD 0) 14).getD 0) 0))), h)) none) none) none) (cond (decide (x1 = 9)) (cond (isO h x0 11 && (hP h x0 5).isSome) (cond (isO h ((hP h x0 5).getD 0) 8) (some (some (some (.int (hI h ((hP h x0 5).getD 0) 0))), h)) none) none) (cond (decide (x1 = 10)) (cond (isO h x0 11 && (hP h x0 6).isSome) (cond (isO h ((hP h x0 6).getD 0) 4) (some (some (some (.int (hI h ((hP h x0 6).getD 0) 2))), h)) none) none) (cond (decide (x1 = 11)) (cond (isO h x0 11 && (hP h x0 6).isSome) (cond (isO h ((hP h x0 6).getD 0) 4) (some (some (some (.int (hI h ((hP h x0 6).getD 0) 4))), h)) none) none) (cond (decide (x1 = 12)) (cond (isO h x0 11) (some (some (some (.int (hI h x0 1))), h)) none) (some (some (some (.int (-1 : Int32))), h))))))))))))))) := (tr (r132_0 ..) (tr (r132_1 ..) (cgB (tr (r132_2 ..) (tr (r132_3 ..) (cgT (tr (r132_4 ..) (cgT (r132_5 ..)))))) (cgB (tr (r132_6 ..) (tr (r132_7 ..) (cgT (tr (r132_8 ..) (cgT (r132_9 ..)))))) (cgB (tr (r132_10 ..) (tr (r132_11 ..) (cgT (tr (r132_12 ..) (cgT (r132_13 ..)))))) (cgB (tr (r132_14 ..) (tr (r132_15 ..) (cgT (tr (r132_16 ..) (cgT (r132_17 ..)))))) (cgB (tr (r132_18 ..) (tr (r132_19 ..) (cgT (tr (r132_20 ..) (cgT (r132_21 ..)))))) (cgB (tr (r132_22 ..) (tr (r132_23 ..) (cgT (tr (r132_24 ..) (cgT (r132_25 ..)))))) (cgB (tr (r132_26 ..) (tr (r132_27 ..) (cgT (tr (r132_28 ..) (cgT (r132_29 ..)))))) (cgB (tr (r132_30 ..) (tr (r132_31 ..) (cgT (tr (r132_32 ..) (cgT (r132_33 ..)))))) (cgB (tr (r132_34 ..) (tr (r132_35 ..) (cgT (tr (r132_36 ..) (cgT (tr (r132_37 ..) (cgT (r132_38 ..)))))))) (cgB (tr (r132_39 ..) (tr (r132_40 ..) (cgT (tr (r132_41 ..) (cgT (r132_42 ..)))))) (cgB (tr (r132_43 ..) (tr (r132_44 ..) (cgT (tr (r132_45 ..) (cgT (r132_46 ..)))))) (cgB (tr (r132_47 ..) (tr (r132_48 ..) (cgT (tr (r132_49 ..) (cgT (r132_50 ..)))))) (cgB (tr (r132_51 ..) (tr (r132_52 ..) (cgT (r132_53 ..)))) (tr (r132_54 ..) (r132_55 ..)))))))))))))))))
theorem e133 (x0 : Nat) (h : A_H) : C 133 [.ref x0] h = R 133 0 [some (.ref x0)] [] h := rfl
theorem r133_0 (ls : A_V) (st : List Value) (h : A_H) : R 133 0 ls st h = a_do a_nL R R 133 (s_aldl 0 1 ls st h) := a_R_eq ..
theorem r133_1 (ls : A_V) (st : List Value) (h : A_H) : R 133 1 ls st h = a_do a_nL R R 133 (s_getI 11 8 2 ls st h) := a_R_eq ..
theorem r133_2 (ls : A_V) (st : List Value) (h : A_H) : R 133 2 ls st h = a_do a_nL R R 133 (s_iret ls st h) := a_R_eq ..
theorem b133_0 (x0 : Nat) (h : A_H) : R 133 0 [some (.ref x0)] [] h = (cond (isO h x0 11) (some (some (some (.int (hI h x0 8))), h)) none) := (tr (r133_0 ..) (tr (r133_1 ..) (cgT (r133_2 ..))))
theorem e134 (x0 : Nat) (x1 : Int32) (h : A_H) : C 134 [.ref x0, .int x1] h = R 134 0 [some (.ref x0), some (.int x1)] [] h := rfl
theorem r134_0 (ls : A_V) (st : List Value) (h : A_H) : R 134 0 ls st h = a_do a_nL R R 134 (s_aldl 0 1 ls st h) := a_R_eq ..
theorem r134_1 (ls : A_V) (st : List Value) (h : A_H) : R 134 1 ls st h = a_do a_nL R R 134 (s_ildl 1 2 ls st h) := a_R_eq ..
theorem r134_2 (ls : A_V) (st : List Value) (h : A_H) : R 134 2 ls st h = a_do a_nL R R 134 (s_putI 11 8 3 ls st h) := a_R_eq ..
theorem r134_3 (ls : A_V) (st : List Value) (h : A_H) : R 134 3 ls st h = a_do a_nL R R 134 (s_ildl 1 4 ls st h) := a_R_eq ..
theorem r134_4 (ls : A_V) (st : List Value) (h : A_H) : R 134 4 ls st h = a_do a_nL R R 134 (s_if1 (fun x => decide (x = 0)) 7 5 ls st h) := a_R_eq ..
theorem r134_5 (ls : A_V) (st : List Value) (h : A_H) : R 134 5 ls st h = a_do a_nL R R 134 (s_push (.int 1) 6 ls st h) := a_R_eq ..
theorem r134_6 (ls : A_V) (st : List Value) (h : A_H) : R 134 6 ls st h = a_do a_nL R R 134 (s_goto 8 ls st h) := a_R_eq ..
theorem r134_7 (ls : A_V) (st : List Value) (h : A_H) : R 134 7 ls st h = a_do a_nL R R 134 (s_push (.int 0) 8 ls st h) := a_R_eq ..
theorem r134_8 (ls : A_V) (st : List Value) (h : A_H) : R 134 8 ls st h = a_do a_nL R R 134 (s_zret ls st h) := a_R_eq ..
theorem b134_0 (x0 : Nat) (x1 : Int32) (h : A_H) : R 134 0 [some (.ref x0), some (.int x1)] [] h = (cond (isO h x0 11) (R 134 3 [some (.ref x0), some (.int x1)] [] (wI h x0 8 x1)) none) := (tr (r134_0 ..) (tr (r134_1 ..) (r134_2 ..)))
theorem b134_3 (x0 : Nat) (x1 : Int32) (h : A_H) : R 134 3 [some (.ref x0), some (.int x1)] [] h = (cond (decide (x1 = 0)) (cond (decide ((0 : Int32) = 0) || decide ((0 : Int32) = 1)) (some (some (some (.int (0 : Int32))), h)) none) (cond (decide ((1 : Int32) = 0) || decide ((1 : Int32) = 1)) (some (some (some (.int (1 : Int32))), h)) none)) := (tr (r134_3 ..) (tr (r134_4 ..) (cgB (tr (r134_7 ..) (r134_8 ..)) (tr (r134_5 ..) (tr (r134_6 ..) (r134_8 ..))))))
theorem e135 (x0 : Int32) (x1 : Int32) (h : A_H) : C 135 [.int x0, .int x1] h = R 135 0 [some (.int x0), some (.int x1)] [] h := rfl
theorem r135_0 (ls : A_V) (st : List Value) (h : A_H) : R 135 0 ls st h = a_do a_nL R R 135 (s_ildl 0 1 ls st h) := a_R_eq ..
theorem r135_1 (ls : A_V) (st : List Value) (h : A_H) : R 135 1 ls st h = a_do a_nL R R 135 (s_if1 (fun x => decide (x = 0)) 4 2 ls st h) := a_R_eq ..
theorem r135_2 (ls : A_V) (st : List Value) (h : A_H) : R 135 2 ls st h = a_do a_nL R R 135 (s_ildl 0 3 ls st h) := a_R_eq ..
theorem r135_3 (ls : A_V) (st : List Value) (h : A_H) : R 135 3 ls st h = a_do a_nL R R 135 (s_goto 5 ls st h) := a_R_eq ..
theorem r135_4 (ls : A_V) (st : List Value) (h : A_H) : R 135 4 ls st h = a_do a_nL R R 135 (s_ildl 1 5 ls st h) := a_R_eq ..
theorem r135_5 (ls : A_V) (st : List Value) (h : A_H) : R 135 5 ls st h = a_do a_nL R R 135 (s_iret ls st h) := a_R_eq ..
theorem b135_0 (x0 : Int32) (x1 : Int32) (h : A_H) : R 135 0 [some (.int x0), some (.int x1)] [] h = (cond (decide (x0 = 0)) (some (some (some (.int x1)), h)) (some (some (some (.int x0)), h))) := (tr (r135_0 ..) (tr (r135_1 ..) (cgB (tr (r135_4 ..) (r135_5 ..)) (tr (r135_2 ..) (tr (r135_3 ..) (r135_5 ..))))))
theorem e136 (x0 : Nat) (h : A_H) : C 136 [.ref x0] h = R 136 0 [some (.ref x0)] [] h := rfl
theorem r136_0 (ls : A_V) (st : List Value) (h : A_H) : R 136 0 ls st h = a_do a_nL R R 136 (s_aldl 0 1 ls st h) := a_R_eq ..
theorem r136_1 (ls : A_V) (st : List Value) (h : A_H) : R 136 1 ls st h = a_do a_nL R R 136 (s_getI 11 4 2 ls st h) := a_R_eq ..
theorem r136_2 (ls : A_V) (st : List Value) (h : A_H) : R 136 2 ls st h = a_do a_nL R R 136 (s_if1 (fun x => decide (x = 0)) 5 3 ls st h) := a_R_eq ..
theorem r136_3 (ls : A_V) (st : List Value) (h : A_H) : R 136 3 ls st h = a_do a_nL R R 136 (s_push (.int 0) 4 ls st h) := a_R_eq ..
theorem r136_4 (ls : A_V) (st : List Value) (h : A_H) : R 136 4 ls st h = a_do a_nL R R 136 (s_goto 6 ls st h) := a_R_eq ..
theorem r136_5 (ls : A_V) (st : List Value) (h : A_H) : R 136 5 ls st h = a_do a_nL R R 136 (s_push (.int 1) 6 ls st h) := a_R_eq ..
theorem r136_6 (ls : A_V) (st : List Value) (h : A_H) : R 136 6 ls st h = a_do a_nL R R 136 (s_iret ls st h) := a_R_eq ..
theorem b136_0 (x0 : Nat) (h : A_H) : R 136 0 [some (.ref x0)] [] h = (cond (isO h x0 11) (cond (decide ((hI h x0 4) = 0)) (some (some (some (.int (1 : Int32))), h)) (some (some (some (.int (0 : Int32))), h))) none) := (tr (r136_0 ..) (tr (r136_1 ..) (cgT (tr (r136_2 ..) (cgB (tr (r136_5 ..) (r136_6 ..)) (tr (r136_3 ..) (tr (r136_4 ..) (r136_6 ..))))))))
theorem e137 (x0 : Nat) (x1 : Int32) (h : A_H) : C 137 [.ref x0, .int x1] h = R 137 0 [some (.ref x0), some (.int x1)] [] h := rfl
theorem r137_0 (ls : A_V) (st : List Value) (h : A_H) : R 137 0 ls st h = a_do a_nL R R 137 (s_ildl 1 1 ls st h) := a_R_eq ..
theorem r137_1 (ls : A_V) (st : List Value) (h : A_H) : R 137 1 ls st h = a_do a_nL R R 137 (s_if1 (fun x => decide (x < 0)) 9 2 ls st h) := a_R_eq ..
theorem r137_2 (ls : A_V) (st : List Value) (h : A_H) : R 137 2 ls st h = a_do a_nL R R 137 (s_ildl 1 3 ls st h) := a_R_eq ..
theorem r137_3 (ls : A_V) (st : List Value) (h : A_H) : R 137 3 ls st h = a_do a_nL R R 137 (s_aldl 0 4 ls st h) := a_R_eq ..
theorem r137_4 (ls : A_V) (st : List Value) (h : A_H) : R 137 4 ls st h = a_do a_nL R R 137 (s_getR 11 3 5 ls st h) := a_R_eq ..
theorem r137_5 (ls : A_V) (st : List Value) (h : A_H) : R 137 5 ls st h = a_do a_nL R R 137 (s_getI 9 5 6 ls st h) := a_R_eq ..
theorem r137_6 (ls : A_V) (st : List Value) (h : A_H) : R 137 6 ls st h = a_do a_nL R R 137 (s_if2 (fun x y => decide (y ≤ x)) 9 7 ls st h) := a_R_eq ..
theorem r137_7 (ls : A_V) (st : List Value) (h : A_H) : R 137 7 ls st h = a_do a_nL R R 137 (s_push (.int 0) 8 ls st h) := a_R_eq ..
theorem r137_8 (ls : A_V) (st : List Value) (h : A_H) : R 137 8 ls st h = a_do a_nL R R 137 (s_goto 10 ls st h) := a_R_eq ..
theorem r137_9 (ls : A_V) (st : List Value) (h : A_H) : R 137 9 ls st h = a_do a_nL R R 137 (s_push (.int 1) 10 ls st h) := a_R_eq ..
theorem r137_10 (ls : A_V) (st : List Value) (h : A_H) : R 137 10 ls st h = a_do a_nL R R 137 (s_iret ls st h) := a_R_eq ..
theorem b137_0 (x0 : Nat) (x1 : Int32) (h : A_H) : R 137 0 [some (.ref x0), some (.int x1)] [] h = (cond (decide (x1 < 0)) (some (some (some (.int (1 : Int32))), h)) (cond (isO h x0 11 && (hP h x0 3).isSome) (cond (isO h ((hP h x0 3).getD 0) 9) (cond (decide ((hI h ((hP h x0 3).getD 0) 5) ≤ x1)) (some (some (some (.int (1 : Int32))), h)) (some (some (some (.int (0 : Int32))), h))) none) none)) := (tr (r137_0 ..) (tr (r137_1 ..) (cgB (tr (r137_9 ..) (r137_10 ..)) (tr (r137_2 ..) (tr (r137_3 ..) (tr (r137_4 ..) (cgT (tr (r137_5 ..) (cgT (tr (r137_6 ..) (cgB (tr (r137_9 ..) (r137_10 ..)) (tr (r137_7 ..) (tr (r137_8 ..) (r137_10 ..))))))))))))))
theorem e138 (x0 : Nat) (x1 : Int32) (h : A_H) : C 138 [.ref x0, .int x1] h = R 138 0 [some (.ref x0), some (.int x1)] [] h := rfl
theorem r138_0 (ls : A_V) (st : List Value) (h : A_H) : R 138 0 ls st h = a_do a_nL R R 138 (s_ildl 1 1 ls st h) := a_R_eq ..
theorem r138_1 (ls : A_V) (st : List Value) (h : A_H) : R 138 1 ls st h = a_do a_nL R R 138 (s_if1 (fun x => decide (x < 0)) 9 2 ls st h) := a_R_eq ..
theorem r138_2 (ls : A_V) (st : List Value) (h : A_H) : R 138 2 ls st h = a_do a_nL R R 138 (s_ildl 1 3 ls st h) := a_R_eq ..
theorem r138_3 (ls : A_V) (st : List Value) (h : A_H) : R 138 3 ls st h = a_do a_nL R R 138 (s_aldl 0 4 ls st h) := a_R_eq ..
theorem r138_4 (ls : A_V) (st : List Value) (h : A_H) : R 138 4 ls st h = a_do a_nL R R 138 (s_getR 11 3 5 ls st h) := a_R_eq ..
theorem r138_5 (ls : A_V) (st : List Value) (h : A_H) : R 138 5 ls st h = a_do a_nL R R 138 (s_getI 9 3 6 ls st h) := a_R_eq ..
theorem r138_6 (ls : A_V) (st : List Value) (h : A_H) : R 138 6 ls st h = a_do a_nL R R 138 (s_if2 (fun x y => decide (y ≤ x)) 9 7 ls st h) := a_R_eq ..
theorem r138_7 (ls : A_V) (st : List Value) (h : A_H) : R 138 7 ls st h = a_do a_nL R R 138 (s_push (.int 0) 8 ls st h) := a_R_eq ..
theorem r138_8 (ls : A_V) (st : List Value) (h : A_H) : R 138 8 ls st h = a_do a_nL R R 138 (s_goto 10 ls st h) := a_R_eq ..
theorem r138_9 (ls : A_V) (st : List Value) (h : A_H) : R 138 9 ls st h = a_do a_nL R R 138 (s_push (.int 1) 10 ls st h) := a_R_eq ..
theorem r138_10 (ls : A_V) (st : List Value) (h : A_H) : R 138 10 ls st h = a_do a_nL R R 138 (s_iret ls st h) := a_R_eq ..
theorem b138_0 (x0 : Nat) (x1 : Int32) (h : A_H) : R 138 0 [some (.ref x0), some (.int x1)] [] h = (cond (decide (x1 < 0)) (some (some (some (.int (1 : Int32))), h)) (cond (isO h x0 11 && (hP h x0 3).isSome) (cond (isO h ((hP h x0 3).getD 0) 9) (cond (decide ((hI h ((hP h x0 3).getD 0) 3) ≤ x1)) (some (some (some (.int (1 : Int32))), h)) (some (some (some (.int (0 : Int32))), h))) none) none)) := (tr (r138_0 ..) (tr (r138_1 ..) (cgB (tr (r138_9 ..) (r138_10 ..)) (tr (r138_2 ..) (tr (r138_3 ..) (tr (r138_4 ..) (cgT (tr (r138_5 ..) (cgT (tr (r138_6 ..) (cgB (tr (r138_9 ..) (r138_10 ..)) (tr (r138_7 ..) (tr (r138_8 ..) (r138_10 ..))))))))))))))
theorem e139 (x0 : Nat) (x1 : Int32) (h : A_H) : C 139 [.ref x0, .int x1] h = R 139 0 [some (.ref x0), some (.int x1)] [] h := rfl
theorem r139_0 (ls : A_V) (st : List Value) (h : A_H) : R 139 0 ls st h = a_do a_nL R R 139 (s_ildl 1 1 ls st h) := a_R_eq ..
theorem r139_1 (ls : A_V) (st : List Value) (h : A_H) : R 139 1 ls st h = a_do a_nL R R 139 (s_if1 (fun x => decide (x < 0)) 9 2 ls st h) := a_R_eq ..
theorem r139_2 (ls : A_V) (st : List Value) (h : A_H) : R 139 2 ls st h = a_do a_nL R R 139 (s_ildl 1 3 ls st h) := a_R_eq ..
theorem r139_3 (ls : A_V) (st : List Value) (h : A_H) : R 139 3 ls st h = a_do a_nL R R 139 (s_aldl 0 4 ls st h) := a_R_eq ..
theorem r139_4 (ls : A_V) (st : List Value) (h : A_H) : R 139 4 ls st h = a_do a_nL R R 139 (s_getR 11 3 5 ls st h) := a_R_eq ..
theorem r139_5 (ls : A_V) (st : List Value) (h : A_H) : R 139 5 ls st h = a_do a_nL R R 139 (s_getI 9 4 6 ls st h) := a_R_eq ..
theorem r139_6 (ls : A_V) (st : List Value) (h : A_H) : R 139 6 ls st h = a_do a_nL R R 139 (s_if2 (fun x y => decide (y ≤ x)) 9 7 ls st h) := a_R_eq ..
theorem r139_7 (ls : A_V) (st : List Value) (h : A_H) : R 139 7 ls st h = a_do a_nL R R 139 (s_push (.int 0) 8 ls st h) := a_R_eq ..
theorem r139_8 (ls : A_V) (st : List Value) (h : A_H) : R 139 8 ls st h = a_do a_nL R R 139 (s_goto 10 ls st h) := a_R_eq ..
theorem r139_9 (ls : A_V) (st : List Value) (h : A_H) : R 139 9 ls st h = a_do a_nL R R 139 (s_push (.int 1) 10 ls st h) := a_R_eq ..
theorem r139_10 (ls : A_V) (st : List Value) (h : A_H) : R 139 10 ls st h = a_do a_nL R R 139 (s_iret ls st h) := a_R_eq ..
theorem b139_0 (x0 : Nat) (x1 : Int32) (h : A_H) : R 139 0 [some (.ref x0), some (.int x1)] [] h = (cond (decide (x1 < 0)) (some (some (some (.int (1 : Int32))), h)) (cond (isO h x0 11 && (hP h x0 3).isSome) (cond (isO h ((hP h x0 3).getD 0) 9) (cond (decide ((hI h ((hP h x0 3).getD 0) 4) ≤ x1)) (some (some (some (.int (1 : Int32))), h)) (some (some (some (.int (0 : Int32))), h))) none) none)) := (tr (r139_0 ..) (tr (r139_1 ..) (cgB (tr (r139_9 ..) (r139_10 ..)) (tr (r139_2 ..) (tr (r139_3 ..) (tr (r139_4 ..) (cgT (tr (r139_5 ..) (cgT (tr (r139_6 ..) (cgB (tr (r139_9 ..) (r139_10 ..)) (tr (r139_7 ..) (tr (r139_8 ..) (r139_10 ..))))))))))))))
theorem e140 (x0 : Nat) (x1 : Int32) (h : A_H) : C 140 [.ref x0, .int x1] h = R 140 0 [some (.ref x0), some (.int x1)] [] h := rfl
theorem r140_0 (ls : A_V) (st : List Value) (h : A_H) : R 140 0 ls st h = a_do a_nL R R 140 (s_ildl 1 1 ls st h) := a_R_eq ..
theorem r140_1 (ls : A_V) (st : List Value) (h : A_H) : R 140 1 ls st h = a_do a_nL R R 140 (s_if1 (fun x => decide (x < 0)) 10 2 ls st h) := a_R_eq ..
theorem r140_2 (ls : A_V) (st : List Value) (h : A_H) : R 140 2 ls st h = a_do a_nL R R 140 (s_ildl 1 3 ls st h) := a_R_eq ..
theorem r140_3 (ls : A_V) (st : List Value) (h : A_H) : R 140 3 ls st h = a_do a_nL R R 140 (s_aldl 0 4 ls st h) := a_R_eq ..
theorem r140_4 (ls : A_V) (st : List Value) (h : A_H) : R 140 4 ls st h = a_do a_nL R R 140 (s_getR 11 3 5 ls st h) := a_R_eq ..
theorem r140_5 (ls : A_V) (st : List Value) (h : A_H) : R 140 5 ls st h = a_do a_nL R R 140 (s_getR 9 14 6 ls st h) := a_R_eq ..
theorem r140_6 (ls : A_V) (st : List Value) (h : A_H) : R 140 6 ls st h = a_do a_nL R R 140 (s_getI 1 0 7 ls st h) := a_R_eq ..
theorem r140_7 (ls : A_V) (st : List Value) (h : A_H) : R 140 7 ls st h = a_do a_nL R R 140 (s_if2 (fun x y => decide (y ≤ x)) 10 8 ls st h) := a_R_eq ..
theorem r140_8 (ls : A_V) (st : List Value) (h : A_H) : R 140 8 ls st h = a_do a_nL R R 140 (s_push (.int 0) 9 ls st h) := a_R_eq ..
theorem r140_9 (ls : A_V) (st : List Value) (h : A_H) : R 140 9 ls st h = a_do a_nL R R 140 (s_goto 11 ls st h) := a_R_eq ..
theorem r140_10 (ls : A_V) (st : List Value) (h : A_H) : R 140 10 ls st h = a_do a_nL R R 140 (s_push (.int 1) 11 ls st h) := a_R_eq ..
theorem r140_11 (ls : A_V) (st : List Value) (h : A_H) : R 140 11 ls st h = a_do a_nL R R 140 (s_iret ls st h) := a_R_eq ..
theorem b140_0 (x0 : Nat) (x1 : Int32) (h : A_H) : R 140 0 [some (.ref x0), some (.int x1)] [] h = (cond (decide (x1 < 0)) (some (some (some (.int (1 : Int32))), h)) (cond (isO h x0 11 && (hP h x0 3).isSome) (cond (isO h ((hP h x0 3).getD 0) 9 && (hP h ((hP h x0 3).getD 0) 14).isSome) (cond (isO h ((hP h ((hP h x0 3).getD 0) 14).getD 0) 1) (cond (decide ((hI h ((hP h ((hP h x0 3).getD 0) 14).getD 0) 0) ≤ x1)) (some (some (some (.int (1 : Int32))), h)) (some (some (some (.int (0 : Int32))), h))) none) none) none)) := (tr (r140_0 ..) (tr (r140_1 ..) (cgB (tr (r140_10 ..) (r140_11 ..)) (tr (r140_2 ..) (tr (r140_3 ..) (tr (r140_4 ..) (cgT (tr (r140_5 ..) (cgT (tr (r140_6 ..) (cgT (tr (r140_7 ..) (cgB (tr (r140_10 ..) (r140_11 ..)) (tr (r140_8 ..) (tr (r140_9 ..) (r140_11 ..))))))))))))))))
theorem e141 (x0 : Int32) (h : A_H) : C 141 [.int x0] h = R 141 0 [some (.int x0)] [] h := rfl
theorem r141_0 (ls : A_V) (st : List Value) (h : A_H) : R 141 0 ls st h = a_do a_nL R R 141 (s_ildl 0 1 ls st h) := a_R_eq ..
theorem r141_1 (ls : A_V) (st : List Value) (h : A_H) : R 141 1 ls st h = a_do a_nL R R 141 (s_if1 (fun x => decide (x < 0)) 7 2 ls st h) := a_R_eq ..
theorem r141_2 (ls : A_V) (st : List Value) (h : A_H) : R 141 2 ls st h = a_do a_nL R R 141 (s_ildl 0 3 ls st h) := a_R_eq ..
theorem r141_3 (ls : A_V) (st : List Value) (h : A_H) : R 141 3 ls st h = a_do a_nL R R 141 (s_push (.int 60) 4 ls st h) := a_R_eq ..
theorem r141_4 (ls : A_V) (st : List Value) (h : A_H) : R 141 4 ls st h = a_do a_nL R R 141 (s_if2 (fun x y => decide (y < x)) 7 5 ls st h) := a_R_eq ..
theorem r141_5 (ls : A_V) (st : List Value) (h : A_H) : R 141 5 ls st h = a_do a_nL R R 141 (s_push (.int 0) 6 ls st h) := a_R_eq ..
theorem r141_6 (ls : A_V) (st : List Value) (h : A_H) : R 141 6 ls st h = a_do a_nL R R 141 (s_goto 8 ls st h) := a_R_eq ..
theorem r141_7 (ls : A_V) (st : List Value) (h : A_H) : R 141 7 ls st h = a_do a_nL R R 141 (s_push (.int 2) 8 ls st h) := a_R_eq ..
theorem r141_8 (ls : A_V) (st : List Value) (h : A_H) : R 141 8 ls st h = a_do a_nL R R 141 (s_iret ls st h) := a_R_eq ..
theorem b141_0 (x0 : Int32) (h : A_H) : R 141 0 [some (.int x0)] [] h = (cond (decide (x0 < 0)) (some (some (some (.int (2 : Int32))), h)) (cond (decide ((60 : Int32) < x0)) (some (some (some (.int (2 : Int32))), h)) (some (some (some (.int (0 : Int32))), h)))) := (tr (r141_0 ..) (tr (r141_1 ..) (cgB (tr (r141_7 ..) (r141_8 ..)) (tr (r141_2 ..) (tr (r141_3 ..) (tr (r141_4 ..) (cgB (tr (r141_7 ..) (r141_8 ..)) (tr (r141_5 ..) (tr (r141_6 ..) (r141_8 ..))))))))))
theorem e142 (x0 : Int32) (h : A_H) : C 142 [.int x0] h = R 142 0 [some (.int x0)] [] h := rfl
theorem r142_0 (ls : A_V) (st : List Value) (h : A_H) : R 142 0 ls st h = a_do a_nL R R 142 (s_ildl 0 1 ls st h) := a_R_eq ..
theorem r142_1 (ls : A_V) (st : List Value) (h : A_H) : R 142 1 ls st h = a_do a_nL R R 142 (s_if1 (fun x => decide (x < 0)) 7 2 ls st h) := a_R_eq ..
theorem r142_2 (ls : A_V) (st : List Value) (h : A_H) : R 142 2 ls st h = a_do a_nL R R 142 (s_ildl 0 3 ls st h) := a_R_eq ..
theorem r142_3 (ls : A_V) (st : List Value) (h : A_H) : R 142 3 ls st h = a_do a_nL R R 142 (s_push (.int 65537) 4 ls st h) := a_R_eq ..
theorem r142_4 (ls : A_V) (st : List Value) (h : A_H) : R 142 4 ls st h = a_do a_nL R R 142 (s_if2 (fun x y => decide (y ≤ x)) 7 5 ls st h) := a_R_eq ..
theorem r142_5 (ls : A_V) (st : List Value) (h : A_H) : R 142 5 ls st h = a_do a_nL R R 142 (s_push (.int 0) 6 ls st h) := a_R_eq ..
theorem r142_6 (ls : A_V) (st : List Value) (h : A_H) : R 142 6 ls st h = a_do a_nL R R 142 (s_goto 8 ls st h) := a_R_eq ..
theorem r142_7 (ls : A_V) (st : List Value) (h : A_H) : R 142 7 ls st h = a_do a_nL R R 142 (s_push (.int 2) 8 ls st h) := a_R_eq ..
theorem r142_8 (ls : A_V) (st : List Value) (h : A_H) : R 142 8 ls st h = a_do a_nL R R 142 (s_iret ls st h) := a_R_eq ..
theorem b142_0 (x0 : Int32) (h : A_H) : R 142 0 [some (.int x0)] [] h = (cond (decide (x0 < 0)) (some (some (some (.int (2 : Int32))), h)) (cond (decide ((65537 : Int32) ≤ x0)) (some (some (some (.int (2 : Int32))), h)) (some (some (some (.int (0 : Int32))), h)))) := (tr (r142_0 ..) (tr (r142_1 ..) (cgB (tr (r142_7 ..) (r142_8 ..)) (tr (r142_2 ..) (tr (r142_3 ..) (tr (r142_4 ..) (cgB (tr (r142_7 ..) (r142_8 ..)) (tr (r142_5 ..) (tr (r142_6 ..) (r142_8 ..))))))))))
theorem e143 (x0 : Nat) (x1 : Int32) (x2 : Int32) (h : A_H) : C 143 [.ref x0, .int x1, .int x2] h = R 143 0 [some (.ref x0), some (.int x1), some (.int x2)] [] h := rfl
theorem r143_0 (ls : A_V) (st : List Value) (h : A_H) : R 143 0 ls st h = a_do a_nL R R 143 (s_aldl 0 1 ls st h) := a_R_eq ..
theorem r143_1 (ls : A_V) (st : List Value) (h : A_H) : R 143 1 ls st h = a_do a_nL R R 143 (s_ildl 1 2 ls st h) := a_R_eq ..
theorem r143_2 (ls : A_V) (st : List Value) (h : A_H) : R 143 2 ls st h = a_do a_nL R R 143 (s_call 14 137 2 2 true 3 ls st h) := a_R_eq ..
theorem r143_3 (ls : A_V) (st : List Value) (h : A_H) : R 143 3 ls st h = a_do a_nL R R 143 (s_ildl 2 4 ls st h) := a_R_eq ..
theorem r143_4 (ls : A_V) (st : List Value) (h : A_H) : R 143 4 ls st h = a_do a_nL R R 143 (s_call 0 141 1 1 true 5 ls st h) := a_R_eq ..
theorem r143_5 (ls : A_V) (st : List Value) (h : A_H) : R 143 5 ls st h = a_do a_nL R R 143 (s_call 0 135 2 2 true 6 ls st h) := a_R_eq ..
theorem r143_6 (ls : A_V) (st : List Value) (h : A_H) : R 143 6 ls st h = a_do a_nL R R 143 (s_iret ls st h) := a_R_eq ..
theorem b143_0 (x0 : Nat) (x1 : Int32) (x2 : Int32) (h : A_H) : R 143 0 [some (.ref x0), some (.int x1), some (.int x2)] [] h = (cond (isO h x0 11) (a_back R 143 (137, [.ref x0, .int x1], h, true, none, 3, [some (.ref x0), some (.int x1), some (.int x2)], []) (C 137 [.ref x0, .int x1] h)) none) := (tr (r143_0 ..) (tr (r143_1 ..) (r143_2 ..)))
theorem b143_3 (x0 : Nat) (x1 : Int32) (x2 : Int32) (s0 : Int32) (h : A_H) : R 143 3 [some (.ref x0), some (.int x1), some (.int x2)] [.int s0] h = (a_back R 143 (141, [.int x2], h, true, none, 5, [some (.ref x0), some (.int x1), some (.int x2)], [.int s0]) (C 141 [.int x2] h)) := (tr (r143_3 ..) (r143_4 ..))
theorem b143_5 (x0 : Nat) (x1 : Int32) (x2 : Int32) (s0 : Int32) (s1 : Int32) (h : A_H) : R 143 5 [some (.ref x0), some (.int x1), some (.int x2)] [.int s1, .int s0] h = (a_back R 143 (135, [.int s0, .int s1], h, true, none, 6, [some (.ref x0), some (.int x1), some (.int x2)], []) (C 135 [.int s0, .int s1] h)) := (r143_5 ..)
theorem b143_6 (x0 : Nat) (x1 : Int32) (x2 : Int32) (s0 : Int32) (h : A_H) : R 143 6 [some (.ref x0), some (.int x1), some (.int x2)] [.int s0] h = (some (some (some (.int s0)), h)) := (r143_6 ..)
theorem e144 (x0 : Nat) (x1 : Int32) (x2 : Int32) (x3 : Int32) (h : A_H) : C 144 [.ref x0, .int x1, .int x2, .int x3] h = R 144 0 [some (.ref x0), some (.int x1), some (.int x2), some (.int x3)] [] h := rfl
theorem r144_0 (ls : A_V) (st : List Value) (h : A_H) : R 144 0 ls st h = a_do a_nL R R 144 (s_aldl 0 1 ls st h) := a_R_eq ..
theorem r144_1 (ls : A_V) (st : List Value) (h : A_H) : R 144 1 ls st h = a_do a_nL R R 144 (s_ildl 1 2 ls st h) := a_R_eq ..
theorem r144_2 (ls : A_V) (st : List Value) (h : A_H) : R 144 2 ls st h = a_do a_nL R R 144 (s_call 14 138 2 2 true 3 ls st h) := a_R_eq ..
theorem r144_3 (ls : A_V) (st : List Value) (h : A_H) : R 144 3 ls st h = a_do a_nL R R 144 (s_aldl 0 4 ls st h) := a_R_eq ..
theorem r144_4 (ls : A_V) (st : List Value) (h : A_H) : R 144 4 ls st h = a_do a_nL R R 144 (s_ildl 2 5 ls st h) := a_R_eq ..
theorem r144_5 (ls : A_V) (st : List Value) (h : A_H) : R 144 5 ls st h = a_do a_nL R R 144 (s_call 14 139 2 2 true 6 ls st h) := a_R_eq ..
theorem r144_6 (ls : A_V) (st : List Value) (h : A_H) : R 144 6 ls st h = a_do a_nL R R 144 (s_call 0 135 2 2 true 7 ls st h) := a_R_eq ..
theorem r144_7 (ls : A_V) (st : List Value) (h : A_H) : R 144 7 ls st h = a_do a_nL R R 144 (s_ildl 3 8 ls st h) := a_R_eq ..
theorem r144_8 (ls : A_V) (st : List Value) (h : A_H) : R 144 8 ls st h = a_do a_nL R R 144 (s_call 0 141 1 1 true 9 ls st h) := a_R_eq ..
theorem r144_9 (ls : A_V) (st : List Value) (h : A_H) : R 144 9 ls st h = a_do a_nL R R 144 (s_call 0 135 2 2 true 10 ls st h) := a_R_eq ..
theorem r144_10 (ls : A_V) (st : List Value) (h : A_H) : R 144 10 ls st h = a_do a_nL R R 144 (s_iret ls st h) := a_R_eq ..
theorem b144_0 (x0 : Nat) (x1 : Int32) (x2 : Int32) (x3 : Int32) (h : A_H) : R 144 0 [some (.ref x0), some (.int x1), some (.int x2), some (.int x3)] [] h = (cond (isO h x0 11) (a_back R 144 (138, [.ref x0, .int x1], h, true, none, 3, [some (.ref x0), some (.int x1), some (.int x2), some (.int x3)], []) (C 138 [.ref x0, .int x1] h)) none) := (tr (r144_0 ..) (tr (r144_1 ..) (r144_2 ..)))
theorem b144_3 (x0 : Nat) (x1 : Int32) (x2 : Int32) (x3 : Int32) (s0 : Int32) (h : A_H) : R 144 3 [some (.ref x0), some (.int x1), some (.int x2), some (.int x3)] [.int s0] h = (cond (isO h x0 11) (a_back R 144 (139, [.ref x0, .int x2], h, true, none, 6, [some (.ref x0), some (.int x1), some (.int x2), some (.int x3)], [.int s0]) (C 139 [.ref x0, .int x2] h)) none) := (tr (r144_3 ..) (tr (r144_4 ..) (r144_5 ..)))
theorem b144_6 (x0 : Nat) (x1 : Int32) (x2 : Int32) (x3 : Int32) (s0 : Int32) (s1 : Int32) (h : A_H) : R 144 6 [some (.ref x0), some (.int x1), some (.int x2), some (.int x3)] [.int s1, .int s0] h = (a_back R 144 (135, [.int s0, .int s1], h, true, none, 7, [some (.ref x0), some (.int x1), some (.int x2), some (.int x3)], []) (C 135 [.int s0, .int s1] h)) := (r144_6 ..)
theorem b144_7 (x0 : Nat) (x1 : Int32) (x2 : Int32) (x3 : Int32) (s0 : Int32) (h : A_H) : R 144 7 [some (.ref x0), some (.int x1), some (.int x2), some (.int x3)] [.int s0] h = (a_back R 144 (141, [.int x3], h, true, none, 9, [some (.ref x0), some (.int x1), some (.int x2), some (.int x3)], [.int s0]) (C 141 [.int x3] h)) := (tr (r144_7 ..) (r144_8 ..))
theorem b144_9 (x0 : Nat) (x1 : Int32) (x2 : Int32) (x3 : Int32) (s0 : Int32) (s1 : Int32) (h : A_H) : R 144 9 [some (.ref x0), some (.int x1), some (.int x2), some (.int x3)] [.int s1, .int s0] h = (a_back R 144 (135, [.int s0, .int s1], h, true, none, 10, [some (.ref x0), some (.int x1), some (.int x2), some (.int x3)], []) (C 135 [.int s0, .int s1] h)) := (r144_9 ..)
theorem b144_10 (x0 : Nat) (x1 : Int32) (x2 : Int32) (x3 : Int32) (s0 : Int32) (h : A_H) : R 144 10 [some (.ref x0), some (.int x1), some (.int x2), some (.int x3)] [.int s0] h = (some (some (some (.int s0)), h)) := (r144_10 ..)
theorem e145 (x0 : Nat) (x1 : Int32) (h : A_H) : C 145 [.ref x0, .int x1] h = R 145 0 [some (.ref x0), some (.int x1)] [] h := rfl
theorem r145_0 (ls : A_V) (st : List Value) (h : A_H) : R 145 0 ls st h = a_do a_nL R R 145 (s_aldl 0 1 ls st h) := a_R_eq ..
theorem r145_1 (ls : A_V) (st : List Value) (h : A_H) : R 145 1 ls st h = a_do a_nL R R 145 (s_getR 11 5 2 ls st h) := a_R_eq ..
theorem r145_2 (ls : A_V) (st : List Value) (h : A_H) : R 145 2 ls st h = a_do a_nL R R 145 (s_call 11 51 1 1 true 3 ls st h) := a_R_eq ..
theorem r145_3 (ls : A_V) (st : List Value) (h : A_H) : R 145 3 ls st h = a_do a_nL R R 145 (s_ildl 1 4 ls st h) := a_R_eq ..
theorem r145_4 (ls : A_V) (st : List Value) (h : A_H) : R 145 4 ls st h = a_do a_nL R R 145 (s_push (.int 31) 5 ls st h) := a_R_eq ..
theorem r145_5 (ls : A_V) (st : List Value) (h : A_H) : R 145 5 ls st h = a_do a_nL R R 145 (s_bi (fun x y => x &&& y) 6 ls st h) := a_R_eq ..
theorem r145_6 (ls : A_V) (st : List Value) (h : A_H) : R 145 6 ls st h = a_do a_nL R R 145 (s_bi (fun x y => x >>> (y &&& 31)) 7 ls st h) := a_R_eq ..
theorem r145_7 (ls : A_V) (st : List Value) (h : A_H) : R 145 7 ls st h = a_do a_nL R R 145 (s_push (.int 1) 8 ls st h) := a_R_eq ..
theorem r145_8 (ls : A_V) (st : List Value) (h : A_H) : R 145 8 ls st h = a_do a_nL R R 145 (s_bi (fun x y => x &&& y) 9 ls st h) := a_R_eq ..
theorem r145_9 (ls : A_V) (st : List Value) (h : A_H) : R 145 9 ls st h = a_do a_nL R R 145 (s_if1 (fun x => !decide (x = 0)) 12 10 ls st h) := a_R_eq ..
theorem r145_10 (ls : A_V) (st : List Value) (h : A_H) : R 145 10 ls st h = a_do a_nL R R 145 (s_push (.int 0) 11 ls st h) := a_R_eq ..
theorem r145_11 (ls : A_V) (st : List Value) (h : A_H) : R 145 11 ls st h = a_do a_nL R R 145 (s_goto 13 ls st h) := a_R_eq ..
theorem r145_12 (ls : A_V) (st : List Value) (h : A_H) : R 145 12 ls st h = a_do a_nL R R 145 (s_push (.int 5) 13 ls st h) := a_R_eq ..
theorem r145_13 (ls : A_V) (st : List Value) (h : A_H) : R 145 13 ls st h = a_do a_nL R R 145 (s_iret ls st h) := a_R_eq ..
theorem b145_0 (x0 : Nat) (x1 : Int32) (h : A_H) : R 145 0 [some (.ref x0), some (.int x1)] [] h = (cond (isO h x0 11 && (hP h x0 5).isSome) (cond (isO h ((hP h x0 5).getD 0) 8) (a_back R 145 (51, [.ref ((hP h x0 5).getD 0)], h, true, none, 3, [some (.ref x0), some (.int x1)], []) (C 51 [.ref ((hP h x0 5).getD 0)] h)) none) none) := (tr (r145_0 ..) (tr (r145_1 ..) (cgT (r145_2 ..))))
theorem b145_3 (x0 : Nat) (x1 : Int32) (s0 : Int32) (h : A_H) : R 145 3 [some (.ref x0), some (.int x1)] [.int s0] h = (cond (!decide (((s0 >>> ((x1 &&& (31 : Int32)) &&& 31)) &&& (1 : Int32)) = 0)) (some (some (some (.int (5 : Int32))), h)) (some (some (some (.int (0 : Int32))), h))) := (tr (r145_3 ..) (tr (r145_4 ..) (tr (r145_5 ..) (tr (r145_6 ..) (tr (r145_7 ..) (tr (r145_8 ..) (tr (r145_9 ..) (cgB (tr (r145_12 ..) (r145_13 ..)) (tr (r145_10 ..) (tr (r145_11 ..) (r145_13 ..)))))))))))
theorem e146 (x0 : Nat) (x1 : Int32) (h : A_H) : C 146 [.ref x0, .int x1] h = R 146 0 [some (.ref x0), some (.int x1)] [] h := rfl
theorem r146_0 (ls : A_V) (st : List Value) (h : A_H) : R 146 0 ls st h = a_do a_nL R R 146 (s_aldl 0 1 ls st h) := a_R_eq ..
theorem r146_1 (ls : A_V) (st : List Value) (h : A_H) : R 146 1 ls st h = a_do a_nL R R 146 (s_getR 11 3 2 ls st h) := a_R_eq ..
theorem r146_2 (ls : A_V) (st : List Value) (h : A_H) : R 146 2 ls st h = a_do a_nL R R 146 (s_getR 9 10 3 ls st h) := a_R_eq ..
theorem r146_3 (ls : A_V) (st : List Value) (h : A_H) : R 146 3 ls st h = a_do a_nL R R 146 (s_ildl 1 4 ls st h) := a_R_eq ..
theorem r146_4 (ls : A_V) (st : List Value) (h : A_H) : R 146 4 ls st h = a_do a_nL R R 146 (s_aal 4 5 ls st h) := a_R_eq ..
theorem r146_5 (ls : A_V) (st : List Value) (h : A_H) : R 146 5 ls st h = a_do a_nL R R 146 (s_getI 10 2 6 ls st h) := a_R_eq ..
theorem r146_6 (ls : A_V) (st : List Value) (h : A_H) : R 146 6 ls st h = a_do a_nL R R 146 (s_aldl 0 7 ls st h) := a_R_eq ..
theorem r146_7 (ls : A_V) (st : List Value) (h : A_H) : R 146 7 ls st h = a_do a_nL R R 146 (s_getR 11 5 8 ls st h) := a_R_eq ..
theorem r146_8 (ls : A_V) (st : List Value) (h : A_H) : R 146 8 ls st h = a_do a_nL R R 146 (s_call 11 51 1 1 true 9 ls st h) := a_R_eq ..
theorem r146_9 (ls : A_V) (st : List Value) (h : A_H) : R 146 9 ls st h = a_do a_nL R R 146 (s_push (.int (-1)) 10 ls st h) := a_R_eq ..
theorem r146_10 (ls : A_V) (st : List Value) (h : A_H) : R 146 10 ls st h = a_do a_nL R R 146 (s_bi (fun x y => x ^^^ y) 11 ls st h) := a_R_eq ..
theorem r146_11 (ls : A_V) (st : List Value) (h : A_H) : R 146 11 ls st h = a_do a_nL R R 146 (s_bi (fun x y => x &&& y) 12 ls st h) := a_R_eq ..
theorem r146_12 (ls : A_V) (st : List Value) (h : A_H) : R 146 12 ls st h = a_do a_nL R R 146 (s_iret ls st h) := a_R_eq ..
theorem b146_0 (x0 : Nat) (x1 : Int32) (h : A_H) : R 146 0 [some (.ref x0), some (.int x1)] [] h = (cond (isO h x0 11 && (hP h x0 3).isSome) (cond (isO h ((hP h x0 3).getD 0) 9 && (hP h ((hP h x0 3).getD 0) 10).isSome) (cond (isA h ((hP h ((hP h x0 3).getD 0) 10).getD 0) 4 x1 && (hP h ((hP h ((hP h x0 3).getD 0) 10).getD 0) (x1).toNatClampNeg).isSome) (cond (isO h ((hP h ((hP h ((hP h x0 3).getD 0) 10).getD 0) (x1).toNatClampNeg).getD 0) 10) (cond (isO h x0 11 && (hP h x0 5).isSome) (cond (isO h ((hP h x0 5).getD 0) 8) (a_back R 146 (51, [.ref ((hP h x0 5).getD 0)], h, true, none, 9, [some (.ref x0), some (.int x1)], [.int (hI h ((hP h ((hP h ((hP h x0 3).getD 0) 10).getD 0) (x1).toNatClampNeg).getD 0) 2)]) (C 51 [.ref ((hP h x0 5).getD 0)] h)) none) none) none) none) none) none) := (tr (r146_0 ..) (tr (r146_1 ..) (cgT (tr (r146_2 ..) (cgT (tr (r146_3 ..) (tr (r146_4 ..) (cgT (tr (r146_5 ..) (cgT (tr (r146_6 ..) (tr (r146_7 ..) (cgT (r146_8 ..))))))))))))))
theorem b146_9 (x0 : Nat) (x1 : Int32) (s0 : Int32) (s1 : Int32) (h : A_H) : R 146 9 [some (.ref x0), some (.int x1)] [.int s1, .int s0] h = (some (some (some (.int (s0 &&& (s1 ^^^ (-1 : Int32))))), h)) := (tr (r146_9 ..) (tr (r146_10 ..) (tr (r146_11 ..) (r146_12 ..))))
theorem e147 (x0 : Nat) (x1 : Int32) (h : A_H) : C 147 [.ref x0, .int x1] h = R 147 0 [some (.ref x0), some (.int x1), none] [] h := rfl
theorem r147_0 (ls : A_V) (st : List Value) (h : A_H) : R 147 0 ls st h = a_do a_nL R R 147 (s_aldl 0 1 ls st h) := a_R_eq ..
theorem r147_1 (ls : A_V) (st : List Value) (h : A_H) : R 147 1 ls st h = a_do a_nL R R 147 (s_getR 11 3 2 ls st h) := a_R_eq ..
theorem r147_2 (ls : A_V) (st : List Value) (h : A_H) : R 147 2 ls st h = a_do a_nL R R 147 (s_getR 9 10 3 ls st h) := a_R_eq ..
theorem r147_3 (ls : A_V) (st : List Value) (h : A_H) : R 147 3 ls st h = a_do a_nL R R 147 (s_ildl 1 4 ls st h) := a_R_eq ..
theorem r147_4 (ls : A_V) (st : List Value) (h : A_H) : R 147 4 ls st h = a_do a_nL R R 147 (s_aal 4 5 ls st h) := a_R_eq ..
theorem r147_5 (ls : A_V) (st : List Value) (h : A_H) : R 147 5 ls st h = a_do a_nL R R 147 (s_ast 2 6 ls st h) := a_R_eq ..
theorem r147_6 (ls : A_V) (st : List Value) (h : A_H) : R 147 6 ls st h = a_do a_nL R R 147 (s_aldl 2 7 ls st h) := a_R_eq ..
theorem r147_7 (ls : A_V) (st : List Value) (h : A_H) : R 147 7 ls st h = a_do a_nL R R 147 (s_getI 10 1 8 ls st h) := a_R_eq ..
theorem r147_8 (ls : A_V) (st : List Value) (h : A_H) : R 147 8 ls st h = a_do a_nL R R 147 (s_aldl 2 9 ls st h) := a_R_eq ..
theorem r147_9 (ls : A_V) (st : List Value) (h : A_H) : R 147 9 ls st h = a_do a_nL R R 147 (s_getI 10 2 10 ls st h) := a_R_eq ..
theorem r147_10 (ls : A_V) (st : List Value) (h : A_H) : R 147 10 ls st h = a_do a_nL R R 147 (s_aldl 0 11 ls st h) := a_R_eq ..
theorem r147_11 (ls : A_V) (st : List Value) (h : A_H) : R 147 11 ls st h = a_do a_nL R R 147 (s_getR 11 5 12 ls st h) := a_R_eq ..
theorem r147_12 (ls : A_V) (st : List Value) (h : A_H) : R 147 12 ls st h = a_do a_nL R R 147 (s_getI 8 1 13 ls st h) := a_R_eq ..
theorem r147_13 (ls : A_V) (st : List Value) (h : A_H) : R 147 13 ls st h = a_do a_nL R R 147 (s_bi (fun x y => x &&& y) 14 ls st h) := a_R_eq ..
theorem r147_14 (ls : A_V) (st : List Value) (h : A_H) : R 147 14 ls st h = a_do a_nL R R 147 (s_call 0 278 1 1 true 15 ls st h) := a_R_eq ..
theorem r147_15 (ls : A_V) (st : List Value) (h : A_H) : R 147 15 ls st h = a_do a_nL R R 147 (s_bi (fun x y => x - y) 16 ls st h) := a_R_eq ..
theorem r147_16 (ls : A_V) (st : List Value) (h : A_H) : R 147 16 ls st h = a_do a_nL R R 147 (s_iret ls st h) := a_R_eq ..
theorem b147_0 (x0 : Nat) (x1 : Int32) (l2 : Option Value) (h : A_H) : R 147 0 [some (.ref x0), some (.int x1), l2] [] h = (cond (isO h x0 11 && (hP h x0 3).isSome) (cond (isO h ((hP h x0 3).getD 0) 9 && (hP h ((hP h x0 3).getD 0) 10).isSome) (cond (isA h ((hP h ((hP h x0 3).getD 0) 10).getD 0) 4 x1 && (hP h ((hP h ((hP h x0 3).getD 0) 10).getD 0) (x1).toNatClampNeg).isSome) (cond (isO h ((hP h ((hP h ((hP h x0 3).getD 0) 10).getD 0) (x1).toNatClampNeg).getD 0) 10) (cond (isO h ((hP h ((hP h ((hP h x0 3).getD 0) 10).getD 0) (x1).toNatClampNeg).getD 0) 10) (cond (isO h x0 11 && (hP h x0 5).isSome) (cond (isO h ((hP h x0 5).getD 0) 8) (a_back R 147 (278, [.int ((hI h ((hP h ((hP h ((hP h x0 3).getD 0) 10).getD 0) (x1).toNatClampNeg).getD 0) 2) &&& (hI h ((hP h x0 5).getD 0) 1))], h, true, none, 15, [some (.ref x0), some (.int x1), some (.ref ((hP h ((hP h ((hP h x0 3).getD 0) 10).getD 0) (x1).toNatClampNeg).getD 0))], [.int (hI h ((hP h ((hP h ((hP h x0 3).getD 0) 10).getD 0) (x1).toNatClampNeg).getD 0) 1)]) (C 278 [.int ((hI h ((hP h ((hP h ((hP h x0 3).getD 0) 10).getD 0) (x1).toNatClampNeg).getD 0) 2) &&& (hI h ((hP h x0 5).getD 0) 1))] h)) none) none) none) none) none) none) none) := (tr (r147_0 ..) (tr (r147_1 ..) (cgT (tr (r147_2 ..) (cgT (tr (r147_3 ..) (tr (r147_4 ..) (cgT (tr (r147_5 ..) (tr (r147_6 ..) (tr (r147_7 ..) (cgT (tr (r147_8 ..) (tr (r147_9 ..) (cgT (tr (r147_10 ..) (tr (r147_11 ..) (cgT (tr (r147_12 ..) (cgT (tr (r147_13 ..) (r147_14 ..))))))))))))))))))))))
theorem b147_15 (x0 : Nat) (x1 : Int32) (x2 : Nat) (s0 : Int32) (s1 : Int32) (h : A_H) : R 147 15 [some (.ref x0), some (.int x1), some (.ref x2)] [.int s1, .int s0] h = (some (some (some (.int (s0 - s1))), h)) := (tr (r147_15 ..) (r147_16 ..))
theorem e148 (x0 : Nat) (x1 : Int32) (x2 : Int32) (x3 : Int32) (x4 : Int32) (h : A_H) : C 148 [.ref x0, .int x1, .int x2, .int x3, .int x4] h = R 148 0 [some (.ref x0), some (.int x1), some (.int x2), some (.int x3), some (.int x4)] [] h := rfl
theorem r148_0 (ls : A_V) (st : List Value) (h : A_H) : R 148 0 ls st h = a_do a_nL R R 148 (s_aldl 0 1 ls st h) := a_R_eq ..
theorem r148_1 (ls : A_V) (st : List Value) (h : A_H) : R 148 1 ls st h = a_do a_nL R R 148 (s_getR 11 3 2 ls st h) := a_R_eq ..
theorem r148_2 (ls : A_V) (st : List Value) (h : A_H) : R 148 2 ls st h = a_do a_nL R R 148 (s_ildl 1 3 ls st h) := a_R_eq ..
theorem r148_3 (ls : A_V) (st : List Value) (h : A_H) : R 148 3 ls st h = a_do a_nL R R 148 (s_ildl 2 4 ls st h) := a_R_eq ..
theorem r148_4 (ls : A_V) (st : List Value) (h : A_H) : R 148 4 ls st h = a_do a_nL R R 148 (s_aldl 0 5 ls st h) := a_R_eq ..
theorem r148_5 (ls : A_V) (st : List Value) (h : A_H) : R 148 5 ls st h = a_do a_nL R R 148 (s_getR 11 5 6 ls st h) := a_R_eq ..
theorem r148_6 (ls : A_V) (st : List Value) (h : A_H) : R 148 6 ls st h = a_do a_nL R R 148 (s_getI 8 0 7 ls st h) := a_R_eq ..
theorem r148_7 (ls : A_V) (st : List Value) (h : A_H) : R 148 7 ls st h = a_do a_nL R R 148 (s_ildl 3 8 ls st h) := a_R_eq ..
theorem r148_8 (ls : A_V) (st : List Value) (h : A_H) : R 148 8 ls st h = a_do a_nL R R 148 (s_bi (fun x y => x + y) 9 ls st h) := a_R_eq ..
theorem r148_9 (ls : A_V) (st : List Value) (h : A_H) : R 148 9 ls st h = a_do a_nL R R 148 (s_aldl 0 10 ls st h) := a_R_eq ..
theorem r148_10 (ls : A_V) (st : List Value) (h : A_H) : R 148 10 ls st h = a_do a_nL R R 148 (s_ildl 1 11 ls st h) := a_R_eq ..
theorem r148_11 (ls : A_V) (st : List Value) (h : A_H) : R 148 11 ls st h = a_do a_nL R R 148 (s_call 14 146 2 2 true 12 ls st h) := a_R_eq ..
theorem r148_12 (ls : A_V) (st : List Value) (h : A_H) : R 148 12 ls st h = a_do a_nL R R 148 (s_aldl 0 13 ls st h) := a_R_eq ..
theorem r148_13 (ls : A_V) (st : List Value) (h : A_H) : R 148 13 ls st h = a_do a_nL R R 148 (s_getR 11 5 14 ls st h) := a_R_eq ..
theorem r148_14 (ls : A_V) (st : List Value) (h : A_H) : R 148 14 ls st h = a_do a_nL R R 148 (s_getI 8 4 15 ls st h) := a_R_eq ..
theorem r148_15 (ls : A_V) (st : List Value) (h : A_H) : R 148 15 ls st h = a_do a_nL R R 148 (s_ildl 4 16 ls st h) := a_R_eq ..
theorem r148_16 (ls : A_V) (st : List Value) (h : A_H) : R 148 16 ls st h = a_do a_nL R R 148 (s_call 12 71 7 8 true 17 ls st h) := a_R_eq ..
theorem r148_17 (ls : A_V) (st : List Value) (h : A_H) : R 148 17 ls st h = a_do a_nL R R 148 (s_iret ls st h) := a_R_eq ..
theorem b148_0 (x0 : Nat) (x1 : Int32) (x2 : Int32) (x3 : Int32) (x4 : Int32) (h : A_H) : R 148 0 [some (.ref x0), some (.int x1), some (.int x2), some (.int x3), some (.int x4)] [] h = (cond (isO h x0 11 && (hP h x0 3).isSome) (cond (isO h x0 11 && (hP h x0 5).isSome) (cond (isO h ((hP h x0 5).getD 0) 8) (cond (isO h x0 11) (a_back R 148 (146, [.ref x0, .int x1], h, true, none, 12, [some (.ref x0), some (.int x1), some (.int x2), some (.int x3), some (.int x4)], [.int ((hI h ((hP h x0 5).getD 0) 0) + x3), .int x2, .int x1, .ref ((hP h x0 3).getD 0)]) (C 146 [.ref x0, .int x1] h)) none) none) none) none) := (tr (r148_0 ..) (tr (r148_1 ..) (cgT (tr (r148_2 ..) (tr (r148_3 ..) (tr (r148_4 ..) (tr (r148_5 ..) (cgT (tr (r148_6 ..) (cgT (tr (r148_7 ..) (tr (r148_8 ..) (tr (r148_9 ..) (tr (r148_10 ..) (r148_11 ..)))))))))))))))
theorem b148_12 (x0 : Nat) (x1 : Int32) (x2 : Int32) (x3 : Int32) (x4 : Int32) (s0 : Nat) (s1 : Int32) (s2 : Int32) (s3 : Int32) (s4 : Int32) (h : A_H) : R 148 12 [some (.ref x0), some (.int x1), some (.int x2), some (.int x3), some (.int x4)] [.int s4, .int s3, .int s2, .int s1, .ref s0] h = (cond (isO h x0 11 && (hP h x0 5).isSome) (cond (isO h ((hP h x0 5).getD 0) 8) (cond (isO h s0 9) (a_back R 148 (71, [.ref s0, .int s1, .int s2, .int s3, .int s4, .int (hI h ((hP h x0 5).getD 0) 4), .int x4], h, true, none, 17, [some (.ref x0), some (.int x1), some (.int x2), some (.int x3), some (.int x4)], []) (C 71 [.ref s0, .int s1, .int s2, .int s3, .int s4, .int (hI h ((hP h x0 5).getD 0) 4), .int x4] h)) none) none) none) := (tr (r148_12 ..) (tr (r148_13 ..) (cgT (tr (r148_14 ..) (cgT (tr (r148_15 ..) (r148_16 ..)))))))
theorem b148_17 (x0 : Nat) (x1 : Int32) (x2 : Int32) (x3 : Int32) (x4 : Int32) (s0 : Int32) (h : A_H) : R 148 17 [some (.ref x0), some (.int x1), some (.int x2), some (.int x3), some (.int x4)] [.int s0] h = (some (some (some (.int s0)), h)) := (r148_17 ..)
