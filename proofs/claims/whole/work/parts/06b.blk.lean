theorem e21 (x0 : Nat) (x1 : Nat) (h : A_H) : C 21 [.ref x0, .ref x1] h = R 21 0 [some (.ref x0), some (.ref x1)] [] h := rfl
theorem r21_0 (ls : A_V) (st : List Value) (h : A_H) : R 21 0 ls st h = a_do a_nL R R 21 (s_aldl 0 1 ls st h) := a_R_eq ..
theorem r21_1 (ls : A_V) (st : List Value) (h : A_H) : R 21 1 ls st h = a_do a_nL R R 21 (s_oi 2 ls st h) := a_R_eq ..
theorem r21_2 (ls : A_V) (st : List Value) (h : A_H) : R 21 2 ls st h = a_do a_nL R R 21 (s_aldl 0 3 ls st h) := a_R_eq ..
theorem r21_3 (ls : A_V) (st : List Value) (h : A_H) : R 21 3 ls st h = a_do a_nL R R 21 (s_new 9 15 4 ls st h) := a_R_eq ..
theorem r21_4 (ls : A_V) (st : List Value) (h : A_H) : R 21 4 ls st h = a_do a_nL R R 21 (s_dup 5 ls st h) := a_R_eq ..
theorem r21_5 (ls : A_V) (st : List Value) (h : A_H) : R 21 5 ls st h = a_do a_nL R R 21 (s_call 1 55 1 2 false 6 ls st h) := a_R_eq ..
theorem r21_6 (ls : A_V) (st : List Value) (h : A_H) : R 21 6 ls st h = a_do a_nL R R 21 (s_putR 7 2 7 ls st h) := a_R_eq ..
theorem r21_7 (ls : A_V) (st : List Value) (h : A_H) : R 21 7 ls st h = a_do a_nL R R 21 (s_aldl 0 8 ls st h) := a_R_eq ..
theorem r21_8 (ls : A_V) (st : List Value) (h : A_H) : R 21 8 ls st h = a_do a_nL R R 21 (s_push (.int 19) 9 ls st h) := a_R_eq ..
theorem r21_9 (ls : A_V) (st : List Value) (h : A_H) : R 21 9 ls st h = a_do a_nL R R 21 (s_nar 2 10 ls st h) := a_R_eq ..
theorem r21_10 (ls : A_V) (st : List Value) (h : A_H) : R 21 10 ls st h = a_do a_nL R R 21 (s_putR 7 12 11 ls st h) := a_R_eq ..
theorem r21_11 (ls : A_V) (st : List Value) (h : A_H) : R 21 11 ls st h = a_do a_nL R R 21 (s_aldl 0 12 ls st h) := a_R_eq ..
theorem r21_12 (ls : A_V) (st : List Value) (h : A_H) : R 21 12 ls st h = a_do a_nL R R 21 (s_push (.int 19) 13 ls st h) := a_R_eq ..
theorem r21_13 (ls : A_V) (st : List Value) (h : A_H) : R 21 13 ls st h = a_do a_nL R R 21 (s_nar 0 14 ls st h) := a_R_eq ..
theorem r21_14 (ls : A_V) (st : List Value) (h : A_H) : R 21 14 ls st h = a_do a_nL R R 21 (s_putR 7 13 15 ls st h) := a_R_eq ..
theorem r21_15 (ls : A_V) (st : List Value) (h : A_H) : R 21 15 ls st h = a_do a_nL R R 21 (s_aldl 0 16 ls st h) := a_R_eq ..
theorem r21_16 (ls : A_V) (st : List Value) (h : A_H) : R 21 16 ls st h = a_do a_nL R R 21 (s_push (.int 19) 17 ls st h) := a_R_eq ..
theorem r21_17 (ls : A_V) (st : List Value) (h : A_H) : R 21 17 ls st h = a_do a_nL R R 21 (s_nar 0 18 ls st h) := a_R_eq ..
theorem r21_18 (ls : A_V) (st : List Value) (h : A_H) : R 21 18 ls st h = a_do a_nL R R 21 (s_putR 7 14 19 ls st h) := a_R_eq ..
theorem r21_19 (ls : A_V) (st : List Value) (h : A_H) : R 21 19 ls st h = a_do a_nL R R 21 (s_aldl 0 20 ls st h) := a_R_eq ..
theorem r21_20 (ls : A_V) (st : List Value) (h : A_H) : R 21 20 ls st h = a_do a_nL R R 21 (s_aldl 1 21 ls st h) := a_R_eq ..
theorem r21_21 (ls : A_V) (st : List Value) (h : A_H) : R 21 21 ls st h = a_do a_nL R R 21 (s_putR 7 0 22 ls st h) := a_R_eq ..
theorem r21_22 (ls : A_V) (st : List Value) (h : A_H) : R 21 22 ls st h = a_do a_nL R R 21 (s_aldl 0 23 ls st h) := a_R_eq ..
theorem r21_23 (ls : A_V) (st : List Value) (h : A_H) : R 21 23 ls st h = a_do a_nL R R 21 (s_push (.int 11) 24 ls st h) := a_R_eq ..
theorem r21_24 (ls : A_V) (st : List Value) (h : A_H) : R 21 24 ls st h = a_do a_nL R R 21 (s_nar 2 25 ls st h) := a_R_eq ..
theorem r21_25 (ls : A_V) (st : List Value) (h : A_H) : R 21 25 ls st h = a_do a_nL R R 21 (s_dup 26 ls st h) := a_R_eq ..
theorem r21_26 (ls : A_V) (st : List Value) (h : A_H) : R 21 26 ls st h = a_do a_nL R R 21 (s_push (.int 0) 27 ls st h) := a_R_eq ..
theorem r21_27 (ls : A_V) (st : List Value) (h : A_H) : R 21 27 ls st h = a_do a_nL R R 21 (s_push (.float 1) 28 ls st h) := a_R_eq ..
theorem r21_28 (ls : A_V) (st : List Value) (h : A_H) : R 21 28 ls st h = a_do a_nL R R 21 (s_call 0 284 1 4 true 29 ls st h) := a_R_eq ..
theorem r21_29 (ls : A_V) (st : List Value) (h : A_H) : R 21 29 ls st h = a_do a_nL R R 21 (s_las 30 ls st h) := a_R_eq ..
theorem r21_30 (ls : A_V) (st : List Value) (h : A_H) : R 21 30 ls st h = a_do a_nL R R 21 (s_dup 31 ls st h) := a_R_eq ..
theorem r21_31 (ls : A_V) (st : List Value) (h : A_H) : R 21 31 ls st h = a_do a_nL R R 21 (s_push (.int 1) 32 ls st h) := a_R_eq ..
theorem r21_32 (ls : A_V) (st : List Value) (h : A_H) : R 21 32 ls st h = a_do a_nL R R 21 (s_push (.float 2) 33 ls st h) := a_R_eq ..
theorem r21_33 (ls : A_V) (st : List Value) (h : A_H) : R 21 33 ls st h = a_do a_nL R R 21 (s_call 0 284 1 4 true 34 ls st h) := a_R_eq ..
theorem r21_34 (ls : A_V) (st : List Value) (h : A_H) : R 21 34 ls st h = a_do a_nL R R 21 (s_las 35 ls st h) := a_R_eq ..
theorem r21_35 (ls : A_V) (st : List Value) (h : A_H) : R 21 35 ls st h = a_do a_nL R R 21 (s_dup 36 ls st h) := a_R_eq ..
theorem r21_36 (ls : A_V) (st : List Value) (h : A_H) : R 21 36 ls st h = a_do a_nL R R 21 (s_push (.int 2) 37 ls st h) := a_R_eq ..
theorem r21_37 (ls : A_V) (st : List Value) (h : A_H) : R 21 37 ls st h = a_do a_nL R R 21 (s_push (.float 3) 38 ls st h) := a_R_eq ..
theorem r21_38 (ls : A_V) (st : List Value) (h : A_H) : R 21 38 ls st h = a_do a_nL R R 21 (s_call 0 284 1 4 true 39 ls st h) := a_R_eq ..
theorem r21_39 (ls : A_V) (st : List Value) (h : A_H) : R 21 39 ls st h = a_do a_nL R R 21 (s_las 40 ls st h) := a_R_eq ..
theorem r21_40 (ls : A_V) (st : List Value) (h : A_H) : R 21 40 ls st h = a_do a_nL R R 21 (s_dup 41 ls st h) := a_R_eq ..
theorem r21_41 (ls : A_V) (st : List Value) (h : A_H) : R 21 41 ls st h = a_do a_nL R R 21 (s_push (.int 3) 42 ls st h) := a_R_eq ..
theorem r21_42 (ls : A_V) (st : List Value) (h : A_H) : R 21 42 ls st h = a_do a_nL R R 21 (s_push (.float 4) 43 ls st h) := a_R_eq ..
theorem r21_43 (ls : A_V) (st : List Value) (h : A_H) : R 21 43 ls st h = a_do a_nL R R 21 (s_call 0 284 1 4 true 44 ls st h) := a_R_eq ..
theorem r21_44 (ls : A_V) (st : List Value) (h : A_H) : R 21 44 ls st h = a_do a_nL R R 21 (s_las 45 ls st h) := a_R_eq ..
theorem r21_45 (ls : A_V) (st : List Value) (h : A_H) : R 21 45 ls st h = a_do a_nL R R 21 (s_dup 46 ls st h) := a_R_eq ..
theorem r21_46 (ls : A_V) (st : List Value) (h : A_H) : R 21 46 ls st h = a_do a_nL R R 21 (s_push (.int 4) 47 ls st h) := a_R_eq ..
theorem r21_47 (ls : A_V) (st : List Value) (h : A_H) : R 21 47 ls st h = a_do a_nL R R 21 (s_push (.float 5) 48 ls st h) := a_R_eq ..
theorem r21_48 (ls : A_V) (st : List Value) (h : A_H) : R 21 48 ls st h = a_do a_nL R R 21 (s_call 0 284 1 4 true 49 ls st h) := a_R_eq ..
theorem r21_49 (ls : A_V) (st : List Value) (h : A_H) : R 21 49 ls st h = a_do a_nL R R 21 (s_las 50 ls st h) := a_R_eq ..
theorem r21_50 (ls : A_V) (st : List Value) (h : A_H) : R 21 50 ls st h = a_do a_nL R R 21 (s_dup 51 ls st h) := a_R_eq ..
theorem r21_51 (ls : A_V) (st : List Value) (h : A_H) : R 21 51 ls st h = a_do a_nL R R 21 (s_push (.int 5) 52 ls st h) := a_R_eq ..
theorem r21_52 (ls : A_V) (st : List Value) (h : A_H) : R 21 52 ls st h = a_do a_nL R R 21 (s_push (.float 6) 53 ls st h) := a_R_eq ..
theorem r21_53 (ls : A_V) (st : List Value) (h : A_H) : R 21 53 ls st h = a_do a_nL R R 21 (s_call 0 284 1 4 true 54 ls st h) := a_R_eq ..
theorem r21_54 (ls : A_V) (st : List Value) (h : A_H) : R 21 54 ls st h = a_do a_nL R R 21 (s_las 55 ls st h) := a_R_eq ..
theorem r21_55 (ls : A_V) (st : List Value) (h : A_H) : R 21 55 ls st h = a_do a_nL R R 21 (s_dup 56 ls st h) := a_R_eq ..
theorem r21_56 (ls : A_V) (st : List Value) (h : A_H) : R 21 56 ls st h = a_do a_nL R R 21 (s_push (.int 6) 57 ls st h) := a_R_eq ..
theorem r21_57 (ls : A_V) (st : List Value) (h : A_H) : R 21 57 ls st h = a_do a_nL R R 21 (s_push (.float 7) 58 ls st h) := a_R_eq ..
theorem r21_58 (ls : A_V) (st : List Value) (h : A_H) : R 21 58 ls st h = a_do a_nL R R 21 (s_call 0 284 1 4 true 59 ls st h) := a_R_eq ..
theorem r21_59 (ls : A_V) (st : List Value) (h : A_H) : R 21 59 ls st h = a_do a_nL R R 21 (s_las 60 ls st h) := a_R_eq ..
theorem r21_60 (ls : A_V) (st : List Value) (h : A_H) : R 21 60 ls st h = a_do a_nL R R 21 (s_dup 61 ls st h) := a_R_eq ..
theorem r21_61 (ls : A_V) (st : List Value) (h : A_H) : R 21 61 ls st h = a_do a_nL R R 21 (s_push (.int 7) 62 ls st h) := a_R_eq ..
theorem r21_62 (ls : A_V) (st : List Value) (h : A_H) : R 21 62 ls st h = a_do a_nL R R 21 (s_push (.float 8) 63 ls st h) := a_R_eq ..
theorem r21_63 (ls : A_V) (st : List Value) (h : A_H) : R 21 63 ls st h = a_do a_nL R R 21 (s_call 0 284 1 4 true 64 ls st h) := a_R_eq ..
theorem r21_64 (ls : A_V) (st : List Value) (h : A_H) : R 21 64 ls st h = a_do a_nL R R 21 (s_las 65 ls st h) := a_R_eq ..
theorem r21_65 (ls : A_V) (st : List Value) (h : A_H) : R 21 65 ls st h = a_do a_nL R R 21 (s_dup 66 ls st h) := a_R_eq ..
theorem r21_66 (ls : A_V) (st : List Value) (h : A_H) : R 21 66 ls st h = a_do a_nL R R 21 (s_push (.int 8) 67 ls st h) := a_R_eq ..
theorem r21_67 (ls : A_V) (st : List Value) (h : A_H) : R 21 67 ls st h = a_do a_nL R R 21 (s_push (.float 9) 68 ls st h) := a_R_eq ..
theorem r21_68 (ls : A_V) (st : List Value) (h : A_H) : R 21 68 ls st h = a_do a_nL R R 21 (s_call 0 284 1 4 true 69 ls st h) := a_R_eq ..
theorem r21_69 (ls : A_V) (st : List Value) (h : A_H) : R 21 69 ls st h = a_do a_nL R R 21 (s_las 70 ls st h) := a_R_eq ..
theorem r21_70 (ls : A_V) (st : List Value) (h : A_H) : R 21 70 ls st h = a_do a_nL R R 21 (s_dup 71 ls st h) := a_R_eq ..
theorem r21_71 (ls : A_V) (st : List Value) (h : A_H) : R 21 71 ls st h = a_do a_nL R R 21 (s_push (.int 9) 72 ls st h) := a_R_eq ..
theorem r21_72 (ls : A_V) (st : List Value) (h : A_H) : R 21 72 ls st h = a_do a_nL R R 21 (s_push (.float 10) 73 ls st h) := a_R_eq ..
theorem r21_73 (ls : A_V) (st : List Value) (h : A_H) : R 21 73 ls st h = a_do a_nL R R 21 (s_call 0 284 1 4 true 74 ls st h) := a_R_eq ..
theorem r21_74 (ls : A_V) (st : List Value) (h : A_H) : R 21 74 ls st h = a_do a_nL R R 21 (s_las 75 ls st h) := a_R_eq ..
theorem r21_75 (ls : A_V) (st : List Value) (h : A_H) : R 21 75 ls st h = a_do a_nL R R 21 (s_dup 76 ls st h) := a_R_eq ..
theorem r21_76 (ls : A_V) (st : List Value) (h : A_H) : R 21 76 ls st h = a_do a_nL R R 21 (s_push (.int 10) 77 ls st h) := a_R_eq ..
theorem r21_77 (ls : A_V) (st : List Value) (h : A_H) : R 21 77 ls st h = a_do a_nL R R 21 (s_push (.float 11) 78 ls st h) := a_R_eq ..
theorem r21_78 (ls : A_V) (st : List Value) (h : A_H) : R 21 78 ls st h = a_do a_nL R R 21 (s_call 0 284 1 4 true 79 ls st h) := a_R_eq ..
theorem r21_79 (ls : A_V) (st : List Value) (h : A_H) : R 21 79 ls st h = a_do a_nL R R 21 (s_las 80 ls st h) := a_R_eq ..
theorem r21_80 (ls : A_V) (st : List Value) (h : A_H) : R 21 80 ls st h = a_do a_nL R R 21 (s_putR 7 10 81 ls st h) := a_R_eq ..
theorem r21_81 (ls : A_V) (st : List Value) (h : A_H) : R 21 81 ls st h = a_do a_nL R R 21 (s_vret ls st h) := a_R_eq ..
theorem b21_0 (x0 : Nat) (x1 : Nat) (h : A_H) : R 21 0 [some (.ref x0), some (.ref x1)] [] h = (R 21 4 [some (.ref x0), some (.ref x1)] [.ref (hn h), .ref x0] (nw h 9 15 15)) := (tr (r21_0 ..) (tr (r21_1 ..) (tr (r21_2 ..) (r21_3 ..))))
theorem b21_4 (x0 : Nat) (x1 : Nat) (s0 : Nat) (s1 : Nat) (h : A_H) : R 21 4 [some (.ref x0), some (.ref x1)] [.ref s1, .ref s0] h = (a_back R 21 (55, [.ref s1], h, false, none, 6, [some (.ref x0), some (.ref x1)], [.ref s1, .ref s0]) (C 55 [.ref s1] h)) := (tr (r21_4 ..) (r21_5 ..))
theorem b21_6 (x0 : Nat) (x1 : Nat) (s0 : Nat) (s1 : Nat) (h : A_H) : R 21 6 [some (.ref x0), some (.ref x1)] [.ref s1, .ref s0] h = (cond (isO h s0 7) (R 21 7 [some (.ref x0), some (.ref x1)] [] (wP h s0 2 (some s1))) none) := (r21_6 ..)
theorem b21_7 (x0 : Nat) (x1 : Nat) (h : A_H) : R 21 7 [some (.ref x0), some (.ref x1)] [] h = (R 21 10 [some (.ref x0), some (.ref x1)] [.ref (hn h), .ref x0] (nw h 102 19 19)) := (tr (r21_7 ..) (tr (r21_8 ..) (r21_9 ..)))
theorem b21_10 (x0 : Nat) (x1 : Nat) (s0 : Nat) (s1 : Nat) (h : A_H) : R 21 10 [some (.ref x0), some (.ref x1)] [.ref s1, .ref s0] h = (cond (isO h s0 7) (R 21 11 [some (.ref x0), some (.ref x1)] [] (wP h s0 12 (some s1))) none) := (r21_10 ..)
theorem b21_11 (x0 : Nat) (x1 : Nat) (h : A_H) : R 21 11 [some (.ref x0), some (.ref x1)] [] h = (R 21 14 [some (.ref x0), some (.ref x1)] [.ref (hn h), .ref x0] (nw h 100 19 19)) := (tr (r21_11 ..) (tr (r21_12 ..) (r21_13 ..)))
theorem b21_14 (x0 : Nat) (x1 : Nat) (s0 : Nat) (s1 : Nat) (h : A_H) : R 21 14 [some (.ref x0), some (.ref x1)] [.ref s1, .ref s0] h = (cond (isO h s0 7) (R 21 15 [some (.ref x0), some (.ref x1)] [] (wP h s0 13 (some s1))) none) := (r21_14 ..)
theorem b21_15 (x0 : Nat) (x1 : Nat) (h : A_H) : R 21 15 [some (.ref x0), some (.ref x1)] [] h = (R 21 18 [some (.ref x0), some (.ref x1)] [.ref (hn h), .ref x0] (nw h 100 19 19)) := (tr (r21_15 ..) (tr (r21_16 ..) (r21_17 ..)))
theorem b21_18 (x0 : Nat) (x1 : Nat) (s0 : Nat) (s1 : Nat) (h : A_H) : R 21 18 [some (.ref x0), some (.ref x1)] [.ref s1, .ref s0] h = (cond (isO h s0 7) (R 21 19 [some (.ref x0), some (.ref x1)] [] (wP h s0 14 (some s1))) none) := (r21_18 ..)
theorem b21_19 (x0 : Nat) (x1 : Nat) (h : A_H) : R 21 19 [some (.ref x0), some (.ref x1)] [] h = (cond (isO h x0 7) (R 21 22 [some (.ref x0), some (.ref x1)] [] (wP h x0 0 (some x1))) none) := (tr (r21_19 ..) (tr (r21_20 ..) (r21_21 ..)))
theorem b21_22 (x0 : Nat) (x1 : Nat) (h : A_H) : R 21 22 [some (.ref x0), some (.ref x1)] [] h = (R 21 25 [some (.ref x0), some (.ref x1)] [.ref (hn h), .ref x0] (nw h 102 11 11)) := (tr (r21_22 ..) (tr (r21_23 ..) (r21_24 ..)))
theorem b21_25 (x0 : Nat) (x1 : Nat) (s0 : Nat) (s1 : Nat) (h : A_H) : R 21 25 [some (.ref x0), some (.ref x1)] [.ref s1, .ref s0] h = (a_back R 21 (284, [.float 1], h, true, none, 29, [some (.ref x0), some (.ref x1)], [.int (0 : Int32), .ref s1, .ref s1, .ref s0]) (C 284 [.float 1] h)) := (tr (r21_25 ..) (tr (r21_26 ..) (tr (r21_27 ..) (r21_28 ..))))
theorem b21_29 (x0 : Nat) (x1 : Nat) (s0 : Nat) (s1 : Nat) (s2 : Nat) (s3 : Int32) (s4 : Int64) (h : A_H) : R 21 29 [some (.ref x0), some (.ref x1)] [.long s4, .int s3, .ref s2, .ref s1, .ref s0] h = (cond (isA h s2 2 s3) (R 21 30 [some (.ref x0), some (.ref x1)] [.ref s1, .ref s0] (wL h s2 (s3).toNatClampNeg s4)) none) := (r21_29 ..)
theorem b21_30 (x0 : Nat) (x1 : Nat) (s0 : Nat) (s1 : Nat) (h : A_H) : R 21 30 [some (.ref x0), some (.ref x1)] [.ref s1, .ref s0] h = (a_back R 21 (284, [.float 2], h, true, none, 34, [some (.ref x0), some (.ref x1)], [.int (1 : Int32), .ref s1, .ref s1, .ref s0]) (C 284 [.float 2] h)) := (tr (r21_30 ..) (tr (r21_31 ..) (tr (r21_32 ..) (r21_33 ..))))
theorem b21_34 (x0 : Nat) (x1 : Nat) (s0 : Nat) (s1 : Nat) (s2 : Nat) (s3 : Int32) (s4 : Int64) (h : A_H) : R 21 34 [some (.ref x0), some (.ref x1)] [.long s4, .int s3, .ref s2, .ref s1, .ref s0] h = (cond (isA h s2 2 s3) (R 21 35 [some (.ref x0), some (.ref x1)] [.ref s1, .ref s0] (wL h s2 (s3).toNatClampNeg s4)) none) := (r21_34 ..)
theorem b21_35 (x0 : Nat) (x1 : Nat) (s0 : Nat) (s1 : Nat) (h : A_H) : R 21 35 [some (.ref x0), some (.ref x1)] [.ref s1, .ref s0] h = (a_back R 21 (284, [.float 3], h, true, none, 39, [some (.ref x0), some (.ref x1)], [.int (2 : Int32), .ref s1, .ref s1, .ref s0]) (C 284 [.float 3] h)) := (tr (r21_35 ..) (tr (r21_36 ..) (tr (r21_37 ..) (r21_38 ..))))
theorem b21_39 (x0 : Nat) (x1 : Nat) (s0 : Nat) (s1 : Nat) (s2 : Nat) (s3 : Int32) (s4 : Int64) (h : A_H) : R 21 39 [some (.ref x0), some (.ref x1)] [.long s4, .int s3, .ref s2, .ref s1, .ref s0] h = (cond (isA h s2 2 s3) (R 21 40 [some (.ref x0), some (.ref x1)] [.ref s1, .ref s0] (wL h s2 (s3).toNatClampNeg s4)) none) := (r21_39 ..)
theorem b21_40 (x0 : Nat) (x1 : Nat) (s0 : Nat) (s1 : Nat) (h : A_H) : R 21 40 [some (.ref x0), some (.ref x1)] [.ref s1, .ref s0] h = (a_back R 21 (284, [.float 4], h, true, none, 44, [some (.ref x0), some (.ref x1)], [.int (3 : Int32), .ref s1, .ref s1, .ref s0]) (C 284 [.float 4] h)) := (tr (r21_40 ..) (tr (r21_41 ..) (tr (r21_42 ..) (r21_43 ..))))
theorem b21_44 (x0 : Nat) (x1 : Nat) (s0 : Nat) (s1 : Nat) (s2 : Nat) (s3 : Int32) (s4 : Int64) (h : A_H) : R 21 44 [some (.ref x0), some (.ref x1)] [.long s4, .int s3, .ref s2, .ref s1, .ref s0] h = (cond (isA h s2 2 s3) (R 21 45 [some (.ref x0), some (.ref x1)] [.ref s1, .ref s0] (wL h s2 (s3).toNatClampNeg s4)) none) := (r21_44 ..)
theorem b21_45 (x0 : Nat) (x1 : Nat) (s0 : Nat) (s1 : Nat) (h : A_H) : R 21 45 [some (.ref x0), some (.ref x1)] [.ref s1, .ref s0] h = (a_back R 21 (284, [.float 5], h, true, none, 49, [some (.ref x0), some (.ref x1)], [.int (4 : Int32), .ref s1, .ref s1, .ref s0]) (C 284 [.float 5] h)) := (tr (r21_45 ..) (tr (r21_46 ..) (tr (r21_47 ..) (r21_48 ..))))
theorem b21_49 (x0 : Nat) (x1 : Nat) (s0 : Nat) (s1 : Nat) (s2 : Nat) (s3 : Int32) (s4 : Int64) (h : A_H) : R 21 49 [some (.ref x0), some (.ref x1)] [.long s4, .int s3, .ref s2, .ref s1, .ref s0] h = (cond (isA h s2 2 s3) (R 21 50 [some (.ref x0), some (.ref x1)] [.ref s1, .ref s0] (wL h s2 (s3).toNatClampNeg s4)) none) := (r21_49 ..)
theorem b21_50 (x0 : Nat) (x1 : Nat) (s0 : Nat) (s1 : Nat) (h : A_H) : R 21 50 [some (.ref x0), some (.ref x1)] [.ref s1, .ref s0] h = (a_back R 21 (284, [.float 6], h, true, none, 54, [some (.ref x0), some (.ref x1)], [.int (5 : Int32), .ref s1, .ref s1, .ref s0]) (C 284 [.float 6] h)) := (tr (r21_50 ..) (tr (r21_51 ..) (tr (r21_52 ..) (r21_53 ..))))
theorem b21_54 (x0 : Nat) (x1 : Nat) (s0 : Nat) (s1 : Nat) (s2 : Nat) (s3 : Int32) (s4 : Int64) (h : A_H) : R 21 54 [some (.ref x0), some (.ref x1)] [.long s4, .int s3, .ref s2, .ref s1, .ref s0] h = (cond (isA h s2 2 s3) (R 21 55 [some (.ref x0), some (.ref x1)] [.ref s1, .ref s0] (wL h s2 (s3).toNatClampNeg s4)) none) := (r21_54 ..)
theorem b21_55 (x0 : Nat) (x1 : Nat) (s0 : Nat) (s1 : Nat) (h : A_H) : R 21 55 [some (.ref x0), some (.ref x1)] [.ref s1, .ref s0] h = (a_back R 21 (284, [.float 7], h, true, none, 59, [some (.ref x0), some (.ref x1)], [.int (6 : Int32), .ref s1, .ref s1, .ref s0]) (C 284 [.float 7] h)) := (tr (r21_55 ..) (tr (r21_56 ..) (tr (r21_57 ..) (r21_58 ..))))
theorem b21_59 (x0 : Nat) (x1 : Nat) (s0 : Nat) (s1 : Nat) (s2 : Nat) (s3 : Int32) (s4 : Int64) (h : A_H) : R 21 59 [some (.ref x0), some (.ref x1)] [.long s4, .int s3, .ref s2, .ref s1, .ref s0] h = (cond (isA h s2 2 s3) (R 21 60 [some (.ref x0), some (.ref x1)] [.ref s1, .ref s0] (wL h s2 (s3).toNatClampNeg s4)) none) := (r21_59 ..)
theorem b21_60 (x0 : Nat) (x1 : Nat) (s0 : Nat) (s1 : Nat) (h : A_H) : R 21 60 [some (.ref x0), some (.ref x1)] [.ref s1, .ref s0] h = (a_back R 21 (284, [.float 8], h, true, none, 64, [some (.ref x0), some (.ref x1)], [.int (7 : Int32), .ref s1, .ref s1, .ref s0]) (C 284 [.float 8] h)) := (tr (r21_60 ..) (tr (r21_61 ..) (tr (r21_62 ..) (r21_63 ..))))
theorem b21_64 (x0 : Nat) (x1 : Nat) (s0 : Nat) (s1 : Nat) (s2 : Nat) (s3 : Int32) (s4 : Int64) (h : A_H) : R 21 64 [some (.ref x0), some (.ref x1)] [.long s4, .int s3, .ref s2, .ref s1, .ref s0] h = (cond (isA h s2 2 s3) (R 21 65 [some (.ref x0), some (.ref x1)] [.ref s1, .ref s0] (wL h s2 (s3).toNatClampNeg s4)) none) := (r21_64 ..)
theorem b21_65 (x0 : Nat) (x1 : Nat) (s0 : Nat) (s1 : Nat) (h : A_H) : R 21 65 [some (.ref x0), some (.ref x1)] [.ref s1, .ref s0] h = (a_back R 21 (284, [.float 9], h, true, none, 69, [some (.ref x0), some (.ref x1)], [.int (8 : Int32), .ref s1, .ref s1, .ref s0]) (C 284 [.float 9] h)) := (tr (r21_65 ..) (tr (r21_66 ..) (tr (r21_67 ..) (r21_68 ..))))
theorem b21_69 (x0 : Nat) (x1 : Nat) (s0 : Nat) (s1 : Nat) (s2 : Nat) (s3 : Int32) (s4 : Int64) (h : A_H) : R 21 69 [some (.ref x0), some (.ref x1)] [.long s4, .int s3, .ref s2, .ref s1, .ref s0] h = (cond (isA h s2 2 s3) (R 21 70 [some (.ref x0), some (.ref x1)] [.ref s1, .ref s0] (wL h s2 (s3).toNatClampNeg s4)) none) := (r21_69 ..)
theorem b21_70 (x0 : Nat) (x1 : Nat) (s0 : Nat) (s1 : Nat) (h : A_H) : R 21 70 [some (.ref x0), some (.ref x1)] [.ref s1, .ref s0] h = (a_back R 21 (284, [.float 10], h, true, none, 74, [some (.ref x0), some (.ref x1)], [.int (9 : Int32), .ref s1, .ref s1, .ref s0]) (C 284 [.float 10] h)) := (tr (r21_70 ..) (tr (r21_71 ..) (tr (r21_72 ..) (r21_73 ..))))
theorem b21_74 (x0 : Nat) (x1 : Nat) (s0 : Nat) (s1 : Nat) (s2 : Nat) (s3 : Int32) (s4 : Int64) (h : A_H) : R 21 74 [some (.ref x0), some (.ref x1)] [.long s4, .int s3, .ref s2, .ref s1, .ref s0] h = (cond (isA h s2 2 s3) (R 21 75 [some (.ref x0), some (.ref x1)] [.ref s1, .ref s0] (wL h s2 (s3).toNatClampNeg s4)) none) := (r21_74 ..)
theorem b21_75 (x0 : Nat) (x1 : Nat) (s0 : Nat) (s1 : Nat) (h : A_H) : R 21 75 [some (.ref x0), some (.ref x1)] [.ref s1, .ref s0] h = (a_back R 21 (284, [.float 11], h, true, none, 79, [some (.ref x0), some (.ref x1)], [.int (10 : Int32), .ref s1, .ref s1, .ref s0]) (C 284 [.float 11] h)) := (tr (r21_75 ..) (tr (r21_76 ..) (tr (r21_77 ..) (r21_78 ..))))
theorem b21_79 (x0 : Nat) (x1 : Nat) (s0 : Nat) (s1 : Nat) (s2 : Nat) (s3 : Int32) (s4 : Int64) (h : A_H) : R 21 79 [some (.ref x0), some (.ref x1)] [.long s4, .int s3, .ref s2, .ref s1, .ref s0] h = (cond (isA h s2 2 s3) (R 21 80 [some (.ref x0), some (.ref x1)] [.ref s1, .ref s0] (wL h s2 (s3).toNatClampNeg s4)) none) := (r21_79 ..)
theorem b21_80 (x0 : Nat) (x1 : Nat) (s0 : Nat) (s1 : Nat) (h : A_H) : R 21 80 [some (.ref x0), some (.ref x1)] [.ref s1, .ref s0] h = (cond (isO h s0 7) (R 21 81 [some (.ref x0), some (.ref x1)] [] (wP h s0 10 (some s1))) none) := (r21_80 ..)
theorem b21_81 (x0 : Nat) (x1 : Nat) (h : A_H) : R 21 81 [some (.ref x0), some (.ref x1)] [] h = (some (some none, h)) := (r21_81 ..)
theorem e22 (x0 : Nat) (x1 : Nat) (h : A_H) : C 22 [.ref x0, .ref x1] h = R 22 0 [some (.ref x0), some (.ref x1), none] [] h := rfl
theorem r22_0 (ls : A_V) (st : List Value) (h : A_H) : R 22 0 ls st h = a_do a_nL R R 22 (s_aldl 0 1 ls st h) := a_R_eq ..
theorem r22_1 (ls : A_V) (st : List Value) (h : A_H) : R 22 1 ls st h = a_do a_nL R R 22 (s_getR 7 2 2 ls st h) := a_R_eq ..
theorem r22_2 (ls : A_V) (st : List Value) (h : A_H) : R 22 2 ls st h = a_do a_nL R R 22 (s_ast 2 3 ls st h) := a_R_eq ..
theorem r22_3 (ls : A_V) (st : List Value) (h : A_H) : R 22 3 ls st h = a_do a_nL R R 22 (s_aldl 0 4 ls st h) := a_R_eq ..
theorem r22_4 (ls : A_V) (st : List Value) (h : A_H) : R 22 4 ls st h = a_do a_nL R R 22 (s_aldl 1 5 ls st h) := a_R_eq ..
theorem r22_5 (ls : A_V) (st : List Value) (h : A_H) : R 22 5 ls st h = a_do a_nL R R 22 (s_putR 7 2 6 ls st h) := a_R_eq ..
theorem r22_6 (ls : A_V) (st : List Value) (h : A_H) : R 22 6 ls st h = a_do a_nL R R 22 (s_aldl 2 7 ls st h) := a_R_eq ..
theorem r22_7 (ls : A_V) (st : List Value) (h : A_H) : R 22 7 ls st h = a_do a_nL R R 22 (s_aret ls st h) := a_R_eq ..
theorem b22_0 (x0 : Nat) (x1 : Nat) (l2 : Option Value) (h : A_H) : R 22 0 [some (.ref x0), some (.ref x1), l2] [] h = (cond (isO h x0 7 && (hP h x0 2).isSome) (cond (isO h x0 7) (R 22 6 [some (.ref x0), some (.ref x1), some (.ref ((hP h x0 2).getD 0))] [] (wP h x0 2 (some x1))) none) none) := (tr (r22_0 ..) (tr (r22_1 ..) (cgT (tr (r22_2 ..) (tr (r22_3 ..) (tr (r22_4 ..) (r22_5 ..)))))))
theorem b22_6 (x0 : Nat) (x1 : Nat) (x2 : Nat) (h : A_H) : R 22 6 [some (.ref x0), some (.ref x1), some (.ref x2)] [] h = (some (some (some (.ref x2)), h)) := (tr (r22_6 ..) (r22_7 ..))
theorem e23 (x0 : Nat) (x1 : Int32) (h : A_H) : C 23 [.ref x0, .int x1] h = R 23 0 [some (.ref x0), some (.int x1), none] [] h := rfl
theorem r23_0 (ls : A_V) (st : List Value) (h : A_H) : R 23 0 ls st h = a_do a_nL R R 23 (s_aldl 0 1 ls st h) := a_R_eq ..
theorem r23_1 (ls : A_V) (st : List Value) (h : A_H) : R 23 1 ls st h = a_do a_nL R R 23 (s_ildl 1 2 ls st h) := a_R_eq ..
theorem r23_2 (ls : A_V) (st : List Value) (h : A_H) : R 23 2 ls st h = a_do a_nL R R 23 (s_aldl 0 3 ls st h) := a_R_eq ..
theorem r23_3 (ls : A_V) (st : List Value) (h : A_H) : R 23 3 ls st h = a_do a_nL R R 23 (s_getR 7 0 4 ls st h) := a_R_eq ..
theorem r23_4 (ls : A_V) (st : List Value) (h : A_H) : R 23 4 ls st h = a_do a_nL R R 23 (s_alen 1 5 ls st h) := a_R_eq ..
theorem r23_5 (ls : A_V) (st : List Value) (h : A_H) : R 23 5 ls st h = a_do a_nL R R 23 (s_mbi (fun x y => if y < x then y else x) 6 ls st h) := a_R_eq ..
theorem r23_6 (ls : A_V) (st : List Value) (h : A_H) : R 23 6 ls st h = a_do a_nL R R 23 (s_putI 7 1 7 ls st h) := a_R_eq ..
theorem r23_7 (ls : A_V) (st : List Value) (h : A_H) : R 23 7 ls st h = a_do a_nL R R 23 (s_aldl 0 8 ls st h) := a_R_eq ..
theorem r23_8 (ls : A_V) (st : List Value) (h : A_H) : R 23 8 ls st h = a_do a_nL R R 23 (s_push (.int 0) 9 ls st h) := a_R_eq ..
theorem r23_9 (ls : A_V) (st : List Value) (h : A_H) : R 23 9 ls st h = a_do a_nL R R 23 (s_putI 7 4 10 ls st h) := a_R_eq ..
theorem r23_10 (ls : A_V) (st : List Value) (h : A_H) : R 23 10 ls st h = a_do a_nL R R 23 (s_aldl 0 11 ls st h) := a_R_eq ..
theorem r23_11 (ls : A_V) (st : List Value) (h : A_H) : R 23 11 ls st h = a_do a_nL R R 23 (s_push (.int 0) 12 ls st h) := a_R_eq ..
theorem r23_12 (ls : A_V) (st : List Value) (h : A_H) : R 23 12 ls st h = a_do a_nL R R 23 (s_putI 7 5 13 ls st h) := a_R_eq ..
theorem r23_13 (ls : A_V) (st : List Value) (h : A_H) : R 23 13 ls st h = a_do a_nL R R 23 (s_aldl 0 14 ls st h) := a_R_eq ..
theorem r23_14 (ls : A_V) (st : List Value) (h : A_H) : R 23 14 ls st h = a_do a_nL R R 23 (s_push (.int 0) 15 ls st h) := a_R_eq ..
theorem r23_15 (ls : A_V) (st : List Value) (h : A_H) : R 23 15 ls st h = a_do a_nL R R 23 (s_putZ 7 3 16 ls st h) := a_R_eq ..
theorem r23_16 (ls : A_V) (st : List Value) (h : A_H) : R 23 16 ls st h = a_do a_nL R R 23 (s_aldl 0 17 ls st h) := a_R_eq ..
theorem r23_17 (ls : A_V) (st : List Value) (h : A_H) : R 23 17 ls st h = a_do a_nL R R 23 (s_push (.int 0) 18 ls st h) := a_R_eq ..
theorem r23_18 (ls : A_V) (st : List Value) (h : A_H) : R 23 18 ls st h = a_do a_nL R R 23 (s_putI 7 11 19 ls st h) := a_R_eq ..
theorem r23_19 (ls : A_V) (st : List Value) (h : A_H) : R 23 19 ls st h = a_do a_nL R R 23 (s_aldl 0 20 ls st h) := a_R_eq ..
theorem r23_20 (ls : A_V) (st : List Value) (h : A_H) : R 23 20 ls st h = a_do a_nL R R 23 (s_getR 7 2 21 ls st h) := a_R_eq ..
theorem r23_21 (ls : A_V) (st : List Value) (h : A_H) : R 23 21 ls st h = a_do a_nL R R 23 (s_call 12 56 1 2 false 22 ls st h) := a_R_eq ..
theorem r23_22 (ls : A_V) (st : List Value) (h : A_H) : R 23 22 ls st h = a_do a_nL R R 23 (s_aldl 0 23 ls st h) := a_R_eq ..
theorem r23_23 (ls : A_V) (st : List Value) (h : A_H) : R 23 23 ls st h = a_do a_nL R R 23 (s_push (.int 0) 24 ls st h) := a_R_eq ..
theorem r23_24 (ls : A_V) (st : List Value) (h : A_H) : R 23 24 ls st h = a_do a_nL R R 23 (s_putI 7 8 25 ls st h) := a_R_eq ..
theorem r23_25 (ls : A_V) (st : List Value) (h : A_H) : R 23 25 ls st h = a_do a_nL R R 23 (s_aldl 0 26 ls st h) := a_R_eq ..
theorem r23_26 (ls : A_V) (st : List Value) (h : A_H) : R 23 26 ls st h = a_do a_nL R R 23 (s_call 10 25 1 1 false 27 ls st h) := a_R_eq ..
theorem r23_27 (ls : A_V) (st : List Value) (h : A_H) : R 23 27 ls st h = a_do a_nL R R 23 (s_aldl 0 28 ls st h) := a_R_eq ..
theorem r23_28 (ls : A_V) (st : List Value) (h : A_H) : R 23 28 ls st h = a_do a_nL R R 23 (s_call 10 36 1 2 false 29 ls st h) := a_R_eq ..
theorem r23_29 (ls : A_V) (st : List Value) (h : A_H) : R 23 29 ls st h = a_do a_nL R R 23 (s_push (.int 1) 30 ls st h) := a_R_eq ..
theorem r23_30 (ls : A_V) (st : List Value) (h : A_H) : R 23 30 ls st h = a_do a_nL R R 23 (s_ist 2 31 ls st h) := a_R_eq ..
theorem r23_31 (ls : A_V) (st : List Value) (h : A_H) : R 23 31 ls st h = a_do a_nL R R 23 (s_ildl 2 32 ls st h) := a_R_eq ..
theorem r23_32 (ls : A_V) (st : List Value) (h : A_H) : R 23 32 ls st h = a_do a_nL R R 23 (s_aldl 0 33 ls st h) := a_R_eq ..
theorem r23_33 (ls : A_V) (st : List Value) (h : A_H) : R 23 33 ls st h = a_do a_nL R R 23 (s_getI 7 1 34 ls st h) := a_R_eq ..
theorem r23_34 (ls : A_V) (st : List Value) (h : A_H) : R 23 34 ls st h = a_do a_nL R R 23 (s_if2 (fun x y => decide (y ≤ x)) 48 35 ls st h) := a_R_eq ..
theorem r23_35 (ls : A_V) (st : List Value) (h : A_H) : R 23 35 ls st h = a_do a_nL R R 23 (s_aldl 0 36 ls st h) := a_R_eq ..
theorem r23_36 (ls : A_V) (st : List Value) (h : A_H) : R 23 36 ls st h = a_do a_nL R R 23 (s_getI 7 4 37 ls st h) := a_R_eq ..
theorem r23_37 (ls : A_V) (st : List Value) (h : A_H) : R 23 37 ls st h = a_do a_nL R R 23 (s_if1 (fun x => !decide (x = 0)) 48 38 ls st h) := a_R_eq ..
theorem r23_38 (ls : A_V) (st : List Value) (h : A_H) : R 23 38 ls st h = a_do a_nL R R 23 (s_aldl 0 39 ls st h) := a_R_eq ..
theorem r23_39 (ls : A_V) (st : List Value) (h : A_H) : R 23 39 ls st h = a_do a_nL R R 23 (s_getI 7 6 40 ls st h) := a_R_eq ..
theorem r23_40 (ls : A_V) (st : List Value) (h : A_H) : R 23 40 ls st h = a_do a_nL R R 23 (s_push (.int 3) 41 ls st h) := a_R_eq ..
theorem r23_41 (ls : A_V) (st : List Value) (h : A_H) : R 23 41 ls st h = a_do a_nL R R 23 (s_if2 (fun x y => !decide (x = y)) 48 42 ls st h) := a_R_eq ..
theorem r23_42 (ls : A_V) (st : List Value) (h : A_H) : R 23 42 ls st h = a_do a_nL R R 23 (s_aldl 0 43 ls st h) := a_R_eq ..
theorem r23_43 (ls : A_V) (st : List Value) (h : A_H) : R 23 43 ls st h = a_do a_nL R R 23 (s_call 10 25 1 1 false 44 ls st h) := a_R_eq ..
theorem r23_44 (ls : A_V) (st : List Value) (h : A_H) : R 23 44 ls st h = a_do a_nL R R 23 (s_aldl 0 45 ls st h) := a_R_eq ..
theorem r23_45 (ls : A_V) (st : List Value) (h : A_H) : R 23 45 ls st h = a_do a_nL R R 23 (s_call 10 36 1 2 false 46 ls st h) := a_R_eq ..
theorem r23_46 (ls : A_V) (st : List Value) (h : A_H) : R 23 46 ls st h = a_do a_nL R R 23 (s_inc 2 1 47 ls st h) := a_R_eq ..
theorem r23_47 (ls : A_V) (st : List Value) (h : A_H) : R 23 47 ls st h = a_do a_nL R R 23 (s_goto 31 ls st h) := a_R_eq ..
theorem r23_48 (ls : A_V) (st : List Value) (h : A_H) : R 23 48 ls st h = a_do a_nL R R 23 (s_aldl 0 49 ls st h) := a_R_eq ..
theorem r23_49 (ls : A_V) (st : List Value) (h : A_H) : R 23 49 ls st h = a_do a_nL R R 23 (s_getI 7 6 50 ls st h) := a_R_eq ..
theorem r23_50 (ls : A_V) (st : List Value) (h : A_H) : R 23 50 ls st h = a_do a_nL R R 23 (s_if1 (fun x => decide (x = 0)) 55 51 ls st h) := a_R_eq ..
theorem r23_51 (ls : A_V) (st : List Value) (h : A_H) : R 23 51 ls st h = a_do a_nL R R 23 (s_aldl 0 52 ls st h) := a_R_eq ..
theorem r23_52 (ls : A_V) (st : List Value) (h : A_H) : R 23 52 ls st h = a_do a_nL R R 23 (s_push (.int 1) 53 ls st h) := a_R_eq ..
theorem r23_53 (ls : A_V) (st : List Value) (h : A_H) : R 23 53 ls st h = a_do a_nL R R 23 (s_call 10 24 2 2 false 54 ls st h) := a_R_eq ..
theorem r23_54 (ls : A_V) (st : List Value) (h : A_H) : R 23 54 ls st h = a_do a_nL R R 23 (s_goto 66 ls st h) := a_R_eq ..
theorem r23_55 (ls : A_V) (st : List Value) (h : A_H) : R 23 55 ls st h = a_do a_nL R R 23 (s_aldl 0 56 ls st h) := a_R_eq ..
theorem r23_56 (ls : A_V) (st : List Value) (h : A_H) : R 23 56 ls st h = a_do a_nL R R 23 (s_getR 7 2 57 ls st h) := a_R_eq ..
theorem r23_57 (ls : A_V) (st : List Value) (h : A_H) : R 23 57 ls st h = a_do a_nL R R 23 (s_getI 9 3 58 ls st h) := a_R_eq ..
theorem r23_58 (ls : A_V) (st : List Value) (h : A_H) : R 23 58 ls st h = a_do a_nL R R 23 (s_if1 (fun x => decide (x = 0)) 63 59 ls st h) := a_R_eq ..
theorem r23_59 (ls : A_V) (st : List Value) (h : A_H) : R 23 59 ls st h = a_do a_nL R R 23 (s_aldl 0 60 ls st h) := a_R_eq ..
theorem r23_60 (ls : A_V) (st : List Value) (h : A_H) : R 23 60 ls st h = a_do a_nL R R 23 (s_getR 7 2 61 ls st h) := a_R_eq ..
theorem r23_61 (ls : A_V) (st : List Value) (h : A_H) : R 23 61 ls st h = a_do a_nL R R 23 (s_getI 9 4 62 ls st h) := a_R_eq ..
theorem r23_62 (ls : A_V) (st : List Value) (h : A_H) : R 23 62 ls st h = a_do a_nL R R 23 (s_if1 (fun x => !decide (x = 0)) 66 63 ls st h) := a_R_eq ..
theorem r23_63 (ls : A_V) (st : List Value) (h : A_H) : R 23 63 ls st h = a_do a_nL R R 23 (s_aldl 0 64 ls st h) := a_R_eq ..
theorem r23_64 (ls : A_V) (st : List Value) (h : A_H) : R 23 64 ls st h = a_do a_nL R R 23 (s_push (.int 6) 65 ls st h) := a_R_eq ..
theorem r23_65 (ls : A_V) (st : List Value) (h : A_H) : R 23 65 ls st h = a_do a_nL R R 23 (s_call 10 24 2 2 false 66 ls st h) := a_R_eq ..
theorem r23_66 (ls : A_V) (st : List Value) (h : A_H) : R 23 66 ls st h = a_do a_nL R R 23 (s_aldl 0 67 ls st h) := a_R_eq ..
theorem r23_67 (ls : A_V) (st : List Value) (h : A_H) : R 23 67 ls st h = a_do a_nL R R 23 (s_getI 7 4 68 ls st h) := a_R_eq ..
theorem r23_68 (ls : A_V) (st : List Value) (h : A_H) : R 23 68 ls st h = a_do a_nL R R 23 (s_if1 (fun x => !decide (x = 0)) 71 69 ls st h) := a_R_eq ..
theorem r23_69 (ls : A_V) (st : List Value) (h : A_H) : R 23 69 ls st h = a_do a_nL R R 23 (s_push (.int 1) 70 ls st h) := a_R_eq ..
theorem r23_70 (ls : A_V) (st : List Value) (h : A_H) : R 23 70 ls st h = a_do a_nL R R 23 (s_goto 72 ls st h) := a_R_eq ..
theorem r23_71 (ls : A_V) (st : List Value) (h : A_H) : R 23 71 ls st h = a_do a_nL R R 23 (s_push (.int 0) 72 ls st h) := a_R_eq ..
theorem r23_72 (ls : A_V) (st : List Value) (h : A_H) : R 23 72 ls st h = a_do a_nL R R 23 (s_zret ls st h) := a_R_eq ..
theorem b23_0 (x0 : Nat) (x1 : Int32) (l2 : Option Value) (h : A_H) : R 23 0 [some (.ref x0), some (.int x1), l2] [] h = (cond (isO h x0 7 && (hP h x0 0).isSome) (cond (decide (((hP h x0 0).getD 0) < hn h) && decide ((hsh h ((hP h x0 0).getD 0)).1 = 100 + 1)) (cond (isO h x0 7) (R 23 7 [some (.ref x0), some (.int x1), l2] [] (wI h x0 1 (if (Int32.ofNat (hsh h ((hP h x0 0).getD 0)).2) < x1 then (Int32.ofNat (hsh h ((hP h x0 0).getD 0)).2) else x1))) none) none) none) := (tr (r23_0 ..) (tr (r23_1 ..) (tr (r23_2 ..) (tr (r23_3 ..) (cgT (tr (r23_4 ..) (cgT (tr (r23_5 ..) (r23_6 ..)))))))))
theorem b23_7 (x0 : Nat) (x1 : Int32) (l2 : Option Value) (h : A_H) : R 23 7 [some (.ref x0), some (.int x1), l2] [] h = (cond (isO h x0 7) (R 23 10 [some (.ref x0), some (.int x1), l2] [] (wI h x0 4 (0 : Int32))) none) := (tr (r23_7 ..) (tr (r23_8 ..) (r23_9 ..)))
theorem b23_10 (x0 : Nat) (x1 : Int32) (l2 : Option Value) (h : A_H) : R 23 10 [some (.ref x0), some (.int x1), l2] [] h = (cond (isO h x0 7) (R 23 13 [some (.ref x0), some (.int x1), l2] [] (wI h x0 5 (0 : Int32))) none) := (tr (r23_10 ..) (tr (r23_11 ..) (r23_12 ..)))
theorem b23_13 (x0 : Nat) (x1 : Int32) (l2 : Option Value) (h : A_H) : R 23 13 [some (.ref x0), some (.int x1), l2] [] h = (cond (isO h x0 7 && (decide ((0 : Int32) = 0) || decide ((0 : Int32) = 1))) (R 23 16 [some (.ref x0), some (.int x1), l2] [] (wI h x0 3 (0 : Int32))) none) := (tr (r23_13 ..) (tr (r23_14 ..) (r23_15 ..)))
theorem b23_16 (x0 : Nat) (x1 : Int32) (l2 : Option Value) (h : A_H) : R 23 16 [some (.ref x0), some (.int x1), l2] [] h = (cond (isO h x0 7) (R 23 19 [some (.ref x0), some (.int x1), l2] [] (wI h x0 11 (0 : Int32))) none) := (tr (r23_16 ..) (tr (r23_17 ..) (r23_18 ..)))
theorem b23_19 (x0 : Nat) (x1 : Int32) (l2 : Option Value) (h : A_H) : R 23 19 [some (.ref x0), some (.int x1), l2] [] h = (cond (isO h x0 7 && (hP h x0 2).isSome) (cond (isO h ((hP h x0 2).getD 0) 9) (a_back R 23 (56, [.ref ((hP h x0 2).getD 0)], h, false, none, 22, [some (.ref x0), some (.int x1), l2], []) (C 56 [.ref ((hP h x0 2).getD 0)] h)) none) none) := (tr (r23_19 ..) (tr (r23_20 ..) (cgT (r23_21 ..))))
theorem b23_22 (x0 : Nat) (x1 : Int32) (l2 : Option Value) (h : A_H) : R 23 22 [some (.ref x0), some (.int x1), l2] [] h = (cond (isO h x0 7) (R 23 25 [some (.ref x0), some (.int x1), l2] [] (wI h x0 8 (0 : Int32))) none) := (tr (r23_22 ..) (tr (r23_23 ..) (r23_24 ..)))
theorem b23_25 (x0 : Nat) (x1 : Int32) (l2 : Option Value) (h : A_H) : R 23 25 [some (.ref x0), some (.int x1), l2] [] h = (cond (isO h x0 7) (a_back R 23 (25, [.ref x0], h, false, none, 27, [some (.ref x0), some (.int x1), l2], []) (C 25 [.ref x0] h)) none) := (tr (r23_25 ..) (r23_26 ..))
theorem b23_27 (x0 : Nat) (x1 : Int32) (l2 : Option Value) (h : A_H) : R 23 27 [some (.ref x0), some (.int x1), l2] [] h = (cond (isO h x0 7) (a_back R 23 (36, [.ref x0], h, false, none, 29, [some (.ref x0), some (.int x1), l2], []) (C 36 [.ref x0] h)) none) := (tr (r23_27 ..) (r23_28 ..))
theorem b23_29 (x0 : Nat) (x1 : Int32) (l2 : Option Value) (h : A_H) : R 23 29 [some (.ref x0), some (.int x1), l2] [] h = (R 23 31 [some (.ref x0), some (.int x1), some (.int (1 : Int32))] [] h) := (tr (r23_29 ..) (r23_30 ..))
theorem b23_31 (x0 : Nat) (x1 : Int32) (x2 : Int32) (h : A_H) : R 23 31 [some (.ref x0), some (.int x1), some (.int x2)] [] h = (cond (isO h x0 7) (cond (decide ((hI h x0 1) ≤ x2)) (cond (isO h x0 7) (cond (decide ((hI h x0 6) = 0)) (cond (isO h x0 7 && (hP h x0 2).isSome) (cond (isO h ((hP h x0 2).getD 0) 9) (cond (decide ((hI h ((hP h x0 2).getD 0) 3) = 0)) (cond (isO h x0 7) (a_back R 23 (24, [.ref x0, .int (6 : Int32)], h, false, none, 66, [some (.ref x0), some (.int x1), some (.int x2)], []) (C 24 [.ref x0, .int (6 : Int32)] h)) none) (cond (isO h x0 7 && (hP h x0 2).isSome) (cond (isO h ((hP h x0 2).getD 0) 9) (cond (!decide ((hI h ((hP h x0 2).getD 0) 4) = 0)) (cond (isO h x0 7) (cond (!decide ((hI h x0 4) = 0)) (cond (decide ((0 : Int32) = 0) || decide ((0 : Int32) = 1)) (some (some (some (.int (0 : Int32))), h)) none) (cond (decide ((1 : Int32) = 0) || decide ((1 : Int32) = 1)) (some (some (some (.int (1 : Int32))), h)) none)) none) (cond (isO h x0 7) (a_back R 23 (24, [.ref x0, .int (6 : Int32)], h, false, none, 66, [some (.ref x0), some (.int x1), some (.int x2)], []) (C 24 [.ref x0, .int (6 : Int32)] h)) none)) none) none)) none) none) (cond (isO h x0 7) (a_back R 23 (24, [.ref x0, .int (1 : Int32)], h, false, none, 54, [some (.ref x0), some (.int x1), some (.int x2)], []) (C 24 [.ref x0, .int (1 : Int32)] h)) none)) none) (cond (isO h x0 7) (cond (!decide ((hI h x0 4) = 0)) (cond (isO h x0 7) (cond (decide ((hI h x0 6) = 0)) (cond (isO h x0 7 && (hP h x0 2).isSome) (cond (isO h ((hP h x0 2).getD 0) 9) (cond (decide ((hI h ((hP h x0 2).getD 0) 3) = 0)) (cond (isO h x0 7) (a_back R 23 (24, [.ref x0, .int (6 : Int32)], h, false, none, 66, [some (.ref x0), some (.int x1), some (.int x2)], []) (C 24 [.ref x0, .int (6 : Int32)] h)) none) (cond (isO h x0 7 && (hP h x0 2).isSome) (cond (isO h ((hP h x0 2).getD 0) 9) (cond (!decide ((hI h ((hP h x0 2).getD 0) 4) = 0)) (cond (isO h x0 7) (cond (!decide ((hI h x0 4) = 0)) (cond (decide ((0 : Int32) = 0) || decide ((0 : Int32) = 1)) (some (some (some (.int (0 : Int32))), h)) none) (cond (decide ((1 : Int32) = 0) || decide ((1 : Int32) = 1)) (some (some (some (.int (1 : Int32))), h)) none)) none) (cond (isO h x0 7) (a_back R 23 (24, [.ref x0, .int (6 : Int32)], h, false, none, 66, [some (.ref x0), some (.int x1), some (.int x2)], []) (C 24 [.ref x0, .int (6 : Int32)] h)) none)) none) none)) none) none) (cond (isO h x0 7) (a_back R 23 (24, [.ref x0, .int (1 : Int32)], h, false, none, 54, [some (.ref x0), some (.int x1), some (.int x2)], []) (C 24 [.ref x0, .int (1 : Int32)] h)) none)) none) (cond (isO h x0 7) (cond (!decide ((hI h x0 6) = (3 : Int32))) (cond (isO h x0 7) (cond (decide ((hI h x0 6) = 0)) (cond (isO h x0 7 && (hP h x0 2).isSome) (cond (isO h ((hP h x0 2).getD 0) 9) (cond (decide ((hI h ((hP h x0 2).getD 0) 3) = 0)) (cond (isO h x0 7) (a_back R 23 (24, [.ref x0, .int (6 : Int32)], h, false, none, 66, [some (.ref x0), some (.int x1), some (.int x2)], []) (C 24 [.ref x0, .int (6 : Int32)] h)) none) (cond (isO h x0 7 && (hP h x0 2).isSome) (cond (isO h ((hP h x0 2).getD 0) 9) (cond (!decide ((hI h ((hP h x0 2).getD 0) 4) = 0)) (cond (isO h x0 7) (cond (!decide ((hI h x0 4) = 0)) (cond (decide ((0 : Int32) = 0) || decide ((0 : Int32) = 1)) (some (some (some (.int (0 : Int32))), h)) none) (cond (decide ((1 : Int32) = 0) || decide ((1 : Int32) = 1)) (some (some (some (.int (1 : Int32))), h)) none)) none) (cond (isO h x0 7) (a_back R 23 (24, [.ref x0, .int (6 : Int32)], h, false, none, 66, [some (.ref x0), some (.int x1), some (.int x2)], []) (C 24 [.ref x0, .int (6 : Int32)] h)) none)) none) none)) none) none) (cond (isO h x0 7) (a_back R 23 (24, [.ref x0, .int (1 : Int32)], h, false, none, 54, [some (.ref x0), some (.int x1), some (.int x2)], []) (C 24 [.ref x0, .int (1 : Int32)] h)) none)) none) (cond (isO h x0 7) (a_back R 23 (25, [.ref x0], h, false, none, 44, [some (.ref x0), some (.int x1), some (.int x2)], []) (C 25 [.ref x0] h)) none)) none)) none)) none) := (tr (r23_31 ..) (tr (r23_32 ..) (tr (r23_33 ..) (cgT (tr (r23_34 ..) (cgB (tr (r23_48 ..) (tr (r23_49 ..) (cgT (tr (r23_50 ..) (cgB (tr (r23_55 ..) (tr (r23_56 ..) (cgT (tr (r23_57 ..) (cgT (tr (r23_58 ..) (cgB (tr (r23_63 ..) (tr (r23_64 ..) (r23_65 ..))) (tr (r23_59 ..) (tr (r23_60 ..) (cgT (tr (r23_61 ..) (cgT (tr (r23_62 ..) (cgB (tr (r23_66 ..) (tr (r23_67 ..) (cgT (tr (r23_68 ..) (cgB (tr (r23_71 ..) (r23_72 ..)) (tr (r23_69 ..) (tr (r23_70 ..) (r23_72 ..)))))))) (tr (r23_63 ..) (tr (r23_64 ..) (r23_65 ..))))))))))))))))) (tr (r23_51 ..) (tr (r23_52 ..) (r23_53 ..)))))))) (tr (r23_35 ..) (tr (r23_36 ..) (cgT (tr (r23_37 ..) (cgB (tr (r23_48 ..) (tr (r23_49 ..) (cgT (tr (r23_50 ..) (cgB (tr (r23_55 ..) (tr (r23_56 ..) (cgT (tr (r23_57 ..) (cgT (tr (r23_58 ..) (cgB (tr (r23_63 ..) (tr (r23_64 ..) (r23_65 ..))) (tr (r23_59 ..) (tr (r23_60 ..) (cgT (tr (r23_61 ..) (cgT (tr (r23_62 ..) (cgB (tr (r23_66 ..) (tr (r23_67 ..) (cgT (tr (r23_68 ..) (cgB (tr (r23_71 ..) (r23_72 ..)) (tr (r23_69 ..) (tr (r23_70 ..) (r23_72 ..)))))))) (tr (r23_63 ..) (tr (r23_64 ..) (r23_65 ..))))))))))))))))) (tr (r23_51 ..) (tr (r23_52 ..) (r23_53 ..)))))))) (tr (r23_38 ..) (tr (r23_39 ..) (cgT (tr (r23_40 ..) (tr (r23_41 ..) (cgB (tr (r23_48 ..) (tr (r23_49 ..) (cgT (tr (r23_50 ..) (cgB (tr (r23_55 ..) (tr (r23_56 ..) (cgT (tr (r23_57 ..) (cgT (tr (r23_58 ..) (cgB (tr (r23_63 ..) (tr (r23_64 ..) (r23_65 ..))) (tr (r23_59 ..) (tr (r23_60 ..) (cgT (tr (r23_61 ..) (cgT (tr (r23_62 ..) (cgB (tr (r23_66 ..) (tr (r23_67 ..) (cgT (tr (r23_68 ..) (cgB (tr (r23_71 ..) (r23_72 ..)) (tr (r23_69 ..) (tr (r23_70 ..) (r23_72 ..)))))))) (tr (r23_63 ..) (tr (r23_64 ..) (r23_65 ..))))))))))))))))) (tr (r23_51 ..) (tr (r23_52 ..) (r23_53 ..)))))))) (tr (r23_42 ..) (r23_43 ..)))))))))))))))))))
theorem b23_44 (x0 : Nat) (x1 : Int32) (x2 : Int32) (h : A_H) : R 23 44 [some (.ref x0), some (.int x1), some (.int x2)] [] h = (cond (isO h x0 7) (a_back R 23 (36, [.ref x0], h, false, none, 46, [some (.ref x0), some (.int x1), some (.int x2)], []) (C 36 [.ref x0] h)) none) := (tr (r23_44 ..) (r23_45 ..))
theorem b23_46 (x0 : Nat) (x1 : Int32) (x2 : Int32) (h : A_H) : R 23 46 [some (.ref x0), some (.int x1), some (.int x2)] [] h = (R 23 31 [some (.ref x0), some (.int x1), some (.int (x2 + 1))] [] h) := (tr (r23_46 ..) (r23_47 ..))
theorem b23_54 (x0 : Nat) (x1 : Int32) (x2 : Int32) (h : A_H) : R 23 54 [some (.ref x0), some (.int x1), some (.int x2)] [] h = (cond (isO h x0 7) (cond (!decide ((hI h x0 4) = 0)) (cond (decide ((0 : Int32) = 0) || decide ((0 : Int32) = 1)) (some (some (some (.int (0 : Int32))), h)) none) (cond (decide ((1 : Int32) = 0) || decide ((1 : Int32) = 1)) (some (some (some (.int (1 : Int32))), h)) none)) none) := (tr (r23_54 ..) (tr (r23_66 ..) (tr (r23_67 ..) (cgT (tr (r23_68 ..) (cgB (tr (r23_71 ..) (r23_72 ..)) (tr (r23_69 ..) (tr (r23_70 ..) (r23_72 ..)))))))))
theorem b23_66 (x0 : Nat) (x1 : Int32) (x2 : Int32) (h : A_H) : R 23 66 [some (.ref x0), some (.int x1), some (.int x2)] [] h = (cond (isO h x0 7) (cond (!decide ((hI h x0 4) = 0)) (cond (decide ((0 : Int32) = 0) || decide ((0 : Int32) = 1)) (some (some (some (.int (0 : Int32))), h)) none) (cond (decide ((1 : Int32) = 0) || decide ((1 : Int32) = 1)) (some (some (some (.int (1 : Int32))), h)) none)) none) := (tr (r23_66 ..) (tr (r23_67 ..) (cgT (tr (r23_68 ..) (cgB (tr (r23_71 ..) (r23_72 ..)) (tr (r23_69 ..) (tr (r23_70 ..) (r23_72 ..))))))))
theorem e24 (x0 : Nat) (x1 : Int32) (h : A_H) : C 24 [.ref x0, .int x1] h = R 24 0 [some (.ref x0), some (.int x1)] [] h := rfl
theorem r24_0 (ls : A_V) (st : List Value) (h : A_H) : R 24 0 ls st h = a_do a_nL R R 24 (s_aldl 0 1 ls st h) := a_R_eq ..
theorem r24_1 (ls : A_V) (st : List Value) (h : A_H) : R 24 1 ls st h = a_do a_nL R R 24 (s_getI 7 4 2 ls st h) := a_R_eq ..
theorem r24_2 (ls : A_V) (st : List Value) (h : A_H) : R 24 2 ls st h = a_do a_nL R R 24 (s_if1 (fun x => !decide (x = 0)) 10 3 ls st h) := a_R_eq ..
theorem r24_3 (ls : A_V) (st : List Value) (h : A_H) : R 24 3 ls st h = a_do a_nL R R 24 (s_aldl 0 4 ls st h) := a_R_eq ..
theorem r24_4 (ls : A_V) (st : List Value) (h : A_H) : R 24 4 ls st h = a_do a_nL R R 24 (s_ildl 1 5 ls st h) := a_R_eq ..
theorem r24_5 (ls : A_V) (st : List Value) (h : A_H) : R 24 5 ls st h = a_do a_nL R R 24 (s_putI 7 4 6 ls st h) := a_R_eq ..
theorem r24_6 (ls : A_V) (st : List Value) (h : A_H) : R 24 6 ls st h = a_do a_nL R R 24 (s_aldl 0 7 ls st h) := a_R_eq ..
theorem r24_7 (ls : A_V) (st : List Value) (h : A_H) : R 24 7 ls st h = a_do a_nL R R 24 (s_aldl 0 8 ls st h) := a_R_eq ..
theorem r24_8 (ls : A_V) (st : List Value) (h : A_H) : R 24 8 ls st h = a_do a_nL R R 24 (s_getI 7 7 9 ls st h) := a_R_eq ..
theorem r24_9 (ls : A_V) (st : List Value) (h : A_H) : R 24 9 ls st h = a_do a_nL R R 24 (s_putI 7 5 10 ls st h) := a_R_eq ..
theorem r24_10 (ls : A_V) (st : List Value) (h : A_H) : R 24 10 ls st h = a_do a_nL R R 24 (s_vret ls st h) := a_R_eq ..
theorem b24_0 (x0 : Nat) (x1 : Int32) (h : A_H) : R 24 0 [some (.ref x0), some (.int x1)] [] h = (cond (isO h x0 7) (cond (!decide ((hI h x0 4) = 0)) (some (some none, h)) (cond (isO h x0 7) (R 24 6 [some (.ref x0), some (.int x1)] [] (wI h x0 4 x1)) none)) none) := (tr (r24_0 ..) (tr (r24_1 ..) (cgT (tr (r24_2 ..) (cgB (r24_10 ..) (tr (r24_3 ..) (tr (r24_4 ..) (r24_5 ..))))))))
theorem b24_6 (x0 : Nat) (x1 : Int32) (h : A_H) : R 24 6 [some (.ref x0), some (.int x1)] [] h = (cond (isO h x0 7) (cond (isO h x0 7) (R 24 10 [some (.ref x0), some (.int x1)] [] (wI h x0 5 (hI h x0 7))) none) none) := (tr (r24_6 ..) (tr (r24_7 ..) (tr (r24_8 ..) (cgT (r24_9 ..)))))
theorem b24_10 (x0 : Nat) (x1 : Int32) (h : A_H) : R 24 10 [some (.ref x0), some (.int x1)] [] h = (some (some none, h)) := (r24_10 ..)
theorem e25 (x0 : Nat) (h : A_H) : C 25 [.ref x0] h = R 25 0 [some (.ref x0)] [] h := rfl
theorem r25_0 (ls : A_V) (st : List Value) (h : A_H) : R 25 0 ls st h = a_do a_nL R R 25 (s_aldl 0 1 ls st h) := a_R_eq ..
theorem r25_1 (ls : A_V) (st : List Value) (h : A_H) : R 25 1 ls st h = a_do a_nL R R 25 (s_aldl 0 2 ls st h) := a_R_eq ..
theorem r25_2 (ls : A_V) (st : List Value) (h : A_H) : R 25 2 ls st h = a_do a_nL R R 25 (s_getI 7 8 3 ls st h) := a_R_eq ..
theorem r25_3 (ls : A_V) (st : List Value) (h : A_H) : R 25 3 ls st h = a_do a_nL R R 25 (s_putI 7 7 4 ls st h) := a_R_eq ..
theorem r25_4 (ls : A_V) (st : List Value) (h : A_H) : R 25 4 ls st h = a_do a_nL R R 25 (s_aldl 0 5 ls st h) := a_R_eq ..
theorem r25_5 (ls : A_V) (st : List Value) (h : A_H) : R 25 5 ls st h = a_do a_nL R R 25 (s_getI 7 7 6 ls st h) := a_R_eq ..
theorem r25_6 (ls : A_V) (st : List Value) (h : A_H) : R 25 6 ls st h = a_do a_nL R R 25 (s_aldl 0 7 ls st h) := a_R_eq ..
theorem r25_7 (ls : A_V) (st : List Value) (h : A_H) : R 25 7 ls st h = a_do a_nL R R 25 (s_getI 7 1 8 ls st h) := a_R_eq ..
theorem r25_8 (ls : A_V) (st : List Value) (h : A_H) : R 25 8 ls st h = a_do a_nL R R 25 (s_if2 (fun x y => decide (y ≤ x)) 23 9 ls st h) := a_R_eq ..
theorem r25_9 (ls : A_V) (st : List Value) (h : A_H) : R 25 9 ls st h = a_do a_nL R R 25 (s_aldl 0 10 ls st h) := a_R_eq ..
theorem r25_10 (ls : A_V) (st : List Value) (h : A_H) : R 25 10 ls st h = a_do a_nL R R 25 (s_getR 7 0 11 ls st h) := a_R_eq ..
theorem r25_11 (ls : A_V) (st : List Value) (h : A_H) : R 25 11 ls st h = a_do a_nL R R 25 (s_aldl 0 12 ls st h) := a_R_eq ..
theorem r25_12 (ls : A_V) (st : List Value) (h : A_H) : R 25 12 ls st h = a_do a_nL R R 25 (s_getI 7 7 13 ls st h) := a_R_eq ..
theorem r25_13 (ls : A_V) (st : List Value) (h : A_H) : R 25 13 ls st h = a_do a_nL R R 25 (s_ial 1 14 ls st h) := a_R_eq ..
theorem r25_14 (ls : A_V) (st : List Value) (h : A_H) : R 25 14 ls st h = a_do a_nL R R 25 (s_push (.int 32) 15 ls st h) := a_R_eq ..
theorem r25_15 (ls : A_V) (st : List Value) (h : A_H) : R 25 15 ls st h = a_do a_nL R R 25 (s_if2 (fun x y => !decide (x = y)) 23 16 ls st h) := a_R_eq ..
theorem r25_16 (ls : A_V) (st : List Value) (h : A_H) : R 25 16 ls st h = a_do a_nL R R 25 (s_aldl 0 17 ls st h) := a_R_eq ..
theorem r25_17 (ls : A_V) (st : List Value) (h : A_H) : R 25 17 ls st h = a_do a_nL R R 25 (s_dup 18 ls st h) := a_R_eq ..
theorem r25_18 (ls : A_V) (st : List Value) (h : A_H) : R 25 18 ls st h = a_do a_nL R R 25 (s_getI 7 7 19 ls st h) := a_R_eq ..
theorem r25_19 (ls : A_V) (st : List Value) (h : A_H) : R 25 19 ls st h = a_do a_nL R R 25 (s_push (.int 1) 20 ls st h) := a_R_eq ..
theorem r25_20 (ls : A_V) (st : List Value) (h : A_H) : R 25 20 ls st h = a_do a_nL R R 25 (s_bi (fun x y => x + y) 21 ls st h) := a_R_eq ..
theorem r25_21 (ls : A_V) (st : List Value) (h : A_H) : R 25 21 ls st h = a_do a_nL R R 25 (s_putI 7 7 22 ls st h) := a_R_eq ..
theorem r25_22 (ls : A_V) (st : List Value) (h : A_H) : R 25 22 ls st h = a_do a_nL R R 25 (s_goto 4 ls st h) := a_R_eq ..
theorem r25_23 (ls : A_V) (st : List Value) (h : A_H) : R 25 23 ls st h = a_do a_nL R R 25 (s_aldl 0 24 ls st h) := a_R_eq ..
theorem r25_24 (ls : A_V) (st : List Value) (h : A_H) : R 25 24 ls st h = a_do a_nL R R 25 (s_aldl 0 25 ls st h) := a_R_eq ..
theorem r25_25 (ls : A_V) (st : List Value) (h : A_H) : R 25 25 ls st h = a_do a_nL R R 25 (s_getI 7 7 26 ls st h) := a_R_eq ..
theorem r25_26 (ls : A_V) (st : List Value) (h : A_H) : R 25 26 ls st h = a_do a_nL R R 25 (s_putI 7 8 27 ls st h) := a_R_eq ..
theorem r25_27 (ls : A_V) (st : List Value) (h : A_H) : R 25 27 ls st h = a_do a_nL R R 25 (s_aldl 0 28 ls st h) := a_R_eq ..
theorem r25_28 (ls : A_V) (st : List Value) (h : A_H) : R 25 28 ls st h = a_do a_nL R R 25 (s_getI 7 7 29 ls st h) := a_R_eq ..
theorem r25_29 (ls : A_V) (st : List Value) (h : A_H) : R 25 29 ls st h = a_do a_nL R R 25 (s_aldl 0 30 ls st h) := a_R_eq ..
theorem r25_30 (ls : A_V) (st : List Value) (h : A_H) : R 25 30 ls st h = a_do a_nL R R 25 (s_getI 7 1 31 ls st h) := a_R_eq ..
theorem r25_31 (ls : A_V) (st : List Value) (h : A_H) : R 25 31 ls st h = a_do a_nL R R 25 (s_if2 (fun x y => decide (x < y)) 36 32 ls st h) := a_R_eq ..
theorem r25_32 (ls : A_V) (st : List Value) (h : A_H) : R 25 32 ls st h = a_do a_nL R R 25 (s_aldl 0 33 ls st h) := a_R_eq ..
theorem r25_33 (ls : A_V) (st : List Value) (h : A_H) : R 25 33 ls st h = a_do a_nL R R 25 (s_push (.int 0) 34 ls st h) := a_R_eq ..
theorem r25_34 (ls : A_V) (st : List Value) (h : A_H) : R 25 34 ls st h = a_do a_nL R R 25 (s_putI 7 6 35 ls st h) := a_R_eq ..
theorem r25_35 (ls : A_V) (st : List Value) (h : A_H) : R 25 35 ls st h = a_do a_nL R R 25 (s_goto 88 ls st h) := a_R_eq ..
theorem r25_36 (ls : A_V) (st : List Value) (h : A_H) : R 25 36 ls st h = a_do a_nL R R 25 (s_aldl 0 37 ls st h) := a_R_eq ..
theorem r25_37 (ls : A_V) (st : List Value) (h : A_H) : R 25 37 ls st h = a_do a_nL R R 25 (s_getR 7 0 38 ls st h) := a_R_eq ..
theorem r25_38 (ls : A_V) (st : List Value) (h : A_H) : R 25 38 ls st h = a_do a_nL R R 25 (s_aldl 0 39 ls st h) := a_R_eq ..
theorem r25_39 (ls : A_V) (st : List Value) (h : A_H) : R 25 39 ls st h = a_do a_nL R R 25 (s_getI 7 7 40 ls st h) := a_R_eq ..
theorem r25_40 (ls : A_V) (st : List Value) (h : A_H) : R 25 40 ls st h = a_do a_nL R R 25 (s_ial 1 41 ls st h) := a_R_eq ..
theorem r25_41 (ls : A_V) (st : List Value) (h : A_H) : R 25 41 ls st h = a_do a_nL R R 25 (s_push (.int 97) 42 ls st h) := a_R_eq ..
theorem r25_42 (ls : A_V) (st : List Value) (h : A_H) : R 25 42 ls st h = a_do a_nL R R 25 (s_if2 (fun x y => decide (x < y)) 53 43 ls st h) := a_R_eq ..
theorem r25_43 (ls : A_V) (st : List Value) (h : A_H) : R 25 43 ls st h = a_do a_nL R R 25 (s_aldl 0 44 ls st h) := a_R_eq ..
theorem r25_44 (ls : A_V) (st : List Value) (h : A_H) : R 25 44 ls st h = a_do a_nL R R 25 (s_getR 7 0 45 ls st h) := a_R_eq ..
theorem r25_45 (ls : A_V) (st : List Value) (h : A_H) : R 25 45 ls st h = a_do a_nL R R 25 (s_aldl 0 46 ls st h) := a_R_eq ..
theorem r25_46 (ls : A_V) (st : List Value) (h : A_H) : R 25 46 ls st h = a_do a_nL R R 25 (s_getI 7 7 47 ls st h) := a_R_eq ..
theorem r25_47 (ls : A_V) (st : List Value) (h : A_H) : R 25 47 ls st h = a_do a_nL R R 25 (s_ial 1 48 ls st h) := a_R_eq ..
theorem r25_48 (ls : A_V) (st : List Value) (h : A_H) : R 25 48 ls st h = a_do a_nL R R 25 (s_push (.int 122) 49 ls st h) := a_R_eq ..
theorem r25_49 (ls : A_V) (st : List Value) (h : A_H) : R 25 49 ls st h = a_do a_nL R R 25 (s_if2 (fun x y => decide (y < x)) 53 50 ls st h) := a_R_eq ..
theorem r25_50 (ls : A_V) (st : List Value) (h : A_H) : R 25 50 ls st h = a_do a_nL R R 25 (s_aldl 0 51 ls st h) := a_R_eq ..
theorem r25_51 (ls : A_V) (st : List Value) (h : A_H) : R 25 51 ls st h = a_do a_nL R R 25 (s_call 10 26 1 1 false 52 ls st h) := a_R_eq ..
theorem r25_52 (ls : A_V) (st : List Value) (h : A_H) : R 25 52 ls st h = a_do a_nL R R 25 (s_goto 88 ls st h) := a_R_eq ..
theorem r25_53 (ls : A_V) (st : List Value) (h : A_H) : R 25 53 ls st h = a_do a_nL R R 25 (s_aldl 0 54 ls st h) := a_R_eq ..
theorem r25_54 (ls : A_V) (st : List Value) (h : A_H) : R 25 54 ls st h = a_do a_nL R R 25 (s_getR 7 0 55 ls st h) := a_R_eq ..
theorem r25_55 (ls : A_V) (st : List Value) (h : A_H) : R 25 55 ls st h = a_do a_nL R R 25 (s_aldl 0 56 ls st h) := a_R_eq ..
theorem r25_56 (ls : A_V) (st : List Value) (h : A_H) : R 25 56 ls st h = a_do a_nL R R 25 (s_getI 7 7 57 ls st h) := a_R_eq ..
theorem r25_57 (ls : A_V) (st : List Value) (h : A_H) : R 25 57 ls st h = a_do a_nL R R 25 (s_ial 1 58 ls st h) := a_R_eq ..
theorem r25_58 (ls : A_V) (st : List Value) (h : A_H) : R 25 58 ls st h = a_do a_nL R R 25 (s_push (.int 48) 59 ls st h) := a_R_eq ..
theorem r25_59 (ls : A_V) (st : List Value) (h : A_H) : R 25 59 ls st h = a_do a_nL R R 25 (s_if2 (fun x y => decide (x < y)) 70 60 ls st h) := a_R_eq ..
theorem r25_60 (ls : A_V) (st : List Value) (h : A_H) : R 25 60 ls st h = a_do a_nL R R 25 (s_aldl 0 61 ls st h) := a_R_eq ..
theorem r25_61 (ls : A_V) (st : List Value) (h : A_H) : R 25 61 ls st h = a_do a_nL R R 25 (s_getR 7 0 62 ls st h) := a_R_eq ..
theorem r25_62 (ls : A_V) (st : List Value) (h : A_H) : R 25 62 ls st h = a_do a_nL R R 25 (s_aldl 0 63 ls st h) := a_R_eq ..
theorem r25_63 (ls : A_V) (st : List Value) (h : A_H) : R 25 63 ls st h = a_do a_nL R R 25 (s_getI 7 7 64 ls st h) := a_R_eq ..
theorem r25_64 (ls : A_V) (st : List Value) (h : A_H) : R 25 64 ls st h = a_do a_nL R R 25 (s_ial 1 65 ls st h) := a_R_eq ..
theorem r25_65 (ls : A_V) (st : List Value) (h : A_H) : R 25 65 ls st h = a_do a_nL R R 25 (s_push (.int 57) 66 ls st h) := a_R_eq ..
theorem r25_66 (ls : A_V) (st : List Value) (h : A_H) : R 25 66 ls st h = a_do a_nL R R 25 (s_if2 (fun x y => decide (y < x)) 70 67 ls st h) := a_R_eq ..
theorem r25_67 (ls : A_V) (st : List Value) (h : A_H) : R 25 67 ls st h = a_do a_nL R R 25 (s_aldl 0 68 ls st h) := a_R_eq ..
theorem r25_68 (ls : A_V) (st : List Value) (h : A_H) : R 25 68 ls st h = a_do a_nL R R 25 (s_call 10 27 1 1 false 69 ls st h) := a_R_eq ..
theorem r25_69 (ls : A_V) (st : List Value) (h : A_H) : R 25 69 ls st h = a_do a_nL R R 25 (s_goto 88 ls st h) := a_R_eq ..
theorem r25_70 (ls : A_V) (st : List Value) (h : A_H) : R 25 70 ls st h = a_do a_nL R R 25 (s_aldl 0 71 ls st h) := a_R_eq ..
theorem r25_71 (ls : A_V) (st : List Value) (h : A_H) : R 25 71 ls st h = a_do a_nL R R 25 (s_aldl 0 72 ls st h) := a_R_eq ..
theorem r25_72 (ls : A_V) (st : List Value) (h : A_H) : R 25 72 ls st h = a_do a_nL R R 25 (s_getR 7 0 73 ls st h) := a_R_eq ..
theorem r25_73 (ls : A_V) (st : List Value) (h : A_H) : R 25 73 ls st h = a_do a_nL R R 25 (s_aldl 0 74 ls st h) := a_R_eq ..
theorem r25_74 (ls : A_V) (st : List Value) (h : A_H) : R 25 74 ls st h = a_do a_nL R R 25 (s_getI 7 7 75 ls st h) := a_R_eq ..
theorem r25_75 (ls : A_V) (st : List Value) (h : A_H) : R 25 75 ls st h = a_do a_nL R R 25 (s_ial 1 76 ls st h) := a_R_eq ..
theorem r25_76 (ls : A_V) (st : List Value) (h : A_H) : R 25 76 ls st h = a_do a_nL R R 25 (s_push (.int 59) 77 ls st h) := a_R_eq ..
theorem r25_77 (ls : A_V) (st : List Value) (h : A_H) : R 25 77 ls st h = a_do a_nL R R 25 (s_if2 (fun x y => !decide (x = y)) 80 78 ls st h) := a_R_eq ..
theorem r25_78 (ls : A_V) (st : List Value) (h : A_H) : R 25 78 ls st h = a_do a_nL R R 25 (s_push (.int 3) 79 ls st h) := a_R_eq ..
theorem r25_79 (ls : A_V) (st : List Value) (h : A_H) : R 25 79 ls st h = a_do a_nL R R 25 (s_goto 81 ls st h) := a_R_eq ..
theorem r25_80 (ls : A_V) (st : List Value) (h : A_H) : R 25 80 ls st h = a_do a_nL R R 25 (s_push (.int 4) 81 ls st h) := a_R_eq ..
theorem r25_81 (ls : A_V) (st : List Value) (h : A_H) : R 25 81 ls st h = a_do a_nL R R 25 (s_putI 7 6 82 ls st h) := a_R_eq ..
theorem r25_82 (ls : A_V) (st : List Value) (h : A_H) : R 25 82 ls st h = a_do a_nL R R 25 (s_aldl 0 83 ls st h) := a_R_eq ..
theorem r25_83 (ls : A_V) (st : List Value) (h : A_H) : R 25 83 ls st h = a_do a_nL R R 25 (s_dup 84 ls st h) := a_R_eq ..
theorem r25_84 (ls : A_V) (st : List Value) (h : A_H) : R 25 84 ls st h = a_do a_nL R R 25 (s_getI 7 8 85 ls st h) := a_R_eq ..
theorem r25_85 (ls : A_V) (st : List Value) (h : A_H) : R 25 85 ls st h = a_do a_nL R R 25 (s_push (.int 1) 86 ls st h) := a_R_eq ..
theorem r25_86 (ls : A_V) (st : List Value) (h : A_H) : R 25 86 ls st h = a_do a_nL R R 25 (s_bi (fun x y => x + y) 87 ls st h) := a_R_eq ..
theorem r25_87 (ls : A_V) (st : List Value) (h : A_H) : R 25 87 ls st h = a_do a_nL R R 25 (s_putI 7 8 88 ls st h) := a_R_eq ..
theorem r25_88 (ls : A_V) (st : List Value) (h : A_H) : R 25 88 ls st h = a_do a_nL R R 25 (s_vret ls st h) := a_R_eq ..
theorem b25_0 (x0 : Nat) (h : A_H) : R 25 0 [some (.ref x0)] [] h = (cond (isO h x0 7) (cond (isO h x0 7) (R 25 4 [some (.ref x0)] [] (wI h x0 7 (hI h x0 8))) none) none) := (tr (r25_0 ..) (tr (r25_1 ..) (tr (r25_2 ..) (cgT (r25_3 ..)))))
theorem b25_4 (x0 : Nat) (h : A_H) : R 25 4 [some (.ref x0)] [] h = (cond (isO h x0 7) (cond (isO h x0 7) (cond (decide ((hI h x0 1) ≤ (hI h x0 7))) (cond (isO h x0 7) (cond (isO h x0 7) (R 25 27 [some (.ref x0)] [] (wI h x0 8 (hI h x0 7))) none) none) (cond (isO h x0 7 && (hP h x0 0).isSome) (cond (isO h x0 7) (cond (isA h ((hP h x0 0).getD 0) 1 (hI h x0 7)) (cond (!decide ((hI h ((hP h x0 0).getD 0) ((hI h x0 7)).toNatClampNeg) = (32 : Int32))) (cond (isO h x0 7) (cond (isO h x0 7) (R 25 27 [some (.ref x0)] [] (wI h x0 8 (hI h x0 7))) none) none) (cond (isO h x0 7) (cond (isO h x0 7) (R 25 22 [some (.ref x0)] [] (wI h x0 7 ((hI h x0 7) + (1 : Int32)))) none) none)) none) none) none)) none) none) := (tr (r25_4 ..) (tr (r25_5 ..) (cgT (tr (r25_6 ..) (tr (r25_7 ..) (cgT (tr (r25_8 ..) (cgB (tr (r25_23 ..) (tr (r25_24 ..) (tr (r25_25 ..) (cgT (r25_26 ..))))) (tr (r25_9 ..) (tr (r25_10 ..) (cgT (tr (r25_11 ..) (tr (r25_12 ..) (cgT (tr (r25_13 ..) (cgT (tr (r25_14 ..) (tr (r25_15 ..) (cgB (tr (r25_23 ..) (tr (r25_24 ..) (tr (r25_25 ..) (cgT (r25_26 ..))))) (tr (r25_16 ..) (tr (r25_17 ..) (tr (r25_18 ..) (cgT (tr (r25_19 ..) (tr (r25_20 ..) (r25_21 ..))))))))))))))))))))))))))
theorem b25_22 (x0 : Nat) (h : A_H) : R 25 22 [some (.ref x0)] [] h = (R 25 4 [some (.ref x0)] [] h) := (r25_22 ..)
theorem b25_27 (x0 : Nat) (h : A_H) : R 25 27 [some (.ref x0)] [] h = (cond (isO h x0 7) (cond (isO h x0 7) (cond (decide ((hI h x0 7) < (hI h x0 1))) (cond (isO h x0 7 && (hP h x0 0).isSome) (cond (isO h x0 7) (cond (isA h ((hP h x0 0).getD 0) 1 (hI h x0 7)) (cond (decide ((hI h ((hP h x0 0).getD 0) ((hI h x0 7)).toNatClampNeg) < (97 : Int32))) (cond (isO h x0 7 && (hP h x0 0).isSome) (cond (isO h x0 7) (cond (isA h ((hP h x0 0).getD 0) 1 (hI h x0 7)) (cond (decide ((hI h ((hP h x0 0).getD 0) ((hI h x0 7)).toNatClampNeg) < (48 : Int32))) (cond (isO h x0 7 && (hP h x0 0).isSome) (cond (isO h x0 7) (cond (isA h ((hP h x0 0).getD 0) 1 (hI h x0 7)) (cond (!decide ((hI h ((hP h x0 0).getD 0) ((hI h x0 7)).toNatClampNeg) = (59 : Int32))) (cond (isO h x0 7) (R 25 82 [some (.ref x0)] [] (wI h x0 6 (4 : Int32))) none) (cond (isO h x0 7) (R 25 82 [some (.ref x0)] [] (wI h x0 6 (3 : Int32))) none)) none) none) none) (cond (isO h x0 7 && (hP h x0 0).isSome) (cond (isO h x0 7) (cond (isA h ((hP h x0 0).getD 0) 1 (hI h x0 7)) (cond (decide ((57 : Int32) < (hI h ((hP h x0 0).getD 0) ((hI h x0 7)).toNatClampNeg))) (cond (isO h x0 7 && (hP h x0 0).isSome) (cond (isO h x0 7) (cond (isA h ((hP h x0 0).getD 0) 1 (hI h x0 7)) (cond (!decide ((hI h ((hP h x0 0).getD 0) ((hI h x0 7)).toNatClampNeg) = (59 : Int32))) (cond (isO h x0 7) (R 25 82 [some (.ref x0)] [] (wI h x0 6 (4 : Int32))) none) (cond (isO h x0 7) (R 25 82 [some (.ref x0)] [] (wI h x0 6 (3 : Int32))) none)) none) none) none) (cond (isO h x0 7) (a_back R 25 (27, [.ref x0], h, false, none, 69, [some (.ref x0)], []) (C 27 [.ref x0] h)) none)) none) none) none)) none) none) none) (cond (isO h x0 7 && (hP h x0 0).isSome) (cond (isO h x0 7) (cond (isA h ((hP h x0 0).getD 0) 1 (hI h x0 7)) (cond (decide ((122 : Int32) < (hI h ((hP h x0 0).getD 0) ((hI h x0 7)).toNatClampNeg))) (cond (isO h x0 7 && (hP h x0 0).isSome) (cond (isO h x0 7) (cond (isA h ((hP h x0 0).getD 0) 1 (hI h x0 7)) (cond (decide ((hI h ((hP h x0 0).getD 0) ((hI h x0 7)).toNatClampNeg) < (48 : Int32))) (cond (isO h x0 7 && (hP h x0 0).isSome) (cond (isO h x0 7) (cond (isA h ((hP h x0 0).getD 0) 1 (hI h x0 7)) (cond (!decide ((hI h ((hP h x0 0).getD 0) ((hI h x0 7)).toNatClampNeg) = (59 : Int32))) (cond (isO h x0 7) (R 25 82 [some (.ref x0)] [] (wI h x0 6 (4 : Int32))) none) (cond (isO h x0 7) (R 25 82 [some (.ref x0)] [] (wI h x0 6 (3 : Int32))) none)) none) none) none) (cond (isO h x0 7 && (hP h x0 0).isSome) (cond (isO h x0 7) (cond (isA h ((hP h x0 0).getD 0) 1 (hI h x0 7)) (cond (decide ((57 : Int32) < (hI h ((hP h x0 0).getD 0) ((hI h x0 7)).toNatClampNeg))) (cond (isO h x0 7 && (hP h x0 0).isSome) (cond (isO h x0 7) (cond (isA h ((hP h x0 0).getD 0) 1 (hI h x0 7)) (cond (!decide ((hI h ((hP h x0 0).getD 0) ((hI h x0 7)).toNatClampNeg) = (59 : Int32))) (cond (isO h x0 7) (R 25 82 [some (.ref x0)] [] (wI h x0 6 (4 : Int32))) none) (cond (isO h x0 7) (R 25 82 [some (.ref x0)] [] (wI h x0 6 (3 : Int32))) none)) none) none) none) (cond (isO h x0 7) (a_back R 25 (27, [.ref x0], h, false, none, 69, [some (.ref x0)], []) (C 27 [.ref x0] h)) none)) none) none) none)) none) none) none) (cond (isO h x0 7) (a_back R 25 (26, [.ref x0], h, false, none, 52, [some (.ref x0)], []) (C 26 [.ref x0] h)) none)) none) none) none)) none) none) none) (cond (isO h x0 7) (R 25 35 [some (.ref x0)] [] (wI h x0 6 (0 : Int32))) none)) none) none) := (tr (r25_27 ..) (tr (r25_28 ..) (cgT (tr (r25_29 ..) (tr (r25_30 ..) (cgT (tr (r25_31 ..) (cgB (tr (r25_36 ..) (tr (r25_37 ..) (cgT (tr (r25_38 ..) (tr (r25_39 ..) (cgT (tr (r25_40 ..) (cgT (tr (r25_41 ..) (tr (r25_42 ..) (cgB (tr (r25_53 ..) (tr (r25_54 ..) (cgT (tr (r25_55 ..) (tr (r25_56 ..) (cgT (tr (r25_57 ..) (cgT (tr (r25_58 ..) (tr (r25_59 ..) (cgB (tr (r25_70 ..) (tr (r25_71 ..) (tr (r25_72 ..) (cgT (tr (r25_73 ..) (tr (r25_74 ..) (cgT (tr (r25_75 ..) (cgT (tr (r25_76 ..) (tr (r25_77 ..) (cgB (tr (r25_80 ..) (r25_81 ..)) (tr (r25_78 ..) (tr (r25_79 ..) (r25_81 ..))))))))))))))) (tr (r25_60 ..) (tr (r25_61 ..) (cgT (tr (r25_62 ..) (tr (r25_63 ..) (cgT (tr (r25_64 ..) (cgT (tr (r25_65 ..) (tr (r25_66 ..) (cgB (tr (r25_70 ..) (tr (r25_71 ..) (tr (r25_72 ..) (cgT (tr (r25_73 ..) (tr (r25_74 ..) (cgT (tr (r25_75 ..) (cgT (tr (r25_76 ..) (tr (r25_77 ..) (cgB (tr (r25_80 ..) (r25_81 ..)) (tr (r25_78 ..) (tr (r25_79 ..) (r25_81 ..))))))))))))))) (tr (r25_67 ..) (r25_68 ..)))))))))))))))))))))))) (tr (r25_43 ..) (tr (r25_44 ..) (cgT (tr (r25_45 ..) (tr (r25_46 ..) (cgT (tr (r25_47 ..) (cgT (tr (r25_48 ..) (tr (r25_49 ..) (cgB (tr (r25_53 ..) (tr (r25_54 ..) (cgT (tr (r25_55 ..) (tr (r25_56 ..) (cgT (tr (r25_57 ..) (cgT (tr (r25_58 ..) (tr (r25_59 ..) (cgB (tr (r25_70 ..) (tr (r25_71 ..) (tr (r25_72 ..) (cgT (tr (r25_73 ..) (tr (r25_74 ..) (cgT (tr (r25_75 ..) (cgT (tr (r25_76 ..) (tr (r25_77 ..) (cgB (tr (r25_80 ..) (r25_81 ..)) (tr (r25_78 ..) (tr (r25_79 ..) (r25_81 ..))))))))))))))) (tr (r25_60 ..) (tr (r25_61 ..) (cgT (tr (r25_62 ..) (tr (r25_63 ..) (cgT (tr (r25_64 ..) (cgT (tr (r25_65 ..) (tr (r25_66 ..) (cgB (tr (r25_70 ..) (tr (r25_71 ..) (tr (r25_72 ..) (cgT (tr (r25_73 ..) (tr (r25_74 ..) (cgT (tr (r25_75 ..) (cgT (tr (r25_76 ..) (tr (r25_77 ..) (cgB (tr (r25_80 ..) (r25_81 ..)) (tr (r25_78 ..) (tr (r25_79 ..) (r25_81 ..))))))))))))))) (tr (r25_67 ..) (r25_68 ..)))))))))))))))))))))))) (tr (r25_50 ..) (r25_51 ..)))))))))))))))))))))))) (tr (r25_32 ..) (tr (r25_33 ..) (r25_34 ..)))))))))))
theorem b25_35 (x0 : Nat) (h : A_H) : R 25 35 [some (.ref x0)] [] h = (some (some none, h)) := (tr (r25_35 ..) (r25_88 ..))
theorem b25_52 (x0 : Nat) (h : A_H) : R 25 52 [some (.ref x0)] [] h = (some (some none, h)) := (tr (r25_52 ..) (r25_88 ..))
theorem b25_69 (x0 : Nat) (h : A_H) : R 25 69 [some (.ref x0)] [] h = (some (some none, h)) := (tr (r25_69 ..) (r25_88 ..))
theorem b25_82 (x0 : Nat) (h : A_H) : R 25 82 [some (.ref x0)] [] h = (cond (isO h x0 7) (cond (isO h x0 7) (R 25 88 [some (.ref x0)] [] (wI h x0 8 ((hI h x0 8) + (1 : Int32)))) none) none) := (tr (r25_82 ..) (tr (r25_83 ..) (tr (r25_84 ..) (cgT (tr (r25_85 ..) (tr (r25_86 ..) (r25_87 ..)))))))
theorem b25_88 (x0 : Nat) (h : A_H) : R 25 88 [some (.ref x0)] [] h = (some (some none, h)) := (r25_88 ..)
theorem e26 (x0 : Nat) (h : A_H) : C 26 [.ref x0] h = R 26 0 [some (.ref x0)] [] h := rfl
theorem r26_0 (ls : A_V) (st : List Value) (h : A_H) : R 26 0 ls st h = a_do a_nL R R 26 (s_aldl 0 1 ls st h) := a_R_eq ..
theorem r26_1 (ls : A_V) (st : List Value) (h : A_H) : R 26 1 ls st h = a_do a_nL R R 26 (s_push (.long 0) 2 ls st h) := a_R_eq ..
theorem r26_2 (ls : A_V) (st : List Value) (h : A_H) : R 26 2 ls st h = a_do a_nL R R 26 (s_putL 7 9 3 ls st h) := a_R_eq ..
theorem r26_3 (ls : A_V) (st : List Value) (h : A_H) : R 26 3 ls st h = a_do a_nL R R 26 (s_aldl 0 4 ls st h) := a_R_eq ..
theorem r26_4 (ls : A_V) (st : List Value) (h : A_H) : R 26 4 ls st h = a_do a_nL R R 26 (s_getI 7 8 5 ls st h) := a_R_eq ..
theorem r26_5 (ls : A_V) (st : List Value) (h : A_H) : R 26 5 ls st h = a_do a_nL R R 26 (s_aldl 0 6 ls st h) := a_R_eq ..
theorem r26_6 (ls : A_V) (st : List Value) (h : A_H) : R 26 6 ls st h = a_do a_nL R R 26 (s_getI 7 1 7 ls st h) := a_R_eq ..
theorem r26_7 (ls : A_V) (st : List Value) (h : A_H) : R 26 7 ls st h = a_do a_nL R R 26 (s_if2 (fun x y => decide (y ≤ x)) 46 8 ls st h) := a_R_eq ..
theorem r26_8 (ls : A_V) (st : List Value) (h : A_H) : R 26 8 ls st h = a_do a_nL R R 26 (s_aldl 0 9 ls st h) := a_R_eq ..
theorem r26_9 (ls : A_V) (st : List Value) (h : A_H) : R 26 9 ls st h = a_do a_nL R R 26 (s_getR 7 0 10 ls st h) := a_R_eq ..
theorem r26_10 (ls : A_V) (st : List Value) (h : A_H) : R 26 10 ls st h = a_do a_nL R R 26 (s_aldl 0 11 ls st h) := a_R_eq ..
theorem r26_11 (ls : A_V) (st : List Value) (h : A_H) : R 26 11 ls st h = a_do a_nL R R 26 (s_getI 7 8 12 ls st h) := a_R_eq ..
theorem r26_12 (ls : A_V) (st : List Value) (h : A_H) : R 26 12 ls st h = a_do a_nL R R 26 (s_ial 1 13 ls st h) := a_R_eq ..
theorem r26_13 (ls : A_V) (st : List Value) (h : A_H) : R 26 13 ls st h = a_do a_nL R R 26 (s_push (.int 97) 14 ls st h) := a_R_eq ..
theorem r26_14 (ls : A_V) (st : List Value) (h : A_H) : R 26 14 ls st h = a_do a_nL R R 26 (s_if2 (fun x y => decide (x < y)) 46 15 ls st h) := a_R_eq ..
theorem r26_15 (ls : A_V) (st : List Value) (h : A_H) : R 26 15 ls st h = a_do a_nL R R 26 (s_aldl 0 16 ls st h) := a_R_eq ..
theorem r26_16 (ls : A_V) (st : List Value) (h : A_H) : R 26 16 ls st h = a_do a_nL R R 26 (s_getR 7 0 17 ls st h) := a_R_eq ..
theorem r26_17 (ls : A_V) (st : List Value) (h : A_H) : R 26 17 ls st h = a_do a_nL R R 26 (s_aldl 0 18 ls st h) := a_R_eq ..
theorem r26_18 (ls : A_V) (st : List Value) (h : A_H) : R 26 18 ls st h = a_do a_nL R R 26 (s_getI 7 8 19 ls st h) := a_R_eq ..
theorem r26_19 (ls : A_V) (st : List Value) (h : A_H) : R 26 19 ls st h = a_do a_nL R R 26 (s_ial 1 20 ls st h) := a_R_eq ..
theorem r26_20 (ls : A_V) (st : List Value) (h : A_H) : R 26 20 ls st h = a_do a_nL R R 26 (s_push (.int 122) 21 ls st h) := a_R_eq ..
theorem r26_21 (ls : A_V) (st : List Value) (h : A_H) : R 26 21 ls st h = a_do a_nL R R 26 (s_if2 (fun x y => decide (y < x)) 46 22 ls st h) := a_R_eq ..
theorem r26_22 (ls : A_V) (st : List Value) (h : A_H) : R 26 22 ls st h = a_do a_nL R R 26 (s_aldl 0 23 ls st h) := a_R_eq ..
theorem r26_23 (ls : A_V) (st : List Value) (h : A_H) : R 26 23 ls st h = a_do a_nL R R 26 (s_push (.long 32) 24 ls st h) := a_R_eq ..
theorem r26_24 (ls : A_V) (st : List Value) (h : A_H) : R 26 24 ls st h = a_do a_nL R R 26 (s_aldl 0 25 ls st h) := a_R_eq ..
theorem r26_25 (ls : A_V) (st : List Value) (h : A_H) : R 26 25 ls st h = a_do a_nL R R 26 (s_getL 7 9 26 ls st h) := a_R_eq ..
theorem r26_26 (ls : A_V) (st : List Value) (h : A_H) : R 26 26 ls st h = a_do a_nL R R 26 (s_bl (fun x y => x * y) 27 ls st h) := a_R_eq ..
theorem r26_27 (ls : A_V) (st : List Value) (h : A_H) : R 26 27 ls st h = a_do a_nL R R 26 (s_aldl 0 28 ls st h) := a_R_eq ..
theorem r26_28 (ls : A_V) (st : List Value) (h : A_H) : R 26 28 ls st h = a_do a_nL R R 26 (s_getR 7 0 29 ls st h) := a_R_eq ..
theorem r26_29 (ls : A_V) (st : List Value) (h : A_H) : R 26 29 ls st h = a_do a_nL R R 26 (s_aldl 0 30 ls st h) := a_R_eq ..
theorem r26_30 (ls : A_V) (st : List Value) (h : A_H) : R 26 30 ls st h = a_do a_nL R R 26 (s_getI 7 8 31 ls st h) := a_R_eq ..
theorem r26_31 (ls : A_V) (st : List Value) (h : A_H) : R 26 31 ls st h = a_do a_nL R R 26 (s_ial 1 32 ls st h) := a_R_eq ..
theorem r26_32 (ls : A_V) (st : List Value) (h : A_H) : R 26 32 ls st h = a_do a_nL R R 26 (s_i2l 33 ls st h) := a_R_eq ..
theorem r26_33 (ls : A_V) (st : List Value) (h : A_H) : R 26 33 ls st h = a_do a_nL R R 26 (s_bl (fun x y => x + y) 34 ls st h) := a_R_eq ..
theorem r26_34 (ls : A_V) (st : List Value) (h : A_H) : R 26 34 ls st h = a_do a_nL R R 26 (s_push (.long 97) 35 ls st h) := a_R_eq ..
theorem r26_35 (ls : A_V) (st : List Value) (h : A_H) : R 26 35 ls st h = a_do a_nL R R 26 (s_bl (fun x y => x - y) 36 ls st h) := a_R_eq ..
theorem r26_36 (ls : A_V) (st : List Value) (h : A_H) : R 26 36 ls st h = a_do a_nL R R 26 (s_push (.long 1) 37 ls st h) := a_R_eq ..
theorem r26_37 (ls : A_V) (st : List Value) (h : A_H) : R 26 37 ls st h = a_do a_nL R R 26 (s_bl (fun x y => x + y) 38 ls st h) := a_R_eq ..
theorem r26_38 (ls : A_V) (st : List Value) (h : A_H) : R 26 38 ls st h = a_do a_nL R R 26 (s_putL 7 9 39 ls st h) := a_R_eq ..
theorem r26_39 (ls : A_V) (st : List Value) (h : A_H) : R 26 39 ls st h = a_do a_nL R R 26 (s_aldl 0 40 ls st h) := a_R_eq ..
theorem r26_40 (ls : A_V) (st : List Value) (h : A_H) : R 26 40 ls st h = a_do a_nL R R 26 (s_dup 41 ls st h) := a_R_eq ..
theorem r26_41 (ls : A_V) (st : List Value) (h : A_H) : R 26 41 ls st h = a_do a_nL R R 26 (s_getI 7 8 42 ls st h) := a_R_eq ..
theorem r26_42 (ls : A_V) (st : List Value) (h : A_H) : R 26 42 ls st h = a_do a_nL R R 26 (s_push (.int 1) 43 ls st h) := a_R_eq ..
theorem r26_43 (ls : A_V) (st : List Value) (h : A_H) : R 26 43 ls st h = a_do a_nL R R 26 (s_bi (fun x y => x + y) 44 ls st h) := a_R_eq ..
theorem r26_44 (ls : A_V) (st : List Value) (h : A_H) : R 26 44 ls st h = a_do a_nL R R 26 (s_putI 7 8 45 ls st h) := a_R_eq ..
theorem r26_45 (ls : A_V) (st : List Value) (h : A_H) : R 26 45 ls st h = a_do a_nL R R 26 (s_goto 3 ls st h) := a_R_eq ..
theorem r26_46 (ls : A_V) (st : List Value) (h : A_H) : R 26 46 ls st h = a_do a_nL R R 26 (s_aldl 0 47 ls st h) := a_R_eq ..
theorem r26_47 (ls : A_V) (st : List Value) (h : A_H) : R 26 47 ls st h = a_do a_nL R R 26 (s_aldl 0 48 ls st h) := a_R_eq ..
theorem r26_48 (ls : A_V) (st : List Value) (h : A_H) : R 26 48 ls st h = a_do a_nL R R 26 (s_getI 7 8 49 ls st h) := a_R_eq ..
theorem r26_49 (ls : A_V) (st : List Value) (h : A_H) : R 26 49 ls st h = a_do a_nL R R 26 (s_aldl 0 50 ls st h) := a_R_eq ..
theorem r26_50 (ls : A_V) (st : List Value) (h : A_H) : R 26 50 ls st h = a_do a_nL R R 26 (s_getI 7 7 51 ls st h) := a_R_eq ..
theorem r26_51 (ls : A_V) (st : List Value) (h : A_H) : R 26 51 ls st h = a_do a_nL R R 26 (s_bi (fun x y => x - y) 52 ls st h) := a_R_eq ..
theorem r26_52 (ls : A_V) (st : List Value) (h : A_H) : R 26 52 ls st h = a_do a_nL R R 26 (s_push (.int 9) 53 ls st h) := a_R_eq ..
theorem r26_53 (ls : A_V) (st : List Value) (h : A_H) : R 26 53 ls st h = a_do a_nL R R 26 (s_if2 (fun x y => decide (y < x)) 56 54 ls st h) := a_R_eq ..
theorem r26_54 (ls : A_V) (st : List Value) (h : A_H) : R 26 54 ls st h = a_do a_nL R R 26 (s_push (.int 1) 55 ls st h) := a_R_eq ..
theorem r26_55 (ls : A_V) (st : List Value) (h : A_H) : R 26 55 ls st h = a_do a_nL R R 26 (s_goto 57 ls st h) := a_R_eq ..
theorem r26_56 (ls : A_V) (st : List Value) (h : A_H) : R 26 56 ls st h = a_do a_nL R R 26 (s_push (.int 4) 57 ls st h) := a_R_eq ..
theorem r26_57 (ls : A_V) (st : List Value) (h : A_H) : R 26 57 ls st h = a_do a_nL R R 26 (s_putI 7 6 58 ls st h) := a_R_eq ..
theorem r26_58 (ls : A_V) (st : List Value) (h : A_H) : R 26 58 ls st h = a_do a_nL R R 26 (s_vret ls st h) := a_R_eq ..
theorem b26_0 (x0 : Nat) (h : A_H) : R 26 0 [some (.ref x0)] [] h = (cond (isO h x0 7) (R 26 3 [some (.ref x0)] [] (wL h x0 9 (0 : Int64))) none) := (tr (r26_0 ..) (tr (r26_1 ..) (r26_2 ..)))
theorem b26_3 (x0 : Nat) (h : A_H) : R 26 3 [some (.ref x0)] [] h = (cond (isO h x0 7) (cond (isO h x0 7) (cond (decide ((hI h x0 1) ≤ (hI h x0 8))) (cond (isO h x0 7) (cond (isO h x0 7) (cond (decide ((9 : Int32) < ((hI h x0 8) - (hI h x0 7)))) (cond (isO h x0 7) (R 26 58 [some (.ref x0)] [] (wI h x0 6 (4 : Int32))) none) (cond (isO h x0 7) (R 26 58 [some (.ref x0)] [] (wI h x0 6 (1 : Int32))) none)) none) none) (cond (isO h x0 7 && (hP h x0 0).isSome) (cond (isO h x0 7) (cond (isA h ((hP h x0 0).getD 0) 1 (hI h x0 8)) (cond (decide ((hI h ((hP h x0 0).getD 0) ((hI h x0 8)).toNatClampNeg) < (97 : Int32))) (cond (isO h x0 7) (cond (isO h x0 7) (cond (decide ((9 : Int32) < ((hI h x0 8) - (hI h x0 7)))) (cond (isO h x0 7) (R 26 58 [some (.ref x0)] [] (wI h x0 6 (4 : Int32))) none) (cond (isO h x0 7) (R 26 58 [some (.ref x0)] [] (wI h x0 6 (1 : Int32))) none)) none) none) (cond (isO h x0 7 && (hP h x0 0).isSome) (cond (isO h x0 7) (cond (isA h ((hP h x0 0).getD 0) 1 (hI h x0 8)) (cond (decide ((122 : Int32) < (hI h ((hP h x0 0).getD 0) ((hI h x0 8)).toNatClampNeg))) (cond (isO h x0 7) (cond (isO h x0 7) (cond (decide ((9 : Int32) < ((hI h x0 8) - (hI h x0 7)))) (cond (isO h x0 7) (R 26 58 [some (.ref x0)] [] (wI h x0 6 (4 : Int32))) none) (cond (isO h x0 7) (R 26 58 [some (.ref x0)] [] (wI h x0 6 (1 : Int32))) none)) none) none) (cond (isO h x0 7) (cond (isO h x0 7 && (hP h x0 0).isSome) (cond (isO h x0 7) (cond (isA h ((hP h x0 0).getD 0) 1 (hI h x0 8)) (cond (isO h x0 7) (R 26 39 [some (.ref x0)] [] (wL h x0 9 (((((32 : Int64) * (hL h x0 9)) + ((hI h ((hP h x0 0).getD 0) ((hI h x0 8)).toNatClampNeg)).toInt64) - (97 : Int64)) + (1 : Int64)))) none) none) none) none) none)) none) none) none)) none) none) none)) none) none) := (tr (r26_3 ..) (tr (r26_4 ..) (cgT (tr (r26_5 ..) (tr (r26_6 ..) (cgT (tr (r26_7 ..) (cgB (tr (r26_46 ..) (tr (r26_47 ..) (tr (r26_48 ..) (cgT (tr (r26_49 ..) (tr (r26_50 ..) (cgT (tr (r26_51 ..) (tr (r26_52 ..) (tr (r26_53 ..) (cgB (tr (r26_56 ..) (r26_57 ..)) (tr (r26_54 ..) (tr (r26_55 ..) (r26_57 ..)))))))))))))) (tr (r26_8 ..) (tr (r26_9 ..) (cgT (tr (r26_10 ..) (tr (r26_11 ..) (cgT (tr (r26_12 ..) (cgT (tr (r26_13 ..) (tr (r26_14 ..) (cgB (tr (r26_46 ..) (tr (r26_47 ..) (tr (r26_48 ..) (cgT (tr (r26_49 ..) (tr (r26_50 ..) (cgT (tr (r26_51 ..) (tr (r26_52 ..) (tr (r26_53 ..) (cgB (tr (r26_56 ..) (r26_57 ..)) (tr (r26_54 ..) (tr (r26_55 ..) (r26_57 ..)))))))))))))) (tr (r26_15 ..) (tr (r26_16 ..) (cgT (tr (r26_17 ..) (tr (r26_18 ..) (cgT (tr (r26_19 ..) (cgT (tr (r26_20 ..) (tr (r26_21 ..) (cgB (tr (r26_46 ..) (tr (r26_47 ..) (tr (r26_48 ..) (cgT (tr (r26_49 ..) (tr (r26_50 ..) (cgT (tr (r26_51 ..) (tr (r26_52 ..) (tr (r26_53 ..) (cgB (tr (r26_56 ..) (r26_57 ..)) (tr (r26_54 ..) (tr (r26_55 ..) (r26_57 ..)))))))))))))) (tr (r26_22 ..) (tr (r26_23 ..) (tr (r26_24 ..) (tr (r26_25 ..) (cgT (tr (r26_26 ..) (tr (r26_27 ..) (tr (r26_28 ..) (cgT (tr (r26_29 ..) (tr (r26_30 ..) (cgT (tr (r26_31 ..) (cgT (tr (r26_32 ..) (tr (r26_33 ..) (tr (r26_34 ..) (tr (r26_35 ..) (tr (r26_36 ..) (tr (r26_37 ..) (r26_38 ..)))))))))))))))))))))))))))))))))))))))))))))))))))
theorem b26_39 (x0 : Nat) (h : A_H) : R 26 39 [some (.ref x0)] [] h = (cond (isO h x0 7) (cond (isO h x0 7) (R 26 45 [some (.ref x0)] [] (wI h x0 8 ((hI h x0 8) + (1 : Int32)))) none) none) := (tr (r26_39 ..) (tr (r26_40 ..) (tr (r26_41 ..) (cgT (tr (r26_42 ..) (tr (r26_43 ..) (r26_44 ..)))))))
theorem b26_45 (x0 : Nat) (h : A_H) : R 26 45 [some (.ref x0)] [] h = (R 26 3 [some (.ref x0)] [] h) := (r26_45 ..)
theorem b26_58 (x0 : Nat) (h : A_H) : R 26 58 [some (.ref x0)] [] h = (some (some none, h)) := (r26_58 ..)
theorem e27 (x0 : Nat) (h : A_H) : C 27 [.ref x0] h = R 27 0 [some (.ref x0)] [] h := rfl
theorem r27_0 (ls : A_V) (st : List Value) (h : A_H) : R 27 0 ls st h = a_do a_nL R R 27 (s_aldl 0 1 ls st h) := a_R_eq ..
theorem r27_1 (ls : A_V) (st : List Value) (h : A_H) : R 27 1 ls st h = a_do a_nL R R 27 (s_push (.long 0) 2 ls st h) := a_R_eq ..
theorem r27_2 (ls : A_V) (st : List Value) (h : A_H) : R 27 2 ls st h = a_do a_nL R R 27 (s_putL 7 9 3 ls st h) := a_R_eq ..
theorem r27_3 (ls : A_V) (st : List Value) (h : A_H) : R 27 3 ls st h = a_do a_nL R R 27 (s_aldl 0 4 ls st h) := a_R_eq ..
theorem r27_4 (ls : A_V) (st : List Value) (h : A_H) : R 27 4 ls st h = a_do a_nL R R 27 (s_getI 7 8 5 ls st h) := a_R_eq ..
theorem r27_5 (ls : A_V) (st : List Value) (h : A_H) : R 27 5 ls st h = a_do a_nL R R 27 (s_aldl 0 6 ls st h) := a_R_eq ..
theorem r27_6 (ls : A_V) (st : List Value) (h : A_H) : R 27 6 ls st h = a_do a_nL R R 27 (s_getI 7 1 7 ls st h) := a_R_eq ..
theorem r27_7 (ls : A_V) (st : List Value) (h : A_H) : R 27 7 ls st h = a_do a_nL R R 27 (s_if2 (fun x y => decide (y ≤ x)) 44 8 ls st h) := a_R_eq ..
theorem r27_8 (ls : A_V) (st : List Value) (h : A_H) : R 27 8 ls st h = a_do a_nL R R 27 (s_aldl 0 9 ls st h) := a_R_eq ..
theorem r27_9 (ls : A_V) (st : List Value) (h : A_H) : R 27 9 ls st h = a_do a_nL R R 27 (s_getR 7 0 10 ls st h) := a_R_eq ..
theorem r27_10 (ls : A_V) (st : List Value) (h : A_H) : R 27 10 ls st h = a_do a_nL R R 27 (s_aldl 0 11 ls st h) := a_R_eq ..
theorem r27_11 (ls : A_V) (st : List Value) (h : A_H) : R 27 11 ls st h = a_do a_nL R R 27 (s_getI 7 8 12 ls st h) := a_R_eq ..
theorem r27_12 (ls : A_V) (st : List Value) (h : A_H) : R 27 12 ls st h = a_do a_nL R R 27 (s_ial 1 13 ls st h) := a_R_eq ..
theorem r27_13 (ls : A_V) (st : List Value) (h : A_H) : R 27 13 ls st h = a_do a_nL R R 27 (s_push (.int 48) 14 ls st h) := a_R_eq ..
theorem r27_14 (ls : A_V) (st : List Value) (h : A_H) : R 27 14 ls st h = a_do a_nL R R 27 (s_if2 (fun x y => decide (x < y)) 44 15 ls st h) := a_R_eq ..
theorem r27_15 (ls : A_V) (st : List Value) (h : A_H) : R 27 15 ls st h = a_do a_nL R R 27 (s_aldl 0 16 ls st h) := a_R_eq ..
theorem r27_16 (ls : A_V) (st : List Value) (h : A_H) : R 27 16 ls st h = a_do a_nL R R 27 (s_getR 7 0 17 ls st h) := a_R_eq ..
theorem r27_17 (ls : A_V) (st : List Value) (h : A_H) : R 27 17 ls st h = a_do a_nL R R 27 (s_aldl 0 18 ls st h) := a_R_eq ..
theorem r27_18 (ls : A_V) (st : List Value) (h : A_H) : R 27 18 ls st h = a_do a_nL R R 27 (s_getI 7 8 19 ls st h) := a_R_eq ..
theorem r27_19 (ls : A_V) (st : List Value) (h : A_H) : R 27 19 ls st h = a_do a_nL R R 27 (s_ial 1 20 ls st h) := a_R_eq ..
theorem r27_20 (ls : A_V) (st : List Value) (h : A_H) : R 27 20 ls st h = a_do a_nL R R 27 (s_push (.int 57) 21 ls st h) := a_R_eq ..
theorem r27_21 (ls : A_V) (st : List Value) (h : A_H) : R 27 21 ls st h = a_do a_nL R R 27 (s_if2 (fun x y => decide (y < x)) 44 22 ls st h) := a_R_eq ..
theorem r27_22 (ls : A_V) (st : List Value) (h : A_H) : R 27 22 ls st h = a_do a_nL R R 27 (s_aldl 0 23 ls st h) := a_R_eq ..
theorem r27_23 (ls : A_V) (st : List Value) (h : A_H) : R 27 23 ls st h = a_do a_nL R R 27 (s_push (.long 10) 24 ls st h) := a_R_eq ..
theorem r27_24 (ls : A_V) (st : List Value) (h : A_H) : R 27 24 ls st h = a_do a_nL R R 27 (s_aldl 0 25 ls st h) := a_R_eq ..
theorem r27_25 (ls : A_V) (st : List Value) (h : A_H) : R 27 25 ls st h = a_do a_nL R R 27 (s_getL 7 9 26 ls st h) := a_R_eq ..
theorem r27_26 (ls : A_V) (st : List Value) (h : A_H) : R 27 26 ls st h = a_do a_nL R R 27 (s_bl (fun x y => x * y) 27 ls st h) := a_R_eq ..
theorem r27_27 (ls : A_V) (st : List Value) (h : A_H) : R 27 27 ls st h = a_do a_nL R R 27 (s_aldl 0 28 ls st h) := a_R_eq ..
theorem r27_28 (ls : A_V) (st : List Value) (h : A_H) : R 27 28 ls st h = a_do a_nL R R 27 (s_getR 7 0 29 ls st h) := a_R_eq ..
theorem r27_29 (ls : A_V) (st : List Value) (h : A_H) : R 27 29 ls st h = a_do a_nL R R 27 (s_aldl 0 30 ls st h) := a_R_eq ..
theorem r27_30 (ls : A_V) (st : List Value) (h : A_H) : R 27 30 ls st h = a_do a_nL R R 27 (s_getI 7 8 31 ls st h) := a_R_eq ..
theorem r27_31 (ls : A_V) (st : List Value) (h : A_H) : R 27 31 ls st h = a_do a_nL R R 27 (s_ial 1 32 ls st h) := a_R_eq ..
theorem r27_32 (ls : A_V) (st : List Value) (h : A_H) : R 27 32 ls st h = a_do a_nL R R 27 (s_i2l 33 ls st h) := a_R_eq ..
theorem r27_33 (ls : A_V) (st : List Value) (h : A_H) : R 27 33 ls st h = a_do a_nL R R 27 (s_bl (fun x y => x + y) 34 ls st h) := a_R_eq ..
theorem r27_34 (ls : A_V) (st : List Value) (h : A_H) : R 27 34 ls st h = a_do a_nL R R 27 (s_push (.long 48) 35 ls st h) := a_R_eq ..
theorem r27_35 (ls : A_V) (st : List Value) (h : A_H) : R 27 35 ls st h = a_do a_nL R R 27 (s_bl (fun x y => x - y) 36 ls st h) := a_R_eq ..
theorem r27_36 (ls : A_V) (st : List Value) (h : A_H) : R 27 36 ls st h = a_do a_nL R R 27 (s_putL 7 9 37 ls st h) := a_R_eq ..
theorem r27_37 (ls : A_V) (st : List Value) (h : A_H) : R 27 37 ls st h = a_do a_nL R R 27 (s_aldl 0 38 ls st h) := a_R_eq ..
theorem r27_38 (ls : A_V) (st : List Value) (h : A_H) : R 27 38 ls st h = a_do a_nL R R 27 (s_dup 39 ls st h) := a_R_eq ..
theorem r27_39 (ls : A_V) (st : List Value) (h : A_H) : R 27 39 ls st h = a_do a_nL R R 27 (s_getI 7 8 40 ls st h) := a_R_eq ..
theorem r27_40 (ls : A_V) (st : List Value) (h : A_H) : R 27 40 ls st h = a_do a_nL R R 27 (s_push (.int 1) 41 ls st h) := a_R_eq ..
theorem r27_41 (ls : A_V) (st : List Value) (h : A_H) : R 27 41 ls st h = a_do a_nL R R 27 (s_bi (fun x y => x + y) 42 ls st h) := a_R_eq ..
theorem r27_42 (ls : A_V) (st : List Value) (h : A_H) : R 27 42 ls st h = a_do a_nL R R 27 (s_putI 7 8 43 ls st h) := a_R_eq ..
theorem r27_43 (ls : A_V) (st : List Value) (h : A_H) : R 27 43 ls st h = a_do a_nL R R 27 (s_goto 3 ls st h) := a_R_eq ..
theorem r27_44 (ls : A_V) (st : List Value) (h : A_H) : R 27 44 ls st h = a_do a_nL R R 27 (s_aldl 0 45 ls st h) := a_R_eq ..
theorem r27_45 (ls : A_V) (st : List Value) (h : A_H) : R 27 45 ls st h = a_do a_nL R R 27 (s_aldl 0 46 ls st h) := a_R_eq ..
theorem r27_46 (ls : A_V) (st : List Value) (h : A_H) : R 27 46 ls st h = a_do a_nL R R 27 (s_getI 7 8 47 ls st h) := a_R_eq ..
theorem r27_47 (ls : A_V) (st : List Value) (h : A_H) : R 27 47 ls st h = a_do a_nL R R 27 (s_aldl 0 48 ls st h) := a_R_eq ..
theorem r27_48 (ls : A_V) (st : List Value) (h : A_H) : R 27 48 ls st h = a_do a_nL R R 27 (s_getI 7 7 49 ls st h) := a_R_eq ..
theorem r27_49 (ls : A_V) (st : List Value) (h : A_H) : R 27 49 ls st h = a_do a_nL R R 27 (s_bi (fun x y => x - y) 50 ls st h) := a_R_eq ..
theorem r27_50 (ls : A_V) (st : List Value) (h : A_H) : R 27 50 ls st h = a_do a_nL R R 27 (s_push (.int 3) 51 ls st h) := a_R_eq ..
theorem r27_51 (ls : A_V) (st : List Value) (h : A_H) : R 27 51 ls st h = a_do a_nL R R 27 (s_if2 (fun x y => decide (y < x)) 54 52 ls st h) := a_R_eq ..
theorem r27_52 (ls : A_V) (st : List Value) (h : A_H) : R 27 52 ls st h = a_do a_nL R R 27 (s_push (.int 2) 53 ls st h) := a_R_eq ..
theorem r27_53 (ls : A_V) (st : List Value) (h : A_H) : R 27 53 ls st h = a_do a_nL R R 27 (s_goto 55 ls st h) := a_R_eq ..
theorem r27_54 (ls : A_V) (st : List Value) (h : A_H) : R 27 54 ls st h = a_do a_nL R R 27 (s_push (.int 4) 55 ls st h) := a_R_eq ..
theorem r27_55 (ls : A_V) (st : List Value) (h : A_H) : R 27 55 ls st h = a_do a_nL R R 27 (s_putI 7 6 56 ls st h) := a_R_eq ..
theorem r27_56 (ls : A_V) (st : List Value) (h : A_H) : R 27 56 ls st h = a_do a_nL R R 27 (s_vret ls st h) := a_R_eq ..
theorem b27_0 (x0 : Nat) (h : A_H) : R 27 0 [some (.ref x0)] [] h = (cond (isO h x0 7) (R 27 3 [some (.ref x0)] [] (wL h x0 9 (0 : Int64))) none) := (tr (r27_0 ..) (tr (r27_1 ..) (r27_2 ..)))
theorem b27_3 (x0 : Nat) (h : A_H) : R 27 3 [some (.ref x0)] [] h = (cond (isO h x0 7) (cond (isO h x0 7) (cond (decide ((hI h x0 1) ≤ (hI h x0 8))) (cond (isO h x0 7) (cond (isO h x0 7) (cond (decide ((3 : Int32) < ((hI h x0 8) - (hI h x0 7)))) (cond (isO h x0 7) (R 27 56 [some (.ref x0)] [] (wI h x0 6 (4 : Int32))) none) (cond (isO h x0 7) (R 27 56 [some (.ref x0)] [] (wI h x0 6 (2 : Int32))) none)) none) none) (cond (isO h x0 7 && (hP h x0 0).isSome) (cond (isO h x0 7) (cond (isA h ((hP h x0 0).getD 0) 1 (hI h x0 8)) (cond (decide ((hI h ((hP h x0 0).getD 0) ((hI h x0 8)).toNatClampNeg) < (48 : Int32))) (cond (isO h x0 7) (cond (isO h x0 7) (cond (decide ((3 : Int32) < ((hI h x0 8) - (hI h x0 7)))) (cond (isO h x0 7) (R 27 56 [some (.ref x0)] [] (wI h x0 6 (4 : Int32))) none) (cond (isO h x0 7) (R 27 56 [some (.ref x0)] [] (wI h x0 6 (2 : Int32))) none)) none) none) (cond (isO h x0 7 && (hP h x0 0).isSome) (cond (isO h x0 7) (cond (isA h ((hP h x0 0).getD 0) 1 (hI h x0 8)) (cond (decide ((57 : Int32) < (hI h ((hP h x0 0).getD 0) ((hI h x0 8)).toNatClampNeg))) (cond (isO h x0 7) (cond (isO h x0 7) (cond (decide ((3 : Int32) < ((hI h x0 8) - (hI h x0 7)))) (cond (isO h x0 7) (R 27 56 [some (.ref x0)] [] (wI h x0 6 (4 : Int32))) none) (cond (isO h x0 7) (R 27 56 [some (.ref x0)] [] (wI h x0 6 (2 : Int32))) none)) none) none) (cond (isO h x0 7) (cond (isO h x0 7 && (hP h x0 0).isSome) (cond (isO h x0 7) (cond (isA h ((hP h x0 0).getD 0) 1 (hI h x0 8)) (cond (isO h x0 7) (R 27 37 [some (.ref x0)] [] (wL h x0 9 ((((10 : Int64) * (hL h x0 9)) + ((hI h ((hP h x0 0).getD 0) ((hI h x0 8)).toNatClampNeg)).toInt64) - (48 : Int64)))) none) none) none) none) none)) none) none) none)) none) none) none)) none) none) := (tr (r27_3 ..) (tr (r27_4 ..) (cgT (tr (r27_5 ..) (tr (r27_6 ..) (cgT (tr (r27_7 ..) (cgB (tr (r27_44 ..) (tr (r27_45 ..) (tr (r27_46 ..) (cgT (tr (r27_47 ..) (tr (r27_48 ..) (cgT (tr (r27_49 ..) (tr (r27_50 ..) (tr (r27_51 ..) (cgB (tr (r27_54 ..) (r27_55 ..)) (tr (r27_52 ..) (tr (r27_53 ..) (r27_55 ..)))))))))))))) (tr (r27_8 ..) (tr (r27_9 ..) (cgT (tr (r27_10 ..) (tr (r27_11 ..) (cgT (tr (r27_12 ..) (cgT (tr (r27_13 ..) (tr (r27_14 ..) (cgB (tr (r27_44 ..) (tr (r27_45 ..) (tr (r27_46 ..) (cgT (tr (r27_47 ..) (tr (r27_48 ..) (cgT (tr (r27_49 ..) (tr (r27_50 ..) (tr (r27_51 ..) (cgB (tr (r27_54 ..) (r27_55 ..)) (tr (r27_52 ..) (tr (r27_53 ..) (r27_55 ..)))))))))))))) (tr (r27_15 ..) (tr (r27_16 ..) (cgT (tr (r27_17 ..) (tr (r27_18 ..) (cgT (tr (r27_19 ..) (cgT (tr (r27_20 ..) (tr (r27_21 ..) (cgB (tr (r27_44 ..) (tr (r27_45 ..) (tr (r27_46 ..) (cgT (tr (r27_47 ..) (tr (r27_48 ..) (cgT (tr (r27_49 ..) (tr (r27_50 ..) (tr (r27_51 ..) (cgB (tr (r27_54 ..) (r27_55 ..)) (tr (r27_52 ..) (tr (r27_53 ..) (r27_55 ..)))))))))))))) (tr (r27_22 ..) (tr (r27_23 ..) (tr (r27_24 ..) (tr (r27_25 ..) (cgT (tr (r27_26 ..) (tr (r27_27 ..) (tr (r27_28 ..) (cgT (tr (r27_29 ..) (tr (r27_30 ..) (cgT (tr (r27_31 ..) (cgT (tr (r27_32 ..) (tr (r27_33 ..) (tr (r27_34 ..) (tr (r27_35 ..) (r27_36 ..)))))))))))))))))))))))))))))))))))))))))))))))))
theorem b27_37 (x0 : Nat) (h : A_H) : R 27 37 [some (.ref x0)] [] h = (cond (isO h x0 7) (cond (isO h x0 7) (R 27 43 [some (.ref x0)] [] (wI h x0 8 ((hI h x0 8) + (1 : Int32)))) none) none) := (tr (r27_37 ..) (tr (r27_38 ..) (tr (r27_39 ..) (cgT (tr (r27_40 ..) (tr (r27_41 ..) (r27_42 ..)))))))
theorem b27_43 (x0 : Nat) (h : A_H) : R 27 43 [some (.ref x0)] [] h = (R 27 3 [some (.ref x0)] [] h) := (r27_43 ..)
theorem b27_56 (x0 : Nat) (h : A_H) : R 27 56 [some (.ref x0)] [] h = (some (some none, h)) := (r27_56 ..)
theorem e28 (x0 : Nat) (x1 : UInt32) (h : A_H) : C 28 [.ref x0, .float x1] h = R 28 0 [some (.ref x0), some (.float x1)] [] h := rfl
theorem r28_0 (ls : A_V) (st : List Value) (h : A_H) : R 28 0 ls st h = a_do a_nL R R 28 (s_aldl 0 1 ls st h) := a_R_eq ..
theorem r28_1 (ls : A_V) (st : List Value) (h : A_H) : R 28 1 ls st h = a_do a_nL R R 28 (s_getI 7 6 2 ls st h) := a_R_eq ..
theorem r28_2 (ls : A_V) (st : List Value) (h : A_H) : R 28 2 ls st h = a_do a_nL R R 28 (s_push (.int 1) 3 ls st h) := a_R_eq ..
theorem r28_3 (ls : A_V) (st : List Value) (h : A_H) : R 28 3 ls st h = a_do a_nL R R 28 (s_if2 (fun x y => !decide (x = y)) 12 4 ls st h) := a_R_eq ..
theorem r28_4 (ls : A_V) (st : List Value) (h : A_H) : R 28 4 ls st h = a_do a_nL R R 28 (s_aldl 0 5 ls st h) := a_R_eq ..
theorem r28_5 (ls : A_V) (st : List Value) (h : A_H) : R 28 5 ls st h = a_do a_nL R R 28 (s_getL 7 9 6 ls st h) := a_R_eq ..
theorem r28_6 (ls : A_V) (st : List Value) (h : A_H) : R 28 6 ls st h = a_do a_nL R R 28 (s_aldl 1 7 ls st h) := a_R_eq ..
theorem r28_7 (ls : A_V) (st : List Value) (h : A_H) : R 28 7 ls st h = a_do a_nL R R 28 (s_call 0 284 1 4 true 8 ls st h) := a_R_eq ..
theorem r28_8 (ls : A_V) (st : List Value) (h : A_H) : R 28 8 ls st h = a_do a_nL R R 28 (s_lcmp 9 ls st h) := a_R_eq ..
theorem r28_9 (ls : A_V) (st : List Value) (h : A_H) : R 28 9 ls st h = a_do a_nL R R 28 (s_if1 (fun x => !decide (x = 0)) 12 10 ls st h) := a_R_eq ..
theorem r28_10 (ls : A_V) (st : List Value) (h : A_H) : R 28 10 ls st h = a_do a_nL R R 28 (s_push (.int 1) 11 ls st h) := a_R_eq ..
theorem r28_11 (ls : A_V) (st : List Value) (h : A_H) : R 28 11 ls st h = a_do a_nL R R 28 (s_goto 13 ls st h) := a_R_eq ..
theorem r28_12 (ls : A_V) (st : List Value) (h : A_H) : R 28 12 ls st h = a_do a_nL R R 28 (s_push (.int 0) 13 ls st h) := a_R_eq ..
theorem r28_13 (ls : A_V) (st : List Value) (h : A_H) : R 28 13 ls st h = a_do a_nL R R 28 (s_zret ls st h) := a_R_eq ..
theorem b28_0 (x0 : Nat) (x1 : UInt32) (h : A_H) : R 28 0 [some (.ref x0), some (.float x1)] [] h = (cond (isO h x0 7) (cond (!decide ((hI h x0 6) = (1 : Int32))) (cond (decide ((0 : Int32) = 0) || decide ((0 : Int32) = 1)) (some (some (some (.int (0 : Int32))), h)) none) (cond (isO h x0 7) (a_back R 28 (284, [.float x1], h, true, none, 8, [some (.ref x0), some (.float x1)], [.long (hL h x0 9)]) (C 284 [.float x1] h)) none)) none) := (tr (r28_0 ..) (tr (r28_1 ..) (cgT (tr (r28_2 ..) (tr (r28_3 ..) (cgB (tr (r28_12 ..) (r28_13 ..)) (tr (r28_4 ..) (tr (r28_5 ..) (cgT (tr (r28_6 ..) (r28_7 ..)))))))))))
theorem b28_8 (x0 : Nat) (x1 : UInt32) (s0 : Int64) (s1 : Int64) (h : A_H) : R 28 8 [some (.ref x0), some (.float x1)] [.long s1, .long s0] h = (cond (!decide ((lg_cmp s0 s1) = 0)) (cond (decide ((0 : Int32) = 0) || decide ((0 : Int32) = 1)) (some (some (some (.int (0 : Int32))), h)) none) (cond (decide ((1 : Int32) = 0) || decide ((1 : Int32) = 1)) (some (some (some (.int (1 : Int32))), h)) none)) := (tr (r28_8 ..) (tr (r28_9 ..) (cgB (tr (r28_12 ..) (r28_13 ..)) (tr (r28_10 ..) (tr (r28_11 ..) (r28_13 ..))))))
theorem e29 (x0 : Nat) (x1 : UInt32) (h : A_H) : C 29 [.ref x0, .float x1] h = R 29 0 [some (.ref x0), some (.float x1)] [] h := rfl
theorem r29_0 (ls : A_V) (st : List Value) (h : A_H) : R 29 0 ls st h = a_do a_nL R R 29 (s_aldl 0 1 ls st h) := a_R_eq ..
theorem r29_1 (ls : A_V) (st : List Value) (h : A_H) : R 29 1 ls st h = a_do a_nL R R 29 (s_aldl 1 2 ls st h) := a_R_eq ..
theorem r29_2 (ls : A_V) (st : List Value) (h : A_H) : R 29 2 ls st h = a_do a_nL R R 29 (s_call 10 28 2 2 true 3 ls st h) := a_R_eq ..
theorem r29_3 (ls : A_V) (st : List Value) (h : A_H) : R 29 3 ls st h = a_do a_nL R R 29 (s_if1 (fun x => decide (x = 0)) 7 4 ls st h) := a_R_eq ..
theorem r29_4 (ls : A_V) (st : List Value) (h : A_H) : R 29 4 ls st h = a_do a_nL R R 29 (s_aldl 0 5 ls st h) := a_R_eq ..
theorem r29_5 (ls : A_V) (st : List Value) (h : A_H) : R 29 5 ls st h = a_do a_nL R R 29 (s_call 10 25 1 1 false 6 ls st h) := a_R_eq ..
theorem r29_6 (ls : A_V) (st : List Value) (h : A_H) : R 29 6 ls st h = a_do a_nL R R 29 (s_goto 10 ls st h) := a_R_eq ..
theorem r29_7 (ls : A_V) (st : List Value) (h : A_H) : R 29 7 ls st h = a_do a_nL R R 29 (s_aldl 0 8 ls st h) := a_R_eq ..
theorem r29_8 (ls : A_V) (st : List Value) (h : A_H) : R 29 8 ls st h = a_do a_nL R R 29 (s_push (.int 1) 9 ls st h) := a_R_eq ..
theorem r29_9 (ls : A_V) (st : List Value) (h : A_H) : R 29 9 ls st h = a_do a_nL R R 29 (s_call 10 24 2 2 false 10 ls st h) := a_R_eq ..
theorem r29_10 (ls : A_V) (st : List Value) (h : A_H) : R 29 10 ls st h = a_do a_nL R R 29 (s_vret ls st h) := a_R_eq ..
theorem b29_0 (x0 : Nat) (x1 : UInt32) (h : A_H) : R 29 0 [some (.ref x0), some (.float x1)] [] h = (cond (isO h x0 7) (a_back R 29 (28, [.ref x0, .float x1], h, true, none, 3, [some (.ref x0), some (.float x1)], []) (C 28 [.ref x0, .float x1] h)) none) := (tr (r29_0 ..) (tr (r29_1 ..) (r29_2 ..)))
theorem b29_3 (x0 : Nat) (x1 : UInt32) (s0 : Int32) (h : A_H) : R 29 3 [some (.ref x0), some (.float x1)] [.int s0] h = (cond (decide (s0 = 0)) (cond (isO h x0 7) (a_back R 29 (24, [.ref x0, .int (1 : Int32)], h, false, none, 10, [some (.ref x0), some (.float x1)], []) (C 24 [.ref x0, .int (1 : Int32)] h)) none) (cond (isO h x0 7) (a_back R 29 (25, [.ref x0], h, false, none, 6, [some (.ref x0), some (.float x1)], []) (C 25 [.ref x0] h)) none)) := (tr (r29_3 ..) (cgB (tr (r29_7 ..) (tr (r29_8 ..) (r29_9 ..))) (tr (r29_4 ..) (r29_5 ..))))
theorem b29_6 (x0 : Nat) (x1 : UInt32) (h : A_H) : R 29 6 [some (.ref x0), some (.float x1)] [] h = (some (some none, h)) := (tr (r29_6 ..) (r29_10 ..))
theorem b29_10 (x0 : Nat) (x1 : UInt32) (h : A_H) : R 29 10 [some (.ref x0), some (.float x1)] [] h = (some (some none, h)) := (r29_10 ..)
theorem e30 (x0 : Nat) (x1 : Int32) (x2 : Int32) (h : A_H) : C 30 [.ref x0, .int x1, .int x2] h = R 30 0 [some (.ref x0), some (.int x1), some (.int x2), none] [] h := rfl
theorem r30_0 (ls : A_V) (st : List Value) (h : A_H) : R 30 0 ls st h = a_do a_nL R R 30 (s_aldl 0 1 ls st h) := a_R_eq ..
theorem r30_1 (ls : A_V) (st : List Value) (h : A_H) : R 30 1 ls st h = a_do a_nL R R 30 (s_getI 7 6 2 ls st h) := a_R_eq ..
theorem r30_2 (ls : A_V) (st : List Value) (h : A_H) : R 30 2 ls st h = a_do a_nL R R 30 (s_push (.int 2) 3 ls st h) := a_R_eq ..
theorem r30_3 (ls : A_V) (st : List Value) (h : A_H) : R 30 3 ls st h = a_do a_nL R R 30 (s_if2 (fun x y => decide (x = y)) 9 4 ls st h) := a_R_eq ..
theorem r30_4 (ls : A_V) (st : List Value) (h : A_H) : R 30 4 ls st h = a_do a_nL R R 30 (s_aldl 0 5 ls st h) := a_R_eq ..
theorem r30_5 (ls : A_V) (st : List Value) (h : A_H) : R 30 5 ls st h = a_do a_nL R R 30 (s_push (.int 1) 6 ls st h) := a_R_eq ..
theorem r30_6 (ls : A_V) (st : List Value) (h : A_H) : R 30 6 ls st h = a_do a_nL R R 30 (s_call 10 24 2 2 false 7 ls st h) := a_R_eq ..
theorem r30_7 (ls : A_V) (st : List Value) (h : A_H) : R 30 7 ls st h = a_do a_nL R R 30 (s_ildl 1 8 ls st h) := a_R_eq ..
theorem r30_8 (ls : A_V) (st : List Value) (h : A_H) : R 30 8 ls st h = a_do a_nL R R 30 (s_iret ls st h) := a_R_eq ..
theorem r30_9 (ls : A_V) (st : List Value) (h : A_H) : R 30 9 ls st h = a_do a_nL R R 30 (s_aldl 0 10 ls st h) := a_R_eq ..
theorem r30_10 (ls : A_V) (st : List Value) (h : A_H) : R 30 10 ls st h = a_do a_nL R R 30 (s_getL 7 9 11 ls st h) := a_R_eq ..
theorem r30_11 (ls : A_V) (st : List Value) (h : A_H) : R 30 11 ls st h = a_do a_nL R R 30 (s_l2i 12 ls st h) := a_R_eq ..
theorem r30_12 (ls : A_V) (st : List Value) (h : A_H) : R 30 12 ls st h = a_do a_nL R R 30 (s_ist 3 13 ls st h) := a_R_eq ..
theorem r30_13 (ls : A_V) (st : List Value) (h : A_H) : R 30 13 ls st h = a_do a_nL R R 30 (s_ildl 3 14 ls st h) := a_R_eq ..
theorem r30_14 (ls : A_V) (st : List Value) (h : A_H) : R 30 14 ls st h = a_do a_nL R R 30 (s_ildl 1 15 ls st h) := a_R_eq ..
theorem r30_15 (ls : A_V) (st : List Value) (h : A_H) : R 30 15 ls st h = a_do a_nL R R 30 (s_if2 (fun x y => decide (x < y)) 19 16 ls st h) := a_R_eq ..
theorem r30_16 (ls : A_V) (st : List Value) (h : A_H) : R 30 16 ls st h = a_do a_nL R R 30 (s_ildl 3 17 ls st h) := a_R_eq ..
theorem r30_17 (ls : A_V) (st : List Value) (h : A_H) : R 30 17 ls st h = a_do a_nL R R 30 (s_ildl 2 18 ls st h) := a_R_eq ..
theorem r30_18 (ls : A_V) (st : List Value) (h : A_H) : R 30 18 ls st h = a_do a_nL R R 30 (s_if2 (fun x y => decide (x ≤ y)) 24 19 ls st h) := a_R_eq ..
theorem r30_19 (ls : A_V) (st : List Value) (h : A_H) : R 30 19 ls st h = a_do a_nL R R 30 (s_aldl 0 20 ls st h) := a_R_eq ..
theorem r30_20 (ls : A_V) (st : List Value) (h : A_H) : R 30 20 ls st h = a_do a_nL R R 30 (s_push (.int 4) 21 ls st h) := a_R_eq ..
theorem r30_21 (ls : A_V) (st : List Value) (h : A_H) : R 30 21 ls st h = a_do a_nL R R 30 (s_call 10 24 2 2 false 22 ls st h) := a_R_eq ..
theorem r30_22 (ls : A_V) (st : List Value) (h : A_H) : R 30 22 ls st h = a_do a_nL R R 30 (s_ildl 1 23 ls st h) := a_R_eq ..
theorem r30_23 (ls : A_V) (st : List Value) (h : A_H) : R 30 23 ls st h = a_do a_nL R R 30 (s_iret ls st h) := a_R_eq ..
theorem r30_24 (ls : A_V) (st : List Value) (h : A_H) : R 30 24 ls st h = a_do a_nL R R 30 (s_aldl 0 25 ls st h) := a_R_eq ..
theorem r30_25 (ls : A_V) (st : List Value) (h : A_H) : R 30 25 ls st h = a_do a_nL R R 30 (s_call 10 25 1 1 false 26 ls st h) := a_R_eq ..
theorem r30_26 (ls : A_V) (st : List Value) (h : A_H) : R 30 26 ls st h = a_do a_nL R R 30 (s_ildl 3 27 ls st h) := a_R_eq ..
theorem r30_27 (ls : A_V) (st : List Value) (h : A_H) : R 30 27 ls st h = a_do a_nL R R 30 (s_iret ls st h) := a_R_eq ..
theorem b30_0 (x0 : Nat) (x1 : Int32) (x2 : Int32) (l3 : Option Value) (h : A_H) : R 30 0 [some (.ref x0), some (.int x1), some (.int x2), l3] [] h = (cond (isO h x0 7) (cond (decide ((hI h x0 6) = (2 : Int32))) (cond (isO h x0 7) (cond (decide (((hL h x0 9)).toInt32 < x1)) (cond (isO h x0 7) (a_back R 30 (24, [.ref x0, .int (4 : Int32)], h, false, none, 22, [some (.ref x0), some (.int x1), some (.int x2), some (.int ((hL h x0 9)).toInt32)], []) (C 24 [.ref x0, .int (4 : Int32)] h)) none) (cond (decide (((hL h x0 9)).toInt32 ≤ x2)) (cond (isO h x0 7) (a_back R 30 (25, [.ref x0], h, false, none, 26, [some (.ref x0), some (.int x1), some (.int x2), some (.int ((hL h x0 9)).toInt32)], []) (C 25 [.ref x0] h)) none) (cond (isO h x0 7) (a_back R 30 (24, [.ref x0, .int (4 : Int32)], h, false, none, 22, [some (.ref x0), some (.int x1), some (.int x2), some (.int ((hL h x0 9)).toInt32)], []) (C 24 [.ref x0, .int (4 : Int32)] h)) none))) none) (cond (isO h x0 7) (a_back R 30 (24, [.ref x0, .int (1 : Int32)], h, false, none, 7, [some (.ref x0), some (.int x1), some (.int x2), l3], []) (C 24 [.ref x0, .int (1 : Int32)] h)) none)) none) := (tr (r30_0 ..) (tr (r30_1 ..) (cgT (tr (r30_2 ..) (tr (r30_3 ..) (cgB (tr (r30_9 ..) (tr (r30_10 ..) (cgT (tr (r30_11 ..) (tr (r30_12 ..) (tr (r30_13 ..) (tr (r30_14 ..) (tr (r30_15 ..) (cgB (tr (r30_19 ..) (tr (r30_20 ..) (r30_21 ..))) (tr (r30_16 ..) (tr (r30_17 ..) (tr (r30_18 ..) (cgB (tr (r30_24 ..) (r30_25 ..)) (tr (r30_19 ..) (tr (r30_20 ..) (r30_21 ..)))))))))))))))) (tr (r30_4 ..) (tr (r30_5 ..) (r30_6 ..)))))))))
theorem b30_7 (x0 : Nat) (x1 : Int32) (x2 : Int32) (l3 : Option Value) (h : A_H) : R 30 7 [some (.ref x0), some (.int x1), some (.int x2), l3] [] h = (some (some (some (.int x1)), h)) := (tr (r30_7 ..) (r30_8 ..))
theorem b30_22 (x0 : Nat) (x1 : Int32) (x2 : Int32) (x3 : Int32) (h : A_H) : R 30 22 [some (.ref x0), some (.int x1), some (.int x2), some (.int x3)] [] h = (some (some (some (.int x1)), h)) := (tr (r30_22 ..) (r30_23 ..))
theorem b30_26 (x0 : Nat) (x1 : Int32) (x2 : Int32) (x3 : Int32) (h : A_H) : R 30 26 [some (.ref x0), some (.int x1), some (.int x2), some (.int x3)] [] h = (some (some (some (.int x3)), h)) := (tr (r30_26 ..) (r30_27 ..))
theorem e31 (x0 : Nat) (h : A_H) : C 31 [.ref x0] h = R 31 0 [some (.ref x0), none] [] h := rfl
theorem r31_0 (ls : A_V) (st : List Value) (h : A_H) : R 31 0 ls st h = a_do a_nL R R 31 (s_push (.int 0) 1 ls st h) := a_R_eq ..
theorem r31_1 (ls : A_V) (st : List Value) (h : A_H) : R 31 1 ls st h = a_do a_nL R R 31 (s_ist 1 2 ls st h) := a_R_eq ..
theorem r31_2 (ls : A_V) (st : List Value) (h : A_H) : R 31 2 ls st h = a_do a_nL R R 31 (s_ildl 1 3 ls st h) := a_R_eq ..
theorem r31_3 (ls : A_V) (st : List Value) (h : A_H) : R 31 3 ls st h = a_do a_nL R R 31 (s_aldl 0 4 ls st h) := a_R_eq ..
theorem r31_4 (ls : A_V) (st : List Value) (h : A_H) : R 31 4 ls st h = a_do a_nL R R 31 (s_getR 7 10 5 ls st h) := a_R_eq ..
theorem r31_5 (ls : A_V) (st : List Value) (h : A_H) : R 31 5 ls st h = a_do a_nL R R 31 (s_alen 2 6 ls st h) := a_R_eq ..
theorem r31_6 (ls : A_V) (st : List Value) (h : A_H) : R 31 6 ls st h = a_do a_nL R R 31 (s_if2 (fun x y => decide (y ≤ x)) 23 7 ls st h) := a_R_eq ..
theorem r31_7 (ls : A_V) (st : List Value) (h : A_H) : R 31 7 ls st h = a_do a_nL R R 31 (s_aldl 0 8 ls st h) := a_R_eq ..
theorem r31_8 (ls : A_V) (st : List Value) (h : A_H) : R 31 8 ls st h = a_do a_nL R R 31 (s_getI 7 6 9 ls st h) := a_R_eq ..
theorem r31_9 (ls : A_V) (st : List Value) (h : A_H) : R 31 9 ls st h = a_do a_nL R R 31 (s_push (.int 1) 10 ls st h) := a_R_eq ..
theorem r31_10 (ls : A_V) (st : List Value) (h : A_H) : R 31 10 ls st h = a_do a_nL R R 31 (s_if2 (fun x y => !decide (x = y)) 23 11 ls st h) := a_R_eq ..
theorem r31_11 (ls : A_V) (st : List Value) (h : A_H) : R 31 11 ls st h = a_do a_nL R R 31 (s_aldl 0 12 ls st h) := a_R_eq ..
theorem r31_12 (ls : A_V) (st : List Value) (h : A_H) : R 31 12 ls st h = a_do a_nL R R 31 (s_getR 7 10 13 ls st h) := a_R_eq ..
theorem r31_13 (ls : A_V) (st : List Value) (h : A_H) : R 31 13 ls st h = a_do a_nL R R 31 (s_ildl 1 14 ls st h) := a_R_eq ..
theorem r31_14 (ls : A_V) (st : List Value) (h : A_H) : R 31 14 ls st h = a_do a_nL R R 31 (s_lal 15 ls st h) := a_R_eq ..
theorem r31_15 (ls : A_V) (st : List Value) (h : A_H) : R 31 15 ls st h = a_do a_nL R R 31 (s_aldl 0 16 ls st h) := a_R_eq ..
theorem r31_16 (ls : A_V) (st : List Value) (h : A_H) : R 31 16 ls st h = a_do a_nL R R 31 (s_getL 7 9 17 ls st h) := a_R_eq ..
theorem r31_17 (ls : A_V) (st : List Value) (h : A_H) : R 31 17 ls st h = a_do a_nL R R 31 (s_lcmp 18 ls st h) := a_R_eq ..
theorem r31_18 (ls : A_V) (st : List Value) (h : A_H) : R 31 18 ls st h = a_do a_nL R R 31 (s_if1 (fun x => !decide (x = 0)) 21 19 ls st h) := a_R_eq ..
theorem r31_19 (ls : A_V) (st : List Value) (h : A_H) : R 31 19 ls st h = a_do a_nL R R 31 (s_ildl 1 20 ls st h) := a_R_eq ..
theorem r31_20 (ls : A_V) (st : List Value) (h : A_H) : R 31 20 ls st h = a_do a_nL R R 31 (s_iret ls st h) := a_R_eq ..
theorem r31_21 (ls : A_V) (st : List Value) (h : A_H) : R 31 21 ls st h = a_do a_nL R R 31 (s_inc 1 1 22 ls st h) := a_R_eq ..
theorem r31_22 (ls : A_V) (st : List Value) (h : A_H) : R 31 22 ls st h = a_do a_nL R R 31 (s_goto 2 ls st h) := a_R_eq ..
theorem r31_23 (ls : A_V) (st : List Value) (h : A_H) : R 31 23 ls st h = a_do a_nL R R 31 (s_push (.int (-1)) 24 ls st h) := a_R_eq ..
theorem r31_24 (ls : A_V) (st : List Value) (h : A_H) : R 31 24 ls st h = a_do a_nL R R 31 (s_iret ls st h) := a_R_eq ..
theorem b31_0 (x0 : Nat) (l1 : Option Value) (h : A_H) : R 31 0 [some (.ref x0), l1] [] h = (R 31 2 [some (.ref x0), some (.int (0 : Int32))] [] h) := (tr (r31_0 ..) (r31_1 ..))
theorem b31_2 (x0 : Nat) (x1 : Int32) (h : A_H) : R 31 2 [some (.ref x0), some (.int x1)] [] h = (cond (isO h x0 7 && (hP h x0 10).isSome) (cond (decide (((hP h x0 10).getD 0) < hn h) && decide ((hsh h ((hP h x0 10).getD 0)).1 = 100 + 2)) (cond (decide ((Int32.ofNat (hsh h ((hP h x0 10).getD 0)).2) ≤ x1)) (some (some (some (.int (-1 : Int32))), h)) (cond (isO h x0 7) (cond (!decide ((hI h x0 6) = (1 : Int32))) (some (some (some (.int (-1 : Int32))), h)) (cond (isO h x0 7 && (hP h x0 10).isSome) (cond (isA h ((hP h x0 10).getD 0) 2 x1) (cond (isO h x0 7) (cond (!decide ((lg_cmp (hL h ((hP h x0 10).getD 0) (x1).toNatClampNeg) (hL h x0 9)) = 0)) (R 31 2 [some (.ref x0), some (.int (x1 + 1))] [] h) (some (some (some (.int x1)), h))) none) none) none)) none)) none) none) := (tr (r31_2 ..) (tr (r31_3 ..) (tr (r31_4 ..) (cgT (tr (r31_5 ..) (cgT (tr (r31_6 ..) (cgB (tr (r31_23 ..) (r31_24 ..)) (tr (r31_7 ..) (tr (r31_8 ..) (cgT (tr (r31_9 ..) (tr (r31_10 ..) (cgB (tr (r31_23 ..) (r31_24 ..)) (tr (r31_11 ..) (tr (r31_12 ..) (cgT (tr (r31_13 ..) (tr (r31_14 ..) (cgT (tr (r31_15 ..) (tr (r31_16 ..) (cgT (tr (r31_17 ..) (tr (r31_18 ..) (cgB (tr (r31_21 ..) (r31_22 ..)) (tr (r31_19 ..) (r31_20 ..))))))))))))))))))))))))))))
theorem e32 (x0 : Nat) (h : A_H) : C 32 [.ref x0] h = R 32 0 [some (.ref x0)] [] h := rfl
theorem r32_0 (ls : A_V) (st : List Value) (h : A_H) : R 32 0 ls st h = a_do a_nL R R 32 (s_aldl 0 1 ls st h) := a_R_eq ..
theorem r32_1 (ls : A_V) (st : List Value) (h : A_H) : R 32 1 ls st h = a_do a_nL R R 32 (s_getI 7 6 2 ls st h) := a_R_eq ..
theorem r32_2 (ls : A_V) (st : List Value) (h : A_H) : R 32 2 ls st h = a_do a_nL R R 32 (s_push (.int 1) 3 ls st h) := a_R_eq ..
theorem r32_3 (ls : A_V) (st : List Value) (h : A_H) : R 32 3 ls st h = a_do a_nL R R 32 (s_if2 (fun x y => !decide (x = y)) 10 4 ls st h) := a_R_eq ..
theorem r32_4 (ls : A_V) (st : List Value) (h : A_H) : R 32 4 ls st h = a_do a_nL R R 32 (s_aldl 0 5 ls st h) := a_R_eq ..
theorem r32_5 (ls : A_V) (st : List Value) (h : A_H) : R 32 5 ls st h = a_do a_nL R R 32 (s_call 10 31 1 2 true 6 ls st h) := a_R_eq ..
theorem r32_6 (ls : A_V) (st : List Value) (h : A_H) : R 32 6 ls st h = a_do a_nL R R 32 (s_push (.int (-1)) 7 ls st h) := a_R_eq ..
theorem r32_7 (ls : A_V) (st : List Value) (h : A_H) : R 32 7 ls st h = a_do a_nL R R 32 (s_if2 (fun x y => !decide (x = y)) 10 8 ls st h) := a_R_eq ..
theorem r32_8 (ls : A_V) (st : List Value) (h : A_H) : R 32 8 ls st h = a_do a_nL R R 32 (s_push (.int 1) 9 ls st h) := a_R_eq ..
theorem r32_9 (ls : A_V) (st : List Value) (h : A_H) : R 32 9 ls st h = a_do a_nL R R 32 (s_goto 11 ls st h) := a_R_eq ..
theorem r32_10 (ls : A_V) (st : List Value) (h : A_H) : R 32 10 ls st h = a_do a_nL R R 32 (s_push (.int 0) 11 ls st h) := a_R_eq ..
theorem r32_11 (ls : A_V) (st : List Value) (h : A_H) : R 32 11 ls st h = a_do a_nL R R 32 (s_zret ls st h) := a_R_eq ..
theorem b32_0 (x0 : Nat) (h : A_H) : R 32 0 [some (.ref x0)] [] h = (cond (isO h x0 7) (cond (!decide ((hI h x0 6) = (1 : Int32))) (cond (decide ((0 : Int32) = 0) || decide ((0 : Int32) = 1)) (some (some (some (.int (0 : Int32))), h)) none) (cond (isO h x0 7) (a_back R 32 (31, [.ref x0], h, true, none, 6, [some (.ref x0)], []) (C 31 [.ref x0] h)) none)) none) := (tr (r32_0 ..) (tr (r32_1 ..) (cgT (tr (r32_2 ..) (tr (r32_3 ..) (cgB (tr (r32_10 ..) (r32_11 ..)) (tr (r32_4 ..) (r32_5 ..))))))))
theorem b32_6 (x0 : Nat) (s0 : Int32) (h : A_H) : R 32 6 [some (.ref x0)] [.int s0] h = (cond (!decide (s0 = (-1 : Int32))) (cond (decide ((0 : Int32) = 0) || decide ((0 : Int32) = 1)) (some (some (some (.int (0 : Int32))), h)) none) (cond (decide ((1 : Int32) = 0) || decide ((1 : Int32) = 1)) (some (some (some (.int (1 : Int32))), h)) none)) := (tr (r32_6 ..) (tr (r32_7 ..) (cgB (tr (r32_10 ..) (r32_11 ..)) (tr (r32_8 ..) (tr (r32_9 ..) (r32_11 ..))))))
theorem e33 (x0 : Nat) (h : A_H) : C 33 [.ref x0] h = R 33 0 [some (.ref x0), none] [] h := rfl
theorem r33_0 (ls : A_V) (st : List Value) (h : A_H) : R 33 0 ls st h = a_do a_nL R R 33 (s_push (.int 0) 1 ls st h) := a_R_eq ..
theorem r33_1 (ls : A_V) (st : List Value) (h : A_H) : R 33 1 ls st h = a_do a_nL R R 33 (s_ist 1 2 ls st h) := a_R_eq ..
theorem r33_2 (ls : A_V) (st : List Value) (h : A_H) : R 33 2 ls st h = a_do a_nL R R 33 (s_ildl 1 3 ls st h) := a_R_eq ..
theorem r33_3 (ls : A_V) (st : List Value) (h : A_H) : R 33 3 ls st h = a_do a_nL R R 33 (s_aldl 0 4 ls st h) := a_R_eq ..
theorem r33_4 (ls : A_V) (st : List Value) (h : A_H) : R 33 4 ls st h = a_do a_nL R R 33 (s_getI 7 11 5 ls st h) := a_R_eq ..
theorem r33_5 (ls : A_V) (st : List Value) (h : A_H) : R 33 5 ls st h = a_do a_nL R R 33 (s_if2 (fun x y => decide (y ≤ x)) 18 6 ls st h) := a_R_eq ..
theorem r33_6 (ls : A_V) (st : List Value) (h : A_H) : R 33 6 ls st h = a_do a_nL R R 33 (s_aldl 0 7 ls st h) := a_R_eq ..
theorem r33_7 (ls : A_V) (st : List Value) (h : A_H) : R 33 7 ls st h = a_do a_nL R R 33 (s_getR 7 12 8 ls st h) := a_R_eq ..
theorem r33_8 (ls : A_V) (st : List Value) (h : A_H) : R 33 8 ls st h = a_do a_nL R R 33 (s_ildl 1 9 ls st h) := a_R_eq ..
theorem r33_9 (ls : A_V) (st : List Value) (h : A_H) : R 33 9 ls st h = a_do a_nL R R 33 (s_lal 10 ls st h) := a_R_eq ..
theorem r33_10 (ls : A_V) (st : List Value) (h : A_H) : R 33 10 ls st h = a_do a_nL R R 33 (s_aldl 0 11 ls st h) := a_R_eq ..
theorem r33_11 (ls : A_V) (st : List Value) (h : A_H) : R 33 11 ls st h = a_do a_nL R R 33 (s_getL 7 9 12 ls st h) := a_R_eq ..
theorem r33_12 (ls : A_V) (st : List Value) (h : A_H) : R 33 12 ls st h = a_do a_nL R R 33 (s_lcmp 13 ls st h) := a_R_eq ..
theorem r33_13 (ls : A_V) (st : List Value) (h : A_H) : R 33 13 ls st h = a_do a_nL R R 33 (s_if1 (fun x => !decide (x = 0)) 16 14 ls st h) := a_R_eq ..
theorem r33_14 (ls : A_V) (st : List Value) (h : A_H) : R 33 14 ls st h = a_do a_nL R R 33 (s_ildl 1 15 ls st h) := a_R_eq ..
theorem r33_15 (ls : A_V) (st : List Value) (h : A_H) : R 33 15 ls st h = a_do a_nL R R 33 (s_iret ls st h) := a_R_eq ..
theorem r33_16 (ls : A_V) (st : List Value) (h : A_H) : R 33 16 ls st h = a_do a_nL R R 33 (s_inc 1 1 17 ls st h) := a_R_eq ..
theorem r33_17 (ls : A_V) (st : List Value) (h : A_H) : R 33 17 ls st h = a_do a_nL R R 33 (s_goto 2 ls st h) := a_R_eq ..
theorem r33_18 (ls : A_V) (st : List Value) (h : A_H) : R 33 18 ls st h = a_do a_nL R R 33 (s_push (.int (-1)) 19 ls st h) := a_R_eq ..
theorem r33_19 (ls : A_V) (st : List Value) (h : A_H) : R 33 19 ls st h = a_do a_nL R R 33 (s_iret ls st h) := a_R_eq ..
theorem b33_0 (x0 : Nat) (l1 : Option Value) (h : A_H) : R 33 0 [some (.ref x0), l1] [] h = (R 33 2 [some (.ref x0), some (.int (0 : Int32))] [] h) := (tr (r33_0 ..) (r33_1 ..))
theorem b33_2 (x0 : Nat) (x1 : Int32) (h : A_H) : R 33 2 [some (.ref x0), some (.int x1)] [] h = (cond (isO h x0 7) (cond (decide ((hI h x0 11) ≤ x1)) (some (some (some (.int (-1 : Int32))), h)) (cond (isO h x0 7 && (hP h x0 12).isSome) (cond (isA h ((hP h x0 12).getD 0) 2 x1) (cond (isO h x0 7) (cond (!decide ((lg_cmp (hL h ((hP h x0 12).getD 0) (x1).toNatClampNeg) (hL h x0 9)) = 0)) (R 33 2 [some (.ref x0), some (.int (x1 + 1))] [] h) (some (some (some (.int x1)), h))) none) none) none)) none) := (tr (r33_2 ..) (tr (r33_3 ..) (tr (r33_4 ..) (cgT (tr (r33_5 ..) (cgB (tr (r33_18 ..) (r33_19 ..)) (tr (r33_6 ..) (tr (r33_7 ..) (cgT (tr (r33_8 ..) (tr (r33_9 ..) (cgT (tr (r33_10 ..) (tr (r33_11 ..) (cgT (tr (r33_12 ..) (tr (r33_13 ..) (cgB (tr (r33_16 ..) (r33_17 ..)) (tr (r33_14 ..) (r33_15 ..))))))))))))))))))))
theorem e34 (x0 : Nat) (x1 : Int32) (x2 : Int32) (h : A_H) : C 34 [.ref x0, .int x1, .int x2] h = R 34 0 [some (.ref x0), some (.int x1), some (.int x2)] [] h := rfl
theorem r34_0 (ls : A_V) (st : List Value) (h : A_H) : R 34 0 ls st h = a_do a_nL R R 34 (s_aldl 0 1 ls st h) := a_R_eq ..
theorem r34_1 (ls : A_V) (st : List Value) (h : A_H) : R 34 1 ls st h = a_do a_nL R R 34 (s_call 10 32 1 1 true 2 ls st h) := a_R_eq ..
theorem r34_2 (ls : A_V) (st : List Value) (h : A_H) : R 34 2 ls st h = a_do a_nL R R 34 (s_if1 (fun x => !decide (x = 0)) 7 3 ls st h) := a_R_eq ..
theorem r34_3 (ls : A_V) (st : List Value) (h : A_H) : R 34 3 ls st h = a_do a_nL R R 34 (s_aldl 0 4 ls st h) := a_R_eq ..
theorem r34_4 (ls : A_V) (st : List Value) (h : A_H) : R 34 4 ls st h = a_do a_nL R R 34 (s_push (.int 1) 5 ls st h) := a_R_eq ..
theorem r34_5 (ls : A_V) (st : List Value) (h : A_H) : R 34 5 ls st h = a_do a_nL R R 34 (s_call 10 24 2 2 false 6 ls st h) := a_R_eq ..
theorem r34_6 (ls : A_V) (st : List Value) (h : A_H) : R 34 6 ls st h = a_do a_nL R R 34 (s_goto 46 ls st h) := a_R_eq ..
theorem r34_7 (ls : A_V) (st : List Value) (h : A_H) : R 34 7 ls st h = a_do a_nL R R 34 (s_aldl 0 8 ls st h) := a_R_eq ..
theorem r34_8 (ls : A_V) (st : List Value) (h : A_H) : R 34 8 ls st h = a_do a_nL R R 34 (s_call 10 33 1 2 true 9 ls st h) := a_R_eq ..
theorem r34_9 (ls : A_V) (st : List Value) (h : A_H) : R 34 9 ls st h = a_do a_nL R R 34 (s_push (.int (-1)) 10 ls st h) := a_R_eq ..
theorem r34_10 (ls : A_V) (st : List Value) (h : A_H) : R 34 10 ls st h = a_do a_nL R R 34 (s_if2 (fun x y => decide (x = y)) 15 11 ls st h) := a_R_eq ..
theorem r34_11 (ls : A_V) (st : List Value) (h : A_H) : R 34 11 ls st h = a_do a_nL R R 34 (s_aldl 0 12 ls st h) := a_R_eq ..
theorem r34_12 (ls : A_V) (st : List Value) (h : A_H) : R 34 12 ls st h = a_do a_nL R R 34 (s_push (.int 3) 13 ls st h) := a_R_eq ..
theorem r34_13 (ls : A_V) (st : List Value) (h : A_H) : R 34 13 ls st h = a_do a_nL R R 34 (s_call 10 24 2 2 false 14 ls st h) := a_R_eq ..
theorem r34_14 (ls : A_V) (st : List Value) (h : A_H) : R 34 14 ls st h = a_do a_nL R R 34 (s_goto 46 ls st h) := a_R_eq ..
theorem r34_15 (ls : A_V) (st : List Value) (h : A_H) : R 34 15 ls st h = a_do a_nL R R 34 (s_aldl 0 16 ls st h) := a_R_eq ..
theorem r34_16 (ls : A_V) (st : List Value) (h : A_H) : R 34 16 ls st h = a_do a_nL R R 34 (s_getI 7 11 17 ls st h) := a_R_eq ..
theorem r34_17 (ls : A_V) (st : List Value) (h : A_H) : R 34 17 ls st h = a_do a_nL R R 34 (s_push (.int 19) 18 ls st h) := a_R_eq ..
theorem r34_18 (ls : A_V) (st : List Value) (h : A_H) : R 34 18 ls st h = a_do a_nL R R 34 (s_if2 (fun x y => decide (y ≤ x)) 46 19 ls st h) := a_R_eq ..
theorem r34_19 (ls : A_V) (st : List Value) (h : A_H) : R 34 19 ls st h = a_do a_nL R R 34 (s_aldl 0 20 ls st h) := a_R_eq ..
theorem r34_20 (ls : A_V) (st : List Value) (h : A_H) : R 34 20 ls st h = a_do a_nL R R 34 (s_getR 7 12 21 ls st h) := a_R_eq ..
theorem r34_21 (ls : A_V) (st : List Value) (h : A_H) : R 34 21 ls st h = a_do a_nL R R 34 (s_aldl 0 22 ls st h) := a_R_eq ..
theorem r34_22 (ls : A_V) (st : List Value) (h : A_H) : R 34 22 ls st h = a_do a_nL R R 34 (s_getI 7 11 23 ls st h) := a_R_eq ..
theorem r34_23 (ls : A_V) (st : List Value) (h : A_H) : R 34 23 ls st h = a_do a_nL R R 34 (s_aldl 0 24 ls st h) := a_R_eq ..
theorem r34_24 (ls : A_V) (st : List Value) (h : A_H) : R 34 24 ls st h = a_do a_nL R R 34 (s_getL 7 9 25 ls st h) := a_R_eq ..
theorem r34_25 (ls : A_V) (st : List Value) (h : A_H) : R 34 25 ls st h = a_do a_nL R R 34 (s_las 26 ls st h) := a_R_eq ..
theorem r34_26 (ls : A_V) (st : List Value) (h : A_H) : R 34 26 ls st h = a_do a_nL R R 34 (s_aldl 0 27 ls st h) := a_R_eq ..
theorem r34_27 (ls : A_V) (st : List Value) (h : A_H) : R 34 27 ls st h = a_do a_nL R R 34 (s_getR 7 13 28 ls st h) := a_R_eq ..
theorem r34_28 (ls : A_V) (st : List Value) (h : A_H) : R 34 28 ls st h = a_do a_nL R R 34 (s_aldl 0 29 ls st h) := a_R_eq ..
theorem r34_29 (ls : A_V) (st : List Value) (h : A_H) : R 34 29 ls st h = a_do a_nL R R 34 (s_getI 7 11 30 ls st h) := a_R_eq ..
theorem r34_30 (ls : A_V) (st : List Value) (h : A_H) : R 34 30 ls st h = a_do a_nL R R 34 (s_ildl 1 31 ls st h) := a_R_eq ..
theorem r34_31 (ls : A_V) (st : List Value) (h : A_H) : R 34 31 ls st h = a_do a_nL R R 34 (s_ias 32 ls st h) := a_R_eq ..
theorem r34_32 (ls : A_V) (st : List Value) (h : A_H) : R 34 32 ls st h = a_do a_nL R R 34 (s_aldl 0 33 ls st h) := a_R_eq ..
theorem r34_33 (ls : A_V) (st : List Value) (h : A_H) : R 34 33 ls st h = a_do a_nL R R 34 (s_getR 7 14 34 ls st h) := a_R_eq ..
theorem r34_34 (ls : A_V) (st : List Value) (h : A_H) : R 34 34 ls st h = a_do a_nL R R 34 (s_aldl 0 35 ls st h) := a_R_eq ..
theorem r34_35 (ls : A_V) (st : List Value) (h : A_H) : R 34 35 ls st h = a_do a_nL R R 34 (s_getI 7 11 36 ls st h) := a_R_eq ..
theorem r34_36 (ls : A_V) (st : List Value) (h : A_H) : R 34 36 ls st h = a_do a_nL R R 34 (s_ildl 2 37 ls st h) := a_R_eq ..
theorem r34_37 (ls : A_V) (st : List Value) (h : A_H) : R 34 37 ls st h = a_do a_nL R R 34 (s_ias 38 ls st h) := a_R_eq ..
theorem r34_38 (ls : A_V) (st : List Value) (h : A_H) : R 34 38 ls st h = a_do a_nL R R 34 (s_aldl 0 39 ls st h) := a_R_eq ..
theorem r34_39 (ls : A_V) (st : List Value) (h : A_H) : R 34 39 ls st h = a_do a_nL R R 34 (s_dup 40 ls st h) := a_R_eq ..
theorem r34_40 (ls : A_V) (st : List Value) (h : A_H) : R 34 40 ls st h = a_do a_nL R R 34 (s_getI 7 11 41 ls st h) := a_R_eq ..
theorem r34_41 (ls : A_V) (st : List Value) (h : A_H) : R 34 41 ls st h = a_do a_nL R R 34 (s_push (.int 1) 42 ls st h) := a_R_eq ..
theorem r34_42 (ls : A_V) (st : List Value) (h : A_H) : R 34 42 ls st h = a_do a_nL R R 34 (s_bi (fun x y => x + y) 43 ls st h) := a_R_eq ..
theorem r34_43 (ls : A_V) (st : List Value) (h : A_H) : R 34 43 ls st h = a_do a_nL R R 34 (s_putI 7 11 44 ls st h) := a_R_eq ..
theorem r34_44 (ls : A_V) (st : List Value) (h : A_H) : R 34 44 ls st h = a_do a_nL R R 34 (s_aldl 0 45 ls st h) := a_R_eq ..
theorem r34_45 (ls : A_V) (st : List Value) (h : A_H) : R 34 45 ls st h = a_do a_nL R R 34 (s_call 10 25 1 1 false 46 ls st h) := a_R_eq ..
theorem r34_46 (ls : A_V) (st : List Value) (h : A_H) : R 34 46 ls st h = a_do a_nL R R 34 (s_vret ls st h) := a_R_eq ..
theorem b34_0 (x0 : Nat) (x1 : Int32) (x2 : Int32) (h : A_H) : R 34 0 [some (.ref x0), some (.int x1), some (.int x2)] [] h = (cond (isO h x0 7) (a_back R 34 (32, [.ref x0], h, true, none, 2, [some (.ref x0), some (.int x1), some (.int x2)], []) (C 32 [.ref x0] h)) none) := (tr (r34_0 ..) (r34_1 ..))
theorem b34_2 (x0 : Nat) (x1 : Int32) (x2 : Int32) (s0 : Int32) (h : A_H) : R 34 2 [some (.ref x0), some (.int x1), some (.int x2)] [.int s0] h = (cond (!decide (s0 = 0)) (cond (isO h x0 7) (a_back R 34 (33, [.ref x0], h, true, none, 9, [some (.ref x0), some (.int x1), some (.int x2)], []) (C 33 [.ref x0] h)) none) (cond (isO h x0 7) (a_back R 34 (24, [.ref x0, .int (1 : Int32)], h, false, none, 6, [some (.ref x0), some (.int x1), some (.int x2)], []) (C 24 [.ref x0, .int (1 : Int32)] h)) none)) := (tr (r34_2 ..) (cgB (tr (r34_7 ..) (r34_8 ..)) (tr (r34_3 ..) (tr (r34_4 ..) (r34_5 ..)))))
theorem b34_6 (x0 : Nat) (x1 : Int32) (x2 : Int32) (h : A_H) : R 34 6 [some (.ref x0), some (.int x1), some (.int x2)] [] h = (some (some none, h)) := (tr (r34_6 ..) (r34_46 ..))
theorem b34_9 (x0 : Nat) (x1 : Int32) (x2 : Int32) (s0 : Int32) (h : A_H) : R 34 9 [some (.ref x0), some (.int x1), some (.int x2)] [.int s0] h = (cond (decide (s0 = (-1 : Int32))) (cond (isO h x0 7) (cond (decide ((19 : Int32) ≤ (hI h x0 11))) (some (some none, h)) (cond (isO h x0 7 && (hP h x0 12).isSome) (cond (isO h x0 7) (cond (isO h x0 7) (cond (isA h ((hP h x0 12).getD 0) 2 (hI h x0 11)) (R 34 26 [some (.ref x0), some (.int x1), some (.int x2)] [] (wL h ((hP h x0 12).getD 0) ((hI h x0 11)).toNatClampNeg (hL h x0 9))) none) none) none) none)) none) (cond (isO h x0 7) (a_back R 34 (24, [.ref x0, .int (3 : Int32)], h, false, none, 14, [some (.ref x0), some (.int x1), some (.int x2)], []) (C 24 [.ref x0, .int (3 : Int32)] h)) none)) := (tr (r34_9 ..) (tr (r34_10 ..) (cgB (tr (r34_15 ..) (tr (r34_16 ..) (cgT (tr (r34_17 ..) (tr (r34_18 ..) (cgB (r34_46 ..) (tr (r34_19 ..) (tr (r34_20 ..) (cgT (tr (r34_21 ..) (tr (r34_22 ..) (cgT (tr (r34_23 ..) (tr (r34_24 ..) (cgT (r34_25 ..)))))))))))))))) (tr (r34_11 ..) (tr (r34_12 ..) (r34_13 ..))))))
theorem b34_14 (x0 : Nat) (x1 : Int32) (x2 : Int32) (h : A_H) : R 34 14 [some (.ref x0), some (.int x1), some (.int x2)] [] h = (some (some none, h)) := (tr (r34_14 ..) (r34_46 ..))
theorem b34_26 (x0 : Nat) (x1 : Int32) (x2 : Int32) (h : A_H) : R 34 26 [some (.ref x0), some (.int x1), some (.int x2)] [] h = (cond (isO h x0 7 && (hP h x0 13).isSome) (cond (isO h x0 7) (cond (isA h ((hP h x0 13).getD 0) 0 (hI h x0 11)) (R 34 32 [some (.ref x0), some (.int x1), some (.int x2)] [] (wI h ((hP h x0 13).getD 0) ((hI h x0 11)).toNatClampNeg x1)) none) none) none) := (tr (r34_26 ..) (tr (r34_27 ..) (cgT (tr (r34_28 ..) (tr (r34_29 ..) (cgT (tr (r34_30 ..) (r34_31 ..))))))))
theorem b34_32 (x0 : Nat) (x1 : Int32) (x2 : Int32) (h : A_H) : R 34 32 [some (.ref x0), some (.int x1), some (.int x2)] [] h = (cond (isO h x0 7 && (hP h x0 14).isSome) (cond (isO h x0 7) (cond (isA h ((hP h x0 14).getD 0) 0 (hI h x0 11)) (R 34 38 [some (.ref x0), some (.int x1), some (.int x2)] [] (wI h ((hP h x0 14).getD 0) ((hI h x0 11)).toNatClampNeg x2)) none) none) none) := (tr (r34_32 ..) (tr (r34_33 ..) (cgT (tr (r34_34 ..) (tr (r34_35 ..) (cgT (tr (r34_36 ..) (r34_37 ..))))))))
theorem b34_38 (x0 : Nat) (x1 : Int32) (x2 : Int32) (h : A_H) : R 34 38 [some (.ref x0), some (.int x1), some (.int x2)] [] h = (cond (isO h x0 7) (cond (isO h x0 7) (R 34 44 [some (.ref x0), some (.int x1), some (.int x2)] [] (wI h x0 11 ((hI h x0 11) + (1 : Int32)))) none) none) := (tr (r34_38 ..) (tr (r34_39 ..) (tr (r34_40 ..) (cgT (tr (r34_41 ..) (tr (r34_42 ..) (r34_43 ..)))))))
theorem b34_44 (x0 : Nat) (x1 : Int32) (x2 : Int32) (h : A_H) : R 34 44 [some (.ref x0), some (.int x1), some (.int x2)] [] h = (cond (isO h x0 7) (a_back R 34 (25, [.ref x0], h, false, none, 46, [some (.ref x0), some (.int x1), some (.int x2)], []) (C 25 [.ref x0] h)) none) := (tr (r34_44 ..) (r34_45 ..))
theorem b34_46 (x0 : Nat) (x1 : Int32) (x2 : Int32) (h : A_H) : R 34 46 [some (.ref x0), some (.int x1), some (.int x2)] [] h = (some (some none, h)) := (r34_46 ..)
theorem e35 (x0 : Nat) (x1 : Int32) (h : A_H) : C 35 [.ref x0, .int x1] h = R 35 0 [some (.ref x0), some (.int x1), none] [] h := rfl
theorem r35_0 (ls : A_V) (st : List Value) (h : A_H) : R 35 0 ls st h = a_do a_nL R R 35 (s_aldl 0 1 ls st h) := a_R_eq ..
theorem r35_1 (ls : A_V) (st : List Value) (h : A_H) : R 35 1 ls st h = a_do a_nL R R 35 (s_call 10 33 1 2 true 2 ls st h) := a_R_eq ..
theorem r35_2 (ls : A_V) (st : List Value) (h : A_H) : R 35 2 ls st h = a_do a_nL R R 35 (s_ist 2 3 ls st h) := a_R_eq ..
theorem r35_3 (ls : A_V) (st : List Value) (h : A_H) : R 35 3 ls st h = a_do a_nL R R 35 (s_aldl 0 4 ls st h) := a_R_eq ..
theorem r35_4 (ls : A_V) (st : List Value) (h : A_H) : R 35 4 ls st h = a_do a_nL R R 35 (s_call 10 32 1 1 true 5 ls st h) := a_R_eq ..
theorem r35_5 (ls : A_V) (st : List Value) (h : A_H) : R 35 5 ls st h = a_do a_nL R R 35 (s_if1 (fun x => !decide (x = 0)) 10 6 ls st h) := a_R_eq ..
theorem r35_6 (ls : A_V) (st : List Value) (h : A_H) : R 35 6 ls st h = a_do a_nL R R 35 (s_aldl 0 7 ls st h) := a_R_eq ..
theorem r35_7 (ls : A_V) (st : List Value) (h : A_H) : R 35 7 ls st h = a_do a_nL R R 35 (s_push (.int 1) 8 ls st h) := a_R_eq ..
theorem r35_8 (ls : A_V) (st : List Value) (h : A_H) : R 35 8 ls st h = a_do a_nL R R 35 (s_call 10 24 2 2 false 9 ls st h) := a_R_eq ..
theorem r35_9 (ls : A_V) (st : List Value) (h : A_H) : R 35 9 ls st h = a_do a_nL R R 35 (s_goto 28 ls st h) := a_R_eq ..
theorem r35_10 (ls : A_V) (st : List Value) (h : A_H) : R 35 10 ls st h = a_do a_nL R R 35 (s_ildl 2 11 ls st h) := a_R_eq ..
theorem r35_11 (ls : A_V) (st : List Value) (h : A_H) : R 35 11 ls st h = a_do a_nL R R 35 (s_push (.int (-1)) 12 ls st h) := a_R_eq ..
theorem r35_12 (ls : A_V) (st : List Value) (h : A_H) : R 35 12 ls st h = a_do a_nL R R 35 (s_if2 (fun x y => decide (x = y)) 19 13 ls st h) := a_R_eq ..
theorem r35_13 (ls : A_V) (st : List Value) (h : A_H) : R 35 13 ls st h = a_do a_nL R R 35 (s_aldl 0 14 ls st h) := a_R_eq ..
theorem r35_14 (ls : A_V) (st : List Value) (h : A_H) : R 35 14 ls st h = a_do a_nL R R 35 (s_getR 7 13 15 ls st h) := a_R_eq ..
theorem r35_15 (ls : A_V) (st : List Value) (h : A_H) : R 35 15 ls st h = a_do a_nL R R 35 (s_ildl 2 16 ls st h) := a_R_eq ..
theorem r35_16 (ls : A_V) (st : List Value) (h : A_H) : R 35 16 ls st h = a_do a_nL R R 35 (s_ial 0 17 ls st h) := a_R_eq ..
theorem r35_17 (ls : A_V) (st : List Value) (h : A_H) : R 35 17 ls st h = a_do a_nL R R 35 (s_ildl 1 18 ls st h) := a_R_eq ..
theorem r35_18 (ls : A_V) (st : List Value) (h : A_H) : R 35 18 ls st h = a_do a_nL R R 35 (s_if2 (fun x y => decide (x = y)) 23 19 ls st h) := a_R_eq ..
theorem r35_19 (ls : A_V) (st : List Value) (h : A_H) : R 35 19 ls st h = a_do a_nL R R 35 (s_aldl 0 20 ls st h) := a_R_eq ..
theorem r35_20 (ls : A_V) (st : List Value) (h : A_H) : R 35 20 ls st h = a_do a_nL R R 35 (s_push (.int 2) 21 ls st h) := a_R_eq ..
theorem r35_21 (ls : A_V) (st : List Value) (h : A_H) : R 35 21 ls st h = a_do a_nL R R 35 (s_call 10 24 2 2 false 22 ls st h) := a_R_eq ..
theorem r35_22 (ls : A_V) (st : List Value) (h : A_H) : R 35 22 ls st h = a_do a_nL R R 35 (s_goto 28 ls st h) := a_R_eq ..
theorem r35_23 (ls : A_V) (st : List Value) (h : A_H) : R 35 23 ls st h = a_do a_nL R R 35 (s_aldl 0 24 ls st h) := a_R_eq ..
theorem r35_24 (ls : A_V) (st : List Value) (h : A_H) : R 35 24 ls st h = a_do a_nL R R 35 (s_getR 7 14 25 ls st h) := a_R_eq ..
theorem r35_25 (ls : A_V) (st : List Value) (h : A_H) : R 35 25 ls st h = a_do a_nL R R 35 (s_ildl 2 26 ls st h) := a_R_eq ..
theorem r35_26 (ls : A_V) (st : List Value) (h : A_H) : R 35 26 ls st h = a_do a_nL R R 35 (s_ial 0 27 ls st h) := a_R_eq ..
theorem r35_27 (ls : A_V) (st : List Value) (h : A_H) : R 35 27 ls st h = a_do a_nL R R 35 (s_iret ls st h) := a_R_eq ..
theorem r35_28 (ls : A_V) (st : List Value) (h : A_H) : R 35 28 ls st h = a_do a_nL R R 35 (s_push (.int 0) 29 ls st h) := a_R_eq ..
theorem r35_29 (ls : A_V) (st : List Value) (h : A_H) : R 35 29 ls st h = a_do a_nL R R 35 (s_iret ls st h) := a_R_eq ..
theorem b35_0 (x0 : Nat) (x1 : Int32) (l2 : Option Value) (h : A_H) : R 35 0 [some (.ref x0), some (.int x1), l2] [] h = (cond (isO h x0 7) (a_back R 35 (33, [.ref x0], h, true, none, 2, [some (.ref x0), some (.int x1), l2], []) (C 33 [.ref x0] h)) none) := (tr (r35_0 ..) (r35_1 ..))
theorem b35_2 (x0 : Nat) (x1 : Int32) (l2 : Option Value) (s0 : Int32) (h : A_H) : R 35 2 [some (.ref x0), some (.int x1), l2] [.int s0] h = (cond (isO h x0 7) (a_back R 35 (32, [.ref x0], h, true, none, 5, [some (.ref x0), some (.int x1), some (.int s0)], []) (C 32 [.ref x0] h)) none) := (tr (r35_2 ..) (tr (r35_3 ..) (r35_4 ..)))
theorem b35_5 (x0 : Nat) (x1 : Int32) (x2 : Int32) (s0 : Int32) (h : A_H) : R 35 5 [some (.ref x0), some (.int x1), some (.int x2)] [.int s0] h = (cond (!decide (s0 = 0)) (cond (decide (x2 = (-1 : Int32))) (cond (isO h x0 7) (a_back R 35 (24, [.ref x0, .int (2 : Int32)], h, false, none, 22, [some (.ref x0), some (.int x1), some (.int x2)], []) (C 24 [.ref x0, .int (2 : Int32)] h)) none) (cond (isO h x0 7 && (hP h x0 13).isSome) (cond (isA h ((hP h x0 13).getD 0) 0 x2) (cond (decide ((hI h ((hP h x0 13).getD 0) (x2).toNatClampNeg) = x1)) (cond (isO h x0 7 && (hP h x0 14).isSome) (cond (isA h ((hP h x0 14).getD 0) 0 x2) (some (some (some (.int (hI h ((hP h x0 14).getD 0) (x2).toNatClampNeg))), h)) none) none) (cond (isO h x0 7) (a_back R 35 (24, [.ref x0, .int (2 : Int32)], h, false, none, 22, [some (.ref x0), some (.int x1), some (.int x2)], []) (C 24 [.ref x0, .int (2 : Int32)] h)) none)) none) none)) (cond (isO h x0 7) (a_back R 35 (24, [.ref x0, .int (1 : Int32)], h, false, none, 9, [some (.ref x0), some (.int x1), some (.int x2)], []) (C 24 [.ref x0, .int (1 : Int32)] h)) none)) := (tr (r35_5 ..) (cgB (tr (r35_10 ..) (tr (r35_11 ..) (tr (r35_12 ..) (cgB (tr (r35_19 ..) (tr (r35_20 ..) (r35_21 ..))) (tr (r35_13 ..) (tr (r35_14 ..) (cgT (tr (r35_15 ..) (tr (r35_16 ..) (cgT (tr (r35_17 ..) (tr (r35_18 ..) (cgB (tr (r35_23 ..) (tr (r35_24 ..) (cgT (tr (r35_25 ..) (tr (r35_26 ..) (cgT (r35_27 ..))))))) (tr (r35_19 ..) (tr (r35_20 ..) (r35_21 ..)))))))))))))))) (tr (r35_6 ..) (tr (r35_7 ..) (r35_8 ..)))))
theorem b35_9 (x0 : Nat) (x1 : Int32) (x2 : Int32) (h : A_H) : R 35 9 [some (.ref x0), some (.int x1), some (.int x2)] [] h = (some (some (some (.int (0 : Int32))), h)) := (tr (r35_9 ..) (tr (r35_28 ..) (r35_29 ..)))
theorem b35_22 (x0 : Nat) (x1 : Int32) (x2 : Int32) (h : A_H) : R 35 22 [some (.ref x0), some (.int x1), some (.int x2)] [] h = (some (some (some (.int (0 : Int32))), h)) := (tr (r35_22 ..) (tr (r35_28 ..) (r35_29 ..)))
theorem e36 (x0 : Nat) (h : A_H) : C 36 [.ref x0] h = R 36 0 [some (.ref x0), none] [] h := rfl
theorem r36_0 (ls : A_V) (st : List Value) (h : A_H) : R 36 0 ls st h = a_do a_nL R R 36 (s_aldl 0 1 ls st h) := a_R_eq ..
theorem r36_1 (ls : A_V) (st : List Value) (h : A_H) : R 36 1 ls st h = a_do a_nL R R 36 (s_call 10 31 1 2 true 2 ls st h) := a_R_eq ..
theorem r36_2 (ls : A_V) (st : List Value) (h : A_H) : R 36 2 ls st h = a_do a_nL R R 36 (s_ist 1 3 ls st h) := a_R_eq ..
theorem r36_3 (ls : A_V) (st : List Value) (h : A_H) : R 36 3 ls st h = a_do a_nL R R 36 (s_ildl 1 4 ls st h) := a_R_eq ..
theorem r36_4 (ls : A_V) (st : List Value) (h : A_H) : R 36 4 ls st h = a_do a_nL R R 36 (s_if1 (fun x => decide (x ≤ 0)) 15 5 ls st h) := a_R_eq ..
theorem r36_5 (ls : A_V) (st : List Value) (h : A_H) : R 36 5 ls st h = a_do a_nL R R 36 (s_ildl 1 6 ls st h) := a_R_eq ..
theorem r36_6 (ls : A_V) (st : List Value) (h : A_H) : R 36 6 ls st h = a_do a_nL R R 36 (s_push (.int 8) 7 ls st h) := a_R_eq ..
theorem r36_7 (ls : A_V) (st : List Value) (h : A_H) : R 36 7 ls st h = a_do a_nL R R 36 (s_if2 (fun x y => decide (y < x)) 15 8 ls st h) := a_R_eq ..
theorem r36_8 (ls : A_V) (st : List Value) (h : A_H) : R 36 8 ls st h = a_do a_nL R R 36 (s_aldl 0 9 ls st h) := a_R_eq ..
theorem r36_9 (ls : A_V) (st : List Value) (h : A_H) : R 36 9 ls st h = a_do a_nL R R 36 (s_getI 7 3 10 ls st h) := a_R_eq ..
theorem r36_10 (ls : A_V) (st : List Value) (h : A_H) : R 36 10 ls st h = a_do a_nL R R 36 (s_if1 (fun x => !decide (x = 0)) 15 11 ls st h) := a_R_eq ..
theorem r36_11 (ls : A_V) (st : List Value) (h : A_H) : R 36 11 ls st h = a_do a_nL R R 36 (s_aldl 0 12 ls st h) := a_R_eq ..
theorem r36_12 (ls : A_V) (st : List Value) (h : A_H) : R 36 12 ls st h = a_do a_nL R R 36 (s_push (.int 6) 13 ls st h) := a_R_eq ..
theorem r36_13 (ls : A_V) (st : List Value) (h : A_H) : R 36 13 ls st h = a_do a_nL R R 36 (s_call 10 24 2 2 false 14 ls st h) := a_R_eq ..
theorem r36_14 (ls : A_V) (st : List Value) (h : A_H) : R 36 14 ls st h = a_do a_nL R R 36 (s_vret ls st h) := a_R_eq ..
theorem r36_15 (ls : A_V) (st : List Value) (h : A_H) : R 36 15 ls st h = a_do a_nL R R 36 (s_ildl 1 16 ls st h) := a_R_eq ..
theorem r36_16 (ls : A_V) (st : List Value) (h : A_H) : R 36 16 ls st h = a_do a_nL R R 36 (s_sw [(0, 17), (1, 20), (2, 23), (3, 26), (4, 29), (5, 32), (6, 35), (7, 38), (8, 41)] 44 ls st h) := a_R_eq ..
theorem r36_17 (ls : A_V) (st : List Value) (h : A_H) : R 36 17 ls st h = a_do a_nL R R 36 (s_aldl 0 18 ls st h) := a_R_eq ..
theorem r36_18 (ls : A_V) (st : List Value) (h : A_H) : R 36 18 ls st h = a_do a_nL R R 36 (s_call 10 38 1 1 false 19 ls st h) := a_R_eq ..
theorem r36_19 (ls : A_V) (st : List Value) (h : A_H) : R 36 19 ls st h = a_do a_nL R R 36 (s_goto 47 ls st h) := a_R_eq ..
theorem r36_20 (ls : A_V) (st : List Value) (h : A_H) : R 36 20 ls st h = a_do a_nL R R 36 (s_aldl 0 21 ls st h) := a_R_eq ..
theorem r36_21 (ls : A_V) (st : List Value) (h : A_H) : R 36 21 ls st h = a_do a_nL R R 36 (s_call 10 39 1 3 false 22 ls st h) := a_R_eq ..
theorem r36_22 (ls : A_V) (st : List Value) (h : A_H) : R 36 22 ls st h = a_do a_nL R R 36 (s_goto 47 ls st h) := a_R_eq ..
theorem r36_23 (ls : A_V) (st : List Value) (h : A_H) : R 36 23 ls st h = a_do a_nL R R 36 (s_aldl 0 24 ls st h) := a_R_eq ..
theorem r36_24 (ls : A_V) (st : List Value) (h : A_H) : R 36 24 ls st h = a_do a_nL R R 36 (s_call 10 40 1 3 false 25 ls st h) := a_R_eq ..
theorem r36_25 (ls : A_V) (st : List Value) (h : A_H) : R 36 25 ls st h = a_do a_nL R R 36 (s_goto 47 ls st h) := a_R_eq ..
theorem r36_26 (ls : A_V) (st : List Value) (h : A_H) : R 36 26 ls st h = a_do a_nL R R 36 (s_aldl 0 27 ls st h) := a_R_eq ..
theorem r36_27 (ls : A_V) (st : List Value) (h : A_H) : R 36 27 ls st h = a_do a_nL R R 36 (s_call 10 41 1 3 false 28 ls st h) := a_R_eq ..
theorem r36_28 (ls : A_V) (st : List Value) (h : A_H) : R 36 28 ls st h = a_do a_nL R R 36 (s_goto 47 ls st h) := a_R_eq ..
theorem r36_29 (ls : A_V) (st : List Value) (h : A_H) : R 36 29 ls st h = a_do a_nL R R 36 (s_aldl 0 30 ls st h) := a_R_eq ..
theorem r36_30 (ls : A_V) (st : List Value) (h : A_H) : R 36 30 ls st h = a_do a_nL R R 36 (s_call 10 42 1 3 false 31 ls st h) := a_R_eq ..
theorem r36_31 (ls : A_V) (st : List Value) (h : A_H) : R 36 31 ls st h = a_do a_nL R R 36 (s_goto 47 ls st h) := a_R_eq ..
theorem r36_32 (ls : A_V) (st : List Value) (h : A_H) : R 36 32 ls st h = a_do a_nL R R 36 (s_aldl 0 33 ls st h) := a_R_eq ..
theorem r36_33 (ls : A_V) (st : List Value) (h : A_H) : R 36 33 ls st h = a_do a_nL R R 36 (s_call 10 44 1 2 false 34 ls st h) := a_R_eq ..
theorem r36_34 (ls : A_V) (st : List Value) (h : A_H) : R 36 34 ls st h = a_do a_nL R R 36 (s_goto 47 ls st h) := a_R_eq ..
theorem r36_35 (ls : A_V) (st : List Value) (h : A_H) : R 36 35 ls st h = a_do a_nL R R 36 (s_aldl 0 36 ls st h) := a_R_eq ..
theorem r36_36 (ls : A_V) (st : List Value) (h : A_H) : R 36 36 ls st h = a_do a_nL R R 36 (s_call 10 45 1 3 false 37 ls st h) := a_R_eq ..
theorem r36_37 (ls : A_V) (st : List Value) (h : A_H) : R 36 37 ls st h = a_do a_nL R R 36 (s_goto 47 ls st h) := a_R_eq ..
theorem r36_38 (ls : A_V) (st : List Value) (h : A_H) : R 36 38 ls st h = a_do a_nL R R 36 (s_aldl 0 39 ls st h) := a_R_eq ..
theorem r36_39 (ls : A_V) (st : List Value) (h : A_H) : R 36 39 ls st h = a_do a_nL R R 36 (s_call 10 46 1 2 false 40 ls st h) := a_R_eq ..
theorem r36_40 (ls : A_V) (st : List Value) (h : A_H) : R 36 40 ls st h = a_do a_nL R R 36 (s_goto 47 ls st h) := a_R_eq ..
theorem r36_41 (ls : A_V) (st : List Value) (h : A_H) : R 36 41 ls st h = a_do a_nL R R 36 (s_aldl 0 42 ls st h) := a_R_eq ..
theorem r36_42 (ls : A_V) (st : List Value) (h : A_H) : R 36 42 ls st h = a_do a_nL R R 36 (s_call 10 47 1 2 false 43 ls st h) := a_R_eq ..
theorem r36_43 (ls : A_V) (st : List Value) (h : A_H) : R 36 43 ls st h = a_do a_nL R R 36 (s_goto 47 ls st h) := a_R_eq ..
theorem r36_44 (ls : A_V) (st : List Value) (h : A_H) : R 36 44 ls st h = a_do a_nL R R 36 (s_aldl 0 45 ls st h) := a_R_eq ..
theorem r36_45 (ls : A_V) (st : List Value) (h : A_H) : R 36 45 ls st h = a_do a_nL R R 36 (s_push (.int 1) 46 ls st h) := a_R_eq ..
theorem r36_46 (ls : A_V) (st : List Value) (h : A_H) : R 36 46 ls st h = a_do a_nL R R 36 (s_call 10 24 2 2 false 47 ls st h) := a_R_eq ..
theorem r36_47 (ls : A_V) (st : List Value) (h : A_H) : R 36 47 ls st h = a_do a_nL R R 36 (s_vret ls st h) := a_R_eq ..
theorem b36_0 (x0 : Nat) (l1 : Option Value) (h : A_H) : R 36 0 [some (.ref x0), l1] [] h = (cond (isO h x0 7) (a_back R 36 (31, [.ref x0], h, true, none, 2, [some (.ref x0), l1], []) (C 31 [.ref x0] h)) none) := (tr (r36_0 ..) (r36_1 ..))
theorem b36_2 (x0 : Nat) (l1 : Option Value) (s0 : Int32) (h : A_H) : R 36 2 [some (.ref x0), l1] [.int s0] h = (cond (decide (s0 ≤ 0)) (cond (decide (s0 = 0)) (cond (isO h x0 7) (a_back R 36 (38, [.ref x0], h, false, none, 19, [some (.ref x0), some (.int s0)], []) (C 38 [.ref x0] h)) none) (cond (decide (s0 = 1)) (cond (isO h x0 7) (a_back R 36 (39, [.ref x0], h, false, none, 22, [some (.ref x0), some (.int s0)], []) (C 39 [.ref x0] h)) none) (cond (decide (s0 = 2)) (cond (isO h x0 7) (a_back R 36 (40, [.ref x0], h, false, none, 25, [some (.ref x0), some (.int s0)], []) (C 40 [.ref x0] h)) none) (cond (decide (s0 = 3)) (cond (isO h x0 7) (a_back R 36 (41, [.ref x0], h, false, none, 28, [some (.ref x0), some (.int s0)], []) (C 41 [.ref x0] h)) none) (cond (decide (s0 = 4)) (cond (isO h x0 7) (a_back R 36 (42, [.ref x0], h, false, none, 31, [some (.ref x0), some (.int s0)], []) (C 42 [.ref x0] h)) none) (cond (decide (s0 = 5)) (cond (isO h x0 7) (a_back R 36 (44, [.ref x0], h, false, none, 34, [some (.ref x0), some (.int s0)], []) (C 44 [.ref x0] h)) none) (cond (decide (s0 = 6)) (cond (isO h x0 7) (a_back R 36 (45, [.ref x0], h, false, none, 37, [some (.ref x0), some (.int s0)], []) (C 45 [.ref x0] h)) none) (cond (decide (s0 = 7)) (cond (isO h x0 7) (a_back R 36 (46, [.ref x0], h, false, none, 40, [some (.ref x0), some (.int s0)], []) (C 46 [.ref x0] h)) none) (cond (decide (s0 = 8)) (cond (isO h x0 7) (a_back R 36 (47, [.ref x0], h, false, none, 43, [some (.ref x0), some (.int s0)], []) (C 47 [.ref x0] h)) none) (cond (isO h x0 7) (a_back R 36 (24, [.ref x0, .int (1 : Int32)], h, false, none, 47, [some (.ref x0), some (.int s0)], []) (C 24 [.ref x0, .int (1 : Int32)] h)) none)))))))))) (cond (decide ((8 : Int32) < s0)) (cond (decide (s0 = 0)) (cond (isO h x0 7) (a_back R 36 (38, [.ref x0], h, false, none, 19, [some (.ref x0), some (.int s0)], []) (C 38 [.ref x0] h)) none) (cond (decide (s0 = 1)) (cond (isO h x0 7) (a_back R 36 (39, [.ref x0], h, false, none, 22, [some (.ref x0), some (.int s0)], []) (C 39 [.ref x0] h)) none) (cond (decide (s0 = 2)) (cond (isO h x0 7) (a_back R 36 (40, [.ref x0], h, false, none, 25, [some (.ref x0), some (.int s0)], []) (C 40 [.ref x0] h)) none) (cond (decide (s0 = 3)) (cond (isO h x0 7) (a_back R 36 (41, [.ref x0], h, false, none, 28, [some (.ref x0), some (.int s0)], []) (C 41 [.ref x0] h)) none) (cond (decide (s0 = 4)) (cond (isO h x0 7) (a_back R 36 (42, [.ref x0], h, false, none, 31, [some (.ref x0), some (.int s0)], []) (C 42 [.ref x0] h)) none) (cond (decide (s0 = 5)) (cond (isO h x0 7) (a_back R 36 (44, [.ref x0], h, false, none, 34, [some (.ref x0), some (.int s0)], []) (C 44 [.ref x0] h)) none) (cond (decide (s0 = 6)) (cond (isO h x0 7) (a_back R 36 (45, [.ref x0], h, false, none, 37, [some (.ref x0), some (.int s0)], []) (C 45 [.ref x0] h)) none) (cond (decide (s0 = 7)) (cond (isO h x0 7) (a_back R 36 (46, [.ref x0], h, false, none, 40, [some (.ref x0), some (.int s0)], []) (C 46 [.ref x0] h)) none) (cond (decide (s0 = 8)) (cond (isO h x0 7) (a_back R 36 (47, [.ref x0], h, false, none, 43, [some (.ref x0), some (.int s0)], []) (C 47 [.ref x0] h)) none) (cond (isO h x0 7) (a_back R 36 (24, [.ref x0, .int (1 : Int32)], h, false, none, 47, [some (.ref x0), some (.int s0)], []) (C 24 [.ref x0, .int (1 : Int32)] h)) none)))))))))) (cond (isO h x0 7) (cond (!decide ((hI h x0 3) = 0)) (cond (decide (s0 = 0)) (cond (isO h x0 7) (a_back R 36 (38, [.ref x0], h, false, none, 19, [some (.ref x0), some (.int s0)], []) (C 38 [.ref x0] h)) none) (cond (decide (s0 = 1)) (cond (isO h x0 7) (a_back R 36 (39, [.ref x0], h, false, none, 22, [some (.ref x0), some (.int s0)], []) (C 39 [.ref x0] h)) none) (cond (decide (s0 = 2)) (cond (isO h x0 7) (a_back R 36 (40, [.ref x0], h, false, none, 25, [some (.ref x0), some (.int s0)], []) (C 40 [.ref x0] h)) none) (cond (decide (s0 = 3)) (cond (isO h x0 7) (a_back R 36 (41, [.ref x0], h, false, none, 28, [some (.ref x0), some (.int s0)], []) (C 41 [.ref x0] h)) none) (cond (decide (s0 = 4)) (cond (isO h x0 7) (a_back R 36 (42, [.ref x0], h, false, none, 31, [some (.ref x0), some (.int s0)], []) (C 42 [.ref x0] h)) none) (cond (decide (s0 = 5)) (cond (isO h x0 7) (a_back R 36 (44, [.ref x0], h, false, none, 34, [some (.ref x0), some (.int s0)], []) (C 44 [.ref x0] h)) none) (cond (decide (s0 = 6)) (cond (isO h x0 7) (a_back R 36 (45, [.ref x0], h, false, none, 37, [some (.ref x0), some (.int s0)], []) (C 45 [.ref x0] h)) none) (cond (decide (s0 = 7)) (cond (isO h x0 7) (a_back R 36 (46, [.ref x0], h, false, none, 40, [some (.ref x0), some (.int s0)], []) (C 46 [.ref x0] h)) none) (cond (decide (s0 = 8)) (cond (isO h x0 7) (a_back R 36 (47, [.ref x0], h, false, none, 43, [some (.ref x0), some (.int s0)], []) (C 47 [.ref x0] h)) none) (cond (isO h x0 7) (a_back R 36 (24, [.ref x0, .int (1 : Int32)], h, false, none, 47, [some (.ref x0), some (.int s0)], []) (C 24 [.ref x0, .int (1 : Int32)] h)) none)))))))))) (cond (isO h x0 7) (a_back R 36 (24, [.ref x0, .int (6 : Int32)], h, false, none, 14, [some (.ref x0), some (.int s0)], []) (C 24 [.ref x0, .int (6 : Int32)] h)) none)) none))) := (tr (r36_2 ..) (tr (r36_3 ..) (tr (r36_4 ..) (cgB (tr (r36_15 ..) (tr (r36_16 ..) (cgB (tr (r36_17 ..) (r36_18 ..)) (cgB (tr (r36_20 ..) (r36_21 ..)) (cgB (tr (r36_23 ..) (r36_24 ..)) (cgB (tr (r36_26 ..) (r36_27 ..)) (cgB (tr (r36_29 ..) (r36_30 ..)) (cgB (tr (r36_32 ..) (r36_33 ..)) (cgB (tr (r36_35 ..) (r36_36 ..)) (cgB (tr (r36_38 ..) (r36_39 ..)) (cgB (tr (r36_41 ..) (r36_42 ..)) (tr (r36_44 ..) (tr (r36_45 ..) (r36_46 ..)))))))))))))) (tr (r36_5 ..) (tr (r36_6 ..) (tr (r36_7 ..) (cgB (tr (r36_15 ..) (tr (r36_16 ..) (cgB (tr (r36_17 ..) (r36_18 ..)) (cgB (tr (r36_20 ..) (r36_21 ..)) (cgB (tr (r36_23 ..) (r36_24 ..)) (cgB (tr (r36_26 ..) (r36_27 ..)) (cgB (tr (r36_29 ..) (r36_30 ..)) (cgB (tr (r36_32 ..) (r36_33 ..)) (cgB (tr (r36_35 ..) (r36_36 ..)) (cgB (tr (r36_38 ..) (r36_39 ..)) (cgB (tr (r36_41 ..) (r36_42 ..)) (tr (r36_44 ..) (tr (r36_45 ..) (r36_46 ..)))))))))))))) (tr (r36_8 ..) (tr (r36_9 ..) (cgT (tr (r36_10 ..) (cgB (tr (r36_15 ..) (tr (r36_16 ..) (cgB (tr (r36_17 ..) (r36_18 ..)) (cgB (tr (r36_20 ..) (r36_21 ..)) (cgB (tr (r36_23 ..) (r36_24 ..)) (cgB (tr (r36_26 ..) (r36_27 ..)) (cgB (tr (r36_29 ..) (r36_30 ..)) (cgB (tr (r36_32 ..) (r36_33 ..)) (cgB (tr (r36_35 ..) (r36_36 ..)) (cgB (tr (r36_38 ..) (r36_39 ..)) (cgB (tr (r36_41 ..) (r36_42 ..)) (tr (r36_44 ..) (tr (r36_45 ..) (r36_46 ..)))))))))))))) (tr (r36_11 ..) (tr (r36_12 ..) (r36_13 ..))))))))))))))))
theorem b36_14 (x0 : Nat) (x1 : Int32) (h : A_H) : R 36 14 [some (.ref x0), some (.int x1)] [] h = (some (some none, h)) := (r36_14 ..)
theorem b36_19 (x0 : Nat) (x1 : Int32) (h : A_H) : R 36 19 [some (.ref x0), some (.int x1)] [] h = (some (some none, h)) := (tr (r36_19 ..) (r36_47 ..))
theorem b36_22 (x0 : Nat) (x1 : Int32) (h : A_H) : R 36 22 [some (.ref x0), some (.int x1)] [] h = (some (some none, h)) := (tr (r36_22 ..) (r36_47 ..))
theorem b36_25 (x0 : Nat) (x1 : Int32) (h : A_H) : R 36 25 [some (.ref x0), some (.int x1)] [] h = (some (some none, h)) := (tr (r36_25 ..) (r36_47 ..))
theorem b36_28 (x0 : Nat) (x1 : Int32) (h : A_H) : R 36 28 [some (.ref x0), some (.int x1)] [] h = (some (some none, h)) := (tr (r36_28 ..) (r36_47 ..))
theorem b36_31 (x0 : Nat) (x1 : Int32) (h : A_H) : R 36 31 [some (.ref x0), some (.int x1)] [] h = (some (some none, h)) := (tr (r36_31 ..) (r36_47 ..))
theorem b36_34 (x0 : Nat) (x1 : Int32) (h : A_H) : R 36 34 [some (.ref x0), some (.int x1)] [] h = (some (some none, h)) := (tr (r36_34 ..) (r36_47 ..))
theorem b36_37 (x0 : Nat) (x1 : Int32) (h : A_H) : R 36 37 [some (.ref x0), some (.int x1)] [] h = (some (some none, h)) := (tr (r36_37 ..) (r36_47 ..))
theorem b36_40 (x0 : Nat) (x1 : Int32) (h : A_H) : R 36 40 [some (.ref x0), some (.int x1)] [] h = (some (some none, h)) := (tr (r36_40 ..) (r36_47 ..))
theorem b36_43 (x0 : Nat) (x1 : Int32) (h : A_H) : R 36 43 [some (.ref x0), some (.int x1)] [] h = (some (some none, h)) := (tr (r36_43 ..) (r36_47 ..))
theorem b36_47 (x0 : Nat) (x1 : Int32) (h : A_H) : R 36 47 [some (.ref x0), some (.int x1)] [] h = (some (some none, h)) := (r36_47 ..)
theorem e37 (x0 : Nat) (x1 : Int32) (x2 : Int32) (h : A_H) : C 37 [.ref x0, .int x1, .int x2] h = R 37 0 [some (.ref x0), some (.int x1), some (.int x2)] [] h := rfl
theorem r37_0 (ls : A_V) (st : List Value) (h : A_H) : R 37 0 ls st h = a_do a_nL R R 37 (s_ildl 1 1 ls st h) := a_R_eq ..
theorem r37_1 (ls : A_V) (st : List Value) (h : A_H) : R 37 1 ls st h = a_do a_nL R R 37 (s_ildl 2 2 ls st h) := a_R_eq ..
theorem r37_2 (ls : A_V) (st : List Value) (h : A_H) : R 37 2 ls st h = a_do a_nL R R 37 (s_if2 (fun x y => decide (x < y)) 8 3 ls st h) := a_R_eq ..
theorem r37_3 (ls : A_V) (st : List Value) (h : A_H) : R 37 3 ls st h = a_do a_nL R R 37 (s_aldl 0 4 ls st h) := a_R_eq ..
theorem r37_4 (ls : A_V) (st : List Value) (h : A_H) : R 37 4 ls st h = a_do a_nL R R 37 (s_push (.int 5) 5 ls st h) := a_R_eq ..
theorem r37_5 (ls : A_V) (st : List Value) (h : A_H) : R 37 5 ls st h = a_do a_nL R R 37 (s_call 10 24 2 2 false 6 ls st h) := a_R_eq ..
theorem r37_6 (ls : A_V) (st : List Value) (h : A_H) : R 37 6 ls st h = a_do a_nL R R 37 (s_push (.int 0) 7 ls st h) := a_R_eq ..
theorem r37_7 (ls : A_V) (st : List Value) (h : A_H) : R 37 7 ls st h = a_do a_nL R R 37 (s_zret ls st h) := a_R_eq ..
theorem r37_8 (ls : A_V) (st : List Value) (h : A_H) : R 37 8 ls st h = a_do a_nL R R 37 (s_aldl 0 9 ls st h) := a_R_eq ..
theorem r37_9 (ls : A_V) (st : List Value) (h : A_H) : R 37 9 ls st h = a_do a_nL R R 37 (s_call 10 25 1 1 false 10 ls st h) := a_R_eq ..
theorem r37_10 (ls : A_V) (st : List Value) (h : A_H) : R 37 10 ls st h = a_do a_nL R R 37 (s_push (.int 1) 11 ls st h) := a_R_eq ..
theorem r37_11 (ls : A_V) (st : List Value) (h : A_H) : R 37 11 ls st h = a_do a_nL R R 37 (s_zret ls st h) := a_R_eq ..
theorem b37_0 (x0 : Nat) (x1 : Int32) (x2 : Int32) (h : A_H) : R 37 0 [some (.ref x0), some (.int x1), some (.int x2)] [] h = (cond (decide (x1 < x2)) (cond (isO h x0 7) (a_back R 37 (25, [.ref x0], h, false, none, 10, [some (.ref x0), some (.int x1), some (.int x2)], []) (C 25 [.ref x0] h)) none) (cond (isO h x0 7) (a_back R 37 (24, [.ref x0, .int (5 : Int32)], h, false, none, 6, [some (.ref x0), some (.int x1), some (.int x2)], []) (C 24 [.ref x0, .int (5 : Int32)] h)) none)) := (tr (r37_0 ..) (tr (r37_1 ..) (tr (r37_2 ..) (cgB (tr (r37_8 ..) (r37_9 ..)) (tr (r37_3 ..) (tr (r37_4 ..) (r37_5 ..)))))))
theorem b37_6 (x0 : Nat) (x1 : Int32) (x2 : Int32) (h : A_H) : R 37 6 [some (.ref x0), some (.int x1), some (.int x2)] [] h = (cond (decide ((0 : Int32) = 0) || decide ((0 : Int32) = 1)) (some (some (some (.int (0 : Int32))), h)) none) := (tr (r37_6 ..) (r37_7 ..))
theorem b37_10 (x0 : Nat) (x1 : Int32) (x2 : Int32) (h : A_H) : R 37 10 [some (.ref x0), some (.int x1), some (.int x2)] [] h = (cond (decide ((1 : Int32) = 0) || decide ((1 : Int32) = 1)) (some (some (some (.int (1 : Int32))), h)) none) := (tr (r37_10 ..) (r37_11 ..))
theorem e38 (x0 : Nat) (h : A_H) : C 38 [.ref x0] h = R 38 0 [some (.ref x0)] [] h := rfl
theorem r38_0 (ls : A_V) (st : List Value) (h : A_H) : R 38 0 ls st h = a_do a_nL R R 38 (s_aldl 0 1 ls st h) := a_R_eq ..
theorem r38_1 (ls : A_V) (st : List Value) (h : A_H) : R 38 1 ls st h = a_do a_nL R R 38 (s_getI 7 3 2 ls st h) := a_R_eq ..
theorem r38_2 (ls : A_V) (st : List Value) (h : A_H) : R 38 2 ls st h = a_do a_nL R R 38 (s_if1 (fun x => decide (x = 0)) 7 3 ls st h) := a_R_eq ..
theorem r38_3 (ls : A_V) (st : List Value) (h : A_H) : R 38 3 ls st h = a_do a_nL R R 38 (s_aldl 0 4 ls st h) := a_R_eq ..
theorem r38_4 (ls : A_V) (st : List Value) (h : A_H) : R 38 4 ls st h = a_do a_nL R R 38 (s_push (.int 3) 5 ls st h) := a_R_eq ..
theorem r38_5 (ls : A_V) (st : List Value) (h : A_H) : R 38 5 ls st h = a_do a_nL R R 38 (s_call 10 24 2 2 false 6 ls st h) := a_R_eq ..
theorem r38_6 (ls : A_V) (st : List Value) (h : A_H) : R 38 6 ls st h = a_do a_nL R R 38 (s_vret ls st h) := a_R_eq ..
theorem r38_7 (ls : A_V) (st : List Value) (h : A_H) : R 38 7 ls st h = a_do a_nL R R 38 (s_aldl 0 8 ls st h) := a_R_eq ..
theorem r38_8 (ls : A_V) (st : List Value) (h : A_H) : R 38 8 ls st h = a_do a_nL R R 38 (s_push (.int 1) 9 ls st h) := a_R_eq ..
theorem r38_9 (ls : A_V) (st : List Value) (h : A_H) : R 38 9 ls st h = a_do a_nL R R 38 (s_putZ 7 3 10 ls st h) := a_R_eq ..
theorem r38_10 (ls : A_V) (st : List Value) (h : A_H) : R 38 10 ls st h = a_do a_nL R R 38 (s_aldl 0 11 ls st h) := a_R_eq ..
theorem r38_11 (ls : A_V) (st : List Value) (h : A_H) : R 38 11 ls st h = a_do a_nL R R 38 (s_call 10 25 1 1 false 12 ls st h) := a_R_eq ..
theorem r38_12 (ls : A_V) (st : List Value) (h : A_H) : R 38 12 ls st h = a_do a_nL R R 38 (s_aldl 0 13 ls st h) := a_R_eq ..
theorem r38_13 (ls : A_V) (st : List Value) (h : A_H) : R 38 13 ls st h = a_do a_nL R R 38 (s_push (.float 12) 14 ls st h) := a_R_eq ..
theorem r38_14 (ls : A_V) (st : List Value) (h : A_H) : R 38 14 ls st h = a_do a_nL R R 38 (s_call 10 29 2 2 false 15 ls st h) := a_R_eq ..
theorem r38_15 (ls : A_V) (st : List Value) (h : A_H) : R 38 15 ls st h = a_do a_nL R R 38 (s_aldl 0 16 ls st h) := a_R_eq ..
theorem r38_16 (ls : A_V) (st : List Value) (h : A_H) : R 38 16 ls st h = a_do a_nL R R 38 (s_getR 7 2 17 ls st h) := a_R_eq ..
theorem r38_17 (ls : A_V) (st : List Value) (h : A_H) : R 38 17 ls st h = a_do a_nL R R 38 (s_aldl 0 18 ls st h) := a_R_eq ..
theorem r38_18 (ls : A_V) (st : List Value) (h : A_H) : R 38 18 ls st h = a_do a_nL R R 38 (s_push (.int 0) 19 ls st h) := a_R_eq ..
theorem r38_19 (ls : A_V) (st : List Value) (h : A_H) : R 38 19 ls st h = a_do a_nL R R 38 (s_push (.int 9) 20 ls st h) := a_R_eq ..
theorem r38_20 (ls : A_V) (st : List Value) (h : A_H) : R 38 20 ls st h = a_do a_nL R R 38 (s_call 10 30 3 4 true 21 ls st h) := a_R_eq ..
theorem r38_21 (ls : A_V) (st : List Value) (h : A_H) : R 38 21 ls st h = a_do a_nL R R 38 (s_putI 9 0 22 ls st h) := a_R_eq ..
theorem r38_22 (ls : A_V) (st : List Value) (h : A_H) : R 38 22 ls st h = a_do a_nL R R 38 (s_aldl 0 23 ls st h) := a_R_eq ..
theorem r38_23 (ls : A_V) (st : List Value) (h : A_H) : R 38 23 ls st h = a_do a_nL R R 38 (s_push (.float 13) 24 ls st h) := a_R_eq ..
theorem r38_24 (ls : A_V) (st : List Value) (h : A_H) : R 38 24 ls st h = a_do a_nL R R 38 (s_call 10 29 2 2 false 25 ls st h) := a_R_eq ..
theorem r38_25 (ls : A_V) (st : List Value) (h : A_H) : R 38 25 ls st h = a_do a_nL R R 38 (s_aldl 0 26 ls st h) := a_R_eq ..
theorem r38_26 (ls : A_V) (st : List Value) (h : A_H) : R 38 26 ls st h = a_do a_nL R R 38 (s_getR 7 2 27 ls st h) := a_R_eq ..
theorem r38_27 (ls : A_V) (st : List Value) (h : A_H) : R 38 27 ls st h = a_do a_nL R R 38 (s_aldl 0 28 ls st h) := a_R_eq ..
theorem r38_28 (ls : A_V) (st : List Value) (h : A_H) : R 38 28 ls st h = a_do a_nL R R 38 (s_push (.int 0) 29 ls st h) := a_R_eq ..
theorem r38_29 (ls : A_V) (st : List Value) (h : A_H) : R 38 29 ls st h = a_do a_nL R R 38 (s_push (.int 50) 30 ls st h) := a_R_eq ..
theorem r38_30 (ls : A_V) (st : List Value) (h : A_H) : R 38 30 ls st h = a_do a_nL R R 38 (s_call 10 30 3 4 true 31 ls st h) := a_R_eq ..
theorem r38_31 (ls : A_V) (st : List Value) (h : A_H) : R 38 31 ls st h = a_do a_nL R R 38 (s_putI 9 1 32 ls st h) := a_R_eq ..
theorem r38_32 (ls : A_V) (st : List Value) (h : A_H) : R 38 32 ls st h = a_do a_nL R R 38 (s_vret ls st h) := a_R_eq ..
theorem b38_0 (x0 : Nat) (h : A_H) : R 38 0 [some (.ref x0)] [] h = (cond (isO h x0 7) (cond (decide ((hI h x0 3) = 0)) (cond (isO h x0 7 && (decide ((1 : Int32) = 0) || decide ((1 : Int32) = 1))) (R 38 10 [some (.ref x0)] [] (wI h x0 3 (1 : Int32))) none) (cond (isO h x0 7) (a_back R 38 (24, [.ref x0, .int (3 : Int32)], h, false, none, 6, [some (.ref x0)], []) (C 24 [.ref x0, .int (3 : Int32)] h)) none)) none) := (tr (r38_0 ..) (tr (r38_1 ..) (cgT (tr (r38_2 ..) (cgB (tr (r38_7 ..) (tr (r38_8 ..) (r38_9 ..))) (tr (r38_3 ..) (tr (r38_4 ..) (r38_5 ..))))))))
theorem b38_6 (x0 : Nat) (h : A_H) : R 38 6 [some (.ref x0)] [] h = (some (some none, h)) := (r38_6 ..)
theorem b38_10 (x0 : Nat) (h : A_H) : R 38 10 [some (.ref x0)] [] h = (cond (isO h x0 7) (a_back R 38 (25, [.ref x0], h, false, none, 12, [some (.ref x0)], []) (C 25 [.ref x0] h)) none) := (tr (r38_10 ..) (r38_11 ..))
theorem b38_12 (x0 : Nat) (h : A_H) : R 38 12 [some (.ref x0)] [] h = (cond (isO h x0 7) (a_back R 38 (29, [.ref x0, .float 12], h, false, none, 15, [some (.ref x0)], []) (C 29 [.ref x0, .float 12] h)) none) := (tr (r38_12 ..) (tr (r38_13 ..) (r38_14 ..)))
theorem b38_15 (x0 : Nat) (h : A_H) : R 38 15 [some (.ref x0)] [] h = (cond (isO h x0 7 && (hP h x0 2).isSome) (cond (isO h x0 7) (a_back R 38 (30, [.ref x0, .int (0 : Int32), .int (9 : Int32)], h, true, none, 21, [some (.ref x0)], [.ref ((hP h x0 2).getD 0)]) (C 30 [.ref x0, .int (0 : Int32), .int (9 : Int32)] h)) none) none) := (tr (r38_15 ..) (tr (r38_16 ..) (cgT (tr (r38_17 ..) (tr (r38_18 ..) (tr (r38_19 ..) (r38_20 ..)))))))
theorem b38_21 (x0 : Nat) (s0 : Nat) (s1 : Int32) (h : A_H) : R 38 21 [some (.ref x0)] [.int s1, .ref s0] h = (cond (isO h s0 9) (R 38 22 [some (.ref x0)] [] (wI h s0 0 s1)) none) := (r38_21 ..)
theorem b38_22 (x0 : Nat) (h : A_H) : R 38 22 [some (.ref x0)] [] h = (cond (isO h x0 7) (a_back R 38 (29, [.ref x0, .float 13], h, false, none, 25, [some (.ref x0)], []) (C 29 [.ref x0, .float 13] h)) none) := (tr (r38_22 ..) (tr (r38_23 ..) (r38_24 ..)))
theorem b38_25 (x0 : Nat) (h : A_H) : R 38 25 [some (.ref x0)] [] h = (cond (isO h x0 7 && (hP h x0 2).isSome) (cond (isO h x0 7) (a_back R 38 (30, [.ref x0, .int (0 : Int32), .int (50 : Int32)], h, true, none, 31, [some (.ref x0)], [.ref ((hP h x0 2).getD 0)]) (C 30 [.ref x0, .int (0 : Int32), .int (50 : Int32)] h)) none) none) := (tr (r38_25 ..) (tr (r38_26 ..) (cgT (tr (r38_27 ..) (tr (r38_28 ..) (tr (r38_29 ..) (r38_30 ..)))))))
theorem b38_31 (x0 : Nat) (s0 : Nat) (s1 : Int32) (h : A_H) : R 38 31 [some (.ref x0)] [.int s1, .ref s0] h = (cond (isO h s0 9) (R 38 32 [some (.ref x0)] [] (wI h s0 1 s1)) none) := (r38_31 ..)
theorem b38_32 (x0 : Nat) (h : A_H) : R 38 32 [some (.ref x0)] [] h = (some (some none, h)) := (r38_32 ..)
theorem e39 (x0 : Nat) (h : A_H) : C 39 [.ref x0] h = R 39 0 [some (.ref x0), none, none] [] h := rfl
theorem r39_0 (ls : A_V) (st : List Value) (h : A_H) : R 39 0 ls st h = a_do a_nL R R 39 (s_aldl 0 1 ls st h) := a_R_eq ..
theorem r39_1 (ls : A_V) (st : List Value) (h : A_H) : R 39 1 ls st h = a_do a_nL R R 39 (s_getR 7 2 2 ls st h) := a_R_eq ..
theorem r39_2 (ls : A_V) (st : List Value) (h : A_H) : R 39 2 ls st h = a_do a_nL R R 39 (s_getI 9 2 3 ls st h) := a_R_eq ..
theorem r39_3 (ls : A_V) (st : List Value) (h : A_H) : R 39 3 ls st h = a_do a_nL R R 39 (s_ist 1 4 ls st h) := a_R_eq ..
theorem r39_4 (ls : A_V) (st : List Value) (h : A_H) : R 39 4 ls st h = a_do a_nL R R 39 (s_aldl 0 5 ls st h) := a_R_eq ..
theorem r39_5 (ls : A_V) (st : List Value) (h : A_H) : R 39 5 ls st h = a_do a_nL R R 39 (s_ildl 1 6 ls st h) := a_R_eq ..
theorem r39_6 (ls : A_V) (st : List Value) (h : A_H) : R 39 6 ls st h = a_do a_nL R R 39 (s_push (.int 4) 7 ls st h) := a_R_eq ..
theorem r39_7 (ls : A_V) (st : List Value) (h : A_H) : R 39 7 ls st h = a_do a_nL R R 39 (s_call 10 37 3 3 true 8 ls st h) := a_R_eq ..
theorem r39_8 (ls : A_V) (st : List Value) (h : A_H) : R 39 8 ls st h = a_do a_nL R R 39 (s_if1 (fun x => !decide (x = 0)) 10 9 ls st h) := a_R_eq ..
theorem r39_9 (ls : A_V) (st : List Value) (h : A_H) : R 39 9 ls st h = a_do a_nL R R 39 (s_vret ls st h) := a_R_eq ..
theorem r39_10 (ls : A_V) (st : List Value) (h : A_H) : R 39 10 ls st h = a_do a_nL R R 39 (s_aldl 0 11 ls st h) := a_R_eq ..
theorem r39_11 (ls : A_V) (st : List Value) (h : A_H) : R 39 11 ls st h = a_do a_nL R R 39 (s_getR 7 2 12 ls st h) := a_R_eq ..
theorem r39_12 (ls : A_V) (st : List Value) (h : A_H) : R 39 12 ls st h = a_do a_nL R R 39 (s_getR 9 9 13 ls st h) := a_R_eq ..
theorem r39_13 (ls : A_V) (st : List Value) (h : A_H) : R 39 13 ls st h = a_do a_nL R R 39 (s_ildl 1 14 ls st h) := a_R_eq ..
theorem r39_14 (ls : A_V) (st : List Value) (h : A_H) : R 39 14 ls st h = a_do a_nL R R 39 (s_aal 3 15 ls st h) := a_R_eq ..
theorem r39_15 (ls : A_V) (st : List Value) (h : A_H) : R 39 15 ls st h = a_do a_nL R R 39 (s_ast 2 16 ls st h) := a_R_eq ..
theorem r39_16 (ls : A_V) (st : List Value) (h : A_H) : R 39 16 ls st h = a_do a_nL R R 39 (s_aldl 0 17 ls st h) := a_R_eq ..
theorem r39_17 (ls : A_V) (st : List Value) (h : A_H) : R 39 17 ls st h = a_do a_nL R R 39 (s_push (.int 1) 18 ls st h) := a_R_eq ..
theorem r39_18 (ls : A_V) (st : List Value) (h : A_H) : R 39 18 ls st h = a_do a_nL R R 39 (s_ildl 1 19 ls st h) := a_R_eq ..
theorem r39_19 (ls : A_V) (st : List Value) (h : A_H) : R 39 19 ls st h = a_do a_nL R R 39 (s_call 10 34 3 3 false 20 ls st h) := a_R_eq ..
theorem r39_20 (ls : A_V) (st : List Value) (h : A_H) : R 39 20 ls st h = a_do a_nL R R 39 (s_aldl 0 21 ls st h) := a_R_eq ..
theorem r39_21 (ls : A_V) (st : List Value) (h : A_H) : R 39 21 ls st h = a_do a_nL R R 39 (s_push (.float 14) 22 ls st h) := a_R_eq ..
theorem r39_22 (ls : A_V) (st : List Value) (h : A_H) : R 39 22 ls st h = a_do a_nL R R 39 (s_call 10 29 2 2 false 23 ls st h) := a_R_eq ..
theorem r39_23 (ls : A_V) (st : List Value) (h : A_H) : R 39 23 ls st h = a_do a_nL R R 39 (s_aldl 2 24 ls st h) := a_R_eq ..
theorem r39_24 (ls : A_V) (st : List Value) (h : A_H) : R 39 24 ls st h = a_do a_nL R R 39 (s_aldl 0 25 ls st h) := a_R_eq ..
theorem r39_25 (ls : A_V) (st : List Value) (h : A_H) : R 39 25 ls st h = a_do a_nL R R 39 (s_push (.int 0) 26 ls st h) := a_R_eq ..
theorem r39_26 (ls : A_V) (st : List Value) (h : A_H) : R 39 26 ls st h = a_do a_nL R R 39 (s_push (.int 9) 27 ls st h) := a_R_eq ..
theorem r39_27 (ls : A_V) (st : List Value) (h : A_H) : R 39 27 ls st h = a_do a_nL R R 39 (s_call 10 30 3 4 true 28 ls st h) := a_R_eq ..
theorem r39_28 (ls : A_V) (st : List Value) (h : A_H) : R 39 28 ls st h = a_do a_nL R R 39 (s_putI 5 0 29 ls st h) := a_R_eq ..
theorem r39_29 (ls : A_V) (st : List Value) (h : A_H) : R 39 29 ls st h = a_do a_nL R R 39 (s_aldl 0 30 ls st h) := a_R_eq ..
theorem r39_30 (ls : A_V) (st : List Value) (h : A_H) : R 39 30 ls st h = a_do a_nL R R 39 (s_push (.float 15) 31 ls st h) := a_R_eq ..
theorem r39_31 (ls : A_V) (st : List Value) (h : A_H) : R 39 31 ls st h = a_do a_nL R R 39 (s_call 10 29 2 2 false 32 ls st h) := a_R_eq ..
theorem r39_32 (ls : A_V) (st : List Value) (h : A_H) : R 39 32 ls st h = a_do a_nL R R 39 (s_aldl 2 33 ls st h) := a_R_eq ..
theorem r39_33 (ls : A_V) (st : List Value) (h : A_H) : R 39 33 ls st h = a_do a_nL R R 39 (s_aldl 0 34 ls st h) := a_R_eq ..
theorem r39_34 (ls : A_V) (st : List Value) (h : A_H) : R 39 34 ls st h = a_do a_nL R R 39 (s_push (.int 0) 35 ls st h) := a_R_eq ..
theorem r39_35 (ls : A_V) (st : List Value) (h : A_H) : R 39 35 ls st h = a_do a_nL R R 39 (s_push (.int 9) 36 ls st h) := a_R_eq ..
theorem r39_36 (ls : A_V) (st : List Value) (h : A_H) : R 39 36 ls st h = a_do a_nL R R 39 (s_call 10 30 3 4 true 37 ls st h) := a_R_eq ..
theorem r39_37 (ls : A_V) (st : List Value) (h : A_H) : R 39 37 ls st h = a_do a_nL R R 39 (s_putI 5 1 38 ls st h) := a_R_eq ..
theorem r39_38 (ls : A_V) (st : List Value) (h : A_H) : R 39 38 ls st h = a_do a_nL R R 39 (s_aldl 0 39 ls st h) := a_R_eq ..
theorem r39_39 (ls : A_V) (st : List Value) (h : A_H) : R 39 39 ls st h = a_do a_nL R R 39 (s_push (.float 16) 40 ls st h) := a_R_eq ..
theorem r39_40 (ls : A_V) (st : List Value) (h : A_H) : R 39 40 ls st h = a_do a_nL R R 39 (s_call 10 29 2 2 false 41 ls st h) := a_R_eq ..
theorem r39_41 (ls : A_V) (st : List Value) (h : A_H) : R 39 41 ls st h = a_do a_nL R R 39 (s_aldl 2 42 ls st h) := a_R_eq ..
theorem r39_42 (ls : A_V) (st : List Value) (h : A_H) : R 39 42 ls st h = a_do a_nL R R 39 (s_aldl 0 43 ls st h) := a_R_eq ..
theorem r39_43 (ls : A_V) (st : List Value) (h : A_H) : R 39 43 ls st h = a_do a_nL R R 39 (s_push (.int 1) 44 ls st h) := a_R_eq ..
theorem r39_44 (ls : A_V) (st : List Value) (h : A_H) : R 39 44 ls st h = a_do a_nL R R 39 (s_push (.int 300) 45 ls st h) := a_R_eq ..
theorem r39_45 (ls : A_V) (st : List Value) (h : A_H) : R 39 45 ls st h = a_do a_nL R R 39 (s_call 10 30 3 4 true 46 ls st h) := a_R_eq ..
theorem r39_46 (ls : A_V) (st : List Value) (h : A_H) : R 39 46 ls st h = a_do a_nL R R 39 (s_putI 5 2 47 ls st h) := a_R_eq ..
theorem r39_47 (ls : A_V) (st : List Value) (h : A_H) : R 39 47 ls st h = a_do a_nL R R 39 (s_aldl 0 48 ls st h) := a_R_eq ..
theorem r39_48 (ls : A_V) (st : List Value) (h : A_H) : R 39 48 ls st h = a_do a_nL R R 39 (s_getR 7 2 49 ls st h) := a_R_eq ..
theorem r39_49 (ls : A_V) (st : List Value) (h : A_H) : R 39 49 ls st h = a_do a_nL R R 39 (s_dup 50 ls st h) := a_R_eq ..
theorem r39_50 (ls : A_V) (st : List Value) (h : A_H) : R 39 50 ls st h = a_do a_nL R R 39 (s_getI 9 2 51 ls st h) := a_R_eq ..
theorem r39_51 (ls : A_V) (st : List Value) (h : A_H) : R 39 51 ls st h = a_do a_nL R R 39 (s_push (.int 1) 52 ls st h) := a_R_eq ..
theorem r39_52 (ls : A_V) (st : List Value) (h : A_H) : R 39 52 ls st h = a_do a_nL R R 39 (s_bi (fun x y => x + y) 53 ls st h) := a_R_eq ..
theorem r39_53 (ls : A_V) (st : List Value) (h : A_H) : R 39 53 ls st h = a_do a_nL R R 39 (s_putI 9 2 54 ls st h) := a_R_eq ..
theorem r39_54 (ls : A_V) (st : List Value) (h : A_H) : R 39 54 ls st h = a_do a_nL R R 39 (s_vret ls st h) := a_R_eq ..
theorem b39_0 (x0 : Nat) (l1 : Option Value) (l2 : Option Value) (h : A_H) : R 39 0 [some (.ref x0), l1, l2] [] h = (cond (isO h x0 7 && (hP h x0 2).isSome) (cond (isO h ((hP h x0 2).getD 0) 9) (cond (isO h x0 7) (a_back R 39 (37, [.ref x0, .int (hI h ((hP h x0 2).getD 0) 2), .int (4 : Int32)], h, true, none, 8, [some (.ref x0), some (.int (hI h ((hP h x0 2).getD 0) 2)), l2], []) (C 37 [.ref x0, .int (hI h ((hP h x0 2).getD 0) 2), .int (4 : Int32)] h)) none) none) none) := (tr (r39_0 ..) (tr (r39_1 ..) (cgT (tr (r39_2 ..) (cgT (tr (r39_3 ..) (tr (r39_4 ..) (tr (r39_5 ..) (tr (r39_6 ..) (r39_7 ..))))))))))
theorem b39_8 (x0 : Nat) (x1 : Int32) (l2 : Option Value) (s0 : Int32) (h : A_H) : R 39 8 [some (.ref x0), some (.int x1), l2] [.int s0] h = (cond (!decide (s0 = 0)) (cond (isO h x0 7 && (hP h x0 2).isSome) (cond (isO h ((hP h x0 2).getD 0) 9 && (hP h ((hP h x0 2).getD 0) 9).isSome) (cond (isA h ((hP h ((hP h x0 2).getD 0) 9).getD 0) 3 x1 && (hP h ((hP h ((hP h x0 2).getD 0) 9).getD 0) (x1).toNatClampNeg).isSome) (cond (isO h x0 7) (a_back R 39 (34, [.ref x0, .int (1 : Int32), .int x1], h, false, none, 20, [some (.ref x0), some (.int x1), some (.ref ((hP h ((hP h ((hP h x0 2).getD 0) 9).getD 0) (x1).toNatClampNeg).getD 0))], []) (C 34 [.ref x0, .int (1 : Int32), .int x1] h)) none) none) none) none) (some (some none, h))) := (tr (r39_8 ..) (cgB (tr (r39_10 ..) (tr (r39_11 ..) (cgT (tr (r39_12 ..) (cgT (tr (r39_13 ..) (tr (r39_14 ..) (cgT (tr (r39_15 ..) (tr (r39_16 ..) (tr (r39_17 ..) (tr (r39_18 ..) (r39_19 ..))))))))))))) (r39_9 ..)))
theorem b39_20 (x0 : Nat) (x1 : Int32) (x2 : Nat) (h : A_H) : R 39 20 [some (.ref x0), some (.int x1), some (.ref x2)] [] h = (cond (isO h x0 7) (a_back R 39 (29, [.ref x0, .float 14], h, false, none, 23, [some (.ref x0), some (.int x1), some (.ref x2)], []) (C 29 [.ref x0, .float 14] h)) none) := (tr (r39_20 ..) (tr (r39_21 ..) (r39_22 ..)))
theorem b39_23 (x0 : Nat) (x1 : Int32) (x2 : Nat) (h : A_H) : R 39 23 [some (.ref x0), some (.int x1), some (.ref x2)] [] h = (cond (isO h x0 7) (a_back R 39 (30, [.ref x0, .int (0 : Int32), .int (9 : Int32)], h, true, none, 28, [some (.ref x0), some (.int x1), some (.ref x2)], [.ref x2]) (C 30 [.ref x0, .int (0 : Int32), .int (9 : Int32)] h)) none) := (tr (r39_23 ..) (tr (r39_24 ..) (tr (r39_25 ..) (tr (r39_26 ..) (r39_27 ..)))))
theorem b39_28 (x0 : Nat) (x1 : Int32) (x2 : Nat) (s0 : Nat) (s1 : Int32) (h : A_H) : R 39 28 [some (.ref x0), some (.int x1), some (.ref x2)] [.int s1, .ref s0] h = (cond (isO h s0 5) (R 39 29 [some (.ref x0), some (.int x1), some (.ref x2)] [] (wI h s0 0 s1)) none) := (r39_28 ..)
theorem b39_29 (x0 : Nat) (x1 : Int32) (x2 : Nat) (h : A_H) : R 39 29 [some (.ref x0), some (.int x1), some (.ref x2)] [] h = (cond (isO h x0 7) (a_back R 39 (29, [.ref x0, .float 15], h, false, none, 32, [some (.ref x0), some (.int x1), some (.ref x2)], []) (C 29 [.ref x0, .float 15] h)) none) := (tr (r39_29 ..) (tr (r39_30 ..) (r39_31 ..)))
theorem b39_32 (x0 : Nat) (x1 : Int32) (x2 : Nat) (h : A_H) : R 39 32 [some (.ref x0), some (.int x1), some (.ref x2)] [] h = (cond (isO h x0 7) (a_back R 39 (30, [.ref x0, .int (0 : Int32), .int (9 : Int32)], h, true, none, 37, [some (.ref x0), some (.int x1), some (.ref x2)], [.ref x2]) (C 30 [.ref x0, .int (0 : Int32), .int (9 : Int32)] h)) none) := (tr (r39_32 ..) (tr (r39_33 ..) (tr (r39_34 ..) (tr (r39_35 ..) (r39_36 ..)))))
theorem b39_37 (x0 : Nat) (x1 : Int32) (x2 : Nat) (s0 : Nat) (s1 : Int32) (h : A_H) : R 39 37 [some (.ref x0), some (.int x1), some (.ref x2)] [.int s1, .ref s0] h = (cond (isO h s0 5) (R 39 38 [some (.ref x0), some (.int x1), some (.ref x2)] [] (wI h s0 1 s1)) none) := (r39_37 ..)
theorem b39_38 (x0 : Nat) (x1 : Int32) (x2 : Nat) (h : A_H) : R 39 38 [some (.ref x0), some (.int x1), some (.ref x2)] [] h = (cond (isO h x0 7) (a_back R 39 (29, [.ref x0, .float 16], h, false, none, 41, [some (.ref x0), some (.int x1), some (.ref x2)], []) (C 29 [.ref x0, .float 16] h)) none) := (tr (r39_38 ..) (tr (r39_39 ..) (r39_40 ..)))
theorem b39_41 (x0 : Nat) (x1 : Int32) (x2 : Nat) (h : A_H) : R 39 41 [some (.ref x0), some (.int x1), some (.ref x2)] [] h = (cond (isO h x0 7) (a_back R 39 (30, [.ref x0, .int (1 : Int32), .int (300 : Int32)], h, true, none, 46, [some (.ref x0), some (.int x1), some (.ref x2)], [.ref x2]) (C 30 [.ref x0, .int (1 : Int32), .int (300 : Int32)] h)) none) := (tr (r39_41 ..) (tr (r39_42 ..) (tr (r39_43 ..) (tr (r39_44 ..) (r39_45 ..)))))
theorem b39_46 (x0 : Nat) (x1 : Int32) (x2 : Nat) (s0 : Nat) (s1 : Int32) (h : A_H) : R 39 46 [some (.ref x0), some (.int x1), some (.ref x2)] [.int s1, .ref s0] h = (cond (isO h s0 5) (R 39 47 [some (.ref x0), some (.int x1), some (.ref x2)] [] (wI h s0 2 s1)) none) := (r39_46 ..)
theorem b39_47 (x0 : Nat) (x1 : Int32) (x2 : Nat) (h : A_H) : R 39 47 [some (.ref x0), some (.int x1), some (.ref x2)] [] h = (cond (isO h x0 7 && (hP h x0 2).isSome) (cond (isO h ((hP h x0 2).getD 0) 9) (cond (isO h ((hP h x0 2).getD 0) 9) (R 39 54 [some (.ref x0), some (.int x1), some (.ref x2)] [] (wI h ((hP h x0 2).getD 0) 2 ((hI h ((hP h x0 2).getD 0) 2) + (1 : Int32)))) none) none) none) := (tr (r39_47 ..) (tr (r39_48 ..) (cgT (tr (r39_49 ..) (tr (r39_50 ..) (cgT (tr (r39_51 ..) (tr (r39_52 ..) (r39_53 ..)))))))))
theorem b39_54 (x0 : Nat) (x1 : Int32) (x2 : Nat) (h : A_H) : R 39 54 [some (.ref x0), some (.int x1), some (.ref x2)] [] h = (some (some none, h)) := (r39_54 ..)
theorem e40 (x0 : Nat) (h : A_H) : C 40 [.ref x0] h = R 40 0 [some (.ref x0), none, none] [] h := rfl
theorem r40_0 (ls : A_V) (st : List Value) (h : A_H) : R 40 0 ls st h = a_do a_nL R R 40 (s_aldl 0 1 ls st h) := a_R_eq ..
theorem r40_1 (ls : A_V) (st : List Value) (h : A_H) : R 40 1 ls st h = a_do a_nL R R 40 (s_getR 7 2 2 ls st h) := a_R_eq ..
theorem r40_2 (ls : A_V) (st : List Value) (h : A_H) : R 40 2 ls st h = a_do a_nL R R 40 (s_getI 9 3 3 ls st h) := a_R_eq ..
theorem r40_3 (ls : A_V) (st : List Value) (h : A_H) : R 40 3 ls st h = a_do a_nL R R 40 (s_ist 1 4 ls st h) := a_R_eq ..
theorem r40_4 (ls : A_V) (st : List Value) (h : A_H) : R 40 4 ls st h = a_do a_nL R R 40 (s_aldl 0 5 ls st h) := a_R_eq ..
theorem r40_5 (ls : A_V) (st : List Value) (h : A_H) : R 40 5 ls st h = a_do a_nL R R 40 (s_ildl 1 6 ls st h) := a_R_eq ..
theorem r40_6 (ls : A_V) (st : List Value) (h : A_H) : R 40 6 ls st h = a_do a_nL R R 40 (s_push (.int 4) 7 ls st h) := a_R_eq ..
theorem r40_7 (ls : A_V) (st : List Value) (h : A_H) : R 40 7 ls st h = a_do a_nL R R 40 (s_call 10 37 3 3 true 8 ls st h) := a_R_eq ..
theorem r40_8 (ls : A_V) (st : List Value) (h : A_H) : R 40 8 ls st h = a_do a_nL R R 40 (s_if1 (fun x => !decide (x = 0)) 10 9 ls st h) := a_R_eq ..
theorem r40_9 (ls : A_V) (st : List Value) (h : A_H) : R 40 9 ls st h = a_do a_nL R R 40 (s_vret ls st h) := a_R_eq ..
theorem r40_10 (ls : A_V) (st : List Value) (h : A_H) : R 40 10 ls st h = a_do a_nL R R 40 (s_aldl 0 11 ls st h) := a_R_eq ..
theorem r40_11 (ls : A_V) (st : List Value) (h : A_H) : R 40 11 ls st h = a_do a_nL R R 40 (s_getR 7 2 12 ls st h) := a_R_eq ..
theorem r40_12 (ls : A_V) (st : List Value) (h : A_H) : R 40 12 ls st h = a_do a_nL R R 40 (s_getR 9 10 13 ls st h) := a_R_eq ..
theorem r40_13 (ls : A_V) (st : List Value) (h : A_H) : R 40 13 ls st h = a_do a_nL R R 40 (s_ildl 1 14 ls st h) := a_R_eq ..
theorem r40_14 (ls : A_V) (st : List Value) (h : A_H) : R 40 14 ls st h = a_do a_nL R R 40 (s_aal 4 15 ls st h) := a_R_eq ..
theorem r40_15 (ls : A_V) (st : List Value) (h : A_H) : R 40 15 ls st h = a_do a_nL R R 40 (s_ast 2 16 ls st h) := a_R_eq ..
theorem r40_16 (ls : A_V) (st : List Value) (h : A_H) : R 40 16 ls st h = a_do a_nL R R 40 (s_aldl 0 17 ls st h) := a_R_eq ..
theorem r40_17 (ls : A_V) (st : List Value) (h : A_H) : R 40 17 ls st h = a_do a_nL R R 40 (s_push (.int 2) 18 ls st h) := a_R_eq ..
theorem r40_18 (ls : A_V) (st : List Value) (h : A_H) : R 40 18 ls st h = a_do a_nL R R 40 (s_ildl 1 19 ls st h) := a_R_eq ..
theorem r40_19 (ls : A_V) (st : List Value) (h : A_H) : R 40 19 ls st h = a_do a_nL R R 40 (s_call 10 34 3 3 false 20 ls st h) := a_R_eq ..
theorem r40_20 (ls : A_V) (st : List Value) (h : A_H) : R 40 20 ls st h = a_do a_nL R R 40 (s_aldl 0 21 ls st h) := a_R_eq ..
theorem r40_21 (ls : A_V) (st : List Value) (h : A_H) : R 40 21 ls st h = a_do a_nL R R 40 (s_push (.float 17) 22 ls st h) := a_R_eq ..
theorem r40_22 (ls : A_V) (st : List Value) (h : A_H) : R 40 22 ls st h = a_do a_nL R R 40 (s_call 10 29 2 2 false 23 ls st h) := a_R_eq ..
theorem r40_23 (ls : A_V) (st : List Value) (h : A_H) : R 40 23 ls st h = a_do a_nL R R 40 (s_aldl 2 24 ls st h) := a_R_eq ..
theorem r40_24 (ls : A_V) (st : List Value) (h : A_H) : R 40 24 ls st h = a_do a_nL R R 40 (s_aldl 0 25 ls st h) := a_R_eq ..
theorem r40_25 (ls : A_V) (st : List Value) (h : A_H) : R 40 25 ls st h = a_do a_nL R R 40 (s_push (.int 0) 26 ls st h) := a_R_eq ..
theorem r40_26 (ls : A_V) (st : List Value) (h : A_H) : R 40 26 ls st h = a_do a_nL R R 40 (s_push (.int 99) 27 ls st h) := a_R_eq ..
theorem r40_27 (ls : A_V) (st : List Value) (h : A_H) : R 40 27 ls st h = a_do a_nL R R 40 (s_call 10 30 3 4 true 28 ls st h) := a_R_eq ..
theorem r40_28 (ls : A_V) (st : List Value) (h : A_H) : R 40 28 ls st h = a_do a_nL R R 40 (s_putI 10 0 29 ls st h) := a_R_eq ..
theorem r40_29 (ls : A_V) (st : List Value) (h : A_H) : R 40 29 ls st h = a_do a_nL R R 40 (s_aldl 0 30 ls st h) := a_R_eq ..
theorem r40_30 (ls : A_V) (st : List Value) (h : A_H) : R 40 30 ls st h = a_do a_nL R R 40 (s_push (.float 18) 31 ls st h) := a_R_eq ..
theorem r40_31 (ls : A_V) (st : List Value) (h : A_H) : R 40 31 ls st h = a_do a_nL R R 40 (s_call 10 29 2 2 false 32 ls st h) := a_R_eq ..
theorem r40_32 (ls : A_V) (st : List Value) (h : A_H) : R 40 32 ls st h = a_do a_nL R R 40 (s_aldl 2 33 ls st h) := a_R_eq ..
theorem r40_33 (ls : A_V) (st : List Value) (h : A_H) : R 40 33 ls st h = a_do a_nL R R 40 (s_aldl 0 34 ls st h) := a_R_eq ..
theorem r40_34 (ls : A_V) (st : List Value) (h : A_H) : R 40 34 ls st h = a_do a_nL R R 40 (s_push (.int 0) 35 ls st h) := a_R_eq ..
theorem r40_35 (ls : A_V) (st : List Value) (h : A_H) : R 40 35 ls st h = a_do a_nL R R 40 (s_push (.int 3) 36 ls st h) := a_R_eq ..
theorem r40_36 (ls : A_V) (st : List Value) (h : A_H) : R 40 36 ls st h = a_do a_nL R R 40 (s_call 10 30 3 4 true 37 ls st h) := a_R_eq ..
theorem r40_37 (ls : A_V) (st : List Value) (h : A_H) : R 40 37 ls st h = a_do a_nL R R 40 (s_putI 10 1 38 ls st h) := a_R_eq ..
theorem r40_38 (ls : A_V) (st : List Value) (h : A_H) : R 40 38 ls st h = a_do a_nL R R 40 (s_aldl 0 39 ls st h) := a_R_eq ..
theorem r40_39 (ls : A_V) (st : List Value) (h : A_H) : R 40 39 ls st h = a_do a_nL R R 40 (s_getR 7 2 40 ls st h) := a_R_eq ..
theorem r40_40 (ls : A_V) (st : List Value) (h : A_H) : R 40 40 ls st h = a_do a_nL R R 40 (s_dup 41 ls st h) := a_R_eq ..
theorem r40_41 (ls : A_V) (st : List Value) (h : A_H) : R 40 41 ls st h = a_do a_nL R R 40 (s_getI 9 3 42 ls st h) := a_R_eq ..
theorem r40_42 (ls : A_V) (st : List Value) (h : A_H) : R 40 42 ls st h = a_do a_nL R R 40 (s_push (.int 1) 43 ls st h) := a_R_eq ..
theorem r40_43 (ls : A_V) (st : List Value) (h : A_H) : R 40 43 ls st h = a_do a_nL R R 40 (s_bi (fun x y => x + y) 44 ls st h) := a_R_eq ..
theorem r40_44 (ls : A_V) (st : List Value) (h : A_H) : R 40 44 ls st h = a_do a_nL R R 40 (s_putI 9 3 45 ls st h) := a_R_eq ..
theorem r40_45 (ls : A_V) (st : List Value) (h : A_H) : R 40 45 ls st h = a_do a_nL R R 40 (s_vret ls st h) := a_R_eq ..
theorem b40_0 (x0 : Nat) (l1 : Option Value) (l2 : Option Value) (h : A_H) : R 40 0 [some (.ref x0), l1, l2] [] h = (cond (isO h x0 7 && (hP h x0 2).isSome) (cond (isO h ((hP h x0 2).getD 0) 9) (cond (isO h x0 7) (a_back R 40 (37, [.ref x0, .int (hI h ((hP h x0 2).getD 0) 3), .int (4 : Int32)], h, true, none, 8, [some (.ref x0), some (.int (hI h ((hP h x0 2).getD 0) 3)), l2], []) (C 37 [.ref x0, .int (hI h ((hP h x0 2).getD 0) 3), .int (4 : Int32)] h)) none) none) none) := (tr (r40_0 ..) (tr (r40_1 ..) (cgT (tr (r40_2 ..) (cgT (tr (r40_3 ..) (tr (r40_4 ..) (tr (r40_5 ..) (tr (r40_6 ..) (r40_7 ..))))))))))
theorem b40_8 (x0 : Nat) (x1 : Int32) (l2 : Option Value) (s0 : Int32) (h : A_H) : R 40 8 [some (.ref x0), some (.int x1), l2] [.int s0] h = (cond (!decide (s0 = 0)) (cond (isO h x0 7 && (hP h x0 2).isSome) (cond (isO h ((hP h x0 2).getD 0) 9 && (hP h ((hP h x0 2).getD 0) 10).isSome) (cond (isA h ((hP h ((hP h x0 2).getD 0) 10).getD 0) 4 x1 && (hP h ((hP h ((hP h x0 2).getD 0) 10).getD 0) (x1).toNatClampNeg).isSome) (cond (isO h x0 7) (a_back R 40 (34, [.ref x0, .int (2 : Int32), .int x1], h, false, none, 20, [some (.ref x0), some (.int x1), some (.ref ((hP h ((hP h ((hP h x0 2).getD 0) 10).getD 0) (x1).toNatClampNeg).getD 0))], []) (C 34 [.ref x0, .int (2 : Int32), .int x1] h)) none) none) none) none) (some (some none, h))) := (tr (r40_8 ..) (cgB (tr (r40_10 ..) (tr (r40_11 ..) (cgT (tr (r40_12 ..) (cgT (tr (r40_13 ..) (tr (r40_14 ..) (cgT (tr (r40_15 ..) (tr (r40_16 ..) (tr (r40_17 ..) (tr (r40_18 ..) (r40_19 ..))))))))))))) (r40_9 ..)))
theorem b40_20 (x0 : Nat) (x1 : Int32) (x2 : Nat) (h : A_H) : R 40 20 [some (.ref x0), some (.int x1), some (.ref x2)] [] h = (cond (isO h x0 7) (a_back R 40 (29, [.ref x0, .float 17], h, false, none, 23, [some (.ref x0), some (.int x1), some (.ref x2)], []) (C 29 [.ref x0, .float 17] h)) none) := (tr (r40_20 ..) (tr (r40_21 ..) (r40_22 ..)))
theorem b40_23 (x0 : Nat) (x1 : Int32) (x2 : Nat) (h : A_H) : R 40 23 [some (.ref x0), some (.int x1), some (.ref x2)] [] h = (cond (isO h x0 7) (a_back R 40 (30, [.ref x0, .int (0 : Int32), .int (99 : Int32)], h, true, none, 28, [some (.ref x0), some (.int x1), some (.ref x2)], [.ref x2]) (C 30 [.ref x0, .int (0 : Int32), .int (99 : Int32)] h)) none) := (tr (r40_23 ..) (tr (r40_24 ..) (tr (r40_25 ..) (tr (r40_26 ..) (r40_27 ..)))))
theorem b40_28 (x0 : Nat) (x1 : Int32) (x2 : Nat) (s0 : Nat) (s1 : Int32) (h : A_H) : R 40 28 [some (.ref x0), some (.int x1), some (.ref x2)] [.int s1, .ref s0] h = (cond (isO h s0 10) (R 40 29 [some (.ref x0), some (.int x1), some (.ref x2)] [] (wI h s0 0 s1)) none) := (r40_28 ..)
theorem b40_29 (x0 : Nat) (x1 : Int32) (x2 : Nat) (h : A_H) : R 40 29 [some (.ref x0), some (.int x1), some (.ref x2)] [] h = (cond (isO h x0 7) (a_back R 40 (29, [.ref x0, .float 18], h, false, none, 32, [some (.ref x0), some (.int x1), some (.ref x2)], []) (C 29 [.ref x0, .float 18] h)) none) := (tr (r40_29 ..) (tr (r40_30 ..) (r40_31 ..)))
theorem b40_32 (x0 : Nat) (x1 : Int32) (x2 : Nat) (h : A_H) : R 40 32 [some (.ref x0), some (.int x1), some (.ref x2)] [] h = (cond (isO h x0 7) (a_back R 40 (30, [.ref x0, .int (0 : Int32), .int (3 : Int32)], h, true, none, 37, [some (.ref x0), some (.int x1), some (.ref x2)], [.ref x2]) (C 30 [.ref x0, .int (0 : Int32), .int (3 : Int32)] h)) none) := (tr (r40_32 ..) (tr (r40_33 ..) (tr (r40_34 ..) (tr (r40_35 ..) (r40_36 ..)))))
theorem b40_37 (x0 : Nat) (x1 : Int32) (x2 : Nat) (s0 : Nat) (s1 : Int32) (h : A_H) : R 40 37 [some (.ref x0), some (.int x1), some (.ref x2)] [.int s1, .ref s0] h = (cond (isO h s0 10) (R 40 38 [some (.ref x0), some (.int x1), some (.ref x2)] [] (wI h s0 1 s1)) none) := (r40_37 ..)
theorem b40_38 (x0 : Nat) (x1 : Int32) (x2 : Nat) (h : A_H) : R 40 38 [some (.ref x0), some (.int x1), some (.ref x2)] [] h = (cond (isO h x0 7 && (hP h x0 2).isSome) (cond (isO h ((hP h x0 2).getD 0) 9) (cond (isO h ((hP h x0 2).getD 0) 9) (R 40 45 [some (.ref x0), some (.int x1), some (.ref x2)] [] (wI h ((hP h x0 2).getD 0) 3 ((hI h ((hP h x0 2).getD 0) 3) + (1 : Int32)))) none) none) none) := (tr (r40_38 ..) (tr (r40_39 ..) (cgT (tr (r40_40 ..) (tr (r40_41 ..) (cgT (tr (r40_42 ..) (tr (r40_43 ..) (r40_44 ..)))))))))
theorem b40_45 (x0 : Nat) (x1 : Int32) (x2 : Nat) (h : A_H) : R 40 45 [some (.ref x0), some (.int x1), some (.ref x2)] [] h = (some (some none, h)) := (r40_45 ..)
theorem e41 (x0 : Nat) (h : A_H) : C 41 [.ref x0] h = R 41 0 [some (.ref x0), none, none] [] h := rfl
theorem r41_0 (ls : A_V) (st : List Value) (h : A_H) : R 41 0 ls st h = a_do a_nL R R 41 (s_aldl 0 1 ls st h) := a_R_eq ..
theorem r41_1 (ls : A_V) (st : List Value) (h : A_H) : R 41 1 ls st h = a_do a_nL R R 41 (s_getR 7 2 2 ls st h) := a_R_eq ..
theorem r41_2 (ls : A_V) (st : List Value) (h : A_H) : R 41 2 ls st h = a_do a_nL R R 41 (s_getI 9 4 3 ls st h) := a_R_eq ..
theorem r41_3 (ls : A_V) (st : List Value) (h : A_H) : R 41 3 ls st h = a_do a_nL R R 41 (s_ist 1 4 ls st h) := a_R_eq ..
theorem r41_4 (ls : A_V) (st : List Value) (h : A_H) : R 41 4 ls st h = a_do a_nL R R 41 (s_aldl 0 5 ls st h) := a_R_eq ..
theorem r41_5 (ls : A_V) (st : List Value) (h : A_H) : R 41 5 ls st h = a_do a_nL R R 41 (s_ildl 1 6 ls st h) := a_R_eq ..
theorem r41_6 (ls : A_V) (st : List Value) (h : A_H) : R 41 6 ls st h = a_do a_nL R R 41 (s_push (.int 3) 7 ls st h) := a_R_eq ..
theorem r41_7 (ls : A_V) (st : List Value) (h : A_H) : R 41 7 ls st h = a_do a_nL R R 41 (s_call 10 37 3 3 true 8 ls st h) := a_R_eq ..
theorem r41_8 (ls : A_V) (st : List Value) (h : A_H) : R 41 8 ls st h = a_do a_nL R R 41 (s_if1 (fun x => !decide (x = 0)) 10 9 ls st h) := a_R_eq ..
theorem r41_9 (ls : A_V) (st : List Value) (h : A_H) : R 41 9 ls st h = a_do a_nL R R 41 (s_vret ls st h) := a_R_eq ..
theorem r41_10 (ls : A_V) (st : List Value) (h : A_H) : R 41 10 ls st h = a_do a_nL R R 41 (s_aldl 0 11 ls st h) := a_R_eq ..
theorem r41_11 (ls : A_V) (st : List Value) (h : A_H) : R 41 11 ls st h = a_do a_nL R R 41 (s_getR 7 2 12 ls st h) := a_R_eq ..
theorem r41_12 (ls : A_V) (st : List Value) (h : A_H) : R 41 12 ls st h = a_do a_nL R R 41 (s_getR 9 11 13 ls st h) := a_R_eq ..
theorem r41_13 (ls : A_V) (st : List Value) (h : A_H) : R 41 13 ls st h = a_do a_nL R R 41 (s_ildl 1 14 ls st h) := a_R_eq ..
theorem r41_14 (ls : A_V) (st : List Value) (h : A_H) : R 41 14 ls st h = a_do a_nL R R 41 (s_aal 5 15 ls st h) := a_R_eq ..
theorem r41_15 (ls : A_V) (st : List Value) (h : A_H) : R 41 15 ls st h = a_do a_nL R R 41 (s_ast 2 16 ls st h) := a_R_eq ..
theorem r41_16 (ls : A_V) (st : List Value) (h : A_H) : R 41 16 ls st h = a_do a_nL R R 41 (s_aldl 0 17 ls st h) := a_R_eq ..
theorem r41_17 (ls : A_V) (st : List Value) (h : A_H) : R 41 17 ls st h = a_do a_nL R R 41 (s_push (.int 3) 18 ls st h) := a_R_eq ..
theorem r41_18 (ls : A_V) (st : List Value) (h : A_H) : R 41 18 ls st h = a_do a_nL R R 41 (s_ildl 1 19 ls st h) := a_R_eq ..
theorem r41_19 (ls : A_V) (st : List Value) (h : A_H) : R 41 19 ls st h = a_do a_nL R R 41 (s_call 10 34 3 3 false 20 ls st h) := a_R_eq ..
theorem r41_20 (ls : A_V) (st : List Value) (h : A_H) : R 41 20 ls st h = a_do a_nL R R 41 (s_aldl 0 21 ls st h) := a_R_eq ..
theorem r41_21 (ls : A_V) (st : List Value) (h : A_H) : R 41 21 ls st h = a_do a_nL R R 41 (s_push (.float 19) 22 ls st h) := a_R_eq ..
theorem r41_22 (ls : A_V) (st : List Value) (h : A_H) : R 41 22 ls st h = a_do a_nL R R 41 (s_call 10 29 2 2 false 23 ls st h) := a_R_eq ..
theorem r41_23 (ls : A_V) (st : List Value) (h : A_H) : R 41 23 ls st h = a_do a_nL R R 41 (s_aldl 2 24 ls st h) := a_R_eq ..
theorem r41_24 (ls : A_V) (st : List Value) (h : A_H) : R 41 24 ls st h = a_do a_nL R R 41 (s_aldl 0 25 ls st h) := a_R_eq ..
theorem r41_25 (ls : A_V) (st : List Value) (h : A_H) : R 41 25 ls st h = a_do a_nL R R 41 (s_push (.int 1) 26 ls st h) := a_R_eq ..
theorem r41_26 (ls : A_V) (st : List Value) (h : A_H) : R 41 26 ls st h = a_do a_nL R R 41 (s_push (.int 99) 27 ls st h) := a_R_eq ..
theorem r41_27 (ls : A_V) (st : List Value) (h : A_H) : R 41 27 ls st h = a_do a_nL R R 41 (s_call 10 30 3 4 true 28 ls st h) := a_R_eq ..
theorem r41_28 (ls : A_V) (st : List Value) (h : A_H) : R 41 28 ls st h = a_do a_nL R R 41 (s_putI 2 0 29 ls st h) := a_R_eq ..
theorem r41_29 (ls : A_V) (st : List Value) (h : A_H) : R 41 29 ls st h = a_do a_nL R R 41 (s_aldl 0 30 ls st h) := a_R_eq ..
theorem r41_30 (ls : A_V) (st : List Value) (h : A_H) : R 41 30 ls st h = a_do a_nL R R 41 (s_push (.float 20) 31 ls st h) := a_R_eq ..
theorem r41_31 (ls : A_V) (st : List Value) (h : A_H) : R 41 31 ls st h = a_do a_nL R R 41 (s_call 10 29 2 2 false 32 ls st h) := a_R_eq ..
theorem r41_32 (ls : A_V) (st : List Value) (h : A_H) : R 41 32 ls st h = a_do a_nL R R 41 (s_aldl 2 33 ls st h) := a_R_eq ..
theorem r41_33 (ls : A_V) (st : List Value) (h : A_H) : R 41 33 ls st h = a_do a_nL R R 41 (s_aldl 0 34 ls st h) := a_R_eq ..
theorem r41_34 (ls : A_V) (st : List Value) (h : A_H) : R 41 34 ls st h = a_do a_nL R R 41 (s_push (.int 0) 35 ls st h) := a_R_eq ..
theorem r41_35 (ls : A_V) (st : List Value) (h : A_H) : R 41 35 ls st h = a_do a_nL R R 41 (s_push (.int 23) 36 ls st h) := a_R_eq ..
theorem r41_36 (ls : A_V) (st : List Value) (h : A_H) : R 41 36 ls st h = a_do a_nL R R 41 (s_call 10 30 3 4 true 37 ls st h) := a_R_eq ..
theorem r41_37 (ls : A_V) (st : List Value) (h : A_H) : R 41 37 ls st h = a_do a_nL R R 41 (s_putI 2 1 38 ls st h) := a_R_eq ..
theorem r41_38 (ls : A_V) (st : List Value) (h : A_H) : R 41 38 ls st h = a_do a_nL R R 41 (s_aldl 0 39 ls st h) := a_R_eq ..
theorem r41_39 (ls : A_V) (st : List Value) (h : A_H) : R 41 39 ls st h = a_do a_nL R R 41 (s_push (.float 21) 40 ls st h) := a_R_eq ..
theorem r41_40 (ls : A_V) (st : List Value) (h : A_H) : R 41 40 ls st h = a_do a_nL R R 41 (s_call 10 29 2 2 false 41 ls st h) := a_R_eq ..
theorem r41_41 (ls : A_V) (st : List Value) (h : A_H) : R 41 41 ls st h = a_do a_nL R R 41 (s_aldl 2 42 ls st h) := a_R_eq ..
theorem r41_42 (ls : A_V) (st : List Value) (h : A_H) : R 41 42 ls st h = a_do a_nL R R 41 (s_aldl 0 43 ls st h) := a_R_eq ..
theorem r41_43 (ls : A_V) (st : List Value) (h : A_H) : R 41 43 ls st h = a_do a_nL R R 41 (s_aldl 2 44 ls st h) := a_R_eq ..
theorem r41_44 (ls : A_V) (st : List Value) (h : A_H) : R 41 44 ls st h = a_do a_nL R R 41 (s_getI 2 1 45 ls st h) := a_R_eq ..
theorem r41_45 (ls : A_V) (st : List Value) (h : A_H) : R 41 45 ls st h = a_do a_nL R R 41 (s_push (.int 23) 46 ls st h) := a_R_eq ..
theorem r41_46 (ls : A_V) (st : List Value) (h : A_H) : R 41 46 ls st h = a_do a_nL R R 41 (s_call 10 30 3 4 true 47 ls st h) := a_R_eq ..
theorem r41_47 (ls : A_V) (st : List Value) (h : A_H) : R 41 47 ls st h = a_do a_nL R R 41 (s_putI 2 2 48 ls st h) := a_R_eq ..
theorem r41_48 (ls : A_V) (st : List Value) (h : A_H) : R 41 48 ls st h = a_do a_nL R R 41 (s_aldl 0 49 ls st h) := a_R_eq ..
theorem r41_49 (ls : A_V) (st : List Value) (h : A_H) : R 41 49 ls st h = a_do a_nL R R 41 (s_getR 7 2 50 ls st h) := a_R_eq ..
theorem r41_50 (ls : A_V) (st : List Value) (h : A_H) : R 41 50 ls st h = a_do a_nL R R 41 (s_dup 51 ls st h) := a_R_eq ..
theorem r41_51 (ls : A_V) (st : List Value) (h : A_H) : R 41 51 ls st h = a_do a_nL R R 41 (s_getI 9 4 52 ls st h) := a_R_eq ..
theorem r41_52 (ls : A_V) (st : List Value) (h : A_H) : R 41 52 ls st h = a_do a_nL R R 41 (s_push (.int 1) 53 ls st h) := a_R_eq ..
theorem r41_53 (ls : A_V) (st : List Value) (h : A_H) : R 41 53 ls st h = a_do a_nL R R 41 (s_bi (fun x y => x + y) 54 ls st h) := a_R_eq ..
theorem r41_54 (ls : A_V) (st : List Value) (h : A_H) : R 41 54 ls st h = a_do a_nL R R 41 (s_putI 9 4 55 ls st h) := a_R_eq ..
theorem r41_55 (ls : A_V) (st : List Value) (h : A_H) : R 41 55 ls st h = a_do a_nL R R 41 (s_vret ls st h) := a_R_eq ..
theorem b41_0 (x0 : Nat) (l1 : Option Value) (l2 : Option Value) (h : A_H) : R 41 0 [some (.ref x0), l1, l2] [] h = (cond (isO h x0 7 && (hP h x0 2).isSome) (cond (isO h ((hP h x0 2).getD 0) 9) (cond (isO h x0 7) (a_back R 41 (37, [.ref x0, .int (hI h ((hP h x0 2).getD 0) 4), .int (3 : Int32)], h, true, none, 8, [some (.ref x0), some (.int (hI h ((hP h x0 2).getD 0) 4)), l2], []) (C 37 [.ref x0, .int (hI h ((hP h x0 2).getD 0) 4), .int (3 : Int32)] h)) none) none) none) := (tr (r41_0 ..) (tr (r41_1 ..) (cgT (tr (r41_2 ..) (cgT (tr (r41_3 ..) (tr (r41_4 ..) (tr (r41_5 ..) (tr (r41_6 ..) (r41_7 ..))))))))))
theorem b41_8 (x0 : Nat) (x1 : Int32) (l2 : Option Value) (s0 : Int32) (h : A_H) : R 41 8 [some (.ref x0), some (.int x1), l2] [.int s0] h = (cond (!decide (s0 = 0)) (cond (isO h x0 7 && (hP h x0 2).isSome) (cond (isO h ((hP h x0 2).getD 0) 9 && (hP h ((hP h x0 2).getD 0) 11).isSome) (cond (isA h ((hP h ((hP h x0 2).getD 0) 11).getD 0) 5 x1 && (hP h ((hP h ((hP h x0 2).getD 0) 11).getD 0) (x1).toNatClampNeg).isSome) (cond (isO h x0 7) (a_back R 41 (34, [.ref x0, .int (3 : Int32), .int x1], h, false, none, 20, [some (.ref x0), some (.int x1), some (.ref ((hP h ((hP h ((hP h x0 2).getD 0) 11).getD 0) (x1).toNatClampNeg).getD 0))], []) (C 34 [.ref x0, .int (3 : Int32), .int x1] h)) none) none) none) none) (some (some none, h))) := (tr (r41_8 ..) (cgB (tr (r41_10 ..) (tr (r41_11 ..) (cgT (tr (r41_12 ..) (cgT (tr (r41_13 ..) (tr (r41_14 ..) (cgT (tr (r41_15 ..) (tr (r41_16 ..) (tr (r41_17 ..) (tr (r41_18 ..) (r41_19 ..))))))))))))) (r41_9 ..)))
theorem b41_20 (x0 : Nat) (x1 : Int32) (x2 : Nat) (h : A_H) : R 41 20 [some (.ref x0), some (.int x1), some (.ref x2)] [] h = (cond (isO h x0 7) (a_back R 41 (29, [.ref x0, .float 19], h, false, none, 23, [some (.ref x0), some (.int x1), some (.ref x2)], []) (C 29 [.ref x0, .float 19] h)) none) := (tr (r41_20 ..) (tr (r41_21 ..) (r41_22 ..)))
theorem b41_23 (x0 : Nat) (x1 : Int32) (x2 : Nat) (h : A_H) : R 41 23 [some (.ref x0), some (.int x1), some (.ref x2)] [] h = (cond (isO h x0 7) (a_back R 41 (30, [.ref x0, .int (1 : Int32), .int (99 : Int32)], h, true, none, 28, [some (.ref x0), some (.int x1), some (.ref x2)], [.ref x2]) (C 30 [.ref x0, .int (1 : Int32), .int (99 : Int32)] h)) none) := (tr (r41_23 ..) (tr (r41_24 ..) (tr (r41_25 ..) (tr (r41_26 ..) (r41_27 ..)))))
theorem b41_28 (x0 : Nat) (x1 : Int32) (x2 : Nat) (s0 : Nat) (s1 : Int32) (h : A_H) : R 41 28 [some (.ref x0), some (.int x1), some (.ref x2)] [.int s1, .ref s0] h = (cond (isO h s0 2) (R 41 29 [some (.ref x0), some (.int x1), some (.ref x2)] [] (wI h s0 0 s1)) none) := (r41_28 ..)
theorem b41_29 (x0 : Nat) (x1 : Int32) (x2 : Nat) (h : A_H) : R 41 29 [some (.ref x0), some (.int x1), some (.ref x2)] [] h = (cond (isO h x0 7) (a_back R 41 (29, [.ref x0, .float 20], h, false, none, 32, [some (.ref x0), some (.int x1), some (.ref x2)], []) (C 29 [.ref x0, .float 20] h)) none) := (tr (r41_29 ..) (tr (r41_30 ..) (r41_31 ..)))
theorem b41_32 (x0 : Nat) (x1 : Int32) (x2 : Nat) (h : A_H) : R 41 32 [some (.ref x0), some (.int x1), some (.ref x2)] [] h = (cond (isO h x0 7) (a_back R 41 (30, [.ref x0, .int (0 : Int32), .int (23 : Int32)], h, true, none, 37, [some (.ref x0), some (.int x1), some (.ref x2)], [.ref x2]) (C 30 [.ref x0, .int (0 : Int32), .int (23 : Int32)] h)) none) := (tr (r41_32 ..) (tr (r41_33 ..) (tr (r41_34 ..) (tr (r41_35 ..) (r41_36 ..)))))
theorem b41_37 (x0 : Nat) (x1 : Int32) (x2 : Nat) (s0 : Nat) (s1 : Int32) (h : A_H) : R 41 37 [some (.ref x0), some (.int x1), some (.ref x2)] [.int s1, .ref s0] h = (cond (isO h s0 2) (R 41 38 [some (.ref x0), some (.int x1), some (.ref x2)] [] (wI h s0 1 s1)) none) := (r41_37 ..)
theorem b41_38 (x0 : Nat) (x1 : Int32) (x2 : Nat) (h : A_H) : R 41 38 [some (.ref x0), some (.int x1), some (.ref x2)] [] h = (cond (isO h x0 7) (a_back R 41 (29, [.ref x0, .float 21], h, false, none, 41, [some (.ref x0), some (.int x1), some (.ref x2)], []) (C 29 [.ref x0, .float 21] h)) none) := (tr (r41_38 ..) (tr (r41_39 ..) (r41_40 ..)))
theorem b41_41 (x0 : Nat) (x1 : Int32) (x2 : Nat) (h : A_H) : R 41 41 [some (.ref x0), some (.int x1), some (.ref x2)] [] h = (cond (isO h x2 2) (cond (isO h x0 7) (a_back R 41 (30, [.ref x0, .int (hI h x2 1), .int (23 : Int32)], h, true, none, 47, [some (.ref x0), some (.int x1), some (.ref x2)], [.ref x2]) (C 30 [.ref x0, .int (hI h x2 1), .int (23 : Int32)] h)) none) none) := (tr (r41_41 ..) (tr (r41_42 ..) (tr (r41_43 ..) (tr (r41_44 ..) (cgT (tr (r41_45 ..) (r41_46 ..)))))))
theorem b41_47 (x0 : Nat) (x1 : Int32) (x2 : Nat) (s0 : Nat) (s1 : Int32) (h : A_H) : R 41 47 [some (.ref x0), some (.int x1), some (.ref x2)] [.int s1, .ref s0] h = (cond (isO h s0 2) (R 41 48 [some (.ref x0), some (.int x1), some (.ref x2)] [] (wI h s0 2 s1)) none) := (r41_47 ..)
theorem b41_48 (x0 : Nat) (x1 : Int32) (x2 : Nat) (h : A_H) : R 41 48 [some (.ref x0), some (.int x1), some (.ref x2)] [] h = (cond (isO h x0 7 && (hP h x0 2).isSome) (cond (isO h ((hP h x0 2).getD 0) 9) (cond (isO h ((hP h x0 2).getD 0) 9) (R 41 55 [some (.ref x0), some (.int x1), some (.ref x2)] [] (wI h ((hP h x0 2).getD 0) 4 ((hI h ((hP h x0 2).getD 0) 4) + (1 : Int32)))) none) none) none) := (tr (r41_48 ..) (tr (r41_49 ..) (cgT (tr (r41_50 ..) (tr (r41_51 ..) (cgT (tr (r41_52 ..) (tr (r41_53 ..) (r41_54 ..)))))))))
theorem b41_55 (x0 : Nat) (x1 : Int32) (x2 : Nat) (h : A_H) : R 41 55 [some (.ref x0), some (.int x1), some (.ref x2)] [] h = (some (some none, h)) := (r41_55 ..)
theorem e42 (x0 : Nat) (h : A_H) : C 42 [.ref x0] h = R 42 0 [some (.ref x0), none, none] [] h := rfl
theorem r42_0 (ls : A_V) (st : List Value) (h : A_H) : R 42 0 ls st h = a_do a_nL R R 42 (s_aldl 0 1 ls st h) := a_R_eq ..
theorem r42_1 (ls : A_V) (st : List Value) (h : A_H) : R 42 1 ls st h = a_do a_nL R R 42 (s_getR 7 2 2 ls st h) := a_R_eq ..
theorem r42_2 (ls : A_V) (st : List Value) (h : A_H) : R 42 2 ls st h = a_do a_nL R R 42 (s_getI 9 5 3 ls st h) := a_R_eq ..
theorem r42_3 (ls : A_V) (st : List Value) (h : A_H) : R 42 3 ls st h = a_do a_nL R R 42 (s_ist 1 4 ls st h) := a_R_eq ..
theorem r42_4 (ls : A_V) (st : List Value) (h : A_H) : R 42 4 ls st h = a_do a_nL R R 42 (s_aldl 0 5 ls st h) := a_R_eq ..
theorem r42_5 (ls : A_V) (st : List Value) (h : A_H) : R 42 5 ls st h = a_do a_nL R R 42 (s_ildl 1 6 ls st h) := a_R_eq ..
theorem r42_6 (ls : A_V) (st : List Value) (h : A_H) : R 42 6 ls st h = a_do a_nL R R 42 (s_push (.int 8) 7 ls st h) := a_R_eq ..
theorem r42_7 (ls : A_V) (st : List Value) (h : A_H) : R 42 7 ls st h = a_do a_nL R R 42 (s_call 10 37 3 3 true 8 ls st h) := a_R_eq ..
theorem r42_8 (ls : A_V) (st : List Value) (h : A_H) : R 42 8 ls st h = a_do a_nL R R 42 (s_if1 (fun x => !decide (x = 0)) 10 9 ls st h) := a_R_eq ..
theorem r42_9 (ls : A_V) (st : List Value) (h : A_H) : R 42 9 ls st h = a_do a_nL R R 42 (s_vret ls st h) := a_R_eq ..
theorem r42_10 (ls : A_V) (st : List Value) (h : A_H) : R 42 10 ls st h = a_do a_nL R R 42 (s_aldl 0 11 ls st h) := a_R_eq ..
theorem r42_11 (ls : A_V) (st : List Value) (h : A_H) : R 42 11 ls st h = a_do a_nL R R 42 (s_getR 7 2 12 ls st h) := a_R_eq ..
theorem r42_12 (ls : A_V) (st : List Value) (h : A_H) : R 42 12 ls st h = a_do a_nL R R 42 (s_getR 9 12 13 ls st h) := a_R_eq ..
theorem r42_13 (ls : A_V) (st : List Value) (h : A_H) : R 42 13 ls st h = a_do a_nL R R 42 (s_ildl 1 14 ls st h) := a_R_eq ..
theorem r42_14 (ls : A_V) (st : List Value) (h : A_H) : R 42 14 ls st h = a_do a_nL R R 42 (s_aal 6 15 ls st h) := a_R_eq ..
theorem r42_15 (ls : A_V) (st : List Value) (h : A_H) : R 42 15 ls st h = a_do a_nL R R 42 (s_ast 2 16 ls st h) := a_R_eq ..
theorem r42_16 (ls : A_V) (st : List Value) (h : A_H) : R 42 16 ls st h = a_do a_nL R R 42 (s_aldl 0 17 ls st h) := a_R_eq ..
theorem r42_17 (ls : A_V) (st : List Value) (h : A_H) : R 42 17 ls st h = a_do a_nL R R 42 (s_push (.int 4) 18 ls st h) := a_R_eq ..
theorem r42_18 (ls : A_V) (st : List Value) (h : A_H) : R 42 18 ls st h = a_do a_nL R R 42 (s_ildl 1 19 ls st h) := a_R_eq ..
theorem r42_19 (ls : A_V) (st : List Value) (h : A_H) : R 42 19 ls st h = a_do a_nL R R 42 (s_call 10 34 3 3 false 20 ls st h) := a_R_eq ..
theorem r42_20 (ls : A_V) (st : List Value) (h : A_H) : R 42 20 ls st h = a_do a_nL R R 42 (s_aldl 2 21 ls st h) := a_R_eq ..
theorem r42_21 (ls : A_V) (st : List Value) (h : A_H) : R 42 21 ls st h = a_do a_nL R R 42 (s_aldl 0 22 ls st h) := a_R_eq ..
theorem r42_22 (ls : A_V) (st : List Value) (h : A_H) : R 42 22 ls st h = a_do a_nL R R 42 (s_call 10 43 1 2 true 23 ls st h) := a_R_eq ..
theorem r42_23 (ls : A_V) (st : List Value) (h : A_H) : R 42 23 ls st h = a_do a_nL R R 42 (s_putI 3 0 24 ls st h) := a_R_eq ..
theorem r42_24 (ls : A_V) (st : List Value) (h : A_H) : R 42 24 ls st h = a_do a_nL R R 42 (s_aldl 2 25 ls st h) := a_R_eq ..
theorem r42_25 (ls : A_V) (st : List Value) (h : A_H) : R 42 25 ls st h = a_do a_nL R R 42 (s_aldl 0 26 ls st h) := a_R_eq ..
theorem r42_26 (ls : A_V) (st : List Value) (h : A_H) : R 42 26 ls st h = a_do a_nL R R 42 (s_push (.int 2) 27 ls st h) := a_R_eq ..
theorem r42_27 (ls : A_V) (st : List Value) (h : A_H) : R 42 27 ls st h = a_do a_nL R R 42 (s_call 10 35 2 3 true 28 ls st h) := a_R_eq ..
theorem r42_28 (ls : A_V) (st : List Value) (h : A_H) : R 42 28 ls st h = a_do a_nL R R 42 (s_putI 3 2 29 ls st h) := a_R_eq ..
theorem r42_29 (ls : A_V) (st : List Value) (h : A_H) : R 42 29 ls st h = a_do a_nL R R 42 (s_aldl 0 30 ls st h) := a_R_eq ..
theorem r42_30 (ls : A_V) (st : List Value) (h : A_H) : R 42 30 ls st h = a_do a_nL R R 42 (s_call 10 25 1 1 false 31 ls st h) := a_R_eq ..
theorem r42_31 (ls : A_V) (st : List Value) (h : A_H) : R 42 31 ls st h = a_do a_nL R R 42 (s_aldl 2 32 ls st h) := a_R_eq ..
theorem r42_32 (ls : A_V) (st : List Value) (h : A_H) : R 42 32 ls st h = a_do a_nL R R 42 (s_push (.int (-2)) 33 ls st h) := a_R_eq ..
theorem r42_33 (ls : A_V) (st : List Value) (h : A_H) : R 42 33 ls st h = a_do a_nL R R 42 (s_putI 3 1 34 ls st h) := a_R_eq ..
theorem r42_34 (ls : A_V) (st : List Value) (h : A_H) : R 42 34 ls st h = a_do a_nL R R 42 (s_aldl 2 35 ls st h) := a_R_eq ..
theorem r42_35 (ls : A_V) (st : List Value) (h : A_H) : R 42 35 ls st h = a_do a_nL R R 42 (s_push (.int 3) 36 ls st h) := a_R_eq ..
theorem r42_36 (ls : A_V) (st : List Value) (h : A_H) : R 42 36 ls st h = a_do a_nL R R 42 (s_putI 3 4 37 ls st h) := a_R_eq ..
theorem r42_37 (ls : A_V) (st : List Value) (h : A_H) : R 42 37 ls st h = a_do a_nL R R 42 (s_aldl 2 38 ls st h) := a_R_eq ..
theorem r42_38 (ls : A_V) (st : List Value) (h : A_H) : R 42 38 ls st h = a_do a_nL R R 42 (s_getI 3 0 39 ls st h) := a_R_eq ..
theorem r42_39 (ls : A_V) (st : List Value) (h : A_H) : R 42 39 ls st h = a_do a_nL R R 42 (s_if1 (fun x => decide (x = 0)) 65 40 ls st h) := a_R_eq ..
theorem r42_40 (ls : A_V) (st : List Value) (h : A_H) : R 42 40 ls st h = a_do a_nL R R 42 (s_aldl 0 41 ls st h) := a_R_eq ..
theorem r42_41 (ls : A_V) (st : List Value) (h : A_H) : R 42 41 ls st h = a_do a_nL R R 42 (s_push (.float 11) 42 ls st h) := a_R_eq ..
theorem r42_42 (ls : A_V) (st : List Value) (h : A_H) : R 42 42 ls st h = a_do a_nL R R 42 (s_call 10 29 2 2 false 43 ls st h) := a_R_eq ..
theorem r42_43 (ls : A_V) (st : List Value) (h : A_H) : R 42 43 ls st h = a_do a_nL R R 42 (s_aldl 2 44 ls st h) := a_R_eq ..
theorem r42_44 (ls : A_V) (st : List Value) (h : A_H) : R 42 44 ls st h = a_do a_nL R R 42 (s_aldl 0 45 ls st h) := a_R_eq ..
theorem r42_45 (ls : A_V) (st : List Value) (h : A_H) : R 42 45 ls st h = a_do a_nL R R 42 (s_push (.int 1) 46 ls st h) := a_R_eq ..
theorem r42_46 (ls : A_V) (st : List Value) (h : A_H) : R 42 46 ls st h = a_do a_nL R R 42 (s_call 10 35 2 3 true 47 ls st h) := a_R_eq ..
theorem r42_47 (ls : A_V) (st : List Value) (h : A_H) : R 42 47 ls st h = a_do a_nL R R 42 (s_putI 3 1 48 ls st h) := a_R_eq ..
theorem r42_48 (ls : A_V) (st : List Value) (h : A_H) : R 42 48 ls st h = a_do a_nL R R 42 (s_aldl 0 49 ls st h) := a_R_eq ..
theorem r42_49 (ls : A_V) (st : List Value) (h : A_H) : R 42 49 ls st h = a_do a_nL R R 42 (s_call 10 25 1 1 false 50 ls st h) := a_R_eq ..
theorem r42_50 (ls : A_V) (st : List Value) (h : A_H) : R 42 50 ls st h = a_do a_nL R R 42 (s_aldl 2 51 ls st h) := a_R_eq ..
theorem r42_51 (ls : A_V) (st : List Value) (h : A_H) : R 42 51 ls st h = a_do a_nL R R 42 (s_aldl 2 52 ls st h) := a_R_eq ..
theorem r42_52 (ls : A_V) (st : List Value) (h : A_H) : R 42 52 ls st h = a_do a_nL R R 42 (s_getI 3 0 53 ls st h) := a_R_eq ..
theorem r42_53 (ls : A_V) (st : List Value) (h : A_H) : R 42 53 ls st h = a_do a_nL R R 42 (s_push (.int 4) 54 ls st h) := a_R_eq ..
theorem r42_54 (ls : A_V) (st : List Value) (h : A_H) : R 42 54 ls st h = a_do a_nL R R 42 (s_if2 (fun x y => !decide (x = y)) 57 55 ls st h) := a_R_eq ..
theorem r42_55 (ls : A_V) (st : List Value) (h : A_H) : R 42 55 ls st h = a_do a_nL R R 42 (s_push (.int (-2)) 56 ls st h) := a_R_eq ..
theorem r42_56 (ls : A_V) (st : List Value) (h : A_H) : R 42 56 ls st h = a_do a_nL R R 42 (s_goto 64 ls st h) := a_R_eq ..
theorem r42_57 (ls : A_V) (st : List Value) (h : A_H) : R 42 57 ls st h = a_do a_nL R R 42 (s_aldl 0 58 ls st h) := a_R_eq ..
theorem r42_58 (ls : A_V) (st : List Value) (h : A_H) : R 42 58 ls st h = a_do a_nL R R 42 (s_getR 7 2 59 ls st h) := a_R_eq ..
theorem r42_59 (ls : A_V) (st : List Value) (h : A_H) : R 42 59 ls st h = a_do a_nL R R 42 (s_getR 9 9 60 ls st h) := a_R_eq ..
theorem r42_60 (ls : A_V) (st : List Value) (h : A_H) : R 42 60 ls st h = a_do a_nL R R 42 (s_aldl 2 61 ls st h) := a_R_eq ..
theorem r42_61 (ls : A_V) (st : List Value) (h : A_H) : R 42 61 ls st h = a_do a_nL R R 42 (s_getI 3 1 62 ls st h) := a_R_eq ..
theorem r42_62 (ls : A_V) (st : List Value) (h : A_H) : R 42 62 ls st h = a_do a_nL R R 42 (s_aal 3 63 ls st h) := a_R_eq ..
theorem r42_63 (ls : A_V) (st : List Value) (h : A_H) : R 42 63 ls st h = a_do a_nL R R 42 (s_getI 5 2 64 ls st h) := a_R_eq ..
theorem r42_64 (ls : A_V) (st : List Value) (h : A_H) : R 42 64 ls st h = a_do a_nL R R 42 (s_putI 3 4 65 ls st h) := a_R_eq ..
theorem r42_65 (ls : A_V) (st : List Value) (h : A_H) : R 42 65 ls st h = a_do a_nL R R 42 (s_aldl 0 66 ls st h) := a_R_eq ..
theorem r42_66 (ls : A_V) (st : List Value) (h : A_H) : R 42 66 ls st h = a_do a_nL R R 42 (s_push (.float 26) 67 ls st h) := a_R_eq ..
theorem r42_67 (ls : A_V) (st : List Value) (h : A_H) : R 42 67 ls st h = a_do a_nL R R 42 (s_call 10 29 2 2 false 68 ls st h) := a_R_eq ..
theorem r42_68 (ls : A_V) (st : List Value) (h : A_H) : R 42 68 ls st h = a_do a_nL R R 42 (s_aldl 2 69 ls st h) := a_R_eq ..
theorem r42_69 (ls : A_V) (st : List Value) (h : A_H) : R 42 69 ls st h = a_do a_nL R R 42 (s_aldl 0 70 ls st h) := a_R_eq ..
theorem r42_70 (ls : A_V) (st : List Value) (h : A_H) : R 42 70 ls st h = a_do a_nL R R 42 (s_push (.int 0) 71 ls st h) := a_R_eq ..
theorem r42_71 (ls : A_V) (st : List Value) (h : A_H) : R 42 71 ls st h = a_do a_nL R R 42 (s_push (.int 300) 72 ls st h) := a_R_eq ..
theorem r42_72 (ls : A_V) (st : List Value) (h : A_H) : R 42 72 ls st h = a_do a_nL R R 42 (s_call 10 30 3 4 true 73 ls st h) := a_R_eq ..
theorem r42_73 (ls : A_V) (st : List Value) (h : A_H) : R 42 73 ls st h = a_do a_nL R R 42 (s_putI 3 3 74 ls st h) := a_R_eq ..
theorem r42_74 (ls : A_V) (st : List Value) (h : A_H) : R 42 74 ls st h = a_do a_nL R R 42 (s_aldl 0 75 ls st h) := a_R_eq ..
theorem r42_75 (ls : A_V) (st : List Value) (h : A_H) : R 42 75 ls st h = a_do a_nL R R 42 (s_push (.float 27) 76 ls st h) := a_R_eq ..
theorem r42_76 (ls : A_V) (st : List Value) (h : A_H) : R 42 76 ls st h = a_do a_nL R R 42 (s_call 10 29 2 2 false 77 ls st h) := a_R_eq ..
theorem r42_77 (ls : A_V) (st : List Value) (h : A_H) : R 42 77 ls st h = a_do a_nL R R 42 (s_aldl 2 78 ls st h) := a_R_eq ..
theorem r42_78 (ls : A_V) (st : List Value) (h : A_H) : R 42 78 ls st h = a_do a_nL R R 42 (s_aldl 0 79 ls st h) := a_R_eq ..
theorem r42_79 (ls : A_V) (st : List Value) (h : A_H) : R 42 79 ls st h = a_do a_nL R R 42 (s_push (.int 1) 80 ls st h) := a_R_eq ..
theorem r42_80 (ls : A_V) (st : List Value) (h : A_H) : R 42 80 ls st h = a_do a_nL R R 42 (s_push (.int 9) 81 ls st h) := a_R_eq ..
theorem r42_81 (ls : A_V) (st : List Value) (h : A_H) : R 42 81 ls st h = a_do a_nL R R 42 (s_call 10 30 3 4 true 82 ls st h) := a_R_eq ..
theorem r42_82 (ls : A_V) (st : List Value) (h : A_H) : R 42 82 ls st h = a_do a_nL R R 42 (s_putI 3 5 83 ls st h) := a_R_eq ..
theorem r42_83 (ls : A_V) (st : List Value) (h : A_H) : R 42 83 ls st h = a_do a_nL R R 42 (s_aldl 0 84 ls st h) := a_R_eq ..
theorem r42_84 (ls : A_V) (st : List Value) (h : A_H) : R 42 84 ls st h = a_do a_nL R R 42 (s_push (.float 28) 85 ls st h) := a_R_eq ..
theorem r42_85 (ls : A_V) (st : List Value) (h : A_H) : R 42 85 ls st h = a_do a_nL R R 42 (s_call 10 29 2 2 false 86 ls st h) := a_R_eq ..
theorem r42_86 (ls : A_V) (st : List Value) (h : A_H) : R 42 86 ls st h = a_do a_nL R R 42 (s_aldl 2 87 ls st h) := a_R_eq ..
theorem r42_87 (ls : A_V) (st : List Value) (h : A_H) : R 42 87 ls st h = a_do a_nL R R 42 (s_aldl 0 88 ls st h) := a_R_eq ..
theorem r42_88 (ls : A_V) (st : List Value) (h : A_H) : R 42 88 ls st h = a_do a_nL R R 42 (s_push (.int 0) 89 ls st h) := a_R_eq ..
theorem r42_89 (ls : A_V) (st : List Value) (h : A_H) : R 42 89 ls st h = a_do a_nL R R 42 (s_push (.int 99) 90 ls st h) := a_R_eq ..
theorem r42_90 (ls : A_V) (st : List Value) (h : A_H) : R 42 90 ls st h = a_do a_nL R R 42 (s_call 10 30 3 4 true 91 ls st h) := a_R_eq ..
theorem r42_91 (ls : A_V) (st : List Value) (h : A_H) : R 42 91 ls st h = a_do a_nL R R 42 (s_putI 3 6 92 ls st h) := a_R_eq ..
theorem r42_92 (ls : A_V) (st : List Value) (h : A_H) : R 42 92 ls st h = a_do a_nL R R 42 (s_aldl 0 93 ls st h) := a_R_eq ..
theorem r42_93 (ls : A_V) (st : List Value) (h : A_H) : R 42 93 ls st h = a_do a_nL R R 42 (s_getR 7 2 94 ls st h) := a_R_eq ..
theorem r42_94 (ls : A_V) (st : List Value) (h : A_H) : R 42 94 ls st h = a_do a_nL R R 42 (s_getR 9 10 95 ls st h) := a_R_eq ..
theorem r42_95 (ls : A_V) (st : List Value) (h : A_H) : R 42 95 ls st h = a_do a_nL R R 42 (s_aldl 2 96 ls st h) := a_R_eq ..
theorem r42_96 (ls : A_V) (st : List Value) (h : A_H) : R 42 96 ls st h = a_do a_nL R R 42 (s_getI 3 2 97 ls st h) := a_R_eq ..
theorem r42_97 (ls : A_V) (st : List Value) (h : A_H) : R 42 97 ls st h = a_do a_nL R R 42 (s_aal 4 98 ls st h) := a_R_eq ..
theorem r42_98 (ls : A_V) (st : List Value) (h : A_H) : R 42 98 ls st h = a_do a_nL R R 42 (s_dup 99 ls st h) := a_R_eq ..
theorem r42_99 (ls : A_V) (st : List Value) (h : A_H) : R 42 99 ls st h = a_do a_nL R R 42 (s_getI 10 2 100 ls st h) := a_R_eq ..
theorem r42_100 (ls : A_V) (st : List Value) (h : A_H) : R 42 100 ls st h = a_do a_nL R R 42 (s_push (.int 1) 101 ls st h) := a_R_eq ..
theorem r42_101 (ls : A_V) (st : List Value) (h : A_H) : R 42 101 ls st h = a_do a_nL R R 42 (s_ildl 1 102 ls st h) := a_R_eq ..
theorem r42_102 (ls : A_V) (st : List Value) (h : A_H) : R 42 102 ls st h = a_do a_nL R R 42 (s_bi (fun x y => x <<< (y &&& 31)) 103 ls st h) := a_R_eq ..
theorem r42_103 (ls : A_V) (st : List Value) (h : A_H) : R 42 103 ls st h = a_do a_nL R R 42 (s_bi (fun x y => x ||| y) 104 ls st h) := a_R_eq ..
theorem r42_104 (ls : A_V) (st : List Value) (h : A_H) : R 42 104 ls st h = a_do a_nL R R 42 (s_putI 10 2 105 ls st h) := a_R_eq ..
theorem r42_105 (ls : A_V) (st : List Value) (h : A_H) : R 42 105 ls st h = a_do a_nL R R 42 (s_aldl 0 106 ls st h) := a_R_eq ..
theorem r42_106 (ls : A_V) (st : List Value) (h : A_H) : R 42 106 ls st h = a_do a_nL R R 42 (s_getR 7 2 107 ls st h) := a_R_eq ..
theorem r42_107 (ls : A_V) (st : List Value) (h : A_H) : R 42 107 ls st h = a_do a_nL R R 42 (s_dup 108 ls st h) := a_R_eq ..
theorem r42_108 (ls : A_V) (st : List Value) (h : A_H) : R 42 108 ls st h = a_do a_nL R R 42 (s_getI 9 5 109 ls st h) := a_R_eq ..
theorem r42_109 (ls : A_V) (st : List Value) (h : A_H) : R 42 109 ls st h = a_do a_nL R R 42 (s_push (.int 1) 110 ls st h) := a_R_eq ..
theorem r42_110 (ls : A_V) (st : List Value) (h : A_H) : R 42 110 ls st h = a_do a_nL R R 42 (s_bi (fun x y => x + y) 111 ls st h) := a_R_eq ..
theorem r42_111 (ls : A_V) (st : List Value) (h : A_H) : R 42 111 ls st h = a_do a_nL R R 42 (s_putI 9 5 112 ls st h) := a_R_eq ..
theorem r42_112 (ls : A_V) (st : List Value) (h : A_H) : R 42 112 ls st h = a_do a_nL R R 42 (s_vret ls st h) := a_R_eq ..
theorem b42_0 (x0 : Nat) (l1 : Option Value) (l2 : Option Value) (h : A_H) : R 42 0 [some (.ref x0), l1, l2] [] h = (cond (isO h x0 7 && (hP h x0 2).isSome) (cond (isO h ((hP h x0 2).getD 0) 9) (cond (isO h x0 7) (a_back R 42 (37, [.ref x0, .int (hI h ((hP h x0 2).getD 0) 5), .int (8 : Int32)], h, true, none, 8, [some (.ref x0), some (.int (hI h ((hP h x0 2).getD 0) 5)), l2], []) (C 37 [.ref x0, .int (hI h ((hP h x0 2).getD 0) 5), .int (8 : Int32)] h)) none) none) none) := (tr (r42_0 ..) (tr (r42_1 ..) (cgT (tr (r42_2 ..) (cgT (tr (r42_3 ..) (tr (r42_4 ..) (tr (r42_5 ..) (tr (r42_6 ..) (r42_7 ..))))))))))
theorem b42_8 (x0 : Nat) (x1 : Int32) (l2 : Option Value) (s0 : Int32) (h : A_H) : R 42 8 [some (.ref x0), some (.int x1), l2] [.int s0] h = (cond (!decide (s0 = 0)) (cond (isO h x0 7 && (hP h x0 2).isSome) (cond (isO h ((hP h x0 2).getD 0) 9 && (hP h ((hP h x0 2).getD 0) 12).isSome) (cond (isA h ((hP h ((hP h x0 2).getD 0) 12).getD 0) 6 x1 && (hP h ((hP h ((hP h x0 2).getD 0) 12).getD 0) (x1).toNatClampNeg).isSome) (cond (isO h x0 7) (a_back R 42 (34, [.ref x0, .int (4 : Int32), .int x1], h, false, none, 20, [some (.ref x0), some (.int x1), some (.ref ((hP h ((hP h ((hP h x0 2).getD 0) 12).getD 0) (x1).toNatClampNeg).getD 0))], []) (C 34 [.ref x0, .int (4 : Int32), .int x1] h)) none) none) none) none) (some (some none, h))) := (tr (r42_8 ..) (cgB (tr (r42_10 ..) (tr (r42_11 ..) (cgT (tr (r42_12 ..) (cgT (tr (r42_13 ..) (tr (r42_14 ..) (cgT (tr (r42_15 ..) (tr (r42_16 ..) (tr (r42_17 ..) (tr (r42_18 ..) (r42_19 ..))))))))))))) (r42_9 ..)))
theorem b42_20 (x0 : Nat) (x1 : Int32) (x2 : Nat) (h : A_H) : R 42 20 [some (.ref x0), some (.int x1), some (.ref x2)] [] h = (cond (isO h x0 7) (a_back R 42 (43, [.ref x0], h, true, none, 23, [some (.ref x0), some (.int x1), some (.ref x2)], [.ref x2]) (C 43 [.ref x0] h)) none) := (tr (r42_20 ..) (tr (r42_21 ..) (r42_22 ..)))
theorem b42_23 (x0 : Nat) (x1 : Int32) (x2 : Nat) (s0 : Nat) (s1 : Int32) (h : A_H) : R 42 23 [some (.ref x0), some (.int x1), some (.ref x2)] [.int s1, .ref s0] h = (cond (isO h s0 3) (R 42 24 [some (.ref x0), some (.int x1), some (.ref x2)] [] (wI h s0 0 s1)) none) := (r42_23 ..)
theorem b42_24 (x0 : Nat) (x1 : Int32) (x2 : Nat) (h : A_H) : R 42 24 [some (.ref x0), some (.int x1), some (.ref x2)] [] h = (cond (isO h x0 7) (a_back R 42 (35, [.ref x0, .int (2 : Int32)], h, true, none, 28, [some (.ref x0), some (.int x1), some (.ref x2)], [.ref x2]) (C 35 [.ref x0, .int (2 : Int32)] h)) none) := (tr (r42_24 ..) (tr (r42_25 ..) (tr (r42_26 ..) (r42_27 ..))))
theorem b42_28 (x0 : Nat) (x1 : Int32) (x2 : Nat) (s0 : Nat) (s1 : Int32) (h : A_H) : R 42 28 [some (.ref x0), some (.int x1), some (.ref x2)] [.int s1, .ref s0] h = (cond (isO h s0 3) (R 42 29 [some (.ref x0), some (.int x1), some (.ref x2)] [] (wI h s0 2 s1)) none) := (r42_28 ..)
theorem b42_29 (x0 : Nat) (x1 : Int32) (x2 : Nat) (h : A_H) : R 42 29 [some (.ref x0), some (.int x1), some (.ref x2)] [] h = (cond (isO h x0 7) (a_back R 42 (25, [.ref x0], h, false, none, 31, [some (.ref x0), some (.int x1), some (.ref x2)], []) (C 25 [.ref x0] h)) none) := (tr (r42_29 ..) (r42_30 ..))
theorem b42_31 (x0 : Nat) (x1 : Int32) (x2 : Nat) (h : A_H) : R 42 31 [some (.ref x0), some (.int x1), some (.ref x2)] [] h = (cond (isO h x2 3) (R 42 34 [some (.ref x0), some (.int x1), some (.ref x2)] [] (wI h x2 1 (-2 : Int32))) none) := (tr (r42_31 ..) (tr (r42_32 ..) (r42_33 ..)))
theorem b42_34 (x0 : Nat) (x1 : Int32) (x2 : Nat) (h : A_H) : R 42 34 [some (.ref x0), some (.int x1), some (.ref x2)] [] h = (cond (isO h x2 3) (R 42 37 [some (.ref x0), some (.int x1), some (.ref x2)] [] (wI h x2 4 (3 : Int32))) none) := (tr (r42_34 ..) (tr (r42_35 ..) (r42_36 ..)))
theorem b42_37 (x0 : Nat) (x1 : Int32) (x2 : Nat) (h : A_H) : R 42 37 [some (.ref x0), some (.int x1), some (.ref x2)] [] h = (cond (isO h x2 3) (cond (decide ((hI h x2 0) = 0)) (cond (isO h x0 7) (a_back R 42 (29, [.ref x0, .float 26], h, false, none, 68, [some (.ref x0), some (.int x1), some (.ref x2)], []) (C 29 [.ref x0, .float 26] h)) none) (cond (isO h x0 7) (a_back R 42 (29, [.ref x0, .float 11], h, false, none, 43, [some (.ref x0), some (.int x1), some (.ref x2)], []) (C 29 [.ref x0, .float 11] h)) none)) none) := (tr (r42_37 ..) (tr (r42_38 ..) (cgT (tr (r42_39 ..) (cgB (tr (r42_65 ..) (tr (r42_66 ..) (r42_67 ..))) (tr (r42_40 ..) (tr (r42_41 ..) (r42_42 ..))))))))
theorem b42_43 (x0 : Nat) (x1 : Int32) (x2 : Nat) (h : A_H) : R 42 43 [some (.ref x0), some (.int x1), some (.ref x2)] [] h = (cond (isO h x0 7) (a_back R 42 (35, [.ref x0, .int (1 : Int32)], h, true, none, 47, [some (.ref x0), some (.int x1), some (.ref x2)], [.ref x2]) (C 35 [.ref x0, .int (1 : Int32)] h)) none) := (tr (r42_43 ..) (tr (r42_44 ..) (tr (r42_45 ..) (r42_46 ..))))
theorem b42_47 (x0 : Nat) (x1 : Int32) (x2 : Nat) (s0 : Nat) (s1 : Int32) (h : A_H) : R 42 47 [some (.ref x0), some (.int x1), some (.ref x2)] [.int s1, .ref s0] h = (cond (isO h s0 3) (R 42 48 [some (.ref x0), some (.int x1), some (.ref x2)] [] (wI h s0 1 s1)) none) := (r42_47 ..)
theorem b42_48 (x0 : Nat) (x1 : Int32) (x2 : Nat) (h : A_H) : R 42 48 [some (.ref x0), some (.int x1), some (.ref x2)] [] h = (cond (isO h x0 7) (a_back R 42 (25, [.ref x0], h, false, none, 50, [some (.ref x0), some (.int x1), some (.ref x2)], []) (C 25 [.ref x0] h)) none) := (tr (r42_48 ..) (r42_49 ..))
theorem b42_50 (x0 : Nat) (x1 : Int32) (x2 : Nat) (h : A_H) : R 42 50 [some (.ref x0), some (.int x1), some (.ref x2)] [] h = (cond (isO h x2 3) (cond (!decide ((hI h x2 0) = (4 : Int32))) (cond (isO h x0 7 && (hP h x0 2).isSome) (cond (isO h ((hP h x0 2).getD 0) 9 && (hP h ((hP h x0 2).getD 0) 9).isSome) (cond (isO h x2 3) (cond (isA h ((hP h ((hP h x0 2).getD 0) 9).getD 0) 3 (hI h x2 1) && (hP h ((hP h ((hP h x0 2).getD 0) 9).getD 0) ((hI h x2 1)).toNatClampNeg).isSome) (cond (isO h ((hP h ((hP h ((hP h x0 2).getD 0) 9).getD 0) ((hI h x2 1)).toNatClampNeg).getD 0) 5) (cond (isO h x2 3) (R 42 65 [some (.ref x0), some (.int x1), some (.ref x2)] [] (wI h x2 4 (hI h ((hP h ((hP h ((hP h x0 2).getD 0) 9).getD 0) ((hI h x2 1)).toNatClampNeg).getD 0) 2))) none) none) none) none) none) none) (cond (isO h x2 3) (R 42 65 [some (.ref x0), some (.int x1), some (.ref x2)] [] (wI h x2 4 (-2 : Int32))) none)) none) := (tr (r42_50 ..) (tr (r42_51 ..) (tr (r42_52 ..) (cgT (tr (r42_53 ..) (tr (r42_54 ..) (cgB (tr (r42_57 ..) (tr (r42_58 ..) (cgT (tr (r42_59 ..) (cgT (tr (r42_60 ..) (tr (r42_61 ..) (cgT (tr (r42_62 ..) (cgT (tr (r42_63 ..) (cgT (r42_64 ..))))))))))))) (tr (r42_55 ..) (tr (r42_56 ..) (r42_64 ..))))))))))
theorem b42_65 (x0 : Nat) (x1 : Int32) (x2 : Nat) (h : A_H) : R 42 65 [some (.ref x0), some (.int x1), some (.ref x2)] [] h = (cond (isO h x0 7) (a_back R 42 (29, [.ref x0, .float 26], h, false, none, 68, [some (.ref x0), some (.int x1), some (.ref x2)], []) (C 29 [.ref x0, .float 26] h)) none) := (tr (r42_65 ..) (tr (r42_66 ..) (r42_67 ..)))
theorem b42_68 (x0 : Nat) (x1 : Int32) (x2 : Nat) (h : A_H) : R 42 68 [some (.ref x0), some (.int x1), some (.ref x2)] [] h = (cond (isO h x0 7) (a_back R 42 (30, [.ref x0, .int (0 : Int32), .int (300 : Int32)], h, true, none, 73, [some (.ref x0), some (.int x1), some (.ref x2)], [.ref x2]) (C 30 [.ref x0, .int (0 : Int32), .int (300 : Int32)] h)) none) := (tr (r42_68 ..) (tr (r42_69 ..) (tr (r42_70 ..) (tr (r42_71 ..) (r42_72 ..)))))
theorem b42_73 (x0 : Nat) (x1 : Int32) (x2 : Nat) (s0 : Nat) (s1 : Int32) (h : A_H) : R 42 73 [some (.ref x0), some (.int x1), some (.ref x2)] [.int s1, .ref s0] h = (cond (isO h s0 3) (R 42 74 [some (.ref x0), some (.int x1), some (.ref x2)] [] (wI h s0 3 s1)) none) := (r42_73 ..)
theorem b42_74 (x0 : Nat) (x1 : Int32) (x2 : Nat) (h : A_H) : R 42 74 [some (.ref x0), some (.int x1), some (.ref x2)] [] h = (cond (isO h x0 7) (a_back R 42 (29, [.ref x0, .float 27], h, false, none, 77, [some (.ref x0), some (.int x1), some (.ref x2)], []) (C 29 [.ref x0, .float 27] h)) none) := (tr (r42_74 ..) (tr (r42_75 ..) (r42_76 ..)))
theorem b42_77 (x0 : Nat) (x1 : Int32) (x2 : Nat) (h : A_H) : R 42 77 [some (.ref x0), some (.int x1), some (.ref x2)] [] h = (cond (isO h x0 7) (a_back R 42 (30, [.ref x0, .int (1 : Int32), .int (9 : Int32)], h, true, none, 82, [some (.ref x0), some (.int x1), some (.ref x2)], [.ref x2]) (C 30 [.ref x0, .int (1 : Int32), .int (9 : Int32)] h)) none) := (tr (r42_77 ..) (tr (r42_78 ..) (tr (r42_79 ..) (tr (r42_80 ..) (r42_81 ..)))))
theorem b42_82 (x0 : Nat) (x1 : Int32) (x2 : Nat) (s0 : Nat) (s1 : Int32) (h : A_H) : R 42 82 [some (.ref x0), some (.int x1), some (.ref x2)] [.int s1, .ref s0] h = (cond (isO h s0 3) (R 42 83 [some (.ref x0), some (.int x1), some (.ref x2)] [] (wI h s0 5 s1)) none) := (r42_82 ..)
theorem b42_83 (x0 : Nat) (x1 : Int32) (x2 : Nat) (h : A_H) : R 42 83 [some (.ref x0), some (.int x1), some (.ref x2)] [] h = (cond (isO h x0 7) (a_back R 42 (29, [.ref x0, .float 28], h, false, none, 86, [some (.ref x0), some (.int x1), some (.ref x2)], []) (C 29 [.ref x0, .float 28] h)) none) := (tr (r42_83 ..) (tr (r42_84 ..) (r42_85 ..)))
theorem b42_86 (x0 : Nat) (x1 : Int32) (x2 : Nat) (h : A_H) : R 42 86 [some (.ref x0), some (.int x1), some (.ref x2)] [] h = (cond (isO h x0 7) (a_back R 42 (30, [.ref x0, .int (0 : Int32), .int (99 : Int32)], h, true, none, 91, [some (.ref x0), some (.int x1), some (.ref x2)], [.ref x2]) (C 30 [.ref x0, .int (0 : Int32), .int (99 : Int32)] h)) none) := (tr (r42_86 ..) (tr (r42_87 ..) (tr (r42_88 ..) (tr (r42_89 ..) (r42_90 ..)))))
theorem b42_91 (x0 : Nat) (x1 : Int32) (x2 : Nat) (s0 : Nat) (s1 : Int32) (h : A_H) : R 42 91 [some (.ref x0), some (.int x1), some (.ref x2)] [.int s1, .ref s0] h = (cond (isO h s0 3) (R 42 92 [some (.ref x0), some (.int x1), some (.ref x2)] [] (wI h s0 6 s1)) none) := (r42_91 ..)
theorem b42_92 (x0 : Nat) (x1 : Int32) (x2 : Nat) (h : A_H) : R 42 92 [some (.ref x0), some (.int x1), some (.ref x2)] [] h = (cond (isO h x0 7 && (hP h x0 2).isSome) (cond (isO h ((hP h x0 2).getD 0) 9 && (hP h ((hP h x0 2).getD 0) 10).isSome) (cond (isO h x2 3) (cond (isA h ((hP h ((hP h x0 2).getD 0) 10).getD 0) 4 (hI h x2 2) && (hP h ((hP h ((hP h x0 2).getD 0) 10).getD 0) ((hI h x2 2)).toNatClampNeg).isSome) (cond (isO h ((hP h ((hP h ((hP h x0 2).getD 0) 10).getD 0) ((hI h x2 2)).toNatClampNeg).getD 0) 10) (cond (isO h ((hP h ((hP h ((hP h x0 2).getD 0) 10).getD 0) ((hI h x2 2)).toNatClampNeg).getD 0) 10) (R 42 105 [some (.ref x0), some (.int x1), some (.ref x2)] [] (wI h ((hP h ((hP h ((hP h x0 2).getD 0) 10).getD 0) ((hI h x2 2)).toNatClampNeg).getD 0) 2 ((hI h ((hP h ((hP h ((hP h x0 2).getD 0) 10).getD 0) ((hI h x2 2)).toNatClampNeg).getD 0) 2) ||| ((1 : Int32) <<< (x1 &&& 31))))) none) none) none) none) none) none) := (tr (r42_92 ..) (tr (r42_93 ..) (cgT (tr (r42_94 ..) (cgT (tr (r42_95 ..) (tr (r42_96 ..) (cgT (tr (r42_97 ..) (cgT (tr (r42_98 ..) (tr (r42_99 ..) (cgT (tr (r42_100 ..) (tr (r42_101 ..) (tr (r42_102 ..) (tr (r42_103 ..) (r42_104 ..))))))))))))))))))
theorem b42_105 (x0 : Nat) (x1 : Int32) (x2 : Nat) (h : A_H) : R 42 105 [some (.ref x0), some (.int x1), some (.ref x2)] [] h = (cond (isO h x0 7 && (hP h x0 2).isSome) (cond (isO h ((hP h x0 2).getD 0) 9) (cond (isO h ((hP h x0 2).getD 0) 9) (R 42 112 [some (.ref x0), some (.int x1), some (.ref x2)] [] (wI h ((hP h x0 2).getD 0) 5 ((hI h ((hP h x0 2).getD 0) 5) + (1 : Int32)))) none) none) none) := (tr (r42_105 ..) (tr (r42_106 ..) (cgT (tr (r42_107 ..) (tr (r42_108 ..) (cgT (tr (r42_109 ..) (tr (r42_110 ..) (r42_111 ..)))))))))
theorem b42_112 (x0 : Nat) (x1 : Int32) (x2 : Nat) (h : A_H) : R 42 112 [some (.ref x0), some (.int x1), some (.ref x2)] [] h = (some (some none, h)) := (r42_112 ..)
theorem e43 (x0 : Nat) (h : A_H) : C 43 [.ref x0] h = R 43 0 [some (.ref x0), none] [] h := rfl
theorem r43_0 (ls : A_V) (st : List Value) (h : A_H) : R 43 0 ls st h = a_do a_nL R R 43 (s_push (.int 0) 1 ls st h) := a_R_eq ..
theorem r43_1 (ls : A_V) (st : List Value) (h : A_H) : R 43 1 ls st h = a_do a_nL R R 43 (s_ist 1 2 ls st h) := a_R_eq ..
theorem r43_2 (ls : A_V) (st : List Value) (h : A_H) : R 43 2 ls st h = a_do a_nL R R 43 (s_aldl 0 3 ls st h) := a_R_eq ..
theorem r43_3 (ls : A_V) (st : List Value) (h : A_H) : R 43 3 ls st h = a_do a_nL R R 43 (s_push (.float 22) 4 ls st h) := a_R_eq ..
theorem r43_4 (ls : A_V) (st : List Value) (h : A_H) : R 43 4 ls st h = a_do a_nL R R 43 (s_call 10 28 2 2 true 5 ls st h) := a_R_eq ..
theorem r43_5 (ls : A_V) (st : List Value) (h : A_H) : R 43 5 ls st h = a_do a_nL R R 43 (s_if1 (fun x => decide (x = 0)) 9 6 ls st h) := a_R_eq ..
theorem r43_6 (ls : A_V) (st : List Value) (h : A_H) : R 43 6 ls st h = a_do a_nL R R 43 (s_push (.int 1) 7 ls st h) := a_R_eq ..
theorem r43_7 (ls : A_V) (st : List Value) (h : A_H) : R 43 7 ls st h = a_do a_nL R R 43 (s_ist 1 8 ls st h) := a_R_eq ..
theorem r43_8 (ls : A_V) (st : List Value) (h : A_H) : R 43 8 ls st h = a_do a_nL R R 43 (s_goto 37 ls st h) := a_R_eq ..
theorem r43_9 (ls : A_V) (st : List Value) (h : A_H) : R 43 9 ls st h = a_do a_nL R R 43 (s_aldl 0 10 ls st h) := a_R_eq ..
theorem r43_10 (ls : A_V) (st : List Value) (h : A_H) : R 43 10 ls st h = a_do a_nL R R 43 (s_push (.float 23) 11 ls st h) := a_R_eq ..
theorem r43_11 (ls : A_V) (st : List Value) (h : A_H) : R 43 11 ls st h = a_do a_nL R R 43 (s_call 10 28 2 2 true 12 ls st h) := a_R_eq ..
theorem r43_12 (ls : A_V) (st : List Value) (h : A_H) : R 43 12 ls st h = a_do a_nL R R 43 (s_if1 (fun x => decide (x = 0)) 16 13 ls st h) := a_R_eq ..
theorem r43_13 (ls : A_V) (st : List Value) (h : A_H) : R 43 13 ls st h = a_do a_nL R R 43 (s_push (.int 2) 14 ls st h) := a_R_eq ..
theorem r43_14 (ls : A_V) (st : List Value) (h : A_H) : R 43 14 ls st h = a_do a_nL R R 43 (s_ist 1 15 ls st h) := a_R_eq ..
theorem r43_15 (ls : A_V) (st : List Value) (h : A_H) : R 43 15 ls st h = a_do a_nL R R 43 (s_goto 37 ls st h) := a_R_eq ..
theorem r43_16 (ls : A_V) (st : List Value) (h : A_H) : R 43 16 ls st h = a_do a_nL R R 43 (s_aldl 0 17 ls st h) := a_R_eq ..
theorem r43_17 (ls : A_V) (st : List Value) (h : A_H) : R 43 17 ls st h = a_do a_nL R R 43 (s_push (.float 24) 18 ls st h) := a_R_eq ..
theorem r43_18 (ls : A_V) (st : List Value) (h : A_H) : R 43 18 ls st h = a_do a_nL R R 43 (s_call 10 28 2 2 true 19 ls st h) := a_R_eq ..
theorem r43_19 (ls : A_V) (st : List Value) (h : A_H) : R 43 19 ls st h = a_do a_nL R R 43 (s_if1 (fun x => decide (x = 0)) 23 20 ls st h) := a_R_eq ..
theorem r43_20 (ls : A_V) (st : List Value) (h : A_H) : R 43 20 ls st h = a_do a_nL R R 43 (s_push (.int 3) 21 ls st h) := a_R_eq ..
theorem r43_21 (ls : A_V) (st : List Value) (h : A_H) : R 43 21 ls st h = a_do a_nL R R 43 (s_ist 1 22 ls st h) := a_R_eq ..
theorem r43_22 (ls : A_V) (st : List Value) (h : A_H) : R 43 22 ls st h = a_do a_nL R R 43 (s_goto 37 ls st h) := a_R_eq ..
theorem r43_23 (ls : A_V) (st : List Value) (h : A_H) : R 43 23 ls st h = a_do a_nL R R 43 (s_aldl 0 24 ls st h) := a_R_eq ..
theorem r43_24 (ls : A_V) (st : List Value) (h : A_H) : R 43 24 ls st h = a_do a_nL R R 43 (s_push (.float 25) 25 ls st h) := a_R_eq ..
theorem r43_25 (ls : A_V) (st : List Value) (h : A_H) : R 43 25 ls st h = a_do a_nL R R 43 (s_call 10 28 2 2 true 26 ls st h) := a_R_eq ..
theorem r43_26 (ls : A_V) (st : List Value) (h : A_H) : R 43 26 ls st h = a_do a_nL R R 43 (s_if1 (fun x => decide (x = 0)) 30 27 ls st h) := a_R_eq ..
theorem r43_27 (ls : A_V) (st : List Value) (h : A_H) : R 43 27 ls st h = a_do a_nL R R 43 (s_push (.int 4) 28 ls st h) := a_R_eq ..
theorem r43_28 (ls : A_V) (st : List Value) (h : A_H) : R 43 28 ls st h = a_do a_nL R R 43 (s_ist 1 29 ls st h) := a_R_eq ..
theorem r43_29 (ls : A_V) (st : List Value) (h : A_H) : R 43 29 ls st h = a_do a_nL R R 43 (s_goto 37 ls st h) := a_R_eq ..
theorem r43_30 (ls : A_V) (st : List Value) (h : A_H) : R 43 30 ls st h = a_do a_nL R R 43 (s_aldl 0 31 ls st h) := a_R_eq ..
theorem r43_31 (ls : A_V) (st : List Value) (h : A_H) : R 43 31 ls st h = a_do a_nL R R 43 (s_push (.float 10) 32 ls st h) := a_R_eq ..
theorem r43_32 (ls : A_V) (st : List Value) (h : A_H) : R 43 32 ls st h = a_do a_nL R R 43 (s_call 10 28 2 2 true 33 ls st h) := a_R_eq ..
theorem r43_33 (ls : A_V) (st : List Value) (h : A_H) : R 43 33 ls st h = a_do a_nL R R 43 (s_if1 (fun x => !decide (x = 0)) 37 34 ls st h) := a_R_eq ..
theorem r43_34 (ls : A_V) (st : List Value) (h : A_H) : R 43 34 ls st h = a_do a_nL R R 43 (s_aldl 0 35 ls st h) := a_R_eq ..
theorem r43_35 (ls : A_V) (st : List Value) (h : A_H) : R 43 35 ls st h = a_do a_nL R R 43 (s_push (.int 1) 36 ls st h) := a_R_eq ..
theorem r43_36 (ls : A_V) (st : List Value) (h : A_H) : R 43 36 ls st h = a_do a_nL R R 43 (s_call 10 24 2 2 false 37 ls st h) := a_R_eq ..
theorem r43_37 (ls : A_V) (st : List Value) (h : A_H) : R 43 37 ls st h = a_do a_nL R R 43 (s_aldl 0 38 ls st h) := a_R_eq ..
theorem r43_38 (ls : A_V) (st : List Value) (h : A_H) : R 43 38 ls st h = a_do a_nL R R 43 (s_call 10 25 1 1 false 39 ls st h) := a_R_eq ..
theorem r43_39 (ls : A_V) (st : List Value) (h : A_H) : R 43 39 ls st h = a_do a_nL R R 43 (s_ildl 1 40 ls st h) := a_R_eq ..
theorem r43_40 (ls : A_V) (st : List Value) (h : A_H) : R 43 40 ls st h = a_do a_nL R R 43 (s_iret ls st h) := a_R_eq ..
theorem b43_0 (x0 : Nat) (l1 : Option Value) (h : A_H) : R 43 0 [some (.ref x0), l1] [] h = (cond (isO h x0 7) (a_back R 43 (28, [.ref x0, .float 22], h, true, none, 5, [some (.ref x0), some (.int (0 : Int32))], []) (C 28 [.ref x0, .float 22] h)) none) := (tr (r43_0 ..) (tr (r43_1 ..) (tr (r43_2 ..) (tr (r43_3 ..) (r43_4 ..)))))
theorem b43_5 (x0 : Nat) (x1 : Int32) (s0 : Int32) (h : A_H) : R 43 5 [some (.ref x0), some (.int x1)] [.int s0] h = (cond (decide (s0 = 0)) (cond (isO h x0 7) (a_back R 43 (28, [.ref x0, .float 23], h, true, none, 12, [some (.ref x0), some (.int x1)], []) (C 28 [.ref x0, .float 23] h)) none) (cond (isO h x0 7) (a_back R 43 (25, [.ref x0], h, false, none, 39, [some (.ref x0), some (.int (1 : Int32))], []) (C 25 [.ref x0] h)) none)) := (tr (r43_5 ..) (cgB (tr (r43_9 ..) (tr (r43_10 ..) (r43_11 ..))) (tr (r43_6 ..) (tr (r43_7 ..) (tr (r43_8 ..) (tr (r43_37 ..) (r43_38 ..)))))))
theorem b43_12 (x0 : Nat) (x1 : Int32) (s0 : Int32) (h : A_H) : R 43 12 [some (.ref x0), some (.int x1)] [.int s0] h = (cond (decide (s0 = 0)) (cond (isO h x0 7) (a_back R 43 (28, [.ref x0, .float 24], h, true, none, 19, [some (.ref x0), some (.int x1)], []) (C 28 [.ref x0, .float 24] h)) none) (cond (isO h x0 7) (a_back R 43 (25, [.ref x0], h, false, none, 39, [some (.ref x0), some (.int (2 : Int32))], []) (C 25 [.ref x0] h)) none)) := (tr (r43_12 ..) (cgB (tr (r43_16 ..) (tr (r43_17 ..) (r43_18 ..))) (tr (r43_13 ..) (tr (r43_14 ..) (tr (r43_15 ..) (tr (r43_37 ..) (r43_38 ..)))))))
theorem b43_19 (x0 : Nat) (x1 : Int32) (s0 : Int32) (h : A_H) : R 43 19 [some (.ref x0), some (.int x1)] [.int s0] h = (cond (decide (s0 = 0)) (cond (isO h x0 7) (a_back R 43 (28, [.ref x0, .float 25], h, true, none, 26, [some (.ref x0), some (.int x1)], []) (C 28 [.ref x0, .float 25] h)) none) (cond (isO h x0 7) (a_back R 43 (25, [.ref x0], h, false, none, 39, [some (.ref x0), some (.int (3 : Int32))], []) (C 25 [.ref x0] h)) none)) := (tr (r43_19 ..) (cgB (tr (r43_23 ..) (tr (r43_24 ..) (r43_25 ..))) (tr (r43_20 ..) (tr (r43_21 ..) (tr (r43_22 ..) (tr (r43_37 ..) (r43_38 ..)))))))
theorem b43_26 (x0 : Nat) (x1 : Int32) (s0 : Int32) (h : A_H) : R 43 26 [some (.ref x0), some (.int x1)] [.int s0] h = (cond (decide (s0 = 0)) (cond (isO h x0 7) (a_back R 43 (28, [.ref x0, .float 10], h, true, none, 33, [some (.ref x0), some (.int x1)], []) (C 28 [.ref x0, .float 10] h)) none) (cond (isO h x0 7) (a_back R 43 (25, [.ref x0], h, false, none, 39, [some (.ref x0), some (.int (4 : Int32))], []) (C 25 [.ref x0] h)) none)) := (tr (r43_26 ..) (cgB (tr (r43_30 ..) (tr (r43_31 ..) (r43_32 ..))) (tr (r43_27 ..) (tr (r43_28 ..) (tr (r43_29 ..) (tr (r43_37 ..) (r43_38 ..)))))))
theorem b43_33 (x0 : Nat) (x1 : Int32) (s0 : Int32) (h : A_H) : R 43 33 [some (.ref x0), some (.int x1)] [.int s0] h = (cond (!decide (s0 = 0)) (cond (isO h x0 7) (a_back R 43 (25, [.ref x0], h, false, none, 39, [some (.ref x0), some (.int x1)], []) (C 25 [.ref x0] h)) none) (cond (isO h x0 7) (a_back R 43 (24, [.ref x0, .int (1 : Int32)], h, false, none, 37, [some (.ref x0), some (.int x1)], []) (C 24 [.ref x0, .int (1 : Int32)] h)) none)) := (tr (r43_33 ..) (cgB (tr (r43_37 ..) (r43_38 ..)) (tr (r43_34 ..) (tr (r43_35 ..) (r43_36 ..)))))
theorem b43_37 (x0 : Nat) (x1 : Int32) (h : A_H) : R 43 37 [some (.ref x0), some (.int x1)] [] h = (cond (isO h x0 7) (a_back R 43 (25, [.ref x0], h, false, none, 39, [some (.ref x0), some (.int x1)], []) (C 25 [.ref x0] h)) none) := (tr (r43_37 ..) (r43_38 ..))
theorem b43_39 (x0 : Nat) (x1 : Int32) (h : A_H) : R 43 39 [some (.ref x0), some (.int x1)] [] h = (some (some (some (.int x1)), h)) := (tr (r43_39 ..) (r43_40 ..))
theorem e44 (x0 : Nat) (h : A_H) : C 44 [.ref x0] h = R 44 0 [some (.ref x0), none] [] h := rfl
theorem r44_0 (ls : A_V) (st : List Value) (h : A_H) : R 44 0 ls st h = a_do a_nL R R 44 (s_aldl 0 1 ls st h) := a_R_eq ..
theorem r44_1 (ls : A_V) (st : List Value) (h : A_H) : R 44 1 ls st h = a_do a_nL R R 44 (s_call 10 25 1 1 false 2 ls st h) := a_R_eq ..
theorem r44_2 (ls : A_V) (st : List Value) (h : A_H) : R 44 2 ls st h = a_do a_nL R R 44 (s_push (.int 1) 3 ls st h) := a_R_eq ..
theorem r44_3 (ls : A_V) (st : List Value) (h : A_H) : R 44 3 ls st h = a_do a_nL R R 44 (s_aldl 0 4 ls st h) := a_R_eq ..
theorem r44_4 (ls : A_V) (st : List Value) (h : A_H) : R 44 4 ls st h = a_do a_nL R R 44 (s_push (.int 4) 5 ls st h) := a_R_eq ..
theorem r44_5 (ls : A_V) (st : List Value) (h : A_H) : R 44 5 ls st h = a_do a_nL R R 44 (s_call 10 35 2 3 true 6 ls st h) := a_R_eq ..
theorem r44_6 (ls : A_V) (st : List Value) (h : A_H) : R 44 6 ls st h = a_do a_nL R R 44 (s_bi (fun x y => x <<< (y &&& 31)) 7 ls st h) := a_R_eq ..
theorem r44_7 (ls : A_V) (st : List Value) (h : A_H) : R 44 7 ls st h = a_do a_nL R R 44 (s_ist 1 8 ls st h) := a_R_eq ..
theorem r44_8 (ls : A_V) (st : List Value) (h : A_H) : R 44 8 ls st h = a_do a_nL R R 44 (s_aldl 0 9 ls st h) := a_R_eq ..
theorem r44_9 (ls : A_V) (st : List Value) (h : A_H) : R 44 9 ls st h = a_do a_nL R R 44 (s_getR 7 2 10 ls st h) := a_R_eq ..
theorem r44_10 (ls : A_V) (st : List Value) (h : A_H) : R 44 10 ls st h = a_do a_nL R R 44 (s_getI 9 8 11 ls st h) := a_R_eq ..
theorem r44_11 (ls : A_V) (st : List Value) (h : A_H) : R 44 11 ls st h = a_do a_nL R R 44 (s_ildl 1 12 ls st h) := a_R_eq ..
theorem r44_12 (ls : A_V) (st : List Value) (h : A_H) : R 44 12 ls st h = a_do a_nL R R 44 (s_bi (fun x y => x &&& y) 13 ls st h) := a_R_eq ..
theorem r44_13 (ls : A_V) (st : List Value) (h : A_H) : R 44 13 ls st h = a_do a_nL R R 44 (s_if1 (fun x => decide (x = 0)) 17 14 ls st h) := a_R_eq ..
theorem r44_14 (ls : A_V) (st : List Value) (h : A_H) : R 44 14 ls st h = a_do a_nL R R 44 (s_aldl 0 15 ls st h) := a_R_eq ..
theorem r44_15 (ls : A_V) (st : List Value) (h : A_H) : R 44 15 ls st h = a_do a_nL R R 44 (s_push (.int 3) 16 ls st h) := a_R_eq ..
theorem r44_16 (ls : A_V) (st : List Value) (h : A_H) : R 44 16 ls st h = a_do a_nL R R 44 (s_call 10 24 2 2 false 17 ls st h) := a_R_eq ..
theorem r44_17 (ls : A_V) (st : List Value) (h : A_H) : R 44 17 ls st h = a_do a_nL R R 44 (s_aldl 0 18 ls st h) := a_R_eq ..
theorem r44_18 (ls : A_V) (st : List Value) (h : A_H) : R 44 18 ls st h = a_do a_nL R R 44 (s_getR 7 2 19 ls st h) := a_R_eq ..
theorem r44_19 (ls : A_V) (st : List Value) (h : A_H) : R 44 19 ls st h = a_do a_nL R R 44 (s_dup 20 ls st h) := a_R_eq ..
theorem r44_20 (ls : A_V) (st : List Value) (h : A_H) : R 44 20 ls st h = a_do a_nL R R 44 (s_getI 9 8 21 ls st h) := a_R_eq ..
theorem r44_21 (ls : A_V) (st : List Value) (h : A_H) : R 44 21 ls st h = a_do a_nL R R 44 (s_ildl 1 22 ls st h) := a_R_eq ..
theorem r44_22 (ls : A_V) (st : List Value) (h : A_H) : R 44 22 ls st h = a_do a_nL R R 44 (s_bi (fun x y => x ||| y) 23 ls st h) := a_R_eq ..
theorem r44_23 (ls : A_V) (st : List Value) (h : A_H) : R 44 23 ls st h = a_do a_nL R R 44 (s_putI 9 8 24 ls st h) := a_R_eq ..
theorem r44_24 (ls : A_V) (st : List Value) (h : A_H) : R 44 24 ls st h = a_do a_nL R R 44 (s_aldl 0 25 ls st h) := a_R_eq ..
theorem r44_25 (ls : A_V) (st : List Value) (h : A_H) : R 44 25 ls st h = a_do a_nL R R 44 (s_call 10 25 1 1 false 26 ls st h) := a_R_eq ..
theorem r44_26 (ls : A_V) (st : List Value) (h : A_H) : R 44 26 ls st h = a_do a_nL R R 44 (s_vret ls st h) := a_R_eq ..
theorem b44_0 (x0 : Nat) (l1 : Option Value) (h : A_H) : R 44 0 [some (.ref x0), l1] [] h = (cond (isO h x0 7) (a_back R 44 (25, [.ref x0], h, false, none, 2, [some (.ref x0), l1], []) (C 25 [.ref x0] h)) none) := (tr (r44_0 ..) (r44_1 ..))
theorem b44_2 (x0 : Nat) (l1 : Option Value) (h : A_H) : R 44 2 [some (.ref x0), l1] [] h = (cond (isO h x0 7) (a_back R 44 (35, [.ref x0, .int (4 : Int32)], h, true, none, 6, [some (.ref x0), l1], [.int (1 : Int32)]) (C 35 [.ref x0, .int (4 : Int32)] h)) none) := (tr (r44_2 ..) (tr (r44_3 ..) (tr (r44_4 ..) (r44_5 ..))))
theorem b44_6 (x0 : Nat) (l1 : Option Value) (s0 : Int32) (s1 : Int32) (h : A_H) : R 44 6 [some (.ref x0), l1] [.int s1, .int s0] h = (cond (isO h x0 7 && (hP h x0 2).isSome) (cond (isO h ((hP h x0 2).getD 0) 9) (cond (decide (((hI h ((hP h x0 2).getD 0) 8) &&& (s0 <<< (s1 &&& 31))) = 0)) (cond (isO h x0 7 && (hP h x0 2).isSome) (cond (isO h ((hP h x0 2).getD 0) 9) (cond (isO h ((hP h x0 2).getD 0) 9) (R 44 24 [some (.ref x0), some (.int (s0 <<< (s1 &&& 31)))] [] (wI h ((hP h x0 2).getD 0) 8 ((hI h ((hP h x0 2).getD 0) 8) ||| (s0 <<< (s1 &&& 31))))) none) none) none) (cond (isO h x0 7) (a_back R 44 (24, [.ref x0, .int (3 : Int32)], h, false, none, 17, [some (.ref x0), some (.int (s0 <<< (s1 &&& 31)))], []) (C 24 [.ref x0, .int (3 : Int32)] h)) none)) none) none) := (tr (r44_6 ..) (tr (r44_7 ..) (tr (r44_8 ..) (tr (r44_9 ..) (cgT (tr (r44_10 ..) (cgT (tr (r44_11 ..) (tr (r44_12 ..) (tr (r44_13 ..) (cgB (tr (r44_17 ..) (tr (r44_18 ..) (cgT (tr (r44_19 ..) (tr (r44_20 ..) (cgT (tr (r44_21 ..) (tr (r44_22 ..) (r44_23 ..))))))))) (tr (r44_14 ..) (tr (r44_15 ..) (r44_16 ..))))))))))))))
theorem b44_17 (x0 : Nat) (x1 : Int32) (h : A_H) : R 44 17 [some (.ref x0), some (.int x1)] [] h = (cond (isO h x0 7 && (hP h x0 2).isSome) (cond (isO h ((hP h x0 2).getD 0) 9) (cond (isO h ((hP h x0 2).getD 0) 9) (R 44 24 [some (.ref x0), some (.int x1)] [] (wI h ((hP h x0 2).getD 0) 8 ((hI h ((hP h x0 2).getD 0) 8) ||| x1))) none) none) none) := (tr (r44_17 ..) (tr (r44_18 ..) (cgT (tr (r44_19 ..) (tr (r44_20 ..) (cgT (tr (r44_21 ..) (tr (r44_22 ..) (r44_23 ..)))))))))
theorem b44_24 (x0 : Nat) (x1 : Int32) (h : A_H) : R 44 24 [some (.ref x0), some (.int x1)] [] h = (cond (isO h x0 7) (a_back R 44 (25, [.ref x0], h, false, none, 26, [some (.ref x0), some (.int x1)], []) (C 25 [.ref x0] h)) none) := (tr (r44_24 ..) (r44_25 ..))
theorem b44_26 (x0 : Nat) (x1 : Int32) (h : A_H) : R 44 26 [some (.ref x0), some (.int x1)] [] h = (some (some none, h)) := (r44_26 ..)
theorem e45 (x0 : Nat) (h : A_H) : C 45 [.ref x0] h = R 45 0 [some (.ref x0), none, none] [] h := rfl
theorem r45_0 (ls : A_V) (st : List Value) (h : A_H) : R 45 0 ls st h = a_do a_nL R R 45 (s_aldl 0 1 ls st h) := a_R_eq ..
theorem r45_1 (ls : A_V) (st : List Value) (h : A_H) : R 45 1 ls st h = a_do a_nL R R 45 (s_getR 7 2 2 ls st h) := a_R_eq ..
theorem r45_2 (ls : A_V) (st : List Value) (h : A_H) : R 45 2 ls st h = a_do a_nL R R 45 (s_getI 9 6 3 ls st h) := a_R_eq ..
theorem r45_3 (ls : A_V) (st : List Value) (h : A_H) : R 45 3 ls st h = a_do a_nL R R 45 (s_ist 1 4 ls st h) := a_R_eq ..
theorem r45_4 (ls : A_V) (st : List Value) (h : A_H) : R 45 4 ls st h = a_do a_nL R R 45 (s_aldl 0 5 ls st h) := a_R_eq ..
theorem r45_5 (ls : A_V) (st : List Value) (h : A_H) : R 45 5 ls st h = a_do a_nL R R 45 (s_ildl 1 6 ls st h) := a_R_eq ..
theorem r45_6 (ls : A_V) (st : List Value) (h : A_H) : R 45 6 ls st h = a_do a_nL R R 45 (s_push (.int 6) 7 ls st h) := a_R_eq ..
theorem r45_7 (ls : A_V) (st : List Value) (h : A_H) : R 45 7 ls st h = a_do a_nL R R 45 (s_call 10 37 3 3 true 8 ls st h) := a_R_eq ..
theorem r45_8 (ls : A_V) (st : List Value) (h : A_H) : R 45 8 ls st h = a_do a_nL R R 45 (s_if1 (fun x => !decide (x = 0)) 10 9 ls st h) := a_R_eq ..
theorem r45_9 (ls : A_V) (st : List Value) (h : A_H) : R 45 9 ls st h = a_do a_nL R R 45 (s_vret ls st h) := a_R_eq ..
theorem r45_10 (ls : A_V) (st : List Value) (h : A_H) : R 45 10 ls st h = a_do a_nL R R 45 (s_aldl 0 11 ls st h) := a_R_eq ..
theorem r45_11 (ls : A_V) (st : List Value) (h : A_H) : R 45 11 ls st h = a_do a_nL R R 45 (s_getR 7 2 12 ls st h) := a_R_eq ..
theorem r45_12 (ls : A_V) (st : List Value) (h : A_H) : R 45 12 ls st h = a_do a_nL R R 45 (s_getR 9 13 13 ls st h) := a_R_eq ..
theorem r45_13 (ls : A_V) (st : List Value) (h : A_H) : R 45 13 ls st h = a_do a_nL R R 45 (s_ildl 1 14 ls st h) := a_R_eq ..
theorem r45_14 (ls : A_V) (st : List Value) (h : A_H) : R 45 14 ls st h = a_do a_nL R R 45 (s_aal 7 15 ls st h) := a_R_eq ..
theorem r45_15 (ls : A_V) (st : List Value) (h : A_H) : R 45 15 ls st h = a_do a_nL R R 45 (s_ast 2 16 ls st h) := a_R_eq ..
theorem r45_16 (ls : A_V) (st : List Value) (h : A_H) : R 45 16 ls st h = a_do a_nL R R 45 (s_aldl 2 17 ls st h) := a_R_eq ..
theorem r45_17 (ls : A_V) (st : List Value) (h : A_H) : R 45 17 ls st h = a_do a_nL R R 45 (s_aldl 0 18 ls st h) := a_R_eq ..
theorem r45_18 (ls : A_V) (st : List Value) (h : A_H) : R 45 18 ls st h = a_do a_nL R R 45 (s_push (.int 2) 19 ls st h) := a_R_eq ..
theorem r45_19 (ls : A_V) (st : List Value) (h : A_H) : R 45 19 ls st h = a_do a_nL R R 45 (s_call 10 35 2 3 true 20 ls st h) := a_R_eq ..
theorem r45_20 (ls : A_V) (st : List Value) (h : A_H) : R 45 20 ls st h = a_do a_nL R R 45 (s_putI 0 0 21 ls st h) := a_R_eq ..
theorem r45_21 (ls : A_V) (st : List Value) (h : A_H) : R 45 21 ls st h = a_do a_nL R R 45 (s_aldl 0 22 ls st h) := a_R_eq ..
theorem r45_22 (ls : A_V) (st : List Value) (h : A_H) : R 45 22 ls st h = a_do a_nL R R 45 (s_call 10 25 1 1 false 23 ls st h) := a_R_eq ..
theorem r45_23 (ls : A_V) (st : List Value) (h : A_H) : R 45 23 ls st h = a_do a_nL R R 45 (s_aldl 2 24 ls st h) := a_R_eq ..
theorem r45_24 (ls : A_V) (st : List Value) (h : A_H) : R 45 24 ls st h = a_do a_nL R R 45 (s_aldl 0 25 ls st h) := a_R_eq ..
theorem r45_25 (ls : A_V) (st : List Value) (h : A_H) : R 45 25 ls st h = a_do a_nL R R 45 (s_push (.int 3) 26 ls st h) := a_R_eq ..
theorem r45_26 (ls : A_V) (st : List Value) (h : A_H) : R 45 26 ls st h = a_do a_nL R R 45 (s_call 10 35 2 3 true 27 ls st h) := a_R_eq ..
theorem r45_27 (ls : A_V) (st : List Value) (h : A_H) : R 45 27 ls st h = a_do a_nL R R 45 (s_putI 0 1 28 ls st h) := a_R_eq ..
theorem r45_28 (ls : A_V) (st : List Value) (h : A_H) : R 45 28 ls st h = a_do a_nL R R 45 (s_aldl 0 29 ls st h) := a_R_eq ..
theorem r45_29 (ls : A_V) (st : List Value) (h : A_H) : R 45 29 ls st h = a_do a_nL R R 45 (s_call 10 25 1 1 false 30 ls st h) := a_R_eq ..
theorem r45_30 (ls : A_V) (st : List Value) (h : A_H) : R 45 30 ls st h = a_do a_nL R R 45 (s_aldl 0 31 ls st h) := a_R_eq ..
theorem r45_31 (ls : A_V) (st : List Value) (h : A_H) : R 45 31 ls st h = a_do a_nL R R 45 (s_push (.float 29) 32 ls st h) := a_R_eq ..
theorem r45_32 (ls : A_V) (st : List Value) (h : A_H) : R 45 32 ls st h = a_do a_nL R R 45 (s_call 10 29 2 2 false 33 ls st h) := a_R_eq ..
theorem r45_33 (ls : A_V) (st : List Value) (h : A_H) : R 45 33 ls st h = a_do a_nL R R 45 (s_aldl 2 34 ls st h) := a_R_eq ..
theorem r45_34 (ls : A_V) (st : List Value) (h : A_H) : R 45 34 ls st h = a_do a_nL R R 45 (s_aldl 0 35 ls st h) := a_R_eq ..
theorem r45_35 (ls : A_V) (st : List Value) (h : A_H) : R 45 35 ls st h = a_do a_nL R R 45 (s_ildl 1 36 ls st h) := a_R_eq ..
theorem r45_36 (ls : A_V) (st : List Value) (h : A_H) : R 45 36 ls st h = a_do a_nL R R 45 (s_if1 (fun x => !decide (x = 0)) 39 37 ls st h) := a_R_eq ..
theorem r45_37 (ls : A_V) (st : List Value) (h : A_H) : R 45 37 ls st h = a_do a_nL R R 45 (s_push (.int 0) 38 ls st h) := a_R_eq ..
theorem r45_38 (ls : A_V) (st : List Value) (h : A_H) : R 45 38 ls st h = a_do a_nL R R 45 (s_goto 47 ls st h) := a_R_eq ..
theorem r45_39 (ls : A_V) (st : List Value) (h : A_H) : R 45 39 ls st h = a_do a_nL R R 45 (s_aldl 0 40 ls st h) := a_R_eq ..
theorem r45_40 (ls : A_V) (st : List Value) (h : A_H) : R 45 40 ls st h = a_do a_nL R R 45 (s_getR 7 2 41 ls st h) := a_R_eq ..
theorem r45_41 (ls : A_V) (st : List Value) (h : A_H) : R 45 41 ls st h = a_do a_nL R R 45 (s_getR 9 13 42 ls st h) := a_R_eq ..
theorem r45_42 (ls : A_V) (st : List Value) (h : A_H) : R 45 42 ls st h = a_do a_nL R R 45 (s_ildl 1 43 ls st h) := a_R_eq ..
theorem r45_43 (ls : A_V) (st : List Value) (h : A_H) : R 45 43 ls st h = a_do a_nL R R 45 (s_push (.int 1) 44 ls st h) := a_R_eq ..
theorem r45_44 (ls : A_V) (st : List Value) (h : A_H) : R 45 44 ls st h = a_do a_nL R R 45 (s_bi (fun x y => x - y) 45 ls st h) := a_R_eq ..
theorem r45_45 (ls : A_V) (st : List Value) (h : A_H) : R 45 45 ls st h = a_do a_nL R R 45 (s_aal 7 46 ls st h) := a_R_eq ..
theorem r45_46 (ls : A_V) (st : List Value) (h : A_H) : R 45 46 ls st h = a_do a_nL R R 45 (s_getI 0 2 47 ls st h) := a_R_eq ..
theorem r45_47 (ls : A_V) (st : List Value) (h : A_H) : R 45 47 ls st h = a_do a_nL R R 45 (s_push (.int 60) 48 ls st h) := a_R_eq ..
theorem r45_48 (ls : A_V) (st : List Value) (h : A_H) : R 45 48 ls st h = a_do a_nL R R 45 (s_call 10 30 3 4 true 49 ls st h) := a_R_eq ..
theorem r45_49 (ls : A_V) (st : List Value) (h : A_H) : R 45 49 ls st h = a_do a_nL R R 45 (s_putI 0 2 50 ls st h) := a_R_eq ..
theorem r45_50 (ls : A_V) (st : List Value) (h : A_H) : R 45 50 ls st h = a_do a_nL R R 45 (s_aldl 0 51 ls st h) := a_R_eq ..
theorem r45_51 (ls : A_V) (st : List Value) (h : A_H) : R 45 51 ls st h = a_do a_nL R R 45 (s_push (.float 30) 52 ls st h) := a_R_eq ..
theorem r45_52 (ls : A_V) (st : List Value) (h : A_H) : R 45 52 ls st h = a_do a_nL R R 45 (s_call 10 29 2 2 false 53 ls st h) := a_R_eq ..
theorem r45_53 (ls : A_V) (st : List Value) (h : A_H) : R 45 53 ls st h = a_do a_nL R R 45 (s_aldl 2 54 ls st h) := a_R_eq ..
theorem r45_54 (ls : A_V) (st : List Value) (h : A_H) : R 45 54 ls st h = a_do a_nL R R 45 (s_aldl 0 55 ls st h) := a_R_eq ..
theorem r45_55 (ls : A_V) (st : List Value) (h : A_H) : R 45 55 ls st h = a_do a_nL R R 45 (s_push (.int 0) 56 ls st h) := a_R_eq ..
theorem r45_56 (ls : A_V) (st : List Value) (h : A_H) : R 45 56 ls st h = a_do a_nL R R 45 (s_push (.int 23) 57 ls st h) := a_R_eq ..
theorem r45_57 (ls : A_V) (st : List Value) (h : A_H) : R 45 57 ls st h = a_do a_nL R R 45 (s_call 10 30 3 4 true 58 ls st h) := a_R_eq ..
theorem r45_58 (ls : A_V) (st : List Value) (h : A_H) : R 45 58 ls st h = a_do a_nL R R 45 (s_putI 0 3 59 ls st h) := a_R_eq ..
theorem r45_59 (ls : A_V) (st : List Value) (h : A_H) : R 45 59 ls st h = a_do a_nL R R 45 (s_aldl 0 60 ls st h) := a_R_eq ..
theorem r45_60 (ls : A_V) (st : List Value) (h : A_H) : R 45 60 ls st h = a_do a_nL R R 45 (s_getR 7 2 61 ls st h) := a_R_eq ..
theorem r45_61 (ls : A_V) (st : List Value) (h : A_H) : R 45 61 ls st h = a_do a_nL R R 45 (s_dup 62 ls st h) := a_R_eq ..
theorem r45_62 (ls : A_V) (st : List Value) (h : A_H) : R 45 62 ls st h = a_do a_nL R R 45 (s_getI 9 6 63 ls st h) := a_R_eq ..
theorem r45_63 (ls : A_V) (st : List Value) (h : A_H) : R 45 63 ls st h = a_do a_nL R R 45 (s_push (.int 1) 64 ls st h) := a_R_eq ..
theorem r45_64 (ls : A_V) (st : List Value) (h : A_H) : R 45 64 ls st h = a_do a_nL R R 45 (s_bi (fun x y => x + y) 65 ls st h) := a_R_eq ..
theorem r45_65 (ls : A_V) (st : List Value) (h : A_H) : R 45 65 ls st h = a_do a_nL R R 45 (s_putI 9 6 66 ls st h) := a_R_eq ..
theorem r45_66 (ls : A_V) (st : List Value) (h : A_H) : R 45 66 ls st h = a_do a_nL R R 45 (s_vret ls st h) := a_R_eq ..
theorem b45_0 (x0 : Nat) (l1 : Option Value) (l2 : Option Value) (h : A_H) : R 45 0 [some (.ref x0), l1, l2] [] h = (cond (isO h x0 7 && (hP h x0 2).isSome) (cond (isO h ((hP h x0 2).getD 0) 9) (cond (isO h x0 7) (a_back R 45 (37, [.ref x0, .int (hI h ((hP h x0 2).getD 0) 6), .int (6 : Int32)], h, true, none, 8, [some (.ref x0), some (.int (hI h ((hP h x0 2).getD 0) 6)), l2], []) (C 37 [.ref x0, .int (hI h ((hP h x0 2).getD 0) 6), .int (6 : Int32)] h)) none) none) none) := (tr (r45_0 ..) (tr (r45_1 ..) (cgT (tr (r45_2 ..) (cgT (tr (r45_3 ..) (tr (r45_4 ..) (tr (r45_5 ..) (tr (r45_6 ..) (r45_7 ..))))))))))
theorem b45_8 (x0 : Nat) (x1 : Int32) (l2 : Option Value) (s0 : Int32) (h : A_H) : R 45 8 [some (.ref x0), some (.int x1), l2] [.int s0] h = (cond (!decide (s0 = 0)) (cond (isO h x0 7 && (hP h x0 2).isSome) (cond (isO h ((hP h x0 2).getD 0) 9 && (hP h ((hP h x0 2).getD 0) 13).isSome) (cond (isA h ((hP h ((hP h x0 2).getD 0) 13).getD 0) 7 x1 && (hP h ((hP h ((hP h x0 2).getD 0) 13).getD 0) (x1).toNatClampNeg).isSome) (cond (isO h x0 7) (a_back R 45 (35, [.ref x0, .int (2 : Int32)], h, true, none, 20, [some (.ref x0), some (.int x1), some (.ref ((hP h ((hP h ((hP h x0 2).getD 0) 13).getD 0) (x1).toNatClampNeg).getD 0))], [.ref ((hP h ((hP h ((hP h x0 2).getD 0) 13).getD 0) (x1).toNatClampNeg).getD 0)]) (C 35 [.ref x0, .int (2 : Int32)] h)) none) none) none) none) (some (some none, h))) := (tr (r45_8 ..) (cgB (tr (r45_10 ..) (tr (r45_11 ..) (cgT (tr (r45_12 ..) (cgT (tr (r45_13 ..) (tr (r45_14 ..) (cgT (tr (r45_15 ..) (tr (r45_16 ..) (tr (r45_17 ..) (tr (r45_18 ..) (r45_19 ..))))))))))))) (r45_9 ..)))
theorem b45_20 (x0 : Nat) (x1 : Int32) (x2 : Nat) (s0 : Nat) (s1 : Int32) (h : A_H) : R 45 20 [some (.ref x0), some (.int x1), some (.ref x2)] [.int s1, .ref s0] h = (cond (isO h s0 0) (R 45 21 [some (.ref x0), some (.int x1), some (.ref x2)] [] (wI h s0 0 s1)) none) := (r45_20 ..)
theorem b45_21 (x0 : Nat) (x1 : Int32) (x2 : Nat) (h : A_H) : R 45 21 [some (.ref x0), some (.int x1), some (.ref x2)] [] h = (cond (isO h x0 7) (a_back R 45 (25, [.ref x0], h, false, none, 23, [some (.ref x0), some (.int x1), some (.ref x2)], []) (C 25 [.ref x0] h)) none) := (tr (r45_21 ..) (r45_22 ..))
theorem b45_23 (x0 : Nat) (x1 : Int32) (x2 : Nat) (h : A_H) : R 45 23 [some (.ref x0), some (.int x1), some (.ref x2)] [] h = (cond (isO h x0 7) (a_back R 45 (35, [.ref x0, .int (3 : Int32)], h, true, none, 27, [some (.ref x0), some (.int x1), some (.ref x2)], [.ref x2]) (C 35 [.ref x0, .int (3 : Int32)] h)) none) := (tr (r45_23 ..) (tr (r45_24 ..) (tr (r45_25 ..) (r45_26 ..))))
theorem b45_27 (x0 : Nat) (x1 : Int32) (x2 : Nat) (s0 : Nat) (s1 : Int32) (h : A_H) : R 45 27 [some (.ref x0), some (.int x1), some (.ref x2)] [.int s1, .ref s0] h = (cond (isO h s0 0) (R 45 28 [some (.ref x0), some (.int x1), some (.ref x2)] [] (wI h s0 1 s1)) none) := (r45_27 ..)
theorem b45_28 (x0 : Nat) (x1 : Int32) (x2 : Nat) (h : A_H) : R 45 28 [some (.ref x0), some (.int x1), some (.ref x2)] [] h = (cond (isO h x0 7) (a_back R 45 (25, [.ref x0], h, false, none, 30, [some (.ref x0), some (.int x1), some (.ref x2)], []) (C 25 [.ref x0] h)) none) := (tr (r45_28 ..) (r45_29 ..))
theorem b45_30 (x0 : Nat) (x1 : Int32) (x2 : Nat) (h : A_H) : R 45 30 [some (.ref x0), some (.int x1), some (.ref x2)] [] h = (cond (isO h x0 7) (a_back R 45 (29, [.ref x0, .float 29], h, false, none, 33, [some (.ref x0), some (.int x1), some (.ref x2)], []) (C 29 [.ref x0, .float 29] h)) none) := (tr (r45_30 ..) (tr (r45_31 ..) (r45_32 ..)))
theorem b45_33 (x0 : Nat) (x1 : Int32) (x2 : Nat) (h : A_H) : R 45 33 [some (.ref x0), some (.int x1), some (.ref x2)] [] h = (cond (!decide (x1 = 0)) (cond (isO h x0 7 && (hP h x0 2).isSome) (cond (isO h ((hP h x0 2).getD 0) 9 && (hP h ((hP h x0 2).getD 0) 13).isSome) (cond (isA h ((hP h ((hP h x0 2).getD 0) 13).getD 0) 7 (x1 - (1 : Int32)) && (hP h ((hP h ((hP h x0 2).getD 0) 13).getD 0) ((x1 - (1 : Int32))).toNatClampNeg).isSome) (cond (isO h ((hP h ((hP h ((hP h x0 2).getD 0) 13).getD 0) ((x1 - (1 : Int32))).toNatClampNeg).getD 0) 0) (cond (isO h x0 7) (a_back R 45 (30, [.ref x0, .int (hI h ((hP h ((hP h ((hP h x0 2).getD 0) 13).getD 0) ((x1 - (1 : Int32))).toNatClampNeg).getD 0) 2), .int (60 : Int32)], h, true, none, 49, [some (.ref x0), some (.int x1), some (.ref x2)], [.ref x2]) (C 30 [.ref x0, .int (hI h ((hP h ((hP h ((hP h x0 2).getD 0) 13).getD 0) ((x1 - (1 : Int32))).toNatClampNeg).getD 0) 2), .int (60 : Int32)] h)) none) none) none) none) none) (cond (isO h x0 7) (a_back R 45 (30, [.ref x0, .int (0 : Int32), .int (60 : Int32)], h, true, none, 49, [some (.ref x0), some (.int x1), some (.ref x2)], [.ref x2]) (C 30 [.ref x0, .int (0 : Int32), .int (60 : Int32)] h)) none)) := (tr (r45_33 ..) (tr (r45_34 ..) (tr (r45_35 ..) (tr (r45_36 ..) (cgB (tr (r45_39 ..) (tr (r45_40 ..) (cgT (tr (r45_41 ..) (cgT (tr (r45_42 ..) (tr (r45_43 ..) (tr (r45_44 ..) (tr (r45_45 ..) (cgT (tr (r45_46 ..) (cgT (tr (r45_47 ..) (r45_48 ..)))))))))))))) (tr (r45_37 ..) (tr (r45_38 ..) (tr (r45_47 ..) (r45_48 ..)))))))))
theorem b45_49 (x0 : Nat) (x1 : Int32) (x2 : Nat) (s0 : Nat) (s1 : Int32) (h : A_H) : R 45 49 [some (.ref x0), some (.int x1), some (.ref x2)] [.int s1, .ref s0] h = (cond (isO h s0 0) (R 45 50 [some (.ref x0), some (.int x1), some (.ref x2)] [] (wI h s0 2 s1)) none) := (r45_49 ..)
theorem b45_50 (x0 : Nat) (x1 : Int32) (x2 : Nat) (h : A_H) : R 45 50 [some (.ref x0), some (.int x1), some (.ref x2)] [] h = (cond (isO h x0 7) (a_back R 45 (29, [.ref x0, .float 30], h, false, none, 53, [some (.ref x0), some (.int x1), some (.ref x2)], []) (C 29 [.ref x0, .float 30] h)) none) := (tr (r45_50 ..) (tr (r45_51 ..) (r45_52 ..)))
theorem b45_53 (x0 : Nat) (x1 : Int32) (x2 : Nat) (h : A_H) : R 45 53 [some (.ref x0), some (.int x1), some (.ref x2)] [] h = (cond (isO h x0 7) (a_back R 45 (30, [.ref x0, .int (0 : Int32), .int (23 : Int32)], h, true, none, 58, [some (.ref x0), some (.int x1), some (.ref x2)], [.ref x2]) (C 30 [.ref x0, .int (0 : Int32), .int (23 : Int32)] h)) none) := (tr (r45_53 ..) (tr (r45_54 ..) (tr (r45_55 ..) (tr (r45_56 ..) (r45_57 ..)))))
theorem b45_58 (x0 : Nat) (x1 : Int32) (x2 : Nat) (s0 : Nat) (s1 : Int32) (h : A_H) : R 45 58 [some (.ref x0), some (.int x1), some (.ref x2)] [.int s1, .ref s0] h = (cond (isO h s0 0) (R 45 59 [some (.ref x0), some (.int x1), some (.ref x2)] [] (wI h s0 3 s1)) none) := (r45_58 ..)
theorem b45_59 (x0 : Nat) (x1 : Int32) (x2 : Nat) (h : A_H) : R 45 59 [some (.ref x0), some (.int x1), some (.ref x2)] [] h = (cond (isO h x0 7 && (hP h x0 2).isSome) (cond (isO h ((hP h x0 2).getD 0) 9) (cond (isO h ((hP h x0 2).getD 0) 9) (R 45 66 [some (.ref x0), some (.int x1), some (.ref x2)] [] (wI h ((hP h x0 2).getD 0) 6 ((hI h ((hP h x0 2).getD 0) 6) + (1 : Int32)))) none) none) none) := (tr (r45_59 ..) (tr (r45_60 ..) (cgT (tr (r45_61 ..) (tr (r45_62 ..) (cgT (tr (r45_63 ..) (tr (r45_64 ..) (r45_65 ..)))))))))
theorem b45_66 (x0 : Nat) (x1 : Int32) (x2 : Nat) (h : A_H) : R 45 66 [some (.ref x0), some (.int x1), some (.ref x2)] [] h = (some (some none, h)) := (r45_66 ..)
theorem e46 (x0 : Nat) (h : A_H) : C 46 [.ref x0] h = R 46 0 [some (.ref x0), none] [] h := rfl
theorem r46_0 (ls : A_V) (st : List Value) (h : A_H) : R 46 0 ls st h = a_do a_nL R R 46 (s_aldl 0 1 ls st h) := a_R_eq ..
theorem r46_1 (ls : A_V) (st : List Value) (h : A_H) : R 46 1 ls st h = a_do a_nL R R 46 (s_call 10 25 1 1 false 2 ls st h) := a_R_eq ..
theorem r46_2 (ls : A_V) (st : List Value) (h : A_H) : R 46 2 ls st h = a_do a_nL R R 46 (s_aldl 0 3 ls st h) := a_R_eq ..
theorem r46_3 (ls : A_V) (st : List Value) (h : A_H) : R 46 3 ls st h = a_do a_nL R R 46 (s_getR 7 2 4 ls st h) := a_R_eq ..
theorem r46_4 (ls : A_V) (st : List Value) (h : A_H) : R 46 4 ls st h = a_do a_nL R R 46 (s_getR 9 9 5 ls st h) := a_R_eq ..
theorem r46_5 (ls : A_V) (st : List Value) (h : A_H) : R 46 5 ls st h = a_do a_nL R R 46 (s_aldl 0 6 ls st h) := a_R_eq ..
theorem r46_6 (ls : A_V) (st : List Value) (h : A_H) : R 46 6 ls st h = a_do a_nL R R 46 (s_push (.int 1) 7 ls st h) := a_R_eq ..
theorem r46_7 (ls : A_V) (st : List Value) (h : A_H) : R 46 7 ls st h = a_do a_nL R R 46 (s_call 10 35 2 3 true 8 ls st h) := a_R_eq ..
theorem r46_8 (ls : A_V) (st : List Value) (h : A_H) : R 46 8 ls st h = a_do a_nL R R 46 (s_aal 3 9 ls st h) := a_R_eq ..
theorem r46_9 (ls : A_V) (st : List Value) (h : A_H) : R 46 9 ls st h = a_do a_nL R R 46 (s_ast 1 10 ls st h) := a_R_eq ..
theorem r46_10 (ls : A_V) (st : List Value) (h : A_H) : R 46 10 ls st h = a_do a_nL R R 46 (s_aldl 1 11 ls st h) := a_R_eq ..
theorem r46_11 (ls : A_V) (st : List Value) (h : A_H) : R 46 11 ls st h = a_do a_nL R R 46 (s_getI 5 3 12 ls st h) := a_R_eq ..
theorem r46_12 (ls : A_V) (st : List Value) (h : A_H) : R 46 12 ls st h = a_do a_nL R R 46 (s_if1 (fun x => decide (x = 0)) 16 13 ls st h) := a_R_eq ..
theorem r46_13 (ls : A_V) (st : List Value) (h : A_H) : R 46 13 ls st h = a_do a_nL R R 46 (s_aldl 0 14 ls st h) := a_R_eq ..
theorem r46_14 (ls : A_V) (st : List Value) (h : A_H) : R 46 14 ls st h = a_do a_nL R R 46 (s_push (.int 3) 15 ls st h) := a_R_eq ..
theorem r46_15 (ls : A_V) (st : List Value) (h : A_H) : R 46 15 ls st h = a_do a_nL R R 46 (s_call 10 24 2 2 false 16 ls st h) := a_R_eq ..
theorem r46_16 (ls : A_V) (st : List Value) (h : A_H) : R 46 16 ls st h = a_do a_nL R R 46 (s_aldl 0 17 ls st h) := a_R_eq ..
theorem r46_17 (ls : A_V) (st : List Value) (h : A_H) : R 46 17 ls st h = a_do a_nL R R 46 (s_call 10 25 1 1 false 18 ls st h) := a_R_eq ..
theorem r46_18 (ls : A_V) (st : List Value) (h : A_H) : R 46 18 ls st h = a_do a_nL R R 46 (s_aldl 1 19 ls st h) := a_R_eq ..
theorem r46_19 (ls : A_V) (st : List Value) (h : A_H) : R 46 19 ls st h = a_do a_nL R R 46 (s_push (.int 1) 20 ls st h) := a_R_eq ..
theorem r46_20 (ls : A_V) (st : List Value) (h : A_H) : R 46 20 ls st h = a_do a_nL R R 46 (s_putZ 5 3 21 ls st h) := a_R_eq ..
theorem r46_21 (ls : A_V) (st : List Value) (h : A_H) : R 46 21 ls st h = a_do a_nL R R 46 (s_aldl 0 22 ls st h) := a_R_eq ..
theorem r46_22 (ls : A_V) (st : List Value) (h : A_H) : R 46 22 ls st h = a_do a_nL R R 46 (s_push (.float 31) 23 ls st h) := a_R_eq ..
theorem r46_23 (ls : A_V) (st : List Value) (h : A_H) : R 46 23 ls st h = a_do a_nL R R 46 (s_call 10 29 2 2 false 24 ls st h) := a_R_eq ..
theorem r46_24 (ls : A_V) (st : List Value) (h : A_H) : R 46 24 ls st h = a_do a_nL R R 46 (s_aldl 1 25 ls st h) := a_R_eq ..
theorem r46_25 (ls : A_V) (st : List Value) (h : A_H) : R 46 25 ls st h = a_do a_nL R R 46 (s_aldl 0 26 ls st h) := a_R_eq ..
theorem r46_26 (ls : A_V) (st : List Value) (h : A_H) : R 46 26 ls st h = a_do a_nL R R 46 (s_push (.int 0) 27 ls st h) := a_R_eq ..
theorem r46_27 (ls : A_V) (st : List Value) (h : A_H) : R 46 27 ls st h = a_do a_nL R R 46 (s_push (.int 99) 28 ls st h) := a_R_eq ..
theorem r46_28 (ls : A_V) (st : List Value) (h : A_H) : R 46 28 ls st h = a_do a_nL R R 46 (s_call 10 30 3 4 true 29 ls st h) := a_R_eq ..
theorem r46_29 (ls : A_V) (st : List Value) (h : A_H) : R 46 29 ls st h = a_do a_nL R R 46 (s_putI 5 4 30 ls st h) := a_R_eq ..
theorem r46_30 (ls : A_V) (st : List Value) (h : A_H) : R 46 30 ls st h = a_do a_nL R R 46 (s_aldl 0 31 ls st h) := a_R_eq ..
theorem r46_31 (ls : A_V) (st : List Value) (h : A_H) : R 46 31 ls st h = a_do a_nL R R 46 (s_push (.float 32) 32 ls st h) := a_R_eq ..
theorem r46_32 (ls : A_V) (st : List Value) (h : A_H) : R 46 32 ls st h = a_do a_nL R R 46 (s_call 10 29 2 2 false 33 ls st h) := a_R_eq ..
theorem r46_33 (ls : A_V) (st : List Value) (h : A_H) : R 46 33 ls st h = a_do a_nL R R 46 (s_aldl 1 34 ls st h) := a_R_eq ..
theorem r46_34 (ls : A_V) (st : List Value) (h : A_H) : R 46 34 ls st h = a_do a_nL R R 46 (s_aldl 0 35 ls st h) := a_R_eq ..
theorem r46_35 (ls : A_V) (st : List Value) (h : A_H) : R 46 35 ls st h = a_do a_nL R R 46 (s_push (.int 0) 36 ls st h) := a_R_eq ..
theorem r46_36 (ls : A_V) (st : List Value) (h : A_H) : R 46 36 ls st h = a_do a_nL R R 46 (s_push (.int 99) 37 ls st h) := a_R_eq ..
theorem r46_37 (ls : A_V) (st : List Value) (h : A_H) : R 46 37 ls st h = a_do a_nL R R 46 (s_call 10 30 3 4 true 38 ls st h) := a_R_eq ..
theorem r46_38 (ls : A_V) (st : List Value) (h : A_H) : R 46 38 ls st h = a_do a_nL R R 46 (s_putI 5 5 39 ls st h) := a_R_eq ..
theorem r46_39 (ls : A_V) (st : List Value) (h : A_H) : R 46 39 ls st h = a_do a_nL R R 46 (s_aldl 0 40 ls st h) := a_R_eq ..
theorem r46_40 (ls : A_V) (st : List Value) (h : A_H) : R 46 40 ls st h = a_do a_nL R R 46 (s_getR 7 2 41 ls st h) := a_R_eq ..
theorem r46_41 (ls : A_V) (st : List Value) (h : A_H) : R 46 41 ls st h = a_do a_nL R R 46 (s_dup 42 ls st h) := a_R_eq ..
theorem r46_42 (ls : A_V) (st : List Value) (h : A_H) : R 46 42 ls st h = a_do a_nL R R 46 (s_getI 9 7 43 ls st h) := a_R_eq ..
theorem r46_43 (ls : A_V) (st : List Value) (h : A_H) : R 46 43 ls st h = a_do a_nL R R 46 (s_push (.int 1) 44 ls st h) := a_R_eq ..
theorem r46_44 (ls : A_V) (st : List Value) (h : A_H) : R 46 44 ls st h = a_do a_nL R R 46 (s_bi (fun x y => x + y) 45 ls st h) := a_R_eq ..
theorem r46_45 (ls : A_V) (st : List Value) (h : A_H) : R 46 45 ls st h = a_do a_nL R R 46 (s_putI 9 7 46 ls st h) := a_R_eq ..
theorem r46_46 (ls : A_V) (st : List Value) (h : A_H) : R 46 46 ls st h = a_do a_nL R R 46 (s_vret ls st h) := a_R_eq ..
theorem b46_0 (x0 : Nat) (l1 : Option Value) (h : A_H) : R 46 0 [some (.ref x0), l1] [] h = (cond (isO h x0 7) (a_back R 46 (25, [.ref x0], h, false, none, 2, [some (.ref x0), l1], []) (C 25 [.ref x0] h)) none) := (tr (r46_0 ..) (r46_1 ..))
theorem b46_2 (x0 : Nat) (l1 : Option Value) (h : A_H) : R 46 2 [some (.ref x0), l1] [] h = (cond (isO h x0 7 && (hP h x0 2).isSome) (cond (isO h ((hP h x0 2).getD 0) 9 && (hP h ((hP h x0 2).getD 0) 9).isSome) (cond (isO h x0 7) (a_back R 46 (35, [.ref x0, .int (1 : Int32)], h, true, none, 8, [some (.ref x0), l1], [.ref ((hP h ((hP h x0 2).getD 0) 9).getD 0)]) (C 35 [.ref x0, .int (1 : Int32)] h)) none) none) none) := (tr (r46_2 ..) (tr (r46_3 ..) (cgT (tr (r46_4 ..) (cgT (tr (r46_5 ..) (tr (r46_6 ..) (r46_7 ..))))))))
theorem b46_8 (x0 : Nat) (l1 : Option Value) (s0 : Nat) (s1 : Int32) (h : A_H) : R 46 8 [some (.ref x0), l1] [.int s1, .ref s0] h = (cond (isA h s0 3 s1 && (hP h s0 (s1).toNatClampNeg).isSome) (cond (isO h ((hP h s0 (s1).toNatClampNeg).getD 0) 5) (cond (decide ((hI h ((hP h s0 (s1).toNatClampNeg).getD 0) 3) = 0)) (cond (isO h x0 7) (a_back R 46 (25, [.ref x0], h, false, none, 18, [some (.ref x0), some (.ref ((hP h s0 (s1).toNatClampNeg).getD 0))], []) (C 25 [.ref x0] h)) none) (cond (isO h x0 7) (a_back R 46 (24, [.ref x0, .int (3 : Int32)], h, false, none, 16, [some (.ref x0), some (.ref ((hP h s0 (s1).toNatClampNeg).getD 0))], []) (C 24 [.ref x0, .int (3 : Int32)] h)) none)) none) none) := (tr (r46_8 ..) (cgT (tr (r46_9 ..) (tr (r46_10 ..) (tr (r46_11 ..) (cgT (tr (r46_12 ..) (cgB (tr (r46_16 ..) (r46_17 ..)) (tr (r46_13 ..) (tr (r46_14 ..) (r46_15 ..)))))))))))
theorem b46_16 (x0 : Nat) (x1 : Nat) (h : A_H) : R 46 16 [some (.ref x0), some (.ref x1)] [] h = (cond (isO h x0 7) (a_back R 46 (25, [.ref x0], h, false, none, 18, [some (.ref x0), some (.ref x1)], []) (C 25 [.ref x0] h)) none) := (tr (r46_16 ..) (r46_17 ..))
theorem b46_18 (x0 : Nat) (x1 : Nat) (h : A_H) : R 46 18 [some (.ref x0), some (.ref x1)] [] h = (cond (isO h x1 5 && (decide ((1 : Int32) = 0) || decide ((1 : Int32) = 1))) (R 46 21 [some (.ref x0), some (.ref x1)] [] (wI h x1 3 (1 : Int32))) none) := (tr (r46_18 ..) (tr (r46_19 ..) (r46_20 ..)))
theorem b46_21 (x0 : Nat) (x1 : Nat) (h : A_H) : R 46 21 [some (.ref x0), some (.ref x1)] [] h = (cond (isO h x0 7) (a_back R 46 (29, [.ref x0, .float 31], h, false, none, 24, [some (.ref x0), some (.ref x1)], []) (C 29 [.ref x0, .float 31] h)) none) := (tr (r46_21 ..) (tr (r46_22 ..) (r46_23 ..)))
theorem b46_24 (x0 : Nat) (x1 : Nat) (h : A_H) : R 46 24 [some (.ref x0), some (.ref x1)] [] h = (cond (isO h x0 7) (a_back R 46 (30, [.ref x0, .int (0 : Int32), .int (99 : Int32)], h, true, none, 29, [some (.ref x0), some (.ref x1)], [.ref x1]) (C 30 [.ref x0, .int (0 : Int32), .int (99 : Int32)] h)) none) := (tr (r46_24 ..) (tr (r46_25 ..) (tr (r46_26 ..) (tr (r46_27 ..) (r46_28 ..)))))
theorem b46_29 (x0 : Nat) (x1 : Nat) (s0 : Nat) (s1 : Int32) (h : A_H) : R 46 29 [some (.ref x0), some (.ref x1)] [.int s1, .ref s0] h = (cond (isO h s0 5) (R 46 30 [some (.ref x0), some (.ref x1)] [] (wI h s0 4 s1)) none) := (r46_29 ..)
theorem b46_30 (x0 : Nat) (x1 : Nat) (h : A_H) : R 46 30 [some (.ref x0), some (.ref x1)] [] h = (cond (isO h x0 7) (a_back R 46 (29, [.ref x0, .float 32], h, false, none, 33, [some (.ref x0), some (.ref x1)], []) (C 29 [.ref x0, .float 32] h)) none) := (tr (r46_30 ..) (tr (r46_31 ..) (r46_32 ..)))
theorem b46_33 (x0 : Nat) (x1 : Nat) (h : A_H) : R 46 33 [some (.ref x0), some (.ref x1)] [] h = (cond (isO h x0 7) (a_back R 46 (30, [.ref x0, .int (0 : Int32), .int (99 : Int32)], h, true, none, 38, [some (.ref x0), some (.ref x1)], [.ref x1]) (C 30 [.ref x0, .int (0 : Int32), .int (99 : Int32)] h)) none) := (tr (r46_33 ..) (tr (r46_34 ..) (tr (r46_35 ..) (tr (r46_36 ..) (r46_37 ..)))))
theorem b46_38 (x0 : Nat) (x1 : Nat) (s0 : Nat) (s1 : Int32) (h : A_H) : R 46 38 [some (.ref x0), some (.ref x1)] [.int s1, .ref s0] h = (cond (isO h s0 5) (R 46 39 [some (.ref x0), some (.ref x1)] [] (wI h s0 5 s1)) none) := (r46_38 ..)
theorem b46_39 (x0 : Nat) (x1 : Nat) (h : A_H) : R 46 39 [some (.ref x0), some (.ref x1)] [] h = (cond (isO h x0 7 && (hP h x0 2).isSome) (cond (isO h ((hP h x0 2).getD 0) 9) (cond (isO h ((hP h x0 2).getD 0) 9) (R 46 46 [some (.ref x0), some (.ref x1)] [] (wI h ((hP h x0 2).getD 0) 7 ((hI h ((hP h x0 2).getD 0) 7) + (1 : Int32)))) none) none) none) := (tr (r46_39 ..) (tr (r46_40 ..) (cgT (tr (r46_41 ..) (tr (r46_42 ..) (cgT (tr (r46_43 ..) (tr (r46_44 ..) (r46_45 ..)))))))))
theorem b46_46 (x0 : Nat) (x1 : Nat) (h : A_H) : R 46 46 [some (.ref x0), some (.ref x1)] [] h = (some (some none, h)) := (r46_46 ..)
theorem e47 (x0 : Nat) (h : A_H) : C 47 [.ref x0] h = R 47 0 [some (.ref x0), none] [] h := rfl
theorem r47_0 (ls : A_V) (st : List Value) (h : A_H) : R 47 0 ls st h = a_do a_nL R R 47 (s_aldl 0 1 ls st h) := a_R_eq ..
theorem r47_1 (ls : A_V) (st : List Value) (h : A_H) : R 47 1 ls st h = a_do a_nL R R 47 (s_aldl 0 2 ls st h) := a_R_eq ..
theorem r47_2 (ls : A_V) (st : List Value) (h : A_H) : R 47 2 ls st h = a_do a_nL R R 47 (s_getR 7 2 3 ls st h) := a_R_eq ..
theorem r47_3 (ls : A_V) (st : List Value) (h : A_H) : R 47 3 ls st h = a_do a_nL R R 47 (s_getR 9 14 4 ls st h) := a_R_eq ..
theorem r47_4 (ls : A_V) (st : List Value) (h : A_H) : R 47 4 ls st h = a_do a_nL R R 47 (s_getI 1 0 5 ls st h) := a_R_eq ..
theorem r47_5 (ls : A_V) (st : List Value) (h : A_H) : R 47 5 ls st h = a_do a_nL R R 47 (s_push (.int 5) 6 ls st h) := a_R_eq ..
theorem r47_6 (ls : A_V) (st : List Value) (h : A_H) : R 47 6 ls st h = a_do a_nL R R 47 (s_call 10 37 3 3 true 7 ls st h) := a_R_eq ..
theorem r47_7 (ls : A_V) (st : List Value) (h : A_H) : R 47 7 ls st h = a_do a_nL R R 47 (s_if1 (fun x => !decide (x = 0)) 9 8 ls st h) := a_R_eq ..
theorem r47_8 (ls : A_V) (st : List Value) (h : A_H) : R 47 8 ls st h = a_do a_nL R R 47 (s_vret ls st h) := a_R_eq ..
theorem r47_9 (ls : A_V) (st : List Value) (h : A_H) : R 47 9 ls st h = a_do a_nL R R 47 (s_aldl 0 10 ls st h) := a_R_eq ..
theorem r47_10 (ls : A_V) (st : List Value) (h : A_H) : R 47 10 ls st h = a_do a_nL R R 47 (s_push (.int 1) 11 ls st h) := a_R_eq ..
theorem r47_11 (ls : A_V) (st : List Value) (h : A_H) : R 47 11 ls st h = a_do a_nL R R 47 (s_call 10 35 2 3 true 12 ls st h) := a_R_eq ..
theorem r47_12 (ls : A_V) (st : List Value) (h : A_H) : R 47 12 ls st h = a_do a_nL R R 47 (s_ist 1 13 ls st h) := a_R_eq ..
theorem r47_13 (ls : A_V) (st : List Value) (h : A_H) : R 47 13 ls st h = a_do a_nL R R 47 (s_aldl 0 14 ls st h) := a_R_eq ..
theorem r47_14 (ls : A_V) (st : List Value) (h : A_H) : R 47 14 ls st h = a_do a_nL R R 47 (s_call 10 25 1 1 false 15 ls st h) := a_R_eq ..
theorem r47_15 (ls : A_V) (st : List Value) (h : A_H) : R 47 15 ls st h = a_do a_nL R R 47 (s_aldl 0 16 ls st h) := a_R_eq ..
theorem r47_16 (ls : A_V) (st : List Value) (h : A_H) : R 47 16 ls st h = a_do a_nL R R 47 (s_push (.float 29) 17 ls st h) := a_R_eq ..
theorem r47_17 (ls : A_V) (st : List Value) (h : A_H) : R 47 17 ls st h = a_do a_nL R R 47 (s_call 10 29 2 2 false 18 ls st h) := a_R_eq ..
theorem r47_18 (ls : A_V) (st : List Value) (h : A_H) : R 47 18 ls st h = a_do a_nL R R 47 (s_aldl 0 19 ls st h) := a_R_eq ..
theorem r47_19 (ls : A_V) (st : List Value) (h : A_H) : R 47 19 ls st h = a_do a_nL R R 47 (s_getR 7 2 20 ls st h) := a_R_eq ..
theorem r47_20 (ls : A_V) (st : List Value) (h : A_H) : R 47 20 ls st h = a_do a_nL R R 47 (s_getR 9 14 21 ls st h) := a_R_eq ..
theorem r47_21 (ls : A_V) (st : List Value) (h : A_H) : R 47 21 ls st h = a_do a_nL R R 47 (s_ildl 1 22 ls st h) := a_R_eq ..
theorem r47_22 (ls : A_V) (st : List Value) (h : A_H) : R 47 22 ls st h = a_do a_nL R R 47 (s_aldl 0 23 ls st h) := a_R_eq ..
theorem r47_23 (ls : A_V) (st : List Value) (h : A_H) : R 47 23 ls st h = a_do a_nL R R 47 (s_push (.int 0) 24 ls st h) := a_R_eq ..
theorem r47_24 (ls : A_V) (st : List Value) (h : A_H) : R 47 24 ls st h = a_do a_nL R R 47 (s_push (.int 60) 25 ls st h) := a_R_eq ..
theorem r47_25 (ls : A_V) (st : List Value) (h : A_H) : R 47 25 ls st h = a_do a_nL R R 47 (s_call 10 30 3 4 true 26 ls st h) := a_R_eq ..
theorem r47_26 (ls : A_V) (st : List Value) (h : A_H) : R 47 26 ls st h = a_do a_nL R R 47 (s_call 4 2 3 3 false 27 ls st h) := a_R_eq ..
theorem r47_27 (ls : A_V) (st : List Value) (h : A_H) : R 47 27 ls st h = a_do a_nL R R 47 (s_vret ls st h) := a_R_eq ..
theorem b47_0 (x0 : Nat) (l1 : Option Value) (h : A_H) : R 47 0 [some (.ref x0), l1] [] h = (cond (isO h x0 7 && (hP h x0 2).isSome) (cond (isO h ((hP h x0 2).getD 0) 9 && (hP h ((hP h x0 2).getD 0) 14).isSome) (cond (isO h ((hP h ((hP h x0 2).getD 0) 14).getD 0) 1) (cond (isO h x0 7) (a_back R 47 (37, [.ref x0, .int (hI h ((hP h ((hP h x0 2).getD 0) 14).getD 0) 0), .int (5 : Int32)], h, true, none, 7, [some (.ref x0), l1], []) (C 37 [.ref x0, .int (hI h ((hP h ((hP h x0 2).getD 0) 14).getD 0) 0), .int (5 : Int32)] h)) none) none) none) none) := (tr (r47_0 ..) (tr (r47_1 ..) (tr (r47_2 ..) (cgT (tr (r47_3 ..) (cgT (tr (r47_4 ..) (cgT (tr (r47_5 ..) (r47_6 ..))))))))))
theorem b47_7 (x0 : Nat) (l1 : Option Value) (s0 : Int32) (h : A_H) : R 47 7 [some (.ref x0), l1] [.int s0] h = (cond (!decide (s0 = 0)) (cond (isO h x0 7) (a_back R 47 (35, [.ref x0, .int (1 : Int32)], h, true, none, 12, [some (.ref x0), l1], []) (C 35 [.ref x0, .int (1 : Int32)] h)) none) (some (some none, h))) := (tr (r47_7 ..) (cgB (tr (r47_9 ..) (tr (r47_10 ..) (r47_11 ..))) (r47_8 ..)))
theorem b47_12 (x0 : Nat) (l1 : Option Value) (s0 : Int32) (h : A_H) : R 47 12 [some (.ref x0), l1] [.int s0] h = (cond (isO h x0 7) (a_back R 47 (25, [.ref x0], h, false, none, 15, [some (.ref x0), some (.int s0)], []) (C 25 [.ref x0] h)) none) := (tr (r47_12 ..) (tr (r47_13 ..) (r47_14 ..)))
theorem b47_15 (x0 : Nat) (x1 : Int32) (h : A_H) : R 47 15 [some (.ref x0), some (.int x1)] [] h = (cond (isO h x0 7) (a_back R 47 (29, [.ref x0, .float 29], h, false, none, 18, [some (.ref x0), some (.int x1)], []) (C 29 [.ref x0, .float 29] h)) none) := (tr (r47_15 ..) (tr (r47_16 ..) (r47_17 ..)))
theorem b47_18 (x0 : Nat) (x1 : Int32) (h : A_H) : R 47 18 [some (.ref x0), some (.int x1)] [] h = (cond (isO h x0 7 && (hP h x0 2).isSome) (cond (isO h ((hP h x0 2).getD 0) 9 && (hP h ((hP h x0 2).getD 0) 14).isSome) (cond (isO h x0 7) (a_back R 47 (30, [.ref x0, .int (0 : Int32), .int (60 : Int32)], h, true, none, 26, [some (.ref x0), some (.int x1)], [.int x1, .ref ((hP h ((hP h x0 2).getD 0) 14).getD 0)]) (C 30 [.ref x0, .int (0 : Int32), .int (60 : Int32)] h)) none) none) none) := (tr (r47_18 ..) (tr (r47_19 ..) (cgT (tr (r47_20 ..) (cgT (tr (r47_21 ..) (tr (r47_22 ..) (tr (r47_23 ..) (tr (r47_24 ..) (r47_25 ..))))))))))
theorem b47_26 (x0 : Nat) (x1 : Int32) (s0 : Nat) (s1 : Int32) (s2 : Int32) (h : A_H) : R 47 26 [some (.ref x0), some (.int x1)] [.int s2, .int s1, .ref s0] h = (cond (isO h s0 1) (a_back R 47 (2, [.ref s0, .int s1, .int s2], h, false, none, 27, [some (.ref x0), some (.int x1)], []) (C 2 [.ref s0, .int s1, .int s2] h)) none) := (r47_26 ..)
theorem b47_27 (x0 : Nat) (x1 : Int32) (h : A_H) : R 47 27 [some (.ref x0), some (.int x1)] [] h = (some (some none, h)) := (r47_27 ..)
