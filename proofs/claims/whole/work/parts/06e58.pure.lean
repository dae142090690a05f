set_option maxRecDepth 16384 in
theorem e282 (x0 : Nat) (x1 : Int32) (x2 : Nat) (h : A_H) : C 282 [.ref x0, .int x1, .ref x2] h = R 282 0 [some (.ref x0), some (.int x1), some (.ref x2), none] [] h := rfl
set_option maxRecDepth 16384 in
theorem r282_0 (ls : A_V) (st : List Value) (h : A_H) : R 282 0 ls st h = a_do a_nL R R 282 (s_aldl 2 1 ls st h) := a_R_eq ..
set_option maxRecDepth 16384 in
theorem r282_1 (ls : A_V) (st : List Value) (h : A_H) : R 282 1 ls st h = a_do a_nL R R 282 (s_push (.int 0) 2 ls st h) := a_R_eq ..
set_option maxRecDepth 16384 in
theorem r282_2 (ls : A_V) (st : List Value) (h : A_H) : R 282 2 ls st h = a_do a_nL R R 282 (s_aldl 0 3 ls st h) := a_R_eq ..
set_option maxRecDepth 16384 in
theorem r282_3 (ls : A_V) (st : List Value) (h : A_H) : R 282 3 ls st h = a_do a_nL R R 282 (s_ildl 1 4 ls st h) := a_R_eq ..
set_option maxRecDepth 16384 in
theorem r282_4 (ls : A_V) (st : List Value) (h : A_H) : R 282 4 ls st h = a_do a_nL R R 282 (s_callX 14 131 2 4 true 5 9 3 ls st h) := a_R_eq ..
set_option maxRecDepth 16384 in
theorem r282_5 (ls : A_V) (st : List Value) (h : A_H) : R 282 5 ls st h = a_do a_nL R R 282 (s_i2l 6 ls st h) := a_R_eq ..
set_option maxRecDepth 16384 in
theorem r282_6 (ls : A_V) (st : List Value) (h : A_H) : R 282 6 ls st h = a_do a_nL R R 282 (s_las 7 ls st h) := a_R_eq ..
set_option maxRecDepth 16384 in
theorem r282_7 (ls : A_V) (st : List Value) (h : A_H) : R 282 7 ls st h = a_do a_nL R R 282 (s_goto 11 ls st h) := a_R_eq ..
set_option maxRecDepth 16384 in
theorem r282_9 (ls : A_V) (st : List Value) (h : A_H) : R 282 9 ls st h = a_do a_nL R R 282 (s_push (.int 1) 10 ls st h) := a_R_eq ..
set_option maxRecDepth 16384 in
theorem r282_10 (ls : A_V) (st : List Value) (h : A_H) : R 282 10 ls st h = a_do a_nL R R 282 (s_iret ls st h) := a_R_eq ..
set_option maxRecDepth 16384 in
theorem r282_11 (ls : A_V) (st : List Value) (h : A_H) : R 282 11 ls st h = a_do a_nL R R 282 (s_push (.int 0) 12 ls st h) := a_R_eq ..
set_option maxRecDepth 16384 in
theorem r282_12 (ls : A_V) (st : List Value) (h : A_H) : R 282 12 ls st h = a_do a_nL R R 282 (s_iret ls st h) := a_R_eq ..
set_option maxRecDepth 16384 in
theorem b282_0 (x0 : Nat) (x1 : Int32) (x2 : Nat) (l3 : Option Value) (h : A_H) : R 282 0 [some (.ref x0), some (.int x1), some (.ref x2), l3] [] h = (cond (isO h x0 11) (a_back R 282 (131, [.ref x0, .int x1], h, true, (some (9, 3)), 5, [some (.ref x0), some (.int x1), some (.ref x2), l3], [.int (0 : Int32), .ref x2]) (C 131 [.ref x0, .int x1] h)) none) := (tr (r282_0 ..) (tr (r282_1 ..) (tr (r282_2 ..) (tr (r282_3 ..) (r282_4 ..)))))
set_option maxRecDepth 16384 in
theorem b282_5 (x0 : Nat) (x1 : Int32) (x2 : Nat) (l3 : Option Value) (s0 : Nat) (s1 : Int32) (s2 : Int32) (h : A_H) : R 282 5 [some (.ref x0), some (.int x1), some (.ref x2), l3] [.int s2, .int s1, .ref s0] h = (cond (isA h s0 2 s1) (R 282 7 [some (.ref x0), some (.int x1), some (.ref x2), l3] [] (wL h s0 (s1).toNatClampNeg (s2).toInt64)) none) := (tr (r282_5 ..) (r282_6 ..))
set_option maxRecDepth 16384 in
theorem b282_7 (x0 : Nat) (x1 : Int32) (x2 : Nat) (l3 : Option Value) (h : A_H) : R 282 7 [some (.ref x0), some (.int x1), some (.ref x2), l3] [] h = (some (some (some (.int (0 : Int32))), h)) := (tr (r282_7 ..) (tr (r282_11 ..) (r282_12 ..)))
set_option maxRecDepth 16384 in
theorem b282_9 (x0 : Nat) (x1 : Int32) (x2 : Nat) (l3 : Option Value) (h : A_H) : R 282 9 [some (.ref x0), some (.int x1), some (.ref x2), l3] [] h = (some (some (some (.int (1 : Int32))), h)) := (tr (r282_9 ..) (r282_10 ..))
set_option maxRecDepth 16384 in
theorem e283 (x0 : UInt32) (h : A_H) : C 283 [.float x0] h = R 283 0 [some (.float x0), none, none, none, none, none, none] [] h := rfl
set_option maxRecDepth 16384 in
theorem r283_0 (ls : A_V) (st : List Value) (h : A_H) : R 283 0 ls st h = a_do a_nL R R 283 (s_new 11 9 1 ls st h) := a_R_eq ..
set_option maxRecDepth 16384 in
theorem r283_1 (ls : A_V) (st : List Value) (h : A_H) : R 283 1 ls st h = a_do a_nL R R 283 (s_dup 2 ls st h) := a_R_eq ..
set_option maxRecDepth 16384 in
theorem r283_2 (ls : A_V) (st : List Value) (h : A_H) : R 283 2 ls st h = a_do a_nL R R 283 (s_call 1 74 1 1 false 3 ls st h) := a_R_eq ..
set_option maxRecDepth 16384 in
theorem r283_3 (ls : A_V) (st : List Value) (h : A_H) : R 283 3 ls st h = a_do a_nL R R 283 (s_ast 1 4 ls st h) := a_R_eq ..
set_option maxRecDepth 16384 in
theorem r283_4 (ls : A_V) (st : List Value) (h : A_H) : R 283 4 ls st h = a_do a_nL R R 283 (s_new 13 31 5 ls st h) := a_R_eq ..
set_option maxRecDepth 16384 in
theorem r283_5 (ls : A_V) (st : List Value) (h : A_H) : R 283 5 ls st h = a_do a_nL R R 283 (s_dup 6 ls st h) := a_R_eq ..
set_option maxRecDepth 16384 in
theorem r283_6 (ls : A_V) (st : List Value) (h : A_H) : R 283 6 ls st h = a_do a_nL R R 283 (s_call 1 153 1 1 false 7 ls st h) := a_R_eq ..
set_option maxRecDepth 16384 in
theorem r283_7 (ls : A_V) (st : List Value) (h : A_H) : R 283 7 ls st h = a_do a_nL R R 283 (s_ast 2 8 ls st h) := a_R_eq ..
set_option maxRecDepth 16384 in
theorem r283_8 (ls : A_V) (st : List Value) (h : A_H) : R 283 8 ls st h = a_do a_nL R R 283 (s_push (.int 1) 9 ls st h) := a_R_eq ..
set_option maxRecDepth 16384 in
theorem r283_9 (ls : A_V) (st : List Value) (h : A_H) : R 283 9 ls st h = a_do a_nL R R 283 (s_nar 2 10 ls st h) := a_R_eq ..
set_option maxRecDepth 16384 in
theorem r283_10 (ls : A_V) (st : List Value) (h : A_H) : R 283 10 ls st h = a_do a_nL R R 283 (s_ast 3 11 ls st h) := a_R_eq ..
set_option maxRecDepth 16384 in
theorem r283_11 (ls : A_V) (st : List Value) (h : A_H) : R 283 11 ls st h = a_do a_nL R R 283 (s_push (.int 0) 12 ls st h) := a_R_eq ..
set_option maxRecDepth 16384 in
theorem r283_12 (ls : A_V) (st : List Value) (h : A_H) : R 283 12 ls st h = a_do a_nL R R 283 (s_ist 4 13 ls st h) := a_R_eq ..
set_option maxRecDepth 16384 in
theorem r283_13 (ls : A_V) (st : List Value) (h : A_H) : R 283 13 ls st h = a_do a_nL R R 283 (s_ildl 4 14 ls st h) := a_R_eq ..
set_option maxRecDepth 16384 in
theorem r283_14 (ls : A_V) (st : List Value) (h : A_H) : R 283 14 ls st h = a_do a_nL R R 283 (s_aldl 0 15 ls st h) := a_R_eq ..
set_option maxRecDepth 16384 in
theorem r283_15 (ls : A_V) (st : List Value) (h : A_H) : R 283 15 ls st h = a_do a_nL R R 283 (s_xlen 16 ls st h) := a_R_eq ..
set_option maxRecDepth 16384 in
theorem r283_16 (ls : A_V) (st : List Value) (h : A_H) : R 283 16 ls st h = a_do a_nL R R 283 (s_push (.int 6) 17 ls st h) := a_R_eq ..
set_option maxRecDepth 16384 in
theorem r283_17 (ls : A_V) (st : List Value) (h : A_H) : R 283 17 ls st h = a_do a_nL R R 283 (s_bi (fun x y => x - y) 18 ls st h) := a_R_eq ..
set_option maxRecDepth 16384 in
theorem r283_18 (ls : A_V) (st : List Value) (h : A_H) : R 283 18 ls st h = a_do a_nL R R 283 (s_if2 (fun x y => decide (y < x)) 1250 19 ls st h) := a_R_eq ..
set_option maxRecDepth 16384 in
theorem r283_19 (ls : A_V) (st : List Value) (h : A_H) : R 283 19 ls st h = a_do a_nL R R 283 (s_aldl 0 20 ls st h) := a_R_eq ..
set_option maxRecDepth 16384 in
theorem r283_20 (ls : A_V) (st : List Value) (h : A_H) : R 283 20 ls st h = a_do a_nL R R 283 (s_ildl 4 21 ls st h) := a_R_eq ..
set_option maxRecDepth 16384 in
theorem r283_21 (ls : A_V) (st : List Value) (h : A_H) : R 283 21 ls st h = a_do a_nL R R 283 (s_xal 22 ls st h) := a_R_eq ..
set_option maxRecDepth 16384 in
theorem r283_22 (ls : A_V) (st : List Value) (h : A_H) : R 283 22 ls st h = a_do a_nL R R 283 (s_push (.int 63) 23 ls st h) := a_R_eq ..
set_option maxRecDepth 16384 in
theorem r283_23 (ls : A_V) (st : List Value) (h : A_H) : R 283 23 ls st h = a_do a_nL R R 283 (s_bi (fun x y => x &&& y) 24 ls st h) := a_R_eq ..
set_option maxRecDepth 16384 in
theorem r283_24 (ls : A_V) (st : List Value) (h : A_H) : R 283 24 ls st h = a_do a_nL R R 283 (s_sw [(0, 25), (1, 82), (2, 99), (3, 106), (4, 113), (5, 140), (6, 167), (7, 194), (8, 221), (9, 248), (10, 275), (11, 302), (12, 319), (13, 356), (14, 393), (15, 430), (16, 457), (17, 484), (18, 521), (19, 548), (20, 575), (21, 602), (22, 639), (23, 676), (24, 713), (25, 750), (26, 787), (27, 804), (28, 821), (29, 848), (30, 855), (31, 872), (32, 889), (33, 896), (34, 921), (35, 928), (36, 945), (37, 962), (38, 1008), (39, 1025), (40, 1062), (41, 1079), (42, 1114), (43, 1141), (44, 1158), (45, 1165), (46, 1172), (47, 1189), (48, 1224), (49, 1241)] 1248 ls st h) := a_R_eq ..
set_option maxRecDepth 16384 in
theorem r283_25 (ls : A_V) (st : List Value) (h : A_H) : R 283 25 ls st h = a_do a_nL R R 283 (s_aldl 1 26 ls st h) := a_R_eq ..
set_option maxRecDepth 16384 in
theorem r283_26 (ls : A_V) (st : List Value) (h : A_H) : R 283 26 ls st h = a_do a_nL R R 283 (s_aldl 0 27 ls st h) := a_R_eq ..
set_option maxRecDepth 16384 in
theorem r283_27 (ls : A_V) (st : List Value) (h : A_H) : R 283 27 ls st h = a_do a_nL R R 283 (s_ildl 4 28 ls st h) := a_R_eq ..
set_option maxRecDepth 16384 in
theorem r283_28 (ls : A_V) (st : List Value) (h : A_H) : R 283 28 ls st h = a_do a_nL R R 283 (s_push (.int 1) 29 ls st h) := a_R_eq ..
set_option maxRecDepth 16384 in
theorem r283_29 (ls : A_V) (st : List Value) (h : A_H) : R 283 29 ls st h = a_do a_nL R R 283 (s_bi (fun x y => x + y) 30 ls st h) := a_R_eq ..
set_option maxRecDepth 16384 in
theorem r283_30 (ls : A_V) (st : List Value) (h : A_H) : R 283 30 ls st h = a_do a_nL R R 283 (s_xal 31 ls st h) := a_R_eq ..
set_option maxRecDepth 16384 in
theorem r283_31 (ls : A_V) (st : List Value) (h : A_H) : R 283 31 ls st h = a_do a_nL R R 283 (s_aldl 0 32 ls st h) := a_R_eq ..
set_option maxRecDepth 16384 in
theorem r283_32 (ls : A_V) (st : List Value) (h : A_H) : R 283 32 ls st h = a_do a_nL R R 283 (s_ildl 4 33 ls st h) := a_R_eq ..
set_option maxRecDepth 16384 in
theorem r283_33 (ls : A_V) (st : List Value) (h : A_H) : R 283 33 ls st h = a_do a_nL R R 283 (s_push (.int 2) 34 ls st h) := a_R_eq ..
set_option maxRecDepth 16384 in
theorem r283_34 (ls : A_V) (st : List Value) (h : A_H) : R 283 34 ls st h = a_do a_nL R R 283 (s_bi (fun x y => x + y) 35 ls st h) := a_R_eq ..
set_option maxRecDepth 16384 in
theorem r283_35 (ls : A_V) (st : List Value) (h : A_H) : R 283 35 ls st h = a_do a_nL R R 283 (s_xal 36 ls st h) := a_R_eq ..
set_option maxRecDepth 16384 in
theorem r283_36 (ls : A_V) (st : List Value) (h : A_H) : R 283 36 ls st h = a_do a_nL R R 283 (s_aldl 0 37 ls st h) := a_R_eq ..
set_option maxRecDepth 16384 in
theorem r283_37 (ls : A_V) (st : List Value) (h : A_H) : R 283 37 ls st h = a_do a_nL R R 283 (s_ildl 4 38 ls st h) := a_R_eq ..
set_option maxRecDepth 16384 in
theorem r283_38 (ls : A_V) (st : List Value) (h : A_H) : R 283 38 ls st h = a_do a_nL R R 283 (s_push (.int 3) 39 ls st h) := a_R_eq ..
set_option maxRecDepth 16384 in
theorem r283_39 (ls : A_V) (st : List Value) (h : A_H) : R 283 39 ls st h = a_do a_nL R R 283 (s_bi (fun x y => x + y) 40 ls st h) := a_R_eq ..
set_option maxRecDepth 16384 in
theorem r283_40 (ls : A_V) (st : List Value) (h : A_H) : R 283 40 ls st h = a_do a_nL R R 283 (s_xal 41 ls st h) := a_R_eq ..
set_option maxRecDepth 16384 in
theorem r283_41 (ls : A_V) (st : List Value) (h : A_H) : R 283 41 ls st h = a_do a_nL R R 283 (s_aldl 0 42 ls st h) := a_R_eq ..
set_option maxRecDepth 16384 in
theorem r283_42 (ls : A_V) (st : List Value) (h : A_H) : R 283 42 ls st h = a_do a_nL R R 283 (s_ildl 4 43 ls st h) := a_R_eq ..
set_option maxRecDepth 16384 in
theorem r283_43 (ls : A_V) (st : List Value) (h : A_H) : R 283 43 ls st h = a_do a_nL R R 283 (s_push (.int 4) 44 ls st h) := a_R_eq ..
set_option maxRecDepth 16384 in
theorem r283_44 (ls : A_V) (st : List Value) (h : A_H) : R 283 44 ls st h = a_do a_nL R R 283 (s_bi (fun x y => x + y) 45 ls st h) := a_R_eq ..
set_option maxRecDepth 16384 in
theorem r283_45 (ls : A_V) (st : List Value) (h : A_H) : R 283 45 ls st h = a_do a_nL R R 283 (s_xal 46 ls st h) := a_R_eq ..
set_option maxRecDepth 16384 in
theorem r283_46 (ls : A_V) (st : List Value) (h : A_H) : R 283 46 ls st h = a_do a_nL R R 283 (s_aldl 0 47 ls st h) := a_R_eq ..
set_option maxRecDepth 16384 in
theorem r283_47 (ls : A_V) (st : List Value) (h : A_H) : R 283 47 ls st h = a_do a_nL R R 283 (s_ildl 4 48 ls st h) := a_R_eq ..
set_option maxRecDepth 16384 in
theorem r283_48 (ls : A_V) (st : List Value) (h : A_H) : R 283 48 ls st h = a_do a_nL R R 283 (s_push (.int 5) 49 ls st h) := a_R_eq ..
set_option maxRecDepth 16384 in
theorem r283_49 (ls : A_V) (st : List Value) (h : A_H) : R 283 49 ls st h = a_do a_nL R R 283 (s_bi (fun x y => x + y) 50 ls st h) := a_R_eq ..
set_option maxRecDepth 16384 in
theorem r283_50 (ls : A_V) (st : List Value) (h : A_H) : R 283 50 ls st h = a_do a_nL R R 283 (s_xal 51 ls st h) := a_R_eq ..
set_option maxRecDepth 16384 in
theorem r283_51 (ls : A_V) (st : List Value) (h : A_H) : R 283 51 ls st h = a_do a_nL R R 283 (s_call 14 75 6 6 true 52 ls st h) := a_R_eq ..
set_option maxRecDepth 16384 in
theorem r283_52 (ls : A_V) (st : List Value) (h : A_H) : R 283 52 ls st h = a_do a_nL R R 283 (s_aldl 2 53 ls st h) := a_R_eq ..
set_option maxRecDepth 16384 in
theorem r283_53 (ls : A_V) (st : List Value) (h : A_H) : R 283 53 ls st h = a_do a_nL R R 283 (s_aldl 0 54 ls st h) := a_R_eq ..
set_option maxRecDepth 16384 in
theorem r283_54 (ls : A_V) (st : List Value) (h : A_H) : R 283 54 ls st h = a_do a_nL R R 283 (s_ildl 4 55 ls st h) := a_R_eq ..
set_option maxRecDepth 16384 in
theorem r283_55 (ls : A_V) (st : List Value) (h : A_H) : R 283 55 ls st h = a_do a_nL R R 283 (s_push (.int 1) 56 ls st h) := a_R_eq ..
set_option maxRecDepth 16384 in
theorem r283_56 (ls : A_V) (st : List Value) (h : A_H) : R 283 56 ls st h = a_do a_nL R R 283 (s_bi (fun x y => x + y) 57 ls st h) := a_R_eq ..
set_option maxRecDepth 16384 in
theorem r283_57 (ls : A_V) (st : List Value) (h : A_H) : R 283 57 ls st h = a_do a_nL R R 283 (s_xal 58 ls st h) := a_R_eq ..
set_option maxRecDepth 16384 in
theorem r283_58 (ls : A_V) (st : List Value) (h : A_H) : R 283 58 ls st h = a_do a_nL R R 283 (s_aldl 0 59 ls st h) := a_R_eq ..
set_option maxRecDepth 16384 in
theorem r283_59 (ls : A_V) (st : List Value) (h : A_H) : R 283 59 ls st h = a_do a_nL R R 283 (s_ildl 4 60 ls st h) := a_R_eq ..
set_option maxRecDepth 16384 in
theorem r283_60 (ls : A_V) (st : List Value) (h : A_H) : R 283 60 ls st h = a_do a_nL R R 283 (s_push (.int 2) 61 ls st h) := a_R_eq ..
set_option maxRecDepth 16384 in
theorem r283_61 (ls : A_V) (st : List Value) (h : A_H) : R 283 61 ls st h = a_do a_nL R R 283 (s_bi (fun x y => x + y) 62 ls st h) := a_R_eq ..
set_option maxRecDepth 16384 in
theorem r283_62 (ls : A_V) (st : List Value) (h : A_H) : R 283 62 ls st h = a_do a_nL R R 283 (s_xal 63 ls st h) := a_R_eq ..
set_option maxRecDepth 16384 in
theorem r283_63 (ls : A_V) (st : List Value) (h : A_H) : R 283 63 ls st h = a_do a_nL R R 283 (s_aldl 0 64 ls st h) := a_R_eq ..
set_option maxRecDepth 16384 in
theorem r283_64 (ls : A_V) (st : List Value) (h : A_H) : R 283 64 ls st h = a_do a_nL R R 283 (s_ildl 4 65 ls st h) := a_R_eq ..
set_option maxRecDepth 16384 in
theorem r283_65 (ls : A_V) (st : List Value) (h : A_H) : R 283 65 ls st h = a_do a_nL R R 283 (s_push (.int 3) 66 ls st h) := a_R_eq ..
set_option maxRecDepth 16384 in
theorem r283_66 (ls : A_V) (st : List Value) (h : A_H) : R 283 66 ls st h = a_do a_nL R R 283 (s_bi (fun x y => x + y) 67 ls st h) := a_R_eq ..
set_option maxRecDepth 16384 in
theorem r283_67 (ls : A_V) (st : List Value) (h : A_H) : R 283 67 ls st h = a_do a_nL R R 283 (s_xal 68 ls st h) := a_R_eq ..
set_option maxRecDepth 16384 in
theorem r283_68 (ls : A_V) (st : List Value) (h : A_H) : R 283 68 ls st h = a_do a_nL R R 283 (s_aldl 0 69 ls st h) := a_R_eq ..
set_option maxRecDepth 16384 in
theorem r283_69 (ls : A_V) (st : List Value) (h : A_H) : R 283 69 ls st h = a_do a_nL R R 283 (s_ildl 4 70 ls st h) := a_R_eq ..
set_option maxRecDepth 16384 in
theorem r283_70 (ls : A_V) (st : List Value) (h : A_H) : R 283 70 ls st h = a_do a_nL R R 283 (s_push (.int 4) 71 ls st h) := a_R_eq ..
set_option maxRecDepth 16384 in
theorem r283_71 (ls : A_V) (st : List Value) (h : A_H) : R 283 71 ls st h = a_do a_nL R R 283 (s_bi (fun x y => x + y) 72 ls st h) := a_R_eq ..
set_option maxRecDepth 16384 in
theorem r283_72 (ls : A_V) (st : List Value) (h : A_H) : R 283 72 ls st h = a_do a_nL R R 283 (s_xal 73 ls st h) := a_R_eq ..
set_option maxRecDepth 16384 in
theorem r283_73 (ls : A_V) (st : List Value) (h : A_H) : R 283 73 ls st h = a_do a_nL R R 283 (s_aldl 0 74 ls st h) := a_R_eq ..
set_option maxRecDepth 16384 in
theorem r283_74 (ls : A_V) (st : List Value) (h : A_H) : R 283 74 ls st h = a_do a_nL R R 283 (s_ildl 4 75 ls st h) := a_R_eq ..
set_option maxRecDepth 16384 in
theorem r283_75 (ls : A_V) (st : List Value) (h : A_H) : R 283 75 ls st h = a_do a_nL R R 283 (s_push (.int 5) 76 ls st h) := a_R_eq ..
set_option maxRecDepth 16384 in
theorem r283_76 (ls : A_V) (st : List Value) (h : A_H) : R 283 76 ls st h = a_do a_nL R R 283 (s_bi (fun x y => x + y) 77 ls st h) := a_R_eq ..
set_option maxRecDepth 16384 in
theorem r283_77 (ls : A_V) (st : List Value) (h : A_H) : R 283 77 ls st h = a_do a_nL R R 283 (s_xal 78 ls st h) := a_R_eq ..
set_option maxRecDepth 16384 in
theorem r283_78 (ls : A_V) (st : List Value) (h : A_H) : R 283 78 ls st h = a_do a_nL R R 283 (s_call 16 193 6 8 true 79 ls st h) := a_R_eq ..
set_option maxRecDepth 16384 in
theorem r283_79 (ls : A_V) (st : List Value) (h : A_H) : R 283 79 ls st h = a_do a_nL R R 283 (s_if2 (fun x y => decide (x = y)) 1248 80 ls st h) := a_R_eq ..
set_option maxRecDepth 16384 in
theorem r283_80 (ls : A_V) (st : List Value) (h : A_H) : R 283 80 ls st h = a_do a_nL R R 283 (s_push (.int 0) 81 ls st h) := a_R_eq ..
set_option maxRecDepth 16384 in
theorem r283_81 (ls : A_V) (st : List Value) (h : A_H) : R 283 81 ls st h = a_do a_nL R R 283 (s_zret ls st h) := a_R_eq ..
set_option maxRecDepth 16384 in
theorem r283_82 (ls : A_V) (st : List Value) (h : A_H) : R 283 82 ls st h = a_do a_nL R R 283 (s_aldl 1 83 ls st h) := a_R_eq ..
set_option maxRecDepth 16384 in
theorem r283_83 (ls : A_V) (st : List Value) (h : A_H) : R 283 83 ls st h = a_do a_nL R R 283 (s_aldl 0 84 ls st h) := a_R_eq ..
set_option maxRecDepth 16384 in
theorem r283_84 (ls : A_V) (st : List Value) (h : A_H) : R 283 84 ls st h = a_do a_nL R R 283 (s_ildl 4 85 ls st h) := a_R_eq ..
set_option maxRecDepth 16384 in
theorem r283_85 (ls : A_V) (st : List Value) (h : A_H) : R 283 85 ls st h = a_do a_nL R R 283 (s_push (.int 1) 86 ls st h) := a_R_eq ..
set_option maxRecDepth 16384 in
theorem r283_86 (ls : A_V) (st : List Value) (h : A_H) : R 283 86 ls st h = a_do a_nL R R 283 (s_bi (fun x y => x + y) 87 ls st h) := a_R_eq ..
set_option maxRecDepth 16384 in
theorem r283_87 (ls : A_V) (st : List Value) (h : A_H) : R 283 87 ls st h = a_do a_nL R R 283 (s_xal 88 ls st h) := a_R_eq ..
set_option maxRecDepth 16384 in
theorem r283_88 (ls : A_V) (st : List Value) (h : A_H) : R 283 88 ls st h = a_do a_nL R R 283 (s_call 14 77 2 3 true 89 ls st h) := a_R_eq ..
set_option maxRecDepth 16384 in
theorem r283_89 (ls : A_V) (st : List Value) (h : A_H) : R 283 89 ls st h = a_do a_nL R R 283 (s_aldl 2 90 ls st h) := a_R_eq ..
set_option maxRecDepth 16384 in
theorem r283_90 (ls : A_V) (st : List Value) (h : A_H) : R 283 90 ls st h = a_do a_nL R R 283 (s_aldl 0 91 ls st h) := a_R_eq ..
set_option maxRecDepth 16384 in
theorem r283_91 (ls : A_V) (st : List Value) (h : A_H) : R 283 91 ls st h = a_do a_nL R R 283 (s_ildl 4 92 ls st h) := a_R_eq ..
set_option maxRecDepth 16384 in
theorem r283_92 (ls : A_V) (st : List Value) (h : A_H) : R 283 92 ls st h = a_do a_nL R R 283 (s_push (.int 1) 93 ls st h) := a_R_eq ..
set_option maxRecDepth 16384 in
theorem r283_93 (ls : A_V) (st : List Value) (h : A_H) : R 283 93 ls st h = a_do a_nL R R 283 (s_bi (fun x y => x + y) 94 ls st h) := a_R_eq ..
set_option maxRecDepth 16384 in
theorem r283_94 (ls : A_V) (st : List Value) (h : A_H) : R 283 94 ls st h = a_do a_nL R R 283 (s_xal 95 ls st h) := a_R_eq ..
set_option maxRecDepth 16384 in
theorem r283_95 (ls : A_V) (st : List Value) (h : A_H) : R 283 95 ls st h = a_do a_nL R R 283 (s_call 16 194 2 2 true 96 ls st h) := a_R_eq ..
set_option maxRecDepth 16384 in
theorem r283_96 (ls : A_V) (st : List Value) (h : A_H) : R 283 96 ls st h = a_do a_nL R R 283 (s_if2 (fun x y => decide (x = y)) 1248 97 ls st h) := a_R_eq ..
set_option maxRecDepth 16384 in
theorem r283_97 (ls : A_V) (st : List Value) (h : A_H) : R 283 97 ls st h = a_do a_nL R R 283 (s_push (.int 0) 98 ls st h) := a_R_eq ..
set_option maxRecDepth 16384 in
theorem r283_98 (ls : A_V) (st : List Value) (h : A_H) : R 283 98 ls st h = a_do a_nL R R 283 (s_zret ls st h) := a_R_eq ..
set_option maxRecDepth 16384 in
theorem r283_99 (ls : A_V) (st : List Value) (h : A_H) : R 283 99 ls st h = a_do a_nL R R 283 (s_aldl 1 100 ls st h) := a_R_eq ..
set_option maxRecDepth 16384 in
theorem r283_100 (ls : A_V) (st : List Value) (h : A_H) : R 283 100 ls st h = a_do a_nL R R 283 (s_call 14 78 1 1 true 101 ls st h) := a_R_eq ..
set_option maxRecDepth 16384 in
theorem r283_101 (ls : A_V) (st : List Value) (h : A_H) : R 283 101 ls st h = a_do a_nL R R 283 (s_aldl 2 102 ls st h) := a_R_eq ..
set_option maxRecDepth 16384 in
theorem r283_102 (ls : A_V) (st : List Value) (h : A_H) : R 283 102 ls st h = a_do a_nL R R 283 (s_call 16 195 1 1 true 103 ls st h) := a_R_eq ..
set_option maxRecDepth 16384 in
theorem r283_103 (ls : A_V) (st : List Value) (h : A_H) : R 283 103 ls st h = a_do a_nL R R 283 (s_if2 (fun x y => decide (x = y)) 1248 104 ls st h) := a_R_eq ..
set_option maxRecDepth 16384 in
theorem r283_104 (ls : A_V) (st : List Value) (h : A_H) : R 283 104 ls st h = a_do a_nL R R 283 (s_push (.int 0) 105 ls st h) := a_R_eq ..
set_option maxRecDepth 16384 in
theorem r283_105 (ls : A_V) (st : List Value) (h : A_H) : R 283 105 ls st h = a_do a_nL R R 283 (s_zret ls st h) := a_R_eq ..
set_option maxRecDepth 16384 in
theorem r283_106 (ls : A_V) (st : List Value) (h : A_H) : R 283 106 ls st h = a_do a_nL R R 283 (s_aldl 1 107 ls st h) := a_R_eq ..
set_option maxRecDepth 16384 in
theorem r283_107 (ls : A_V) (st : List Value) (h : A_H) : R 283 107 ls st h = a_do a_nL R R 283 (s_call 14 79 1 1 true 108 ls st h) := a_R_eq ..
set_option maxRecDepth 16384 in
theorem r283_108 (ls : A_V) (st : List Value) (h : A_H) : R 283 108 ls st h = a_do a_nL R R 283 (s_aldl 2 109 ls st h) := a_R_eq ..
set_option maxRecDepth 16384 in
theorem r283_109 (ls : A_V) (st : List Value) (h : A_H) : R 283 109 ls st h = a_do a_nL R R 283 (s_call 16 196 1 1 true 110 ls st h) := a_R_eq ..
set_option maxRecDepth 16384 in
theorem r283_110 (ls : A_V) (st : List Value) (h : A_H) : R 283 110 ls st h = a_do a_nL R R 283 (s_if2 (fun x y => decide (x = y)) 1248 111 ls st h) := a_R_eq ..
set_option maxRecDepth 16384 in
theorem r283_111 (ls : A_V) (st : List Value) (h : A_H) : R 283 111 ls st h = a_do a_nL R R 283 (s_push (.int 0) 112 ls st h) := a_R_eq ..
set_option maxRecDepth 16384 in
theorem r283_112 (ls : A_V) (st : List Value) (h : A_H) : R 283 112 ls st h = a_do a_nL R R 283 (s_zret ls st h) := a_R_eq ..
set_option maxRecDepth 16384 in
theorem r283_113 (ls : A_V) (st : List Value) (h : A_H) : R 283 113 ls st h = a_do a_nL R R 283 (s_aldl 1 114 ls st h) := a_R_eq ..
set_option maxRecDepth 16384 in
theorem r283_114 (ls : A_V) (st : List Value) (h : A_H) : R 283 114 ls st h = a_do a_nL R R 283 (s_aldl 0 115 ls st h) := a_R_eq ..
set_option maxRecDepth 16384 in
theorem r283_115 (ls : A_V) (st : List Value) (h : A_H) : R 283 115 ls st h = a_do a_nL R R 283 (s_ildl 4 116 ls st h) := a_R_eq ..
set_option maxRecDepth 16384 in
theorem r283_116 (ls : A_V) (st : List Value) (h : A_H) : R 283 116 ls st h = a_do a_nL R R 283 (s_push (.int 1) 117 ls st h) := a_R_eq ..
set_option maxRecDepth 16384 in
theorem r283_117 (ls : A_V) (st : List Value) (h : A_H) : R 283 117 ls st h = a_do a_nL R R 283 (s_bi (fun x y => x + y) 118 ls st h) := a_R_eq ..
set_option maxRecDepth 16384 in
theorem r283_118 (ls : A_V) (st : List Value) (h : A_H) : R 283 118 ls st h = a_do a_nL R R 283 (s_xal 119 ls st h) := a_R_eq ..
set_option maxRecDepth 16384 in
theorem r283_119 (ls : A_V) (st : List Value) (h : A_H) : R 283 119 ls st h = a_do a_nL R R 283 (s_aldl 0 120 ls st h) := a_R_eq ..
set_option maxRecDepth 16384 in
theorem r283_120 (ls : A_V) (st : List Value) (h : A_H) : R 283 120 ls st h = a_do a_nL R R 283 (s_ildl 4 121 ls st h) := a_R_eq ..
set_option maxRecDepth 16384 in
theorem r283_121 (ls : A_V) (st : List Value) (h : A_H) : R 283 121 ls st h = a_do a_nL R R 283 (s_push (.int 2) 122 ls st h) := a_R_eq ..
set_option maxRecDepth 16384 in
theorem r283_122 (ls : A_V) (st : List Value) (h : A_H) : R 283 122 ls st h = a_do a_nL R R 283 (s_bi (fun x y => x + y) 123 ls st h) := a_R_eq ..
set_option maxRecDepth 16384 in
theorem r283_123 (ls : A_V) (st : List Value) (h : A_H) : R 283 123 ls st h = a_do a_nL R R 283 (s_xal 124 ls st h) := a_R_eq ..
set_option maxRecDepth 16384 in
theorem r283_124 (ls : A_V) (st : List Value) (h : A_H) : R 283 124 ls st h = a_do a_nL R R 283 (s_call 14 80 3 4 true 125 ls st h) := a_R_eq ..
set_option maxRecDepth 16384 in
theorem r283_125 (ls : A_V) (st : List Value) (h : A_H) : R 283 125 ls st h = a_do a_nL R R 283 (s_aldl 2 126 ls st h) := a_R_eq ..
set_option maxRecDepth 16384 in
theorem r283_126 (ls : A_V) (st : List Value) (h : A_H) : R 283 126 ls st h = a_do a_nL R R 283 (s_aldl 0 127 ls st h) := a_R_eq ..
set_option maxRecDepth 16384 in
theorem r283_127 (ls : A_V) (st : List Value) (h : A_H) : R 283 127 ls st h = a_do a_nL R R 283 (s_ildl 4 128 ls st h) := a_R_eq ..
set_option maxRecDepth 16384 in
theorem r283_128 (ls : A_V) (st : List Value) (h : A_H) : R 283 128 ls st h = a_do a_nL R R 283 (s_push (.int 1) 129 ls st h) := a_R_eq ..
set_option maxRecDepth 16384 in
theorem r283_129 (ls : A_V) (st : List Value) (h : A_H) : R 283 129 ls st h = a_do a_nL R R 283 (s_bi (fun x y => x + y) 130 ls st h) := a_R_eq ..
set_option maxRecDepth 16384 in
theorem r283_130 (ls : A_V) (st : List Value) (h : A_H) : R 283 130 ls st h = a_do a_nL R R 283 (s_xal 131 ls st h) := a_R_eq ..
set_option maxRecDepth 16384 in
theorem r283_131 (ls : A_V) (st : List Value) (h : A_H) : R 283 131 ls st h = a_do a_nL R R 283 (s_aldl 0 132 ls st h) := a_R_eq ..
set_option maxRecDepth 16384 in
theorem r283_132 (ls : A_V) (st : List Value) (h : A_H) : R 283 132 ls st h = a_do a_nL R R 283 (s_ildl 4 133 ls st h) := a_R_eq ..
set_option maxRecDepth 16384 in
theorem r283_133 (ls : A_V) (st : List Value) (h : A_H) : R 283 133 ls st h = a_do a_nL R R 283 (s_push (.int 2) 134 ls st h) := a_R_eq ..
set_option maxRecDepth 16384 in
theorem r283_134 (ls : A_V) (st : List Value) (h : A_H) : R 283 134 ls st h = a_do a_nL R R 283 (s_bi (fun x y => x + y) 135 ls st h) := a_R_eq ..
set_option maxRecDepth 16384 in
theorem r283_135 (ls : A_V) (st : List Value) (h : A_H) : R 283 135 ls st h = a_do a_nL R R 283 (s_xal 136 ls st h) := a_R_eq ..
set_option maxRecDepth 16384 in
theorem r283_136 (ls : A_V) (st : List Value) (h : A_H) : R 283 136 ls st h = a_do a_nL R R 283 (s_call 16 215 3 3 true 137 ls st h) := a_R_eq ..
set_option maxRecDepth 16384 in
theorem r283_137 (ls : A_V) (st : List Value) (h : A_H) : R 283 137 ls st h = a_do a_nL R R 283 (s_if2 (fun x y => decide (x = y)) 1248 138 ls st h) := a_R_eq ..
set_option maxRecDepth 16384 in
theorem r283_138 (ls : A_V) (st : List Value) (h : A_H) : R 283 138 ls st h = a_do a_nL R R 283 (s_push (.int 0) 139 ls st h) := a_R_eq ..
set_option maxRecDepth 16384 in
theorem r283_139 (ls : A_V) (st : List Value) (h : A_H) : R 283 139 ls st h = a_do a_nL R R 283 (s_zret ls st h) := a_R_eq ..
set_option maxRecDepth 16384 in
theorem r283_140 (ls : A_V) (st : List Value) (h : A_H) : R 283 140 ls st h = a_do a_nL R R 283 (s_aldl 1 141 ls st h) := a_R_eq ..
set_option maxRecDepth 16384 in
theorem r283_141 (ls : A_V) (st : List Value) (h : A_H) : R 283 141 ls st h = a_do a_nL R R 283 (s_aldl 0 142 ls st h) := a_R_eq ..
set_option maxRecDepth 16384 in
theorem r283_142 (ls : A_V) (st : List Value) (h : A_H) : R 283 142 ls st h = a_do a_nL R R 283 (s_ildl 4 143 ls st h) := a_R_eq ..
set_option maxRecDepth 16384 in
theorem r283_143 (ls : A_V) (st : List Value) (h : A_H) : R 283 143 ls st h = a_do a_nL R R 283 (s_push (.int 1) 144 ls st h) := a_R_eq ..
set_option maxRecDepth 16384 in
theorem r283_144 (ls : A_V) (st : List Value) (h : A_H) : R 283 144 ls st h = a_do a_nL R R 283 (s_bi (fun x y => x + y) 145 ls st h) := a_R_eq ..
set_option maxRecDepth 16384 in
theorem r283_145 (ls : A_V) (st : List Value) (h : A_H) : R 283 145 ls st h = a_do a_nL R R 283 (s_xal 146 ls st h) := a_R_eq ..
set_option maxRecDepth 16384 in
theorem r283_146 (ls : A_V) (st : List Value) (h : A_H) : R 283 146 ls st h = a_do a_nL R R 283 (s_aldl 0 147 ls st h) := a_R_eq ..
set_option maxRecDepth 16384 in
theorem r283_147 (ls : A_V) (st : List Value) (h : A_H) : R 283 147 ls st h = a_do a_nL R R 283 (s_ildl 4 148 ls st h) := a_R_eq ..
set_option maxRecDepth 16384 in
theorem r283_148 (ls : A_V) (st : List Value) (h : A_H) : R 283 148 ls st h = a_do a_nL R R 283 (s_push (.int 2) 149 ls st h) := a_R_eq ..
set_option maxRecDepth 16384 in
theorem r283_149 (ls : A_V) (st : List Value) (h : A_H) : R 283 149 ls st h = a_do a_nL R R 283 (s_bi (fun x y => x + y) 150 ls st h) := a_R_eq ..
set_option maxRecDepth 16384 in
theorem r283_150 (ls : A_V) (st : List Value) (h : A_H) : R 283 150 ls st h = a_do a_nL R R 283 (s_xal 151 ls st h) := a_R_eq ..
set_option maxRecDepth 16384 in
theorem r283_151 (ls : A_V) (st : List Value) (h : A_H) : R 283 151 ls st h = a_do a_nL R R 283 (s_call 14 81 3 3 true 152 ls st h) := a_R_eq ..
set_option maxRecDepth 16384 in
theorem r283_152 (ls : A_V) (st : List Value) (h : A_H) : R 283 152 ls st h = a_do a_nL R R 283 (s_aldl 2 153 ls st h) := a_R_eq ..
set_option maxRecDepth 16384 in
theorem r283_153 (ls : A_V) (st : List Value) (h : A_H) : R 283 153 ls st h = a_do a_nL R R 283 (s_aldl 0 154 ls st h) := a_R_eq ..
set_option maxRecDepth 16384 in
theorem r283_154 (ls : A_V) (st : List Value) (h : A_H) : R 283 154 ls st h = a_do a_nL R R 283 (s_ildl 4 155 ls st h) := a_R_eq ..
set_option maxRecDepth 16384 in
theorem r283_155 (ls : A_V) (st : List Value) (h : A_H) : R 283 155 ls st h = a_do a_nL R R 283 (s_push (.int 1) 156 ls st h) := a_R_eq ..
set_option maxRecDepth 16384 in
theorem r283_156 (ls : A_V) (st : List Value) (h : A_H) : R 283 156 ls st h = a_do a_nL R R 283 (s_bi (fun x y => x + y) 157 ls st h) := a_R_eq ..
set_option maxRecDepth 16384 in
theorem r283_157 (ls : A_V) (st : List Value) (h : A_H) : R 283 157 ls st h = a_do a_nL R R 283 (s_xal 158 ls st h) := a_R_eq ..
set_option maxRecDepth 16384 in
theorem r283_158 (ls : A_V) (st : List Value) (h : A_H) : R 283 158 ls st h = a_do a_nL R R 283 (s_aldl 0 159 ls st h) := a_R_eq ..
set_option maxRecDepth 16384 in
theorem r283_159 (ls : A_V) (st : List Value) (h : A_H) : R 283 159 ls st h = a_do a_nL R R 283 (s_ildl 4 160 ls st h) := a_R_eq ..
set_option maxRecDepth 16384 in
theorem r283_160 (ls : A_V) (st : List Value) (h : A_H) : R 283 160 ls st h = a_do a_nL R R 283 (s_push (.int 2) 161 ls st h) := a_R_eq ..
set_option maxRecDepth 16384 in
theorem r283_161 (ls : A_V) (st : List Value) (h : A_H) : R 283 161 ls st h = a_do a_nL R R 283 (s_bi (fun x y => x + y) 162 ls st h) := a_R_eq ..
set_option maxRecDepth 16384 in
theorem r283_162 (ls : A_V) (st : List Value) (h : A_H) : R 283 162 ls st h = a_do a_nL R R 283 (s_xal 163 ls st h) := a_R_eq ..
set_option maxRecDepth 16384 in
theorem r283_163 (ls : A_V) (st : List Value) (h : A_H) : R 283 163 ls st h = a_do a_nL R R 283 (s_call 16 217 3 3 true 164 ls st h) := a_R_eq ..
set_option maxRecDepth 16384 in
theorem r283_164 (ls : A_V) (st : List Value) (h : A_H) : R 283 164 ls st h = a_do a_nL R R 283 (s_if2 (fun x y => decide (x = y)) 1248 165 ls st h) := a_R_eq ..
set_option maxRecDepth 16384 in
theorem r283_165 (ls : A_V) (st : List Value) (h : A_H) : R 283 165 ls st h = a_do a_nL R R 283 (s_push (.int 0) 166 ls st h) := a_R_eq ..
set_option maxRecDepth 16384 in
theorem r283_166 (ls : A_V) (st : List Value) (h : A_H) : R 283 166 ls st h = a_do a_nL R R 283 (s_zret ls st h) := a_R_eq ..
set_option maxRecDepth 16384 in
theorem r283_167 (ls : A_V) (st : List Value) (h : A_H) : R 283 167 ls st h = a_do a_nL R R 283 (s_aldl 1 168 ls st h) := a_R_eq ..
set_option maxRecDepth 16384 in
theorem r283_168 (ls : A_V) (st : List Value) (h : A_H) : R 283 168 ls st h = a_do a_nL R R 283 (s_aldl 0 169 ls st h) := a_R_eq ..
set_option maxRecDepth 16384 in
theorem r283_169 (ls : A_V) (st : List Value) (h : A_H) : R 283 169 ls st h = a_do a_nL R R 283 (s_ildl 4 170 ls st h) := a_R_eq ..
set_option maxRecDepth 16384 in
theorem r283_170 (ls : A_V) (st : List Value) (h : A_H) : R 283 170 ls st h = a_do a_nL R R 283 (s_push (.int 1) 171 ls st h) := a_R_eq ..
set_option maxRecDepth 16384 in
theorem r283_171 (ls : A_V) (st : List Value) (h : A_H) : R 283 171 ls st h = a_do a_nL R R 283 (s_bi (fun x y => x + y) 172 ls st h) := a_R_eq ..
set_option maxRecDepth 16384 in
theorem r283_172 (ls : A_V) (st : List Value) (h : A_H) : R 283 172 ls st h = a_do a_nL R R 283 (s_xal 173 ls st h) := a_R_eq ..
set_option maxRecDepth 16384 in
theorem r283_173 (ls : A_V) (st : List Value) (h : A_H) : R 283 173 ls st h = a_do a_nL R R 283 (s_aldl 0 174 ls st h) := a_R_eq ..
set_option maxRecDepth 16384 in
theorem r283_174 (ls : A_V) (st : List Value) (h : A_H) : R 283 174 ls st h = a_do a_nL R R 283 (s_ildl 4 175 ls st h) := a_R_eq ..
set_option maxRecDepth 16384 in
theorem r283_175 (ls : A_V) (st : List Value) (h : A_H) : R 283 175 ls st h = a_do a_nL R R 283 (s_push (.int 2) 176 ls st h) := a_R_eq ..
set_option maxRecDepth 16384 in
theorem r283_176 (ls : A_V) (st : List Value) (h : A_H) : R 283 176 ls st h = a_do a_nL R R 283 (s_bi (fun x y => x + y) 177 ls st h) := a_R_eq ..
set_option maxRecDepth 16384 in
theorem r283_177 (ls : A_V) (st : List Value) (h : A_H) : R 283 177 ls st h = a_do a_nL R R 283 (s_xal 178 ls st h) := a_R_eq ..
set_option maxRecDepth 16384 in
theorem r283_178 (ls : A_V) (st : List Value) (h : A_H) : R 283 178 ls st h = a_do a_nL R R 283 (s_call 14 82 3 4 true 179 ls st h) := a_R_eq ..
set_option maxRecDepth 16384 in
theorem r283_179 (ls : A_V) (st : List Value) (h : A_H) : R 283 179 ls st h = a_do a_nL R R 283 (s_aldl 2 180 ls st h) := a_R_eq ..
set_option maxRecDepth 16384 in
theorem r283_180 (ls : A_V) (st : List Value) (h : A_H) : R 283 180 ls st h = a_do a_nL R R 283 (s_aldl 0 181 ls st h) := a_R_eq ..
set_option maxRecDepth 16384 in
theorem r283_181 (ls : A_V) (st : List Value) (h : A_H) : R 283 181 ls st h = a_do a_nL R R 283 (s_ildl 4 182 ls st h) := a_R_eq ..
set_option maxRecDepth 16384 in
theorem r283_182 (ls : A_V) (st : List Value) (h : A_H) : R 283 182 ls st h = a_do a_nL R R 283 (s_push (.int 1) 183 ls st h) := a_R_eq ..
set_option maxRecDepth 16384 in
theorem r283_183 (ls : A_V) (st : List Value) (h : A_H) : R 283 183 ls st h = a_do a_nL R R 283 (s_bi (fun x y => x + y) 184 ls st h) := a_R_eq ..
set_option maxRecDepth 16384 in
theorem r283_184 (ls : A_V) (st : List Value) (h : A_H) : R 283 184 ls st h = a_do a_nL R R 283 (s_xal 185 ls st h) := a_R_eq ..
set_option maxRecDepth 16384 in
theorem r283_185 (ls : A_V) (st : List Value) (h : A_H) : R 283 185 ls st h = a_do a_nL R R 283 (s_aldl 0 186 ls st h) := a_R_eq ..
set_option maxRecDepth 16384 in
theorem r283_186 (ls : A_V) (st : List Value) (h : A_H) : R 283 186 ls st h = a_do a_nL R R 283 (s_ildl 4 187 ls st h) := a_R_eq ..
set_option maxRecDepth 16384 in
theorem r283_187 (ls : A_V) (st : List Value) (h : A_H) : R 283 187 ls st h = a_do a_nL R R 283 (s_push (.int 2) 188 ls st h) := a_R_eq ..
set_option maxRecDepth 16384 in
theorem r283_188 (ls : A_V) (st : List Value) (h : A_H) : R 283 188 ls st h = a_do a_nL R R 283 (s_bi (fun x y => x + y) 189 ls st h) := a_R_eq ..
set_option maxRecDepth 16384 in
theorem r283_189 (ls : A_V) (st : List Value) (h : A_H) : R 283 189 ls st h = a_do a_nL R R 283 (s_xal 190 ls st h) := a_R_eq ..
set_option maxRecDepth 16384 in
theorem r283_190 (ls : A_V) (st : List Value) (h : A_H) : R 283 190 ls st h = a_do a_nL R R 283 (s_call 16 218 3 3 true 191 ls st h) := a_R_eq ..
set_option maxRecDepth 16384 in
theorem r283_191 (ls : A_V) (st : List Value) (h : A_H) : R 283 191 ls st h = a_do a_nL R R 283 (s_if2 (fun x y => decide (x = y)) 1248 192 ls st h) := a_R_eq ..
set_option maxRecDepth 16384 in
theorem r283_192 (ls : A_V) (st : List Value) (h : A_H) : R 283 192 ls st h = a_do a_nL R R 283 (s_push (.int 0) 193 ls st h) := a_R_eq ..
set_option maxRecDepth 16384 in
theorem r283_193 (ls : A_V) (st : List Value) (h : A_H) : R 283 193 ls st h = a_do a_nL R R 283 (s_zret ls st h) := a_R_eq ..
set_option maxRecDepth 16384 in
theorem r283_194 (ls : A_V) (st : List Value) (h : A_H) : R 283 194 ls st h = a_do a_nL R R 283 (s_aldl 1 195 ls st h) := a_R_eq ..
set_option maxRecDepth 16384 in
theorem r283_195 (ls : A_V) (st : List Value) (h : A_H) : R 283 195 ls st h = a_do a_nL R R 283 (s_aldl 0 196 ls st h) := a_R_eq ..
set_option maxRecDepth 16384 in
theorem r283_196 (ls : A_V) (st : List Value) (h : A_H) : R 283 196 ls st h = a_do a_nL R R 283 (s_ildl 4 197 ls st h) := a_R_eq ..
set_option maxRecDepth 16384 in
theorem r283_197 (ls : A_V) (st : List Value) (h : A_H) : R 283 197 ls st h = a_do a_nL R R 283 (s_push (.int 1) 198 ls st h) := a_R_eq ..
set_option maxRecDepth 16384 in
theorem r283_198 (ls : A_V) (st : List Value) (h : A_H) : R 283 198 ls st h = a_do a_nL R R 283 (s_bi (fun x y => x + y) 199 ls st h) := a_R_eq ..
set_option maxRecDepth 16384 in
theorem r283_199 (ls : A_V) (st : List Value) (h : A_H) : R 283 199 ls st h = a_do a_nL R R 283 (s_xal 200 ls st h) := a_R_eq ..
set_option maxRecDepth 16384 in
theorem r283_200 (ls : A_V) (st : List Value) (h : A_H) : R 283 200 ls st h = a_do a_nL R R 283 (s_aldl 0 201 ls st h) := a_R_eq ..
set_option maxRecDepth 16384 in
theorem r283_201 (ls : A_V) (st : List Value) (h : A_H) : R 283 201 ls st h = a_do a_nL R R 283 (s_ildl 4 202 ls st h) := a_R_eq ..
set_option maxRecDepth 16384 in
theorem r283_202 (ls : A_V) (st : List Value) (h : A_H) : R 283 202 ls st h = a_do a_nL R R 283 (s_push (.int 2) 203 ls st h) := a_R_eq ..
set_option maxRecDepth 16384 in
theorem r283_203 (ls : A_V) (st : List Value) (h : A_H) : R 283 203 ls st h = a_do a_nL R R 283 (s_bi (fun x y => x + y) 204 ls st h) := a_R_eq ..
set_option maxRecDepth 16384 in
theorem r283_204 (ls : A_V) (st : List Value) (h : A_H) : R 283 204 ls st h = a_do a_nL R R 283 (s_xal 205 ls st h) := a_R_eq ..
set_option maxRecDepth 16384 in
theorem r283_205 (ls : A_V) (st : List Value) (h : A_H) : R 283 205 ls st h = a_do a_nL R R 283 (s_call 14 83 3 3 true 206 ls st h) := a_R_eq ..
set_option maxRecDepth 16384 in
theorem r283_206 (ls : A_V) (st : List Value) (h : A_H) : R 283 206 ls st h = a_do a_nL R R 283 (s_aldl 2 207 ls st h) := a_R_eq ..
set_option maxRecDepth 16384 in
theorem r283_207 (ls : A_V) (st : List Value) (h : A_H) : R 283 207 ls st h = a_do a_nL R R 283 (s_aldl 0 208 ls st h) := a_R_eq ..
set_option maxRecDepth 16384 in
theorem r283_208 (ls : A_V) (st : List Value) (h : A_H) : R 283 208 ls st h = a_do a_nL R R 283 (s_ildl 4 209 ls st h) := a_R_eq ..
set_option maxRecDepth 16384 in
theorem r283_209 (ls : A_V) (st : List Value) (h : A_H) : R 283 209 ls st h = a_do a_nL R R 283 (s_push (.int 1) 210 ls st h) := a_R_eq ..
set_option maxRecDepth 16384 in
theorem r283_210 (ls : A_V) (st : List Value) (h : A_H) : R 283 210 ls st h = a_do a_nL R R 283 (s_bi (fun x y => x + y) 211 ls st h) := a_R_eq ..
set_option maxRecDepth 16384 in
theorem r283_211 (ls : A_V) (st : List Value) (h : A_H) : R 283 211 ls st h = a_do a_nL R R 283 (s_xal 212 ls st h) := a_R_eq ..
set_option maxRecDepth 16384 in
theorem r283_212 (ls : A_V) (st : List Value) (h : A_H) : R 283 212 ls st h = a_do a_nL R R 283 (s_aldl 0 213 ls st h) := a_R_eq ..
set_option maxRecDepth 16384 in
theorem r283_213 (ls : A_V) (st : List Value) (h : A_H) : R 283 213 ls st h = a_do a_nL R R 283 (s_ildl 4 214 ls st h) := a_R_eq ..
set_option maxRecDepth 16384 in
theorem r283_214 (ls : A_V) (st : List Value) (h : A_H) : R 283 214 ls st h = a_do a_nL R R 283 (s_push (.int 2) 215 ls st h) := a_R_eq ..
set_option maxRecDepth 16384 in
theorem r283_215 (ls : A_V) (st : List Value) (h : A_H) : R 283 215 ls st h = a_do a_nL R R 283 (s_bi (fun x y => x + y) 216 ls st h) := a_R_eq ..
set_option maxRecDepth 16384 in
theorem r283_216 (ls : A_V) (st : List Value) (h : A_H) : R 283 216 ls st h = a_do a_nL R R 283 (s_xal 217 ls st h) := a_R_eq ..
set_option maxRecDepth 16384 in
theorem r283_217 (ls : A_V) (st : List Value) (h : A_H) : R 283 217 ls st h = a_do a_nL R R 283 (s_call 16 220 3 4 true 218 ls st h) := a_R_eq ..
set_option maxRecDepth 16384 in
theorem r283_218 (ls : A_V) (st : List Value) (h : A_H) : R 283 218 ls st h = a_do a_nL R R 283 (s_if2 (fun x y => decide (x = y)) 1248 219 ls st h) := a_R_eq ..
set_option maxRecDepth 16384 in
theorem r283_219 (ls : A_V) (st : List Value) (h : A_H) : R 283 219 ls st h = a_do a_nL R R 283 (s_push (.int 0) 220 ls st h) := a_R_eq ..
set_option maxRecDepth 16384 in
theorem r283_220 (ls : A_V) (st : List Value) (h : A_H) : R 283 220 ls st h = a_do a_nL R R 283 (s_zret ls st h) := a_R_eq ..
set_option maxRecDepth 16384 in
theorem r283_221 (ls : A_V) (st : List Value) (h : A_H) : R 283 221 ls st h = a_do a_nL R R 283 (s_aldl 1 222 ls st h) := a_R_eq ..
set_option maxRecDepth 16384 in
theorem r283_222 (ls : A_V) (st : List Value) (h : A_H) : R 283 222 ls st h = a_do a_nL R R 283 (s_aldl 0 223 ls st h) := a_R_eq ..
set_option maxRecDepth 16384 in
theorem r283_223 (ls : A_V) (st : List Value) (h : A_H) : R 283 223 ls st h = a_do a_nL R R 283 (s_ildl 4 224 ls st h) := a_R_eq ..
set_option maxRecDepth 16384 in
theorem r283_224 (ls : A_V) (st : List Value) (h : A_H) : R 283 224 ls st h = a_do a_nL R R 283 (s_push (.int 1) 225 ls st h) := a_R_eq ..
set_option maxRecDepth 16384 in
theorem r283_225 (ls : A_V) (st : List Value) (h : A_H) : R 283 225 ls st h = a_do a_nL R R 283 (s_bi (fun x y => x + y) 226 ls st h) := a_R_eq ..
set_option maxRecDepth 16384 in
theorem r283_226 (ls : A_V) (st : List Value) (h : A_H) : R 283 226 ls st h = a_do a_nL R R 283 (s_xal 227 ls st h) := a_R_eq ..
set_option maxRecDepth 16384 in
theorem r283_227 (ls : A_V) (st : List Value) (h : A_H) : R 283 227 ls st h = a_do a_nL R R 283 (s_aldl 0 228 ls st h) := a_R_eq ..
set_option maxRecDepth 16384 in
theorem r283_228 (ls : A_V) (st : List Value) (h : A_H) : R 283 228 ls st h = a_do a_nL R R 283 (s_ildl 4 229 ls st h) := a_R_eq ..
set_option maxRecDepth 16384 in
theorem r283_229 (ls : A_V) (st : List Value) (h : A_H) : R 283 229 ls st h = a_do a_nL R R 283 (s_push (.int 2) 230 ls st h) := a_R_eq ..
set_option maxRecDepth 16384 in
theorem r283_230 (ls : A_V) (st : List Value) (h : A_H) : R 283 230 ls st h = a_do a_nL R R 283 (s_bi (fun x y => x + y) 231 ls st h) := a_R_eq ..
set_option maxRecDepth 16384 in
theorem r283_231 (ls : A_V) (st : List Value) (h : A_H) : R 283 231 ls st h = a_do a_nL R R 283 (s_xal 232 ls st h) := a_R_eq ..
set_option maxRecDepth 16384 in
theorem r283_232 (ls : A_V) (st : List Value) (h : A_H) : R 283 232 ls st h = a_do a_nL R R 283 (s_call 14 84 3 3 true 233 ls st h) := a_R_eq ..
set_option maxRecDepth 16384 in
theorem r283_233 (ls : A_V) (st : List Value) (h : A_H) : R 283 233 ls st h = a_do a_nL R R 283 (s_aldl 2 234 ls st h) := a_R_eq ..
set_option maxRecDepth 16384 in
theorem r283_234 (ls : A_V) (st : List Value) (h : A_H) : R 283 234 ls st h = a_do a_nL R R 283 (s_aldl 0 235 ls st h) := a_R_eq ..
set_option maxRecDepth 16384 in
theorem r283_235 (ls : A_V) (st : List Value) (h : A_H) : R 283 235 ls st h = a_do a_nL R R 283 (s_ildl 4 236 ls st h) := a_R_eq ..
set_option maxRecDepth 16384 in
theorem r283_236 (ls : A_V) (st : List Value) (h : A_H) : R 283 236 ls st h = a_do a_nL R R 283 (s_push (.int 1) 237 ls st h) := a_R_eq ..
set_option maxRecDepth 16384 in
theorem r283_237 (ls : A_V) (st : List Value) (h : A_H) : R 283 237 ls st h = a_do a_nL R R 283 (s_bi (fun x y => x + y) 238 ls st h) := a_R_eq ..
set_option maxRecDepth 16384 in
theorem r283_238 (ls : A_V) (st : List Value) (h : A_H) : R 283 238 ls st h = a_do a_nL R R 283 (s_xal 239 ls st h) := a_R_eq ..
set_option maxRecDepth 16384 in
theorem r283_239 (ls : A_V) (st : List Value) (h : A_H) : R 283 239 ls st h = a_do a_nL R R 283 (s_aldl 0 240 ls st h) := a_R_eq ..
set_option maxRecDepth 16384 in
theorem r283_240 (ls : A_V) (st : List Value) (h : A_H) : R 283 240 ls st h = a_do a_nL R R 283 (s_ildl 4 241 ls st h) := a_R_eq ..
set_option maxRecDepth 16384 in
theorem r283_241 (ls : A_V) (st : List Value) (h : A_H) : R 283 241 ls st h = a_do a_nL R R 283 (s_push (.int 2) 242 ls st h) := a_R_eq ..
set_option maxRecDepth 16384 in
theorem r283_242 (ls : A_V) (st : List Value) (h : A_H) : R 283 242 ls st h = a_do a_nL R R 283 (s_bi (fun x y => x + y) 243 ls st h) := a_R_eq ..
set_option maxRecDepth 16384 in
theorem r283_243 (ls : A_V) (st : List Value) (h : A_H) : R 283 243 ls st h = a_do a_nL R R 283 (s_xal 244 ls st h) := a_R_eq ..
set_option maxRecDepth 16384 in
theorem r283_244 (ls : A_V) (st : List Value) (h : A_H) : R 283 244 ls st h = a_do a_nL R R 283 (s_call 16 221 3 4 true 245 ls st h) := a_R_eq ..
set_option maxRecDepth 16384 in
theorem r283_245 (ls : A_V) (st : List Value) (h : A_H) : R 283 245 ls st h = a_do a_nL R R 283 (s_if2 (fun x y => decide (x = y)) 1248 246 ls st h) := a_R_eq ..
set_option maxRecDepth 16384 in
theorem r283_246 (ls : A_V) (st : List Value) (h : A_H) : R 283 246 ls st h = a_do a_nL R R 283 (s_push (.int 0) 247 ls st h) := a_R_eq ..
set_option maxRecDepth 16384 in
theorem r283_247 (ls : A_V) (st : List Value) (h : A_H) : R 283 247 ls st h = a_do a_nL R R 283 (s_zret ls st h) := a_R_eq ..
set_option maxRecDepth 16384 in
theorem r283_248 (ls : A_V) (st : List Value) (h : A_H) : R 283 248 ls st h = a_do a_nL R R 283 (s_aldl 1 249 ls st h) := a_R_eq ..
set_option maxRecDepth 16384 in
theorem r283_249 (ls : A_V) (st : List Value) (h : A_H) : R 283 249 ls st h = a_do a_nL R R 283 (s_aldl 0 250 ls st h) := a_R_eq ..
set_option maxRecDepth 16384 in
theorem r283_250 (ls : A_V) (st : List Value) (h : A_H) : R 283 250 ls st h = a_do a_nL R R 283 (s_ildl 4 251 ls st h) := a_R_eq ..
set_option maxRecDepth 16384 in
theorem r283_251 (ls : A_V) (st : List Value) (h : A_H) : R 283 251 ls st h = a_do a_nL R R 283 (s_push (.int 1) 252 ls st h) := a_R_eq ..
set_option maxRecDepth 16384 in
theorem r283_252 (ls : A_V) (st : List Value) (h : A_H) : R 283 252 ls st h = a_do a_nL R R 283 (s_bi (fun x y => x + y) 253 ls st h) := a_R_eq ..
set_option maxRecDepth 16384 in
theorem r283_253 (ls : A_V) (st : List Value) (h : A_H) : R 283 253 ls st h = a_do a_nL R R 283 (s_xal 254 ls st h) := a_R_eq ..
set_option maxRecDepth 16384 in
theorem r283_254 (ls : A_V) (st : List Value) (h : A_H) : R 283 254 ls st h = a_do a_nL R R 283 (s_aldl 0 255 ls st h) := a_R_eq ..
set_option maxRecDepth 16384 in
theorem r283_255 (ls : A_V) (st : List Value) (h : A_H) : R 283 255 ls st h = a_do a_nL R R 283 (s_ildl 4 256 ls st h) := a_R_eq ..
set_option maxRecDepth 16384 in
theorem r283_256 (ls : A_V) (st : List Value) (h : A_H) : R 283 256 ls st h = a_do a_nL R R 283 (s_push (.int 2) 257 ls st h) := a_R_eq ..
set_option maxRecDepth 16384 in
theorem r283_257 (ls : A_V) (st : List Value) (h : A_H) : R 283 257 ls st h = a_do a_nL R R 283 (s_bi (fun x y => x + y) 258 ls st h) := a_R_eq ..
set_option maxRecDepth 16384 in
theorem r283_258 (ls : A_V) (st : List Value) (h : A_H) : R 283 258 ls st h = a_do a_nL R R 283 (s_xal 259 ls st h) := a_R_eq ..
set_option maxRecDepth 16384 in
theorem r283_259 (ls : A_V) (st : List Value) (h : A_H) : R 283 259 ls st h = a_do a_nL R R 283 (s_call 14 85 3 3 true 260 ls st h) := a_R_eq ..
set_option maxRecDepth 16384 in
theorem r283_260 (ls : A_V) (st : List Value) (h : A_H) : R 283 260 ls st h = a_do a_nL R R 283 (s_aldl 2 261 ls st h) := a_R_eq ..
set_option maxRecDepth 16384 in
theorem r283_261 (ls : A_V) (st : List Value) (h : A_H) : R 283 261 ls st h = a_do a_nL R R 283 (s_aldl 0 262 ls st h) := a_R_eq ..
set_option maxRecDepth 16384 in
theorem r283_262 (ls : A_V) (st : List Value) (h : A_H) : R 283 262 ls st h = a_do a_nL R R 283 (s_ildl 4 263 ls st h) := a_R_eq ..
set_option maxRecDepth 16384 in
theorem r283_263 (ls : A_V) (st : List Value) (h : A_H) : R 283 263 ls st h = a_do a_nL R R 283 (s_push (.int 1) 264 ls st h) := a_R_eq ..
set_option maxRecDepth 16384 in
theorem r283_264 (ls : A_V) (st : List Value) (h : A_H) : R 283 264 ls st h = a_do a_nL R R 283 (s_bi (fun x y => x + y) 265 ls st h) := a_R_eq ..
set_option maxRecDepth 16384 in
theorem r283_265 (ls : A_V) (st : List Value) (h : A_H) : R 283 265 ls st h = a_do a_nL R R 283 (s_xal 266 ls st h) := a_R_eq ..
set_option maxRecDepth 16384 in
theorem r283_266 (ls : A_V) (st : List Value) (h : A_H) : R 283 266 ls st h = a_do a_nL R R 283 (s_aldl 0 267 ls st h) := a_R_eq ..
set_option maxRecDepth 16384 in
theorem r283_267 (ls : A_V) (st : List Value) (h : A_H) : R 283 267 ls st h = a_do a_nL R R 283 (s_ildl 4 268 ls st h) := a_R_eq ..
set_option maxRecDepth 16384 in
theorem r283_268 (ls : A_V) (st : List Value) (h : A_H) : R 283 268 ls st h = a_do a_nL R R 283 (s_push (.int 2) 269 ls st h) := a_R_eq ..
set_option maxRecDepth 16384 in
theorem r283_269 (ls : A_V) (st : List Value) (h : A_H) : R 283 269 ls st h = a_do a_nL R R 283 (s_bi (fun x y => x + y) 270 ls st h) := a_R_eq ..
set_option maxRecDepth 16384 in
theorem r283_270 (ls : A_V) (st : List Value) (h : A_H) : R 283 270 ls st h = a_do a_nL R R 283 (s_xal 271 ls st h) := a_R_eq ..
set_option maxRecDepth 16384 in
theorem r283_271 (ls : A_V) (st : List Value) (h : A_H) : R 283 271 ls st h = a_do a_nL R R 283 (s_call 16 222 3 4 true 272 ls st h) := a_R_eq ..
set_option maxRecDepth 16384 in
theorem r283_272 (ls : A_V) (st : List Value) (h : A_H) : R 283 272 ls st h = a_do a_nL R R 283 (s_if2 (fun x y => decide (x = y)) 1248 273 ls st h) := a_R_eq ..
set_option maxRecDepth 16384 in
theorem r283_273 (ls : A_V) (st : List Value) (h : A_H) : R 283 273 ls st h = a_do a_nL R R 283 (s_push (.int 0) 274 ls st h) := a_R_eq ..
set_option maxRecDepth 16384 in
theorem r283_274 (ls : A_V) (st : List Value) (h : A_H) : R 283 274 ls st h = a_do a_nL R R 283 (s_zret ls st h) := a_R_eq ..
set_option maxRecDepth 16384 in
theorem r283_275 (ls : A_V) (st : List Value) (h : A_H) : R 283 275 ls st h = a_do a_nL R R 283 (s_aldl 1 276 ls st h) := a_R_eq ..
set_option maxRecDepth 16384 in
theorem r283_276 (ls : A_V) (st : List Value) (h : A_H) : R 283 276 ls st h = a_do a_nL R R 283 (s_aldl 0 277 ls st h) := a_R_eq ..
set_option maxRecDepth 16384 in
theorem r283_277 (ls : A_V) (st : List Value) (h : A_H) : R 283 277 ls st h = a_do a_nL R R 283 (s_ildl 4 278 ls st h) := a_R_eq ..
set_option maxRecDepth 16384 in
theorem r283_278 (ls : A_V) (st : List Value) (h : A_H) : R 283 278 ls st h = a_do a_nL R R 283 (s_push (.int 1) 279 ls st h) := a_R_eq ..
set_option maxRecDepth 16384 in
theorem r283_279 (ls : A_V) (st : List Value) (h : A_H) : R 283 279 ls st h = a_do a_nL R R 283 (s_bi (fun x y => x + y) 280 ls st h) := a_R_eq ..
set_option maxRecDepth 16384 in
theorem r283_280 (ls : A_V) (st : List Value) (h : A_H) : R 283 280 ls st h = a_do a_nL R R 283 (s_xal 281 ls st h) := a_R_eq ..
set_option maxRecDepth 16384 in
theorem r283_281 (ls : A_V) (st : List Value) (h : A_H) : R 283 281 ls st h = a_do a_nL R R 283 (s_aldl 0 282 ls st h) := a_R_eq ..
set_option maxRecDepth 16384 in
theorem r283_282 (ls : A_V) (st : List Value) (h : A_H) : R 283 282 ls st h = a_do a_nL R R 283 (s_ildl 4 283 ls st h) := a_R_eq ..
set_option maxRecDepth 16384 in
theorem r283_283 (ls : A_V) (st : List Value) (h : A_H) : R 283 283 ls st h = a_do a_nL R R 283 (s_push (.int 2) 284 ls st h) := a_R_eq ..
set_option maxRecDepth 16384 in
theorem r283_284 (ls : A_V) (st : List Value) (h : A_H) : R 283 284 ls st h = a_do a_nL R R 283 (s_bi (fun x y => x + y) 285 ls st h) := a_R_eq ..
set_option maxRecDepth 16384 in
theorem r283_285 (ls : A_V) (st : List Value) (h : A_H) : R 283 285 ls st h = a_do a_nL R R 283 (s_xal 286 ls st h) := a_R_eq ..
set_option maxRecDepth 16384 in
theorem r283_286 (ls : A_V) (st : List Value) (h : A_H) : R 283 286 ls st h = a_do a_nL R R 283 (s_call 14 86 3 3 true 287 ls st h) := a_R_eq ..
set_option maxRecDepth 16384 in
theorem r283_287 (ls : A_V) (st : List Value) (h : A_H) : R 283 287 ls st h = a_do a_nL R R 283 (s_aldl 2 288 ls st h) := a_R_eq ..
set_option maxRecDepth 16384 in
theorem r283_288 (ls : A_V) (st : List Value) (h : A_H) : R 283 288 ls st h = a_do a_nL R R 283 (s_aldl 0 289 ls st h) := a_R_eq ..
set_option maxRecDepth 16384 in
theorem r283_289 (ls : A_V) (st : List Value) (h : A_H) : R 283 289 ls st h = a_do a_nL R R 283 (s_ildl 4 290 ls st h) := a_R_eq ..
set_option maxRecDepth 16384 in
theorem r283_290 (ls : A_V) (st : List Value) (h : A_H) : R 283 290 ls st h = a_do a_nL R R 283 (s_push (.int 1) 291 ls st h) := a_R_eq ..
set_option maxRecDepth 16384 in
theorem r283_291 (ls : A_V) (st : List Value) (h : A_H) : R 283 291 ls st h = a_do a_nL R R 283 (s_bi (fun x y => x + y) 292 ls st h) := a_R_eq ..
set_option maxRecDepth 16384 in
theorem r283_292 (ls : A_V) (st : List Value) (h : A_H) : R 283 292 ls st h = a_do a_nL R R 283 (s_xal 293 ls st h) := a_R_eq ..
set_option maxRecDepth 16384 in
theorem r283_293 (ls : A_V) (st : List Value) (h : A_H) : R 283 293 ls st h = a_do a_nL R R 283 (s_aldl 0 294 ls st h) := a_R_eq ..
set_option maxRecDepth 16384 in
theorem r283_294 (ls : A_V) (st : List Value) (h : A_H) : R 283 294 ls st h = a_do a_nL R R 283 (s_ildl 4 295 ls st h) := a_R_eq ..
set_option maxRecDepth 16384 in
theorem r283_295 (ls : A_V) (st : List Value) (h : A_H) : R 283 295 ls st h = a_do a_nL R R 283 (s_push (.int 2) 296 ls st h) := a_R_eq ..
set_option maxRecDepth 16384 in
theorem r283_296 (ls : A_V) (st : List Value) (h : A_H) : R 283 296 ls st h = a_do a_nL R R 283 (s_bi (fun x y => x + y) 297 ls st h) := a_R_eq ..
set_option maxRecDepth 16384 in
theorem r283_297 (ls : A_V) (st : List Value) (h : A_H) : R 283 297 ls st h = a_do a_nL R R 283 (s_xal 298 ls st h) := a_R_eq ..
set_option maxRecDepth 16384 in
theorem r283_298 (ls : A_V) (st : List Value) (h : A_H) : R 283 298 ls st h = a_do a_nL R R 283 (s_call 16 223 3 4 true 299 ls st h) := a_R_eq ..
set_option maxRecDepth 16384 in
theorem r283_299 (ls : A_V) (st : List Value) (h : A_H) : R 283 299 ls st h = a_do a_nL R R 283 (s_if2 (fun x y => decide (x = y)) 1248 300 ls st h) := a_R_eq ..
set_option maxRecDepth 16384 in
theorem r283_300 (ls : A_V) (st : List Value) (h : A_H) : R 283 300 ls st h = a_do a_nL R R 283 (s_push (.int 0) 301 ls st h) := a_R_eq ..
set_option maxRecDepth 16384 in
theorem r283_301 (ls : A_V) (st : List Value) (h : A_H) : R 283 301 ls st h = a_do a_nL R R 283 (s_zret ls st h) := a_R_eq ..
set_option maxRecDepth 16384 in
theorem r283_302 (ls : A_V) (st : List Value) (h : A_H) : R 283 302 ls st h = a_do a_nL R R 283 (s_aldl 1 303 ls st h) := a_R_eq ..
set_option maxRecDepth 16384 in
theorem r283_303 (ls : A_V) (st : List Value) (h : A_H) : R 283 303 ls st h = a_do a_nL R R 283 (s_aldl 0 304 ls st h) := a_R_eq ..
set_option maxRecDepth 16384 in
theorem r283_304 (ls : A_V) (st : List Value) (h : A_H) : R 283 304 ls st h = a_do a_nL R R 283 (s_ildl 4 305 ls st h) := a_R_eq ..
set_option maxRecDepth 16384 in
theorem r283_305 (ls : A_V) (st : List Value) (h : A_H) : R 283 305 ls st h = a_do a_nL R R 283 (s_push (.int 1) 306 ls st h) := a_R_eq ..
set_option maxRecDepth 16384 in
theorem r283_306 (ls : A_V) (st : List Value) (h : A_H) : R 283 306 ls st h = a_do a_nL R R 283 (s_bi (fun x y => x + y) 307 ls st h) := a_R_eq ..
set_option maxRecDepth 16384 in
theorem r283_307 (ls : A_V) (st : List Value) (h : A_H) : R 283 307 ls st h = a_do a_nL R R 283 (s_xal 308 ls st h) := a_R_eq ..
set_option maxRecDepth 16384 in
theorem r283_308 (ls : A_V) (st : List Value) (h : A_H) : R 283 308 ls st h = a_do a_nL R R 283 (s_call 14 87 2 3 true 309 ls st h) := a_R_eq ..
set_option maxRecDepth 16384 in
theorem r283_309 (ls : A_V) (st : List Value) (h : A_H) : R 283 309 ls st h = a_do a_nL R R 283 (s_aldl 2 310 ls st h) := a_R_eq ..
set_option maxRecDepth 16384 in
theorem r283_310 (ls : A_V) (st : List Value) (h : A_H) : R 283 310 ls st h = a_do a_nL R R 283 (s_aldl 0 311 ls st h) := a_R_eq ..
set_option maxRecDepth 16384 in
theorem r283_311 (ls : A_V) (st : List Value) (h : A_H) : R 283 311 ls st h = a_do a_nL R R 283 (s_ildl 4 312 ls st h) := a_R_eq ..
set_option maxRecDepth 16384 in
theorem r283_312 (ls : A_V) (st : List Value) (h : A_H) : R 283 312 ls st h = a_do a_nL R R 283 (s_push (.int 1) 313 ls st h) := a_R_eq ..
set_option maxRecDepth 16384 in
theorem r283_313 (ls : A_V) (st : List Value) (h : A_H) : R 283 313 ls st h = a_do a_nL R R 283 (s_bi (fun x y => x + y) 314 ls st h) := a_R_eq ..
set_option maxRecDepth 16384 in
theorem r283_314 (ls : A_V) (st : List Value) (h : A_H) : R 283 314 ls st h = a_do a_nL R R 283 (s_xal 315 ls st h) := a_R_eq ..
set_option maxRecDepth 16384 in
theorem r283_315 (ls : A_V) (st : List Value) (h : A_H) : R 283 315 ls st h = a_do a_nL R R 283 (s_call 16 224 2 3 true 316 ls st h) := a_R_eq ..
set_option maxRecDepth 16384 in
theorem r283_316 (ls : A_V) (st : List Value) (h : A_H) : R 283 316 ls st h = a_do a_nL R R 283 (s_if2 (fun x y => decide (x = y)) 1248 317 ls st h) := a_R_eq ..
set_option maxRecDepth 16384 in
theorem r283_317 (ls : A_V) (st : List Value) (h : A_H) : R 283 317 ls st h = a_do a_nL R R 283 (s_push (.int 0) 318 ls st h) := a_R_eq ..
set_option maxRecDepth 16384 in
theorem r283_318 (ls : A_V) (st : List Value) (h : A_H) : R 283 318 ls st h = a_do a_nL R R 283 (s_zret ls st h) := a_R_eq ..
set_option maxRecDepth 16384 in
theorem r283_319 (ls : A_V) (st : List Value) (h : A_H) : R 283 319 ls st h = a_do a_nL R R 283 (s_aldl 1 320 ls st h) := a_R_eq ..
set_option maxRecDepth 16384 in
theorem r283_320 (ls : A_V) (st : List Value) (h : A_H) : R 283 320 ls st h = a_do a_nL R R 283 (s_aldl 0 321 ls st h) := a_R_eq ..
set_option maxRecDepth 16384 in
theorem r283_321 (ls : A_V) (st : List Value) (h : A_H) : R 283 321 ls st h = a_do a_nL R R 283 (s_ildl 4 322 ls st h) := a_R_eq ..
set_option maxRecDepth 16384 in
theorem r283_322 (ls : A_V) (st : List Value) (h : A_H) : R 283 322 ls st h = a_do a_nL R R 283 (s_push (.int 1) 323 ls st h) := a_R_eq ..
set_option maxRecDepth 16384 in
theorem r283_323 (ls : A_V) (st : List Value) (h : A_H) : R 283 323 ls st h = a_do a_nL R R 283 (s_bi (fun x y => x + y) 324 ls st h) := a_R_eq ..
set_option maxRecDepth 16384 in
theorem r283_324 (ls : A_V) (st : List Value) (h : A_H) : R 283 324 ls st h = a_do a_nL R R 283 (s_xal 325 ls st h) := a_R_eq ..
set_option maxRecDepth 16384 in
theorem r283_325 (ls : A_V) (st : List Value) (h : A_H) : R 283 325 ls st h = a_do a_nL R R 283 (s_aldl 0 326 ls st h) := a_R_eq ..
set_option maxRecDepth 16384 in
theorem r283_326 (ls : A_V) (st : List Value) (h : A_H) : R 283 326 ls st h = a_do a_nL R R 283 (s_ildl 4 327 ls st h) := a_R_eq ..
set_option maxRecDepth 16384 in
theorem r283_327 (ls : A_V) (st : List Value) (h : A_H) : R 283 327 ls st h = a_do a_nL R R 283 (s_push (.int 2) 328 ls st h) := a_R_eq ..
set_option maxRecDepth 16384 in
theorem r283_328 (ls : A_V) (st : List Value) (h : A_H) : R 283 328 ls st h = a_do a_nL R R 283 (s_bi (fun x y => x + y) 329 ls st h) := a_R_eq ..
set_option maxRecDepth 16384 in
theorem r283_329 (ls : A_V) (st : List Value) (h : A_H) : R 283 329 ls st h = a_do a_nL R R 283 (s_xal 330 ls st h) := a_R_eq ..
set_option maxRecDepth 16384 in
theorem r283_330 (ls : A_V) (st : List Value) (h : A_H) : R 283 330 ls st h = a_do a_nL R R 283 (s_aldl 0 331 ls st h) := a_R_eq ..
set_option maxRecDepth 16384 in
theorem r283_331 (ls : A_V) (st : List Value) (h : A_H) : R 283 331 ls st h = a_do a_nL R R 283 (s_ildl 4 332 ls st h) := a_R_eq ..
set_option maxRecDepth 16384 in
theorem r283_332 (ls : A_V) (st : List Value) (h : A_H) : R 283 332 ls st h = a_do a_nL R R 283 (s_push (.int 3) 333 ls st h) := a_R_eq ..
set_option maxRecDepth 16384 in
theorem r283_333 (ls : A_V) (st : List Value) (h : A_H) : R 283 333 ls st h = a_do a_nL R R 283 (s_bi (fun x y => x + y) 334 ls st h) := a_R_eq ..
set_option maxRecDepth 16384 in
theorem r283_334 (ls : A_V) (st : List Value) (h : A_H) : R 283 334 ls st h = a_do a_nL R R 283 (s_xal 335 ls st h) := a_R_eq ..
set_option maxRecDepth 16384 in
theorem r283_335 (ls : A_V) (st : List Value) (h : A_H) : R 283 335 ls st h = a_do a_nL R R 283 (s_call 14 88 4 4 true 336 ls st h) := a_R_eq ..
set_option maxRecDepth 16384 in
theorem r283_336 (ls : A_V) (st : List Value) (h : A_H) : R 283 336 ls st h = a_do a_nL R R 283 (s_aldl 2 337 ls st h) := a_R_eq ..
set_option maxRecDepth 16384 in
theorem r283_337 (ls : A_V) (st : List Value) (h : A_H) : R 283 337 ls st h = a_do a_nL R R 283 (s_aldl 0 338 ls st h) := a_R_eq ..
set_option maxRecDepth 16384 in
theorem r283_338 (ls : A_V) (st : List Value) (h : A_H) : R 283 338 ls st h = a_do a_nL R R 283 (s_ildl 4 339 ls st h) := a_R_eq ..
set_option maxRecDepth 16384 in
theorem r283_339 (ls : A_V) (st : List Value) (h : A_H) : R 283 339 ls st h = a_do a_nL R R 283 (s_push (.int 1) 340 ls st h) := a_R_eq ..
set_option maxRecDepth 16384 in
theorem r283_340 (ls : A_V) (st : List Value) (h : A_H) : R 283 340 ls st h = a_do a_nL R R 283 (s_bi (fun x y => x + y) 341 ls st h) := a_R_eq ..
set_option maxRecDepth 16384 in
theorem r283_341 (ls : A_V) (st : List Value) (h : A_H) : R 283 341 ls st h = a_do a_nL R R 283 (s_xal 342 ls st h) := a_R_eq ..
set_option maxRecDepth 16384 in
theorem r283_342 (ls : A_V) (st : List Value) (h : A_H) : R 283 342 ls st h = a_do a_nL R R 283 (s_aldl 0 343 ls st h) := a_R_eq ..
set_option maxRecDepth 16384 in
theorem r283_343 (ls : A_V) (st : List Value) (h : A_H) : R 283 343 ls st h = a_do a_nL R R 283 (s_ildl 4 344 ls st h) := a_R_eq ..
set_option maxRecDepth 16384 in
theorem r283_344 (ls : A_V) (st : List Value) (h : A_H) : R 283 344 ls st h = a_do a_nL R R 283 (s_push (.int 2) 345 ls st h) := a_R_eq ..
set_option maxRecDepth 16384 in
theorem r283_345 (ls : A_V) (st : List Value) (h : A_H) : R 283 345 ls st h = a_do a_nL R R 283 (s_bi (fun x y => x + y) 346 ls st h) := a_R_eq ..
set_option maxRecDepth 16384 in
theorem r283_346 (ls : A_V) (st : List Value) (h : A_H) : R 283 346 ls st h = a_do a_nL R R 283 (s_xal 347 ls st h) := a_R_eq ..
set_option maxRecDepth 16384 in
theorem r283_347 (ls : A_V) (st : List Value) (h : A_H) : R 283 347 ls st h = a_do a_nL R R 283 (s_aldl 0 348 ls st h) := a_R_eq ..
set_option maxRecDepth 16384 in
theorem r283_348 (ls : A_V) (st : List Value) (h : A_H) : R 283 348 ls st h = a_do a_nL R R 283 (s_ildl 4 349 ls st h) := a_R_eq ..
set_option maxRecDepth 16384 in
theorem r283_349 (ls : A_V) (st : List Value) (h : A_H) : R 283 349 ls st h = a_do a_nL R R 283 (s_push (.int 3) 350 ls st h) := a_R_eq ..
set_option maxRecDepth 16384 in
theorem r283_350 (ls : A_V) (st : List Value) (h : A_H) : R 283 350 ls st h = a_do a_nL R R 283 (s_bi (fun x y => x + y) 351 ls st h) := a_R_eq ..
set_option maxRecDepth 16384 in
theorem r283_351 (ls : A_V) (st : List Value) (h : A_H) : R 283 351 ls st h = a_do a_nL R R 283 (s_xal 352 ls st h) := a_R_eq ..
set_option maxRecDepth 16384 in
theorem r283_352 (ls : A_V) (st : List Value) (h : A_H) : R 283 352 ls st h = a_do a_nL R R 283 (s_call 16 225 4 5 true 353 ls st h) := a_R_eq ..
set_option maxRecDepth 16384 in
theorem r283_353 (ls : A_V) (st : List Value) (h : A_H) : R 283 353 ls st h = a_do a_nL R R 283 (s_if2 (fun x y => decide (x = y)) 1248 354 ls st h) := a_R_eq ..
set_option maxRecDepth 16384 in
theorem r283_354 (ls : A_V) (st : List Value) (h : A_H) : R 283 354 ls st h = a_do a_nL R R 283 (s_push (.int 0) 355 ls st h) := a_R_eq ..
set_option maxRecDepth 16384 in
theorem r283_355 (ls : A_V) (st : List Value) (h : A_H) : R 283 355 ls st h = a_do a_nL R R 283 (s_zret ls st h) := a_R_eq ..
set_option maxRecDepth 16384 in
theorem r283_356 (ls : A_V) (st : List Value) (h : A_H) : R 283 356 ls st h = a_do a_nL R R 283 (s_aldl 1 357 ls st h) := a_R_eq ..
set_option maxRecDepth 16384 in
theorem r283_357 (ls : A_V) (st : List Value) (h : A_H) : R 283 357 ls st h = a_do a_nL R R 283 (s_aldl 0 358 ls st h) := a_R_eq ..
set_option maxRecDepth 16384 in
theorem r283_358 (ls : A_V) (st : List Value) (h : A_H) : R 283 358 ls st h = a_do a_nL R R 283 (s_ildl 4 359 ls st h) := a_R_eq ..
set_option maxRecDepth 16384 in
theorem r283_359 (ls : A_V) (st : List Value) (h : A_H) : R 283 359 ls st h = a_do a_nL R R 283 (s_push (.int 1) 360 ls st h) := a_R_eq ..
set_option maxRecDepth 16384 in
theorem r283_360 (ls : A_V) (st : List Value) (h : A_H) : R 283 360 ls st h = a_do a_nL R R 283 (s_bi (fun x y => x + y) 361 ls st h) := a_R_eq ..
set_option maxRecDepth 16384 in
theorem r283_361 (ls : A_V) (st : List Value) (h : A_H) : R 283 361 ls st h = a_do a_nL R R 283 (s_xal 362 ls st h) := a_R_eq ..
set_option maxRecDepth 16384 in
theorem r283_362 (ls : A_V) (st : List Value) (h : A_H) : R 283 362 ls st h = a_do a_nL R R 283 (s_aldl 0 363 ls st h) := a_R_eq ..
set_option maxRecDepth 16384 in
theorem r283_363 (ls : A_V) (st : List Value) (h : A_H) : R 283 363 ls st h = a_do a_nL R R 283 (s_ildl 4 364 ls st h) := a_R_eq ..
set_option maxRecDepth 16384 in
theorem r283_364 (ls : A_V) (st : List Value) (h : A_H) : R 283 364 ls st h = a_do a_nL R R 283 (s_push (.int 2) 365 ls st h) := a_R_eq ..
set_option maxRecDepth 16384 in
theorem r283_365 (ls : A_V) (st : List Value) (h : A_H) : R 283 365 ls st h = a_do a_nL R R 283 (s_bi (fun x y => x + y) 366 ls st h) := a_R_eq ..
set_option maxRecDepth 16384 in
theorem r283_366 (ls : A_V) (st : List Value) (h : A_H) : R 283 366 ls st h = a_do a_nL R R 283 (s_xal 367 ls st h) := a_R_eq ..
set_option maxRecDepth 16384 in
theorem r283_367 (ls : A_V) (st : List Value) (h : A_H) : R 283 367 ls st h = a_do a_nL R R 283 (s_aldl 0 368 ls st h) := a_R_eq ..
set_option maxRecDepth 16384 in
theorem r283_368 (ls : A_V) (st : List Value) (h : A_H) : R 283 368 ls st h = a_do a_nL R R 283 (s_ildl 4 369 ls st h) := a_R_eq ..
set_option maxRecDepth 16384 in
theorem r283_369 (ls : A_V) (st : List Value) (h : A_H) : R 283 369 ls st h = a_do a_nL R R 283 (s_push (.int 3) 370 ls st h) := a_R_eq ..
set_option maxRecDepth 16384 in
theorem r283_370 (ls : A_V) (st : List Value) (h : A_H) : R 283 370 ls st h = a_do a_nL R R 283 (s_bi (fun x y => x + y) 371 ls st h) := a_R_eq ..
set_option maxRecDepth 16384 in
theorem r283_371 (ls : A_V) (st : List Value) (h : A_H) : R 283 371 ls st h = a_do a_nL R R 283 (s_xal 372 ls st h) := a_R_eq ..
set_option maxRecDepth 16384 in
theorem r283_372 (ls : A_V) (st : List Value) (h : A_H) : R 283 372 ls st h = a_do a_nL R R 283 (s_call 14 89 4 4 true 373 ls st h) := a_R_eq ..
set_option maxRecDepth 16384 in
theorem r283_373 (ls : A_V) (st : List Value) (h : A_H) : R 283 373 ls st h = a_do a_nL R R 283 (s_aldl 2 374 ls st h) := a_R_eq ..
set_option maxRecDepth 16384 in
theorem r283_374 (ls : A_V) (st : List Value) (h : A_H) : R 283 374 ls st h = a_do a_nL R R 283 (s_aldl 0 375 ls st h) := a_R_eq ..
set_option maxRecDepth 16384 in
theorem r283_375 (ls : A_V) (st : List Value) (h : A_H) : R 283 375 ls st h = a_do a_nL R R 283 (s_ildl 4 376 ls st h) := a_R_eq ..
set_option maxRecDepth 16384 in
theorem r283_376 (ls : A_V) (st : List Value) (h : A_H) : R 283 376 ls st h = a_do a_nL R R 283 (s_push (.int 1) 377 ls st h) := a_R_eq ..
set_option maxRecDepth 16384 in
theorem r283_377 (ls : A_V) (st : List Value) (h : A_H) : R 283 377 ls st h = a_do a_nL R R 283 (s_bi (fun x y => x + y) 378 ls st h) := a_R_eq ..
set_option maxRecDepth 16384 in
theorem r283_378 (ls : A_V) (st : List Value) (h : A_H) : R 283 378 ls st h = a_do a_nL R R 283 (s_xal 379 ls st h) := a_R_eq ..
set_option maxRecDepth 16384 in
theorem r283_379 (ls : A_V) (st : List Value) (h : A_H) : R 283 379 ls st h = a_do a_nL R R 283 (s_aldl 0 380 ls st h) := a_R_eq ..
set_option maxRecDepth 16384 in
theorem r283_380 (ls : A_V) (st : List Value) (h : A_H) : R 283 380 ls st h = a_do a_nL R R 283 (s_ildl 4 381 ls st h) := a_R_eq ..
set_option maxRecDepth 16384 in
theorem r283_381 (ls : A_V) (st : List Value) (h : A_H) : R 283 381 ls st h = a_do a_nL R R 283 (s_push (.int 2) 382 ls st h) := a_R_eq ..
set_option maxRecDepth 16384 in
theorem r283_382 (ls : A_V) (st : List Value) (h : A_H) : R 283 382 ls st h = a_do a_nL R R 283 (s_bi (fun x y => x + y) 383 ls st h) := a_R_eq ..
set_option maxRecDepth 16384 in
theorem r283_383 (ls : A_V) (st : List Value) (h : A_H) : R 283 383 ls st h = a_do a_nL R R 283 (s_xal 384 ls st h) := a_R_eq ..
set_option maxRecDepth 16384 in
theorem r283_384 (ls : A_V) (st : List Value) (h : A_H) : R 283 384 ls st h = a_do a_nL R R 283 (s_aldl 0 385 ls st h) := a_R_eq ..
set_option maxRecDepth 16384 in
theorem r283_385 (ls : A_V) (st : List Value) (h : A_H) : R 283 385 ls st h = a_do a_nL R R 283 (s_ildl 4 386 ls st h) := a_R_eq ..
set_option maxRecDepth 16384 in
theorem r283_386 (ls : A_V) (st : List Value) (h : A_H) : R 283 386 ls st h = a_do a_nL R R 283 (s_push (.int 3) 387 ls st h) := a_R_eq ..
set_option maxRecDepth 16384 in
theorem r283_387 (ls : A_V) (st : List Value) (h : A_H) : R 283 387 ls st h = a_do a_nL R R 283 (s_bi (fun x y => x + y) 388 ls st h) := a_R_eq ..
set_option maxRecDepth 16384 in
theorem r283_388 (ls : A_V) (st : List Value) (h : A_H) : R 283 388 ls st h = a_do a_nL R R 283 (s_xal 389 ls st h) := a_R_eq ..
set_option maxRecDepth 16384 in
theorem r283_389 (ls : A_V) (st : List Value) (h : A_H) : R 283 389 ls st h = a_do a_nL R R 283 (s_call 16 226 4 5 true 390 ls st h) := a_R_eq ..
set_option maxRecDepth 16384 in
theorem r283_390 (ls : A_V) (st : List Value) (h : A_H) : R 283 390 ls st h = a_do a_nL R R 283 (s_if2 (fun x y => decide (x = y)) 1248 391 ls st h) := a_R_eq ..
set_option maxRecDepth 16384 in
theorem r283_391 (ls : A_V) (st : List Value) (h : A_H) : R 283 391 ls st h = a_do a_nL R R 283 (s_push (.int 0) 392 ls st h) := a_R_eq ..
set_option maxRecDepth 16384 in
theorem r283_392 (ls : A_V) (st : List Value) (h : A_H) : R 283 392 ls st h = a_do a_nL R R 283 (s_zret ls st h) := a_R_eq ..
set_option maxRecDepth 16384 in
theorem r283_393 (ls : A_V) (st : List Value) (h : A_H) : R 283 393 ls st h = a_do a_nL R R 283 (s_aldl 1 394 ls st h) := a_R_eq ..
set_option maxRecDepth 16384 in
theorem r283_394 (ls : A_V) (st : List Value) (h : A_H) : R 283 394 ls st h = a_do a_nL R R 283 (s_aldl 0 395 ls st h) := a_R_eq ..
set_option maxRecDepth 16384 in
theorem r283_395 (ls : A_V) (st : List Value) (h : A_H) : R 283 395 ls st h = a_do a_nL R R 283 (s_ildl 4 396 ls st h) := a_R_eq ..
set_option maxRecDepth 16384 in
theorem r283_396 (ls : A_V) (st : List Value) (h : A_H) : R 283 396 ls st h = a_do a_nL R R 283 (s_push (.int 1) 397 ls st h) := a_R_eq ..
set_option maxRecDepth 16384 in
theorem r283_397 (ls : A_V) (st : List Value) (h : A_H) : R 283 397 ls st h = a_do a_nL R R 283 (s_bi (fun x y => x + y) 398 ls st h) := a_R_eq ..
set_option maxRecDepth 16384 in
theorem r283_398 (ls : A_V) (st : List Value) (h : A_H) : R 283 398 ls st h = a_do a_nL R R 283 (s_xal 399 ls st h) := a_R_eq ..
set_option maxRecDepth 16384 in
theorem r283_399 (ls : A_V) (st : List Value) (h : A_H) : R 283 399 ls st h = a_do a_nL R R 283 (s_aldl 0 400 ls st h) := a_R_eq ..
set_option maxRecDepth 16384 in
theorem r283_400 (ls : A_V) (st : List Value) (h : A_H) : R 283 400 ls st h = a_do a_nL R R 283 (s_ildl 4 401 ls st h) := a_R_eq ..
set_option maxRecDepth 16384 in
theorem r283_401 (ls : A_V) (st : List Value) (h : A_H) : R 283 401 ls st h = a_do a_nL R R 283 (s_push (.int 2) 402 ls st h) := a_R_eq ..
set_option maxRecDepth 16384 in
theorem r283_402 (ls : A_V) (st : List Value) (h : A_H) : R 283 402 ls st h = a_do a_nL R R 283 (s_bi (fun x y => x + y) 403 ls st h) := a_R_eq ..
set_option maxRecDepth 16384 in
theorem r283_403 (ls : A_V) (st : List Value) (h : A_H) : R 283 403 ls st h = a_do a_nL R R 283 (s_xal 404 ls st h) := a_R_eq ..
set_option maxRecDepth 16384 in
theorem r283_404 (ls : A_V) (st : List Value) (h : A_H) : R 283 404 ls st h = a_do a_nL R R 283 (s_aldl 0 405 ls st h) := a_R_eq ..
set_option maxRecDepth 16384 in
theorem r283_405 (ls : A_V) (st : List Value) (h : A_H) : R 283 405 ls st h = a_do a_nL R R 283 (s_ildl 4 406 ls st h) := a_R_eq ..
set_option maxRecDepth 16384 in
theorem r283_406 (ls : A_V) (st : List Value) (h : A_H) : R 283 406 ls st h = a_do a_nL R R 283 (s_push (.int 3) 407 ls st h) := a_R_eq ..
set_option maxRecDepth 16384 in
theorem r283_407 (ls : A_V) (st : List Value) (h : A_H) : R 283 407 ls st h = a_do a_nL R R 283 (s_bi (fun x y => x + y) 408 ls st h) := a_R_eq ..
set_option maxRecDepth 16384 in
theorem r283_408 (ls : A_V) (st : List Value) (h : A_H) : R 283 408 ls st h = a_do a_nL R R 283 (s_xal 409 ls st h) := a_R_eq ..
set_option maxRecDepth 16384 in
theorem r283_409 (ls : A_V) (st : List Value) (h : A_H) : R 283 409 ls st h = a_do a_nL R R 283 (s_call 14 90 4 4 true 410 ls st h) := a_R_eq ..
set_option maxRecDepth 16384 in
theorem r283_410 (ls : A_V) (st : List Value) (h : A_H) : R 283 410 ls st h = a_do a_nL R R 283 (s_aldl 2 411 ls st h) := a_R_eq ..
set_option maxRecDepth 16384 in
theorem r283_411 (ls : A_V) (st : List Value) (h : A_H) : R 283 411 ls st h = a_do a_nL R R 283 (s_aldl 0 412 ls st h) := a_R_eq ..
set_option maxRecDepth 16384 in
theorem r283_412 (ls : A_V) (st : List Value) (h : A_H) : R 283 412 ls st h = a_do a_nL R R 283 (s_ildl 4 413 ls st h) := a_R_eq ..
set_option maxRecDepth 16384 in
theorem r283_413 (ls : A_V) (st : List Value) (h : A_H) : R 283 413 ls st h = a_do a_nL R R 283 (s_push (.int 1) 414 ls st h) := a_R_eq ..
set_option maxRecDepth 16384 in
theorem r283_414 (ls : A_V) (st : List Value) (h : A_H) : R 283 414 ls st h = a_do a_nL R R 283 (s_bi (fun x y => x + y) 415 ls st h) := a_R_eq ..
set_option maxRecDepth 16384 in
theorem r283_415 (ls : A_V) (st : List Value) (h : A_H) : R 283 415 ls st h = a_do a_nL R R 283 (s_xal 416 ls st h) := a_R_eq ..
set_option maxRecDepth 16384 in
theorem r283_416 (ls : A_V) (st : List Value) (h : A_H) : R 283 416 ls st h = a_do a_nL R R 283 (s_aldl 0 417 ls st h) := a_R_eq ..
set_option maxRecDepth 16384 in
theorem r283_417 (ls : A_V) (st : List Value) (h : A_H) : R 283 417 ls st h = a_do a_nL R R 283 (s_ildl 4 418 ls st h) := a_R_eq ..
set_option maxRecDepth 16384 in
theorem r283_418 (ls : A_V) (st : List Value) (h : A_H) : R 283 418 ls st h = a_do a_nL R R 283 (s_push (.int 2) 419 ls st h) := a_R_eq ..
set_option maxRecDepth 16384 in
theorem r283_419 (ls : A_V) (st : List Value) (h : A_H) : R 283 419 ls st h = a_do a_nL R R 283 (s_bi (fun x y => x + y) 420 ls st h) := a_R_eq ..
set_option maxRecDepth 16384 in
theorem r283_420 (ls : A_V) (st : List Value) (h : A_H) : R 283 420 ls st h = a_do a_nL R R 283 (s_xal 421 ls st h) := a_R_eq ..
set_option maxRecDepth 16384 in
theorem r283_421 (ls : A_V) (st : List Value) (h : A_H) : R 283 421 ls st h = a_do a_nL R R 283 (s_aldl 0 422 ls st h) := a_R_eq ..
set_option maxRecDepth 16384 in
theorem r283_422 (ls : A_V) (st : List Value) (h : A_H) : R 283 422 ls st h = a_do a_nL R R 283 (s_ildl 4 423 ls st h) := a_R_eq ..
set_option maxRecDepth 16384 in
theorem r283_423 (ls : A_V) (st : List Value) (h : A_H) : R 283 423 ls st h = a_do a_nL R R 283 (s_push (.int 3) 424 ls st h) := a_R_eq ..
set_option maxRecDepth 16384 in
theorem r283_424 (ls : A_V) (st : List Value) (h : A_H) : R 283 424 ls st h = a_do a_nL R R 283 (s_bi (fun x y => x + y) 425 ls st h) := a_R_eq ..
set_option maxRecDepth 16384 in
theorem r283_425 (ls : A_V) (st : List Value) (h : A_H) : R 283 425 ls st h = a_do a_nL R R 283 (s_xal 426 ls st h) := a_R_eq ..
set_option maxRecDepth 16384 in
theorem r283_426 (ls : A_V) (st : List Value) (h : A_H) : R 283 426 ls st h = a_do a_nL R R 283 (s_call 16 227 4 5 true 427 ls st h) := a_R_eq ..
set_option maxRecDepth 16384 in
theorem r283_427 (ls : A_V) (st : List Value) (h : A_H) : R 283 427 ls st h = a_do a_nL R R 283 (s_if2 (fun x y => decide (x = y)) 1248 428 ls st h) := a_R_eq ..
set_option maxRecDepth 16384 in
theorem r283_428 (ls : A_V) (st : List Value) (h : A_H) : R 283 428 ls st h = a_do a_nL R R 283 (s_push (.int 0) 429 ls st h) := a_R_eq ..
set_option maxRecDepth 16384 in
theorem r283_429 (ls : A_V) (st : List Value) (h : A_H) : R 283 429 ls st h = a_do a_nL R R 283 (s_zret ls st h) := a_R_eq ..
set_option maxRecDepth 16384 in
theorem r283_430 (ls : A_V) (st : List Value) (h : A_H) : R 283 430 ls st h = a_do a_nL R R 283 (s_aldl 1 431 ls st h) := a_R_eq ..
set_option maxRecDepth 16384 in
theorem r283_431 (ls : A_V) (st : List Value) (h : A_H) : R 283 431 ls st h = a_do a_nL R R 283 (s_aldl 0 432 ls st h) := a_R_eq ..
set_option maxRecDepth 16384 in
theorem r283_432 (ls : A_V) (st : List Value) (h : A_H) : R 283 432 ls st h = a_do a_nL R R 283 (s_ildl 4 433 ls st h) := a_R_eq ..
set_option maxRecDepth 16384 in
theorem r283_433 (ls : A_V) (st : List Value) (h : A_H) : R 283 433 ls st h = a_do a_nL R R 283 (s_push (.int 1) 434 ls st h) := a_R_eq ..
set_option maxRecDepth 16384 in
theorem r283_434 (ls : A_V) (st : List Value) (h : A_H) : R 283 434 ls st h = a_do a_nL R R 283 (s_bi (fun x y => x + y) 435 ls st h) := a_R_eq ..
set_option maxRecDepth 16384 in
theorem r283_435 (ls : A_V) (st : List Value) (h : A_H) : R 283 435 ls st h = a_do a_nL R R 283 (s_xal 436 ls st h) := a_R_eq ..
set_option maxRecDepth 16384 in
theorem r283_436 (ls : A_V) (st : List Value) (h : A_H) : R 283 436 ls st h = a_do a_nL R R 283 (s_aldl 0 437 ls st h) := a_R_eq ..
set_option maxRecDepth 16384 in
theorem r283_437 (ls : A_V) (st : List Value) (h : A_H) : R 283 437 ls st h = a_do a_nL R R 283 (s_ildl 4 438 ls st h) := a_R_eq ..
set_option maxRecDepth 16384 in
theorem r283_438 (ls : A_V) (st : List Value) (h : A_H) : R 283 438 ls st h = a_do a_nL R R 283 (s_push (.int 2) 439 ls st h) := a_R_eq ..
set_option maxRecDepth 16384 in
theorem r283_439 (ls : A_V) (st : List Value) (h : A_H) : R 283 439 ls st h = a_do a_nL R R 283 (s_bi (fun x y => x + y) 440 ls st h) := a_R_eq ..
set_option maxRecDepth 16384 in
theorem r283_440 (ls : A_V) (st : List Value) (h : A_H) : R 283 440 ls st h = a_do a_nL R R 283 (s_xal 441 ls st h) := a_R_eq ..
set_option maxRecDepth 16384 in
theorem r283_441 (ls : A_V) (st : List Value) (h : A_H) : R 283 441 ls st h = a_do a_nL R R 283 (s_call 14 91 3 3 true 442 ls st h) := a_R_eq ..
set_option maxRecDepth 16384 in
theorem r283_442 (ls : A_V) (st : List Value) (h : A_H) : R 283 442 ls st h = a_do a_nL R R 283 (s_aldl 2 443 ls st h) := a_R_eq ..
set_option maxRecDepth 16384 in
theorem r283_443 (ls : A_V) (st : List Value) (h : A_H) : R 283 443 ls st h = a_do a_nL R R 283 (s_aldl 0 444 ls st h) := a_R_eq ..
set_option maxRecDepth 16384 in
theorem r283_444 (ls : A_V) (st : List Value) (h : A_H) : R 283 444 ls st h = a_do a_nL R R 283 (s_ildl 4 445 ls st h) := a_R_eq ..
set_option maxRecDepth 16384 in
theorem r283_445 (ls : A_V) (st : List Value) (h : A_H) : R 283 445 ls st h = a_do a_nL R R 283 (s_push (.int 1) 446 ls st h) := a_R_eq ..
set_option maxRecDepth 16384 in
theorem r283_446 (ls : A_V) (st : List Value) (h : A_H) : R 283 446 ls st h = a_do a_nL R R 283 (s_bi (fun x y => x + y) 447 ls st h) := a_R_eq ..
set_option maxRecDepth 16384 in
theorem r283_447 (ls : A_V) (st : List Value) (h : A_H) : R 283 447 ls st h = a_do a_nL R R 283 (s_xal 448 ls st h) := a_R_eq ..
set_option maxRecDepth 16384 in
theorem r283_448 (ls : A_V) (st : List Value) (h : A_H) : R 283 448 ls st h = a_do a_nL R R 283 (s_aldl 0 449 ls st h) := a_R_eq ..
set_option maxRecDepth 16384 in
theorem r283_449 (ls : A_V) (st : List Value) (h : A_H) : R 283 449 ls st h = a_do a_nL R R 283 (s_ildl 4 450 ls st h) := a_R_eq ..
set_option maxRecDepth 16384 in
theorem r283_450 (ls : A_V) (st : List Value) (h : A_H) : R 283 450 ls st h = a_do a_nL R R 283 (s_push (.int 2) 451 ls st h) := a_R_eq ..
set_option maxRecDepth 16384 in
theorem r283_451 (ls : A_V) (st : List Value) (h : A_H) : R 283 451 ls st h = a_do a_nL R R 283 (s_bi (fun x y => x + y) 452 ls st h) := a_R_eq ..
set_option maxRecDepth 16384 in
theorem r283_452 (ls : A_V) (st : List Value) (h : A_H) : R 283 452 ls st h = a_do a_nL R R 283 (s_xal 453 ls st h) := a_R_eq ..
set_option maxRecDepth 16384 in
theorem r283_453 (ls : A_V) (st : List Value) (h : A_H) : R 283 453 ls st h = a_do a_nL R R 283 (s_call 16 228 3 6 true 454 ls st h) := a_R_eq ..
set_option maxRecDepth 16384 in
theorem r283_454 (ls : A_V) (st : List Value) (h : A_H) : R 283 454 ls st h = a_do a_nL R R 283 (s_if2 (fun x y => decide (x = y)) 1248 455 ls st h) := a_R_eq ..
set_option maxRecDepth 16384 in
theorem r283_455 (ls : A_V) (st : List Value) (h : A_H) : R 283 455 ls st h = a_do a_nL R R 283 (s_push (.int 0) 456 ls st h) := a_R_eq ..
set_option maxRecDepth 16384 in
theorem r283_456 (ls : A_V) (st : List Value) (h : A_H) : R 283 456 ls st h = a_do a_nL R R 283 (s_zret ls st h) := a_R_eq ..
set_option maxRecDepth 16384 in
theorem r283_457 (ls : A_V) (st : List Value) (h : A_H) : R 283 457 ls st h = a_do a_nL R R 283 (s_aldl 1 458 ls st h) := a_R_eq ..
set_option maxRecDepth 16384 in
theorem r283_458 (ls : A_V) (st : List Value) (h : A_H) : R 283 458 ls st h = a_do a_nL R R 283 (s_aldl 0 459 ls st h) := a_R_eq ..
set_option maxRecDepth 16384 in
theorem r283_459 (ls : A_V) (st : List Value) (h : A_H) : R 283 459 ls st h = a_do a_nL R R 283 (s_ildl 4 460 ls st h) := a_R_eq ..
set_option maxRecDepth 16384 in
theorem r283_460 (ls : A_V) (st : List Value) (h : A_H) : R 283 460 ls st h = a_do a_nL R R 283 (s_push (.int 1) 461 ls st h) := a_R_eq ..
set_option maxRecDepth 16384 in
theorem r283_461 (ls : A_V) (st : List Value) (h : A_H) : R 283 461 ls st h = a_do a_nL R R 283 (s_bi (fun x y => x + y) 462 ls st h) := a_R_eq ..
set_option maxRecDepth 16384 in
theorem r283_462 (ls : A_V) (st : List Value) (h : A_H) : R 283 462 ls st h = a_do a_nL R R 283 (s_xal 463 ls st h) := a_R_eq ..
set_option maxRecDepth 16384 in
theorem r283_463 (ls : A_V) (st : List Value) (h : A_H) : R 283 463 ls st h = a_do a_nL R R 283 (s_aldl 0 464 ls st h) := a_R_eq ..
set_option maxRecDepth 16384 in
theorem r283_464 (ls : A_V) (st : List Value) (h : A_H) : R 283 464 ls st h = a_do a_nL R R 283 (s_ildl 4 465 ls st h) := a_R_eq ..
set_option maxRecDepth 16384 in
theorem r283_465 (ls : A_V) (st : List Value) (h : A_H) : R 283 465 ls st h = a_do a_nL R R 283 (s_push (.int 2) 466 ls st h) := a_R_eq ..
set_option maxRecDepth 16384 in
theorem r283_466 (ls : A_V) (st : List Value) (h : A_H) : R 283 466 ls st h = a_do a_nL R R 283 (s_bi (fun x y => x + y) 467 ls st h) := a_R_eq ..
set_option maxRecDepth 16384 in
theorem r283_467 (ls : A_V) (st : List Value) (h : A_H) : R 283 467 ls st h = a_do a_nL R R 283 (s_xal 468 ls st h) := a_R_eq ..
set_option maxRecDepth 16384 in
theorem r283_468 (ls : A_V) (st : List Value) (h : A_H) : R 283 468 ls st h = a_do a_nL R R 283 (s_call 14 92 3 5 true 469 ls st h) := a_R_eq ..
set_option maxRecDepth 16384 in
theorem r283_469 (ls : A_V) (st : List Value) (h : A_H) : R 283 469 ls st h = a_do a_nL R R 283 (s_aldl 2 470 ls st h) := a_R_eq ..
set_option maxRecDepth 16384 in
theorem r283_470 (ls : A_V) (st : List Value) (h : A_H) : R 283 470 ls st h = a_do a_nL R R 283 (s_aldl 0 471 ls st h) := a_R_eq ..
set_option maxRecDepth 16384 in
theorem r283_471 (ls : A_V) (st : List Value) (h : A_H) : R 283 471 ls st h = a_do a_nL R R 283 (s_ildl 4 472 ls st h) := a_R_eq ..
set_option maxRecDepth 16384 in
theorem r283_472 (ls : A_V) (st : List Value) (h : A_H) : R 283 472 ls st h = a_do a_nL R R 283 (s_push (.int 1) 473 ls st h) := a_R_eq ..
set_option maxRecDepth 16384 in
theorem r283_473 (ls : A_V) (st : List Value) (h : A_H) : R 283 473 ls st h = a_do a_nL R R 283 (s_bi (fun x y => x + y) 474 ls st h) := a_R_eq ..
set_option maxRecDepth 16384 in
theorem r283_474 (ls : A_V) (st : List Value) (h : A_H) : R 283 474 ls st h = a_do a_nL R R 283 (s_xal 475 ls st h) := a_R_eq ..
set_option maxRecDepth 16384 in
theorem r283_475 (ls : A_V) (st : List Value) (h : A_H) : R 283 475 ls st h = a_do a_nL R R 283 (s_aldl 0 476 ls st h) := a_R_eq ..
set_option maxRecDepth 16384 in
theorem r283_476 (ls : A_V) (st : List Value) (h : A_H) : R 283 476 ls st h = a_do a_nL R R 283 (s_ildl 4 477 ls st h) := a_R_eq ..
set_option maxRecDepth 16384 in
theorem r283_477 (ls : A_V) (st : List Value) (h : A_H) : R 283 477 ls st h = a_do a_nL R R 283 (s_push (.int 2) 478 ls st h) := a_R_eq ..
set_option maxRecDepth 16384 in
theorem r283_478 (ls : A_V) (st : List Value) (h : A_H) : R 283 478 ls st h = a_do a_nL R R 283 (s_bi (fun x y => x + y) 479 ls st h) := a_R_eq ..
set_option maxRecDepth 16384 in
theorem r283_479 (ls : A_V) (st : List Value) (h : A_H) : R 283 479 ls st h = a_do a_nL R R 283 (s_xal 480 ls st h) := a_R_eq ..
set_option maxRecDepth 16384 in
theorem r283_480 (ls : A_V) (st : List Value) (h : A_H) : R 283 480 ls st h = a_do a_nL R R 283 (s_call 16 229 3 6 true 481 ls st h) := a_R_eq ..
set_option maxRecDepth 16384 in
theorem r283_481 (ls : A_V) (st : List Value) (h : A_H) : R 283 481 ls st h = a_do a_nL R R 283 (s_if2 (fun x y => decide (x = y)) 1248 482 ls st h) := a_R_eq ..
set_option maxRecDepth 16384 in
theorem r283_482 (ls : A_V) (st : List Value) (h : A_H) : R 283 482 ls st h = a_do a_nL R R 283 (s_push (.int 0) 483 ls st h) := a_R_eq ..
set_option maxRecDepth 16384 in
theorem r283_483 (ls : A_V) (st : List Value) (h : A_H) : R 283 483 ls st h = a_do a_nL R R 283 (s_zret ls st h) := a_R_eq ..
set_option maxRecDepth 16384 in
theorem r283_484 (ls : A_V) (st : List Value) (h : A_H) : R 283 484 ls st h = a_do a_nL R R 283 (s_aldl 1 485 ls st h) := a_R_eq ..
set_option maxRecDepth 16384 in
theorem r283_485 (ls : A_V) (st : List Value) (h : A_H) : R 283 485 ls st h = a_do a_nL R R 283 (s_aldl 0 486 ls st h) := a_R_eq ..
set_option maxRecDepth 16384 in
theorem r283_486 (ls : A_V) (st : List Value) (h : A_H) : R 283 486 ls st h = a_do a_nL R R 283 (s_ildl 4 487 ls st h) := a_R_eq ..
set_option maxRecDepth 16384 in
theorem r283_487 (ls : A_V) (st : List Value) (h : A_H) : R 283 487 ls st h = a_do a_nL R R 283 (s_push (.int 1) 488 ls st h) := a_R_eq ..
set_option maxRecDepth 16384 in
theorem r283_488 (ls : A_V) (st : List Value) (h : A_H) : R 283 488 ls st h = a_do a_nL R R 283 (s_bi (fun x y => x + y) 489 ls st h) := a_R_eq ..
set_option maxRecDepth 16384 in
theorem r283_489 (ls : A_V) (st : List Value) (h : A_H) : R 283 489 ls st h = a_do a_nL R R 283 (s_xal 490 ls st h) := a_R_eq ..
set_option maxRecDepth 16384 in
theorem r283_490 (ls : A_V) (st : List Value) (h : A_H) : R 283 490 ls st h = a_do a_nL R R 283 (s_aldl 0 491 ls st h) := a_R_eq ..
set_option maxRecDepth 16384 in
theorem r283_491 (ls : A_V) (st : List Value) (h : A_H) : R 283 491 ls st h = a_do a_nL R R 283 (s_ildl 4 492 ls st h) := a_R_eq ..
set_option maxRecDepth 16384 in
theorem r283_492 (ls : A_V) (st : List Value) (h : A_H) : R 283 492 ls st h = a_do a_nL R R 283 (s_push (.int 2) 493 ls st h) := a_R_eq ..
set_option maxRecDepth 16384 in
theorem r283_493 (ls : A_V) (st : List Value) (h : A_H) : R 283 493 ls st h = a_do a_nL R R 283 (s_bi (fun x y => x + y) 494 ls st h) := a_R_eq ..
set_option maxRecDepth 16384 in
theorem r283_494 (ls : A_V) (st : List Value) (h : A_H) : R 283 494 ls st h = a_do a_nL R R 283 (s_xal 495 ls st h) := a_R_eq ..
set_option maxRecDepth 16384 in
theorem r283_495 (ls : A_V) (st : List Value) (h : A_H) : R 283 495 ls st h = a_do a_nL R R 283 (s_aldl 0 496 ls st h) := a_R_eq ..
set_option maxRecDepth 16384 in
theorem r283_496 (ls : A_V) (st : List Value) (h : A_H) : R 283 496 ls st h = a_do a_nL R R 283 (s_ildl 4 497 ls st h) := a_R_eq ..
set_option maxRecDepth 16384 in
theorem r283_497 (ls : A_V) (st : List Value) (h : A_H) : R 283 497 ls st h = a_do a_nL R R 283 (s_push (.int 3) 498 ls st h) := a_R_eq ..
set_option maxRecDepth 16384 in
theorem r283_498 (ls : A_V) (st : List Value) (h : A_H) : R 283 498 ls st h = a_do a_nL R R 283 (s_bi (fun x y => x + y) 499 ls st h) := a_R_eq ..
set_option maxRecDepth 16384 in
theorem r283_499 (ls : A_V) (st : List Value) (h : A_H) : R 283 499 ls st h = a_do a_nL R R 283 (s_xal 500 ls st h) := a_R_eq ..
set_option maxRecDepth 16384 in
theorem r283_500 (ls : A_V) (st : List Value) (h : A_H) : R 283 500 ls st h = a_do a_nL R R 283 (s_call 14 93 4 11 true 501 ls st h) := a_R_eq ..
set_option maxRecDepth 16384 in
theorem r283_501 (ls : A_V) (st : List Value) (h : A_H) : R 283 501 ls st h = a_do a_nL R R 283 (s_aldl 2 502 ls st h) := a_R_eq ..
set_option maxRecDepth 16384 in
theorem r283_502 (ls : A_V) (st : List Value) (h : A_H) : R 283 502 ls st h = a_do a_nL R R 283 (s_aldl 0 503 ls st h) := a_R_eq ..
set_option maxRecDepth 16384 in
theorem r283_503 (ls : A_V) (st : List Value) (h : A_H) : R 283 503 ls st h = a_do a_nL R R 283 (s_ildl 4 504 ls st h) := a_R_eq ..
set_option maxRecDepth 16384 in
theorem r283_504 (ls : A_V) (st : List Value) (h : A_H) : R 283 504 ls st h = a_do a_nL R R 283 (s_push (.int 1) 505 ls st h) := a_R_eq ..
set_option maxRecDepth 16384 in
theorem r283_505 (ls : A_V) (st : List Value) (h : A_H) : R 283 505 ls st h = a_do a_nL R R 283 (s_bi (fun x y => x + y) 506 ls st h) := a_R_eq ..
set_option maxRecDepth 16384 in
theorem r283_506 (ls : A_V) (st : List Value) (h : A_H) : R 283 506 ls st h = a_do a_nL R R 283 (s_xal 507 ls st h) := a_R_eq ..
set_option maxRecDepth 16384 in
theorem r283_507 (ls : A_V) (st : List Value) (h : A_H) : R 283 507 ls st h = a_do a_nL R R 283 (s_aldl 0 508 ls st h) := a_R_eq ..
set_option maxRecDepth 16384 in
theorem r283_508 (ls : A_V) (st : List Value) (h : A_H) : R 283 508 ls st h = a_do a_nL R R 283 (s_ildl 4 509 ls st h) := a_R_eq ..
set_option maxRecDepth 16384 in
theorem r283_509 (ls : A_V) (st : List Value) (h : A_H) : R 283 509 ls st h = a_do a_nL R R 283 (s_push (.int 2) 510 ls st h) := a_R_eq ..
set_option maxRecDepth 16384 in
theorem r283_510 (ls : A_V) (st : List Value) (h : A_H) : R 283 510 ls st h = a_do a_nL R R 283 (s_bi (fun x y => x + y) 511 ls st h) := a_R_eq ..
set_option maxRecDepth 16384 in
theorem r283_511 (ls : A_V) (st : List Value) (h : A_H) : R 283 511 ls st h = a_do a_nL R R 283 (s_xal 512 ls st h) := a_R_eq ..
set_option maxRecDepth 16384 in
theorem r283_512 (ls : A_V) (st : List Value) (h : A_H) : R 283 512 ls st h = a_do a_nL R R 283 (s_aldl 0 513 ls st h) := a_R_eq ..
set_option maxRecDepth 16384 in
theorem r283_513 (ls : A_V) (st : List Value) (h : A_H) : R 283 513 ls st h = a_do a_nL R R 283 (s_ildl 4 514 ls st h) := a_R_eq ..
set_option maxRecDepth 16384 in
theorem r283_514 (ls : A_V) (st : List Value) (h : A_H) : R 283 514 ls st h = a_do a_nL R R 283 (s_push (.int 3) 515 ls st h) := a_R_eq ..
set_option maxRecDepth 16384 in
theorem r283_515 (ls : A_V) (st : List Value) (h : A_H) : R 283 515 ls st h = a_do a_nL R R 283 (s_bi (fun x y => x + y) 516 ls st h) := a_R_eq ..
set_option maxRecDepth 16384 in
theorem r283_516 (ls : A_V) (st : List Value) (h : A_H) : R 283 516 ls st h = a_do a_nL R R 283 (s_xal 517 ls st h) := a_R_eq ..
set_option maxRecDepth 16384 in
theorem r283_517 (ls : A_V) (st : List Value) (h : A_H) : R 283 517 ls st h = a_do a_nL R R 283 (s_call 16 230 4 8 true 518 ls st h) := a_R_eq ..
set_option maxRecDepth 16384 in
theorem r283_518 (ls : A_V) (st : List Value) (h : A_H) : R 283 518 ls st h = a_do a_nL R R 283 (s_if2 (fun x y => decide (x = y)) 1248 519 ls st h) := a_R_eq ..
set_option maxRecDepth 16384 in
theorem r283_519 (ls : A_V) (st : List Value) (h : A_H) : R 283 519 ls st h = a_do a_nL R R 283 (s_push (.int 0) 520 ls st h) := a_R_eq ..
set_option maxRecDepth 16384 in
theorem r283_520 (ls : A_V) (st : List Value) (h : A_H) : R 283 520 ls st h = a_do a_nL R R 283 (s_zret ls st h) := a_R_eq ..
set_option maxRecDepth 16384 in
theorem r283_521 (ls : A_V) (st : List Value) (h : A_H) : R 283 521 ls st h = a_do a_nL R R 283 (s_aldl 1 522 ls st h) := a_R_eq ..
set_option maxRecDepth 16384 in
theorem r283_522 (ls : A_V) (st : List Value) (h : A_H) : R 283 522 ls st h = a_do a_nL R R 283 (s_aldl 0 523 ls st h) := a_R_eq ..
set_option maxRecDepth 16384 in
theorem r283_523 (ls : A_V) (st : List Value) (h : A_H) : R 283 523 ls st h = a_do a_nL R R 283 (s_ildl 4 524 ls st h) := a_R_eq ..
set_option maxRecDepth 16384 in
theorem r283_524 (ls : A_V) (st : List Value) (h : A_H) : R 283 524 ls st h = a_do a_nL R R 283 (s_push (.int 1) 525 ls st h) := a_R_eq ..
set_option maxRecDepth 16384 in
theorem r283_525 (ls : A_V) (st : List Value) (h : A_H) : R 283 525 ls st h = a_do a_nL R R 283 (s_bi (fun x y => x + y) 526 ls st h) := a_R_eq ..
set_option maxRecDepth 16384 in
theorem r283_526 (ls : A_V) (st : List Value) (h : A_H) : R 283 526 ls st h = a_do a_nL R R 283 (s_xal 527 ls st h) := a_R_eq ..
set_option maxRecDepth 16384 in
theorem r283_527 (ls : A_V) (st : List Value) (h : A_H) : R 283 527 ls st h = a_do a_nL R R 283 (s_aldl 0 528 ls st h) := a_R_eq ..
set_option maxRecDepth 16384 in
theorem r283_528 (ls : A_V) (st : List Value) (h : A_H) : R 283 528 ls st h = a_do a_nL R R 283 (s_ildl 4 529 ls st h) := a_R_eq ..
set_option maxRecDepth 16384 in
theorem r283_529 (ls : A_V) (st : List Value) (h : A_H) : R 283 529 ls st h = a_do a_nL R R 283 (s_push (.int 2) 530 ls st h) := a_R_eq ..
set_option maxRecDepth 16384 in
theorem r283_530 (ls : A_V) (st : List Value) (h : A_H) : R 283 530 ls st h = a_do a_nL R R 283 (s_bi (fun x y => x + y) 531 ls st h) := a_R_eq ..
set_option maxRecDepth 16384 in
theorem r283_531 (ls : A_V) (st : List Value) (h : A_H) : R 283 531 ls st h = a_do a_nL R R 283 (s_xal 532 ls st h) := a_R_eq ..
set_option maxRecDepth 16384 in
theorem r283_532 (ls : A_V) (st : List Value) (h : A_H) : R 283 532 ls st h = a_do a_nL R R 283 (s_call 14 94 3 7 true 533 ls st h) := a_R_eq ..
set_option maxRecDepth 16384 in
theorem r283_533 (ls : A_V) (st : List Value) (h : A_H) : R 283 533 ls st h = a_do a_nL R R 283 (s_aldl 2 534 ls st h) := a_R_eq ..
set_option maxRecDepth 16384 in
theorem r283_534 (ls : A_V) (st : List Value) (h : A_H) : R 283 534 ls st h = a_do a_nL R R 283 (s_aldl 0 535 ls st h) := a_R_eq ..
set_option maxRecDepth 16384 in
theorem r283_535 (ls : A_V) (st : List Value) (h : A_H) : R 283 535 ls st h = a_do a_nL R R 283 (s_ildl 4 536 ls st h) := a_R_eq ..
set_option maxRecDepth 16384 in
theorem r283_536 (ls : A_V) (st : List Value) (h : A_H) : R 283 536 ls st h = a_do a_nL R R 283 (s_push (.int 1) 537 ls st h) := a_R_eq ..
set_option maxRecDepth 16384 in
theorem r283_537 (ls : A_V) (st : List Value) (h : A_H) : R 283 537 ls st h = a_do a_nL R R 283 (s_bi (fun x y => x + y) 538 ls st h) := a_R_eq ..
set_option maxRecDepth 16384 in
theorem r283_538 (ls : A_V) (st : List Value) (h : A_H) : R 283 538 ls st h = a_do a_nL R R 283 (s_xal 539 ls st h) := a_R_eq ..
set_option maxRecDepth 16384 in
theorem r283_539 (ls : A_V) (st : List Value) (h : A_H) : R 283 539 ls st h = a_do a_nL R R 283 (s_aldl 0 540 ls st h) := a_R_eq ..
set_option maxRecDepth 16384 in
theorem r283_540 (ls : A_V) (st : List Value) (h : A_H) : R 283 540 ls st h = a_do a_nL R R 283 (s_ildl 4 541 ls st h) := a_R_eq ..
set_option maxRecDepth 16384 in
theorem r283_541 (ls : A_V) (st : List Value) (h : A_H) : R 283 541 ls st h = a_do a_nL R R 283 (s_push (.int 2) 542 ls st h) := a_R_eq ..
set_option maxRecDepth 16384 in
theorem r283_542 (ls : A_V) (st : List Value) (h : A_H) : R 283 542 ls st h = a_do a_nL R R 283 (s_bi (fun x y => x + y) 543 ls st h) := a_R_eq ..
set_option maxRecDepth 16384 in
theorem r283_543 (ls : A_V) (st : List Value) (h : A_H) : R 283 543 ls st h = a_do a_nL R R 283 (s_xal 544 ls st h) := a_R_eq ..
set_option maxRecDepth 16384 in
theorem r283_544 (ls : A_V) (st : List Value) (h : A_H) : R 283 544 ls st h = a_do a_nL R R 283 (s_call 16 231 3 6 true 545 ls st h) := a_R_eq ..
set_option maxRecDepth 16384 in
theorem r283_545 (ls : A_V) (st : List Value) (h : A_H) : R 283 545 ls st h = a_do a_nL R R 283 (s_if2 (fun x y => decide (x = y)) 1248 546 ls st h) := a_R_eq ..
set_option maxRecDepth 16384 in
theorem r283_546 (ls : A_V) (st : List Value) (h : A_H) : R 283 546 ls st h = a_do a_nL R R 283 (s_push (.int 0) 547 ls st h) := a_R_eq ..
set_option maxRecDepth 16384 in
theorem r283_547 (ls : A_V) (st : List Value) (h : A_H) : R 283 547 ls st h = a_do a_nL R R 283 (s_zret ls st h) := a_R_eq ..
set_option maxRecDepth 16384 in
theorem r283_548 (ls : A_V) (st : List Value) (h : A_H) : R 283 548 ls st h = a_do a_nL R R 283 (s_aldl 1 549 ls st h) := a_R_eq ..
set_option maxRecDepth 16384 in
theorem r283_549 (ls : A_V) (st : List Value) (h : A_H) : R 283 549 ls st h = a_do a_nL R R 283 (s_aldl 0 550 ls st h) := a_R_eq ..
set_option maxRecDepth 16384 in
theorem r283_550 (ls : A_V) (st : List Value) (h : A_H) : R 283 550 ls st h = a_do a_nL R R 283 (s_ildl 4 551 ls st h) := a_R_eq ..
set_option maxRecDepth 16384 in
theorem r283_551 (ls : A_V) (st : List Value) (h : A_H) : R 283 551 ls st h = a_do a_nL R R 283 (s_push (.int 1) 552 ls st h) := a_R_eq ..
set_option maxRecDepth 16384 in
theorem r283_552 (ls : A_V) (st : List Value) (h : A_H) : R 283 552 ls st h = a_do a_nL R R 283 (s_bi (fun x y => x + y) 553 ls st h) := a_R_eq ..
set_option maxRecDepth 16384 in
theorem r283_553 (ls : A_V) (st : List Value) (h : A_H) : R 283 553 ls st h = a_do a_nL R R 283 (s_xal 554 ls st h) := a_R_eq ..
set_option maxRecDepth 16384 in
theorem r283_554 (ls : A_V) (st : List Value) (h : A_H) : R 283 554 ls st h = a_do a_nL R R 283 (s_aldl 0 555 ls st h) := a_R_eq ..
set_option maxRecDepth 16384 in
theorem r283_555 (ls : A_V) (st : List Value) (h : A_H) : R 283 555 ls st h = a_do a_nL R R 283 (s_ildl 4 556 ls st h) := a_R_eq ..
set_option maxRecDepth 16384 in
theorem r283_556 (ls : A_V) (st : List Value) (h : A_H) : R 283 556 ls st h = a_do a_nL R R 283 (s_push (.int 2) 557 ls st h) := a_R_eq ..
set_option maxRecDepth 16384 in
theorem r283_557 (ls : A_V) (st : List Value) (h : A_H) : R 283 557 ls st h = a_do a_nL R R 283 (s_bi (fun x y => x + y) 558 ls st h) := a_R_eq ..
set_option maxRecDepth 16384 in
theorem r283_558 (ls : A_V) (st : List Value) (h : A_H) : R 283 558 ls st h = a_do a_nL R R 283 (s_xal 559 ls st h) := a_R_eq ..
set_option maxRecDepth 16384 in
theorem r283_559 (ls : A_V) (st : List Value) (h : A_H) : R 283 559 ls st h = a_do a_nL R R 283 (s_call 14 95 3 3 true 560 ls st h) := a_R_eq ..
set_option maxRecDepth 16384 in
theorem r283_560 (ls : A_V) (st : List Value) (h : A_H) : R 283 560 ls st h = a_do a_nL R R 283 (s_aldl 2 561 ls st h) := a_R_eq ..
set_option maxRecDepth 16384 in
theorem r283_561 (ls : A_V) (st : List Value) (h : A_H) : R 283 561 ls st h = a_do a_nL R R 283 (s_aldl 0 562 ls st h) := a_R_eq ..
set_option maxRecDepth 16384 in
theorem r283_562 (ls : A_V) (st : List Value) (h : A_H) : R 283 562 ls st h = a_do a_nL R R 283 (s_ildl 4 563 ls st h) := a_R_eq ..
set_option maxRecDepth 16384 in
theorem r283_563 (ls : A_V) (st : List Value) (h : A_H) : R 283 563 ls st h = a_do a_nL R R 283 (s_push (.int 1) 564 ls st h) := a_R_eq ..
set_option maxRecDepth 16384 in
theorem r283_564 (ls : A_V) (st : List Value) (h : A_H) : R 283 564 ls st h = a_do a_nL R R 283 (s_bi (fun x y => x + y) 565 ls st h) := a_R_eq ..
set_option maxRecDepth 16384 in
theorem r283_565 (ls : A_V) (st : List Value) (h : A_H) : R 283 565 ls st h = a_do a_nL R R 283 (s_xal 566 ls st h) := a_R_eq ..
set_option maxRecDepth 16384 in
theorem r283_566 (ls : A_V) (st : List Value) (h : A_H) : R 283 566 ls st h = a_do a_nL R R 283 (s_aldl 0 567 ls st h) := a_R_eq ..
set_option maxRecDepth 16384 in
theorem r283_567 (ls : A_V) (st : List Value) (h : A_H) : R 283 567 ls st h = a_do a_nL R R 283 (s_ildl 4 568 ls st h) := a_R_eq ..
set_option maxRecDepth 16384 in
theorem r283_568 (ls : A_V) (st : List Value) (h : A_H) : R 283 568 ls st h = a_do a_nL R R 283 (s_push (.int 2) 569 ls st h) := a_R_eq ..
set_option maxRecDepth 16384 in
theorem r283_569 (ls : A_V) (st : List Value) (h : A_H) : R 283 569 ls st h = a_do a_nL R R 283 (s_bi (fun x y => x + y) 570 ls st h) := a_R_eq ..
set_option maxRecDepth 16384 in
theorem r283_570 (ls : A_V) (st : List Value) (h : A_H) : R 283 570 ls st h = a_do a_nL R R 283 (s_xal 571 ls st h) := a_R_eq ..
set_option maxRecDepth 16384 in
theorem r283_571 (ls : A_V) (st : List Value) (h : A_H) : R 283 571 ls st h = a_do a_nL R R 283 (s_call 16 233 3 3 true 572 ls st h) := a_R_eq ..
set_option maxRecDepth 16384 in
theorem r283_572 (ls : A_V) (st : List Value) (h : A_H) : R 283 572 ls st h = a_do a_nL R R 283 (s_if2 (fun x y => decide (x = y)) 1248 573 ls st h) := a_R_eq ..
set_option maxRecDepth 16384 in
theorem r283_573 (ls : A_V) (st : List Value) (h : A_H) : R 283 573 ls st h = a_do a_nL R R 283 (s_push (.int 0) 574 ls st h) := a_R_eq ..
set_option maxRecDepth 16384 in
theorem r283_574 (ls : A_V) (st : List Value) (h : A_H) : R 283 574 ls st h = a_do a_nL R R 283 (s_zret ls st h) := a_R_eq ..
set_option maxRecDepth 16384 in
theorem r283_575 (ls : A_V) (st : List Value) (h : A_H) : R 283 575 ls st h = a_do a_nL R R 283 (s_aldl 1 576 ls st h) := a_R_eq ..
set_option maxRecDepth 16384 in
theorem r283_576 (ls : A_V) (st : List Value) (h : A_H) : R 283 576 ls st h = a_do a_nL R R 283 (s_aldl 0 577 ls st h) := a_R_eq ..
set_option maxRecDepth 16384 in
theorem r283_577 (ls : A_V) (st : List Value) (h : A_H) : R 283 577 ls st h = a_do a_nL R R 283 (s_ildl 4 578 ls st h) := a_R_eq ..
set_option maxRecDepth 16384 in
theorem r283_578 (ls : A_V) (st : List Value) (h : A_H) : R 283 578 ls st h = a_do a_nL R R 283 (s_push (.int 1) 579 ls st h) := a_R_eq ..
set_option maxRecDepth 16384 in
theorem r283_579 (ls : A_V) (st : List Value) (h : A_H) : R 283 579 ls st h = a_do a_nL R R 283 (s_bi (fun x y => x + y) 580 ls st h) := a_R_eq ..
set_option maxRecDepth 16384 in
theorem r283_580 (ls : A_V) (st : List Value) (h : A_H) : R 283 580 ls st h = a_do a_nL R R 283 (s_xal 581 ls st h) := a_R_eq ..
set_option maxRecDepth 16384 in
theorem r283_581 (ls : A_V) (st : List Value) (h : A_H) : R 283 581 ls st h = a_do a_nL R R 283 (s_aldl 0 582 ls st h) := a_R_eq ..
set_option maxRecDepth 16384 in
theorem r283_582 (ls : A_V) (st : List Value) (h : A_H) : R 283 582 ls st h = a_do a_nL R R 283 (s_ildl 4 583 ls st h) := a_R_eq ..
set_option maxRecDepth 16384 in
theorem r283_583 (ls : A_V) (st : List Value) (h : A_H) : R 283 583 ls st h = a_do a_nL R R 283 (s_push (.int 2) 584 ls st h) := a_R_eq ..
set_option maxRecDepth 16384 in
theorem r283_584 (ls : A_V) (st : List Value) (h : A_H) : R 283 584 ls st h = a_do a_nL R R 283 (s_bi (fun x y => x + y) 585 ls st h) := a_R_eq ..
set_option maxRecDepth 16384 in
theorem r283_585 (ls : A_V) (st : List Value) (h : A_H) : R 283 585 ls st h = a_do a_nL R R 283 (s_xal 586 ls st h) := a_R_eq ..
set_option maxRecDepth 16384 in
theorem r283_586 (ls : A_V) (st : List Value) (h : A_H) : R 283 586 ls st h = a_do a_nL R R 283 (s_call 14 96 3 3 true 587 ls st h) := a_R_eq ..
set_option maxRecDepth 16384 in
theorem r283_587 (ls : A_V) (st : List Value) (h : A_H) : R 283 587 ls st h = a_do a_nL R R 283 (s_aldl 2 588 ls st h) := a_R_eq ..
set_option maxRecDepth 16384 in
theorem r283_588 (ls : A_V) (st : List Value) (h : A_H) : R 283 588 ls st h = a_do a_nL R R 283 (s_aldl 0 589 ls st h) := a_R_eq ..
set_option maxRecDepth 16384 in
theorem r283_589 (ls : A_V) (st : List Value) (h : A_H) : R 283 589 ls st h = a_do a_nL R R 283 (s_ildl 4 590 ls st h) := a_R_eq ..
set_option maxRecDepth 16384 in
theorem r283_590 (ls : A_V) (st : List Value) (h : A_H) : R 283 590 ls st h = a_do a_nL R R 283 (s_push (.int 1) 591 ls st h) := a_R_eq ..
set_option maxRecDepth 16384 in
theorem r283_591 (ls : A_V) (st : List Value) (h : A_H) : R 283 591 ls st h = a_do a_nL R R 283 (s_bi (fun x y => x + y) 592 ls st h) := a_R_eq ..
set_option maxRecDepth 16384 in
theorem r283_592 (ls : A_V) (st : List Value) (h : A_H) : R 283 592 ls st h = a_do a_nL R R 283 (s_xal 593 ls st h) := a_R_eq ..
set_option maxRecDepth 16384 in
theorem r283_593 (ls : A_V) (st : List Value) (h : A_H) : R 283 593 ls st h = a_do a_nL R R 283 (s_aldl 0 594 ls st h) := a_R_eq ..
set_option maxRecDepth 16384 in
theorem r283_594 (ls : A_V) (st : List Value) (h : A_H) : R 283 594 ls st h = a_do a_nL R R 283 (s_ildl 4 595 ls st h) := a_R_eq ..
set_option maxRecDepth 16384 in
theorem r283_595 (ls : A_V) (st : List Value) (h : A_H) : R 283 595 ls st h = a_do a_nL R R 283 (s_push (.int 2) 596 ls st h) := a_R_eq ..
set_option maxRecDepth 16384 in
theorem r283_596 (ls : A_V) (st : List Value) (h : A_H) : R 283 596 ls st h = a_do a_nL R R 283 (s_bi (fun x y => x + y) 597 ls st h) := a_R_eq ..
set_option maxRecDepth 16384 in
theorem r283_597 (ls : A_V) (st : List Value) (h : A_H) : R 283 597 ls st h = a_do a_nL R R 283 (s_xal 598 ls st h) := a_R_eq ..
set_option maxRecDepth 16384 in
theorem r283_598 (ls : A_V) (st : List Value) (h : A_H) : R 283 598 ls st h = a_do a_nL R R 283 (s_call 16 234 3 3 true 599 ls st h) := a_R_eq ..
set_option maxRecDepth 16384 in
theorem r283_599 (ls : A_V) (st : List Value) (h : A_H) : R 283 599 ls st h = a_do a_nL R R 283 (s_if2 (fun x y => decide (x = y)) 1248 600 ls st h) := a_R_eq ..
set_option maxRecDepth 16384 in
theorem r283_600 (ls : A_V) (st : List Value) (h : A_H) : R 283 600 ls st h = a_do a_nL R R 283 (s_push (.int 0) 601 ls st h) := a_R_eq ..
set_option maxRecDepth 16384 in
theorem r283_601 (ls : A_V) (st : List Value) (h : A_H) : R 283 601 ls st h = a_do a_nL R R 283 (s_zret ls st h) := a_R_eq ..
set_option maxRecDepth 16384 in
theorem r283_602 (ls : A_V) (st : List Value) (h : A_H) : R 283 602 ls st h = a_do a_nL R R 283 (s_aldl 1 603 ls st h) := a_R_eq ..
set_option maxRecDepth 16384 in
theorem r283_603 (ls : A_V) (st : List Value) (h : A_H) : R 283 603 ls st h = a_do a_nL R R 283 (s_aldl 0 604 ls st h) := a_R_eq ..
set_option maxRecDepth 16384 in
theorem r283_604 (ls : A_V) (st : List Value) (h : A_H) : R 283 604 ls st h = a_do a_nL R R 283 (s_ildl 4 605 ls st h) := a_R_eq ..
set_option maxRecDepth 16384 in
theorem r283_605 (ls : A_V) (st : List Value) (h : A_H) : R 283 605 ls st h = a_do a_nL R R 283 (s_push (.int 1) 606 ls st h) := a_R_eq ..
set_option maxRecDepth 16384 in
theorem r283_606 (ls : A_V) (st : List Value) (h : A_H) : R 283 606 ls st h = a_do a_nL R R 283 (s_bi (fun x y => x + y) 607 ls st h) := a_R_eq ..
set_option maxRecDepth 16384 in
theorem r283_607 (ls : A_V) (st : List Value) (h : A_H) : R 283 607 ls st h = a_do a_nL R R 283 (s_xal 608 ls st h) := a_R_eq ..
set_option maxRecDepth 16384 in
theorem r283_608 (ls : A_V) (st : List Value) (h : A_H) : R 283 608 ls st h = a_do a_nL R R 283 (s_aldl 0 609 ls st h) := a_R_eq ..
set_option maxRecDepth 16384 in
theorem r283_609 (ls : A_V) (st : List Value) (h : A_H) : R 283 609 ls st h = a_do a_nL R R 283 (s_ildl 4 610 ls st h) := a_R_eq ..
set_option maxRecDepth 16384 in
theorem r283_610 (ls : A_V) (st : List Value) (h : A_H) : R 283 610 ls st h = a_do a_nL R R 283 (s_push (.int 2) 611 ls st h) := a_R_eq ..
set_option maxRecDepth 16384 in
theorem r283_611 (ls : A_V) (st : List Value) (h : A_H) : R 283 611 ls st h = a_do a_nL R R 283 (s_bi (fun x y => x + y) 612 ls st h) := a_R_eq ..
set_option maxRecDepth 16384 in
theorem r283_612 (ls : A_V) (st : List Value) (h : A_H) : R 283 612 ls st h = a_do a_nL R R 283 (s_xal 613 ls st h) := a_R_eq ..
set_option maxRecDepth 16384 in
theorem r283_613 (ls : A_V) (st : List Value) (h : A_H) : R 283 613 ls st h = a_do a_nL R R 283 (s_aldl 0 614 ls st h) := a_R_eq ..
set_option maxRecDepth 16384 in
theorem r283_614 (ls : A_V) (st : List Value) (h : A_H) : R 283 614 ls st h = a_do a_nL R R 283 (s_ildl 4 615 ls st h) := a_R_eq ..
set_option maxRecDepth 16384 in
theorem r283_615 (ls : A_V) (st : List Value) (h : A_H) : R 283 615 ls st h = a_do a_nL R R 283 (s_push (.int 3) 616 ls st h) := a_R_eq ..
set_option maxRecDepth 16384 in
theorem r283_616 (ls : A_V) (st : List Value) (h : A_H) : R 283 616 ls st h = a_do a_nL R R 283 (s_bi (fun x y => x + y) 617 ls st h) := a_R_eq ..
set_option maxRecDepth 16384 in
theorem r283_617 (ls : A_V) (st : List Value) (h : A_H) : R 283 617 ls st h = a_do a_nL R R 283 (s_xal 618 ls st h) := a_R_eq ..
set_option maxRecDepth 16384 in
theorem r283_618 (ls : A_V) (st : List Value) (h : A_H) : R 283 618 ls st h = a_do a_nL R R 283 (s_call 14 98 4 4 true 619 ls st h) := a_R_eq ..
set_option maxRecDepth 16384 in
theorem r283_619 (ls : A_V) (st : List Value) (h : A_H) : R 283 619 ls st h = a_do a_nL R R 283 (s_aldl 2 620 ls st h) := a_R_eq ..
set_option maxRecDepth 16384 in
theorem r283_620 (ls : A_V) (st : List Value) (h : A_H) : R 283 620 ls st h = a_do a_nL R R 283 (s_aldl 0 621 ls st h) := a_R_eq ..
set_option maxRecDepth 16384 in
theorem r283_621 (ls : A_V) (st : List Value) (h : A_H) : R 283 621 ls st h = a_do a_nL R R 283 (s_ildl 4 622 ls st h) := a_R_eq ..
set_option maxRecDepth 16384 in
theorem r283_622 (ls : A_V) (st : List Value) (h : A_H) : R 283 622 ls st h = a_do a_nL R R 283 (s_push (.int 1) 623 ls st h) := a_R_eq ..
set_option maxRecDepth 16384 in
theorem r283_623 (ls : A_V) (st : List Value) (h : A_H) : R 283 623 ls st h = a_do a_nL R R 283 (s_bi (fun x y => x + y) 624 ls st h) := a_R_eq ..
set_option maxRecDepth 16384 in
theorem r283_624 (ls : A_V) (st : List Value) (h : A_H) : R 283 624 ls st h = a_do a_nL R R 283 (s_xal 625 ls st h) := a_R_eq ..
set_option maxRecDepth 16384 in
theorem r283_625 (ls : A_V) (st : List Value) (h : A_H) : R 283 625 ls st h = a_do a_nL R R 283 (s_aldl 0 626 ls st h) := a_R_eq ..
set_option maxRecDepth 16384 in
theorem r283_626 (ls : A_V) (st : List Value) (h : A_H) : R 283 626 ls st h = a_do a_nL R R 283 (s_ildl 4 627 ls st h) := a_R_eq ..
set_option maxRecDepth 16384 in
theorem r283_627 (ls : A_V) (st : List Value) (h : A_H) : R 283 627 ls st h = a_do a_nL R R 283 (s_push (.int 2) 628 ls st h) := a_R_eq ..
set_option maxRecDepth 16384 in
theorem r283_628 (ls : A_V) (st : List Value) (h : A_H) : R 283 628 ls st h = a_do a_nL R R 283 (s_bi (fun x y => x + y) 629 ls st h) := a_R_eq ..
set_option maxRecDepth 16384 in
theorem r283_629 (ls : A_V) (st : List Value) (h : A_H) : R 283 629 ls st h = a_do a_nL R R 283 (s_xal 630 ls st h) := a_R_eq ..
set_option maxRecDepth 16384 in
theorem r283_630 (ls : A_V) (st : List Value) (h : A_H) : R 283 630 ls st h = a_do a_nL R R 283 (s_aldl 0 631 ls st h) := a_R_eq ..
set_option maxRecDepth 16384 in
theorem r283_631 (ls : A_V) (st : List Value) (h : A_H) : R 283 631 ls st h = a_do a_nL R R 283 (s_ildl 4 632 ls st h) := a_R_eq ..
set_option maxRecDepth 16384 in
theorem r283_632 (ls : A_V) (st : List Value) (h : A_H) : R 283 632 ls st h = a_do a_nL R R 283 (s_push (.int 3) 633 ls st h) := a_R_eq ..
set_option maxRecDepth 16384 in
theorem r283_633 (ls : A_V) (st : List Value) (h : A_H) : R 283 633 ls st h = a_do a_nL R R 283 (s_bi (fun x y => x + y) 634 ls st h) := a_R_eq ..
set_option maxRecDepth 16384 in
theorem r283_634 (ls : A_V) (st : List Value) (h : A_H) : R 283 634 ls st h = a_do a_nL R R 283 (s_xal 635 ls st h) := a_R_eq ..
set_option maxRecDepth 16384 in
theorem r283_635 (ls : A_V) (st : List Value) (h : A_H) : R 283 635 ls st h = a_do a_nL R R 283 (s_call 16 237 4 5 true 636 ls st h) := a_R_eq ..
set_option maxRecDepth 16384 in
theorem r283_636 (ls : A_V) (st : List Value) (h : A_H) : R 283 636 ls st h = a_do a_nL R R 283 (s_if2 (fun x y => decide (x = y)) 1248 637 ls st h) := a_R_eq ..
set_option maxRecDepth 16384 in
theorem r283_637 (ls : A_V) (st : List Value) (h : A_H) : R 283 637 ls st h = a_do a_nL R R 283 (s_push (.int 0) 638 ls st h) := a_R_eq ..
set_option maxRecDepth 16384 in
theorem r283_638 (ls : A_V) (st : List Value) (h : A_H) : R 283 638 ls st h = a_do a_nL R R 283 (s_zret ls st h) := a_R_eq ..
set_option maxRecDepth 16384 in
theorem r283_639 (ls : A_V) (st : List Value) (h : A_H) : R 283 639 ls st h = a_do a_nL R R 283 (s_aldl 1 640 ls st h) := a_R_eq ..
set_option maxRecDepth 16384 in
theorem r283_640 (ls : A_V) (st : List Value) (h : A_H) : R 283 640 ls st h = a_do a_nL R R 283 (s_aldl 0 641 ls st h) := a_R_eq ..
set_option maxRecDepth 16384 in
theorem r283_641 (ls : A_V) (st : List Value) (h : A_H) : R 283 641 ls st h = a_do a_nL R R 283 (s_ildl 4 642 ls st h) := a_R_eq ..
set_option maxRecDepth 16384 in
theorem r283_642 (ls : A_V) (st : List Value) (h : A_H) : R 283 642 ls st h = a_do a_nL R R 283 (s_push (.int 1) 643 ls st h) := a_R_eq ..
set_option maxRecDepth 16384 in
theorem r283_643 (ls : A_V) (st : List Value) (h : A_H) : R 283 643 ls st h = a_do a_nL R R 283 (s_bi (fun x y => x + y) 644 ls st h) := a_R_eq ..
set_option maxRecDepth 16384 in
theorem r283_644 (ls : A_V) (st : List Value) (h : A_H) : R 283 644 ls st h = a_do a_nL R R 283 (s_xal 645 ls st h) := a_R_eq ..
set_option maxRecDepth 16384 in
theorem r283_645 (ls : A_V) (st : List Value) (h : A_H) : R 283 645 ls st h = a_do a_nL R R 283 (s_aldl 0 646 ls st h) := a_R_eq ..
set_option maxRecDepth 16384 in
theorem r283_646 (ls : A_V) (st : List Value) (h : A_H) : R 283 646 ls st h = a_do a_nL R R 283 (s_ildl 4 647 ls st h) := a_R_eq ..
set_option maxRecDepth 16384 in
theorem r283_647 (ls : A_V) (st : List Value) (h : A_H) : R 283 647 ls st h = a_do a_nL R R 283 (s_push (.int 2) 648 ls st h) := a_R_eq ..
set_option maxRecDepth 16384 in
theorem r283_648 (ls : A_V) (st : List Value) (h : A_H) : R 283 648 ls st h = a_do a_nL R R 283 (s_bi (fun x y => x + y) 649 ls st h) := a_R_eq ..
set_option maxRecDepth 16384 in
theorem r283_649 (ls : A_V) (st : List Value) (h : A_H) : R 283 649 ls st h = a_do a_nL R R 283 (s_xal 650 ls st h) := a_R_eq ..
set_option maxRecDepth 16384 in
theorem r283_650 (ls : A_V) (st : List Value) (h : A_H) : R 283 650 ls st h = a_do a_nL R R 283 (s_aldl 0 651 ls st h) := a_R_eq ..
set_option maxRecDepth 16384 in
theorem r283_651 (ls : A_V) (st : List Value) (h : A_H) : R 283 651 ls st h = a_do a_nL R R 283 (s_ildl 4 652 ls st h) := a_R_eq ..
set_option maxRecDepth 16384 in
theorem r283_652 (ls : A_V) (st : List Value) (h : A_H) : R 283 652 ls st h = a_do a_nL R R 283 (s_push (.int 3) 653 ls st h) := a_R_eq ..
set_option maxRecDepth 16384 in
theorem r283_653 (ls : A_V) (st : List Value) (h : A_H) : R 283 653 ls st h = a_do a_nL R R 283 (s_bi (fun x y => x + y) 654 ls st h) := a_R_eq ..
set_option maxRecDepth 16384 in
theorem r283_654 (ls : A_V) (st : List Value) (h : A_H) : R 283 654 ls st h = a_do a_nL R R 283 (s_xal 655 ls st h) := a_R_eq ..
set_option maxRecDepth 16384 in
theorem r283_655 (ls : A_V) (st : List Value) (h : A_H) : R 283 655 ls st h = a_do a_nL R R 283 (s_call 14 99 4 5 true 656 ls st h) := a_R_eq ..
set_option maxRecDepth 16384 in
theorem r283_656 (ls : A_V) (st : List Value) (h : A_H) : R 283 656 ls st h = a_do a_nL R R 283 (s_aldl 2 657 ls st h) := a_R_eq ..
set_option maxRecDepth 16384 in
theorem r283_657 (ls : A_V) (st : List Value) (h : A_H) : R 283 657 ls st h = a_do a_nL R R 283 (s_aldl 0 658 ls st h) := a_R_eq ..
set_option maxRecDepth 16384 in
theorem r283_658 (ls : A_V) (st : List Value) (h : A_H) : R 283 658 ls st h = a_do a_nL R R 283 (s_ildl 4 659 ls st h) := a_R_eq ..
set_option maxRecDepth 16384 in
theorem r283_659 (ls : A_V) (st : List Value) (h : A_H) : R 283 659 ls st h = a_do a_nL R R 283 (s_push (.int 1) 660 ls st h) := a_R_eq ..
set_option maxRecDepth 16384 in
theorem r283_660 (ls : A_V) (st : List Value) (h : A_H) : R 283 660 ls st h = a_do a_nL R R 283 (s_bi (fun x y => x + y) 661 ls st h) := a_R_eq ..
set_option maxRecDepth 16384 in
theorem r283_661 (ls : A_V) (st : List Value) (h : A_H) : R 283 661 ls st h = a_do a_nL R R 283 (s_xal 662 ls st h) := a_R_eq ..
set_option maxRecDepth 16384 in
theorem r283_662 (ls : A_V) (st : List Value) (h : A_H) : R 283 662 ls st h = a_do a_nL R R 283 (s_aldl 0 663 ls st h) := a_R_eq ..
set_option maxRecDepth 16384 in
theorem r283_663 (ls : A_V) (st : List Value) (h : A_H) : R 283 663 ls st h = a_do a_nL R R 283 (s_ildl 4 664 ls st h) := a_R_eq ..
set_option maxRecDepth 16384 in
theorem r283_664 (ls : A_V) (st : List Value) (h : A_H) : R 283 664 ls st h = a_do a_nL R R 283 (s_push (.int 2) 665 ls st h) := a_R_eq ..
set_option maxRecDepth 16384 in
theorem r283_665 (ls : A_V) (st : List Value) (h : A_H) : R 283 665 ls st h = a_do a_nL R R 283 (s_bi (fun x y => x + y) 666 ls st h) := a_R_eq ..
set_option maxRecDepth 16384 in
theorem r283_666 (ls : A_V) (st : List Value) (h : A_H) : R 283 666 ls st h = a_do a_nL R R 283 (s_xal 667 ls st h) := a_R_eq ..
set_option maxRecDepth 16384 in
theorem r283_667 (ls : A_V) (st : List Value) (h : A_H) : R 283 667 ls st h = a_do a_nL R R 283 (s_aldl 0 668 ls st h) := a_R_eq ..
set_option maxRecDepth 16384 in
theorem r283_668 (ls : A_V) (st : List Value) (h : A_H) : R 283 668 ls st h = a_do a_nL R R 283 (s_ildl 4 669 ls st h) := a_R_eq ..
set_option maxRecDepth 16384 in
theorem r283_669 (ls : A_V) (st : List Value) (h : A_H) : R 283 669 ls st h = a_do a_nL R R 283 (s_push (.int 3) 670 ls st h) := a_R_eq ..
set_option maxRecDepth 16384 in
theorem r283_670 (ls : A_V) (st : List Value) (h : A_H) : R 283 670 ls st h = a_do a_nL R R 283 (s_bi (fun x y => x + y) 671 ls st h) := a_R_eq ..
set_option maxRecDepth 16384 in
theorem r283_671 (ls : A_V) (st : List Value) (h : A_H) : R 283 671 ls st h = a_do a_nL R R 283 (s_xal 672 ls st h) := a_R_eq ..
set_option maxRecDepth 16384 in
theorem r283_672 (ls : A_V) (st : List Value) (h : A_H) : R 283 672 ls st h = a_do a_nL R R 283 (s_call 16 238 4 5 true 673 ls st h) := a_R_eq ..
set_option maxRecDepth 16384 in
theorem r283_673 (ls : A_V) (st : List Value) (h : A_H) : R 283 673 ls st h = a_do a_nL R R 283 (s_if2 (fun x y => decide (x = y)) 1248 674 ls st h) := a_R_eq ..
set_option maxRecDepth 16384 in
theorem r283_674 (ls : A_V) (st : List Value) (h : A_H) : R 283 674 ls st h = a_do a_nL R R 283 (s_push (.int 0) 675 ls st h) := a_R_eq ..
set_option maxRecDepth 16384 in
theorem r283_675 (ls : A_V) (st : List Value) (h : A_H) : R 283 675 ls st h = a_do a_nL R R 283 (s_zret ls st h) := a_R_eq ..
set_option maxRecDepth 16384 in
theorem r283_676 (ls : A_V) (st : List Value) (h : A_H) : R 283 676 ls st h = a_do a_nL R R 283 (s_aldl 1 677 ls st h) := a_R_eq ..
set_option maxRecDepth 16384 in
theorem r283_677 (ls : A_V) (st : List Value) (h : A_H) : R 283 677 ls st h = a_do a_nL R R 283 (s_aldl 0 678 ls st h) := a_R_eq ..
set_option maxRecDepth 16384 in
theorem r283_678 (ls : A_V) (st : List Value) (h : A_H) : R 283 678 ls st h = a_do a_nL R R 283 (s_ildl 4 679 ls st h) := a_R_eq ..
set_option maxRecDepth 16384 in
theorem r283_679 (ls : A_V) (st : List Value) (h : A_H) : R 283 679 ls st h = a_do a_nL R R 283 (s_push (.int 1) 680 ls st h) := a_R_eq ..
set_option maxRecDepth 16384 in
theorem r283_680 (ls : A_V) (st : List Value) (h : A_H) : R 283 680 ls st h = a_do a_nL R R 283 (s_bi (fun x y => x + y) 681 ls st h) := a_R_eq ..
set_option maxRecDepth 16384 in
theorem r283_681 (ls : A_V) (st : List Value) (h : A_H) : R 283 681 ls st h = a_do a_nL R R 283 (s_xal 682 ls st h) := a_R_eq ..
set_option maxRecDepth 16384 in
theorem r283_682 (ls : A_V) (st : List Value) (h : A_H) : R 283 682 ls st h = a_do a_nL R R 283 (s_aldl 0 683 ls st h) := a_R_eq ..
set_option maxRecDepth 16384 in
theorem r283_683 (ls : A_V) (st : List Value) (h : A_H) : R 283 683 ls st h = a_do a_nL R R 283 (s_ildl 4 684 ls st h) := a_R_eq ..
set_option maxRecDepth 16384 in
theorem r283_684 (ls : A_V) (st : List Value) (h : A_H) : R 283 684 ls st h = a_do a_nL R R 283 (s_push (.int 2) 685 ls st h) := a_R_eq ..
set_option maxRecDepth 16384 in
theorem r283_685 (ls : A_V) (st : List Value) (h : A_H) : R 283 685 ls st h = a_do a_nL R R 283 (s_bi (fun x y => x + y) 686 ls st h) := a_R_eq ..
set_option maxRecDepth 16384 in
theorem r283_686 (ls : A_V) (st : List Value) (h : A_H) : R 283 686 ls st h = a_do a_nL R R 283 (s_xal 687 ls st h) := a_R_eq ..
set_option maxRecDepth 16384 in
theorem r283_687 (ls : A_V) (st : List Value) (h : A_H) : R 283 687 ls st h = a_do a_nL R R 283 (s_aldl 0 688 ls st h) := a_R_eq ..
set_option maxRecDepth 16384 in
theorem r283_688 (ls : A_V) (st : List Value) (h : A_H) : R 283 688 ls st h = a_do a_nL R R 283 (s_ildl 4 689 ls st h) := a_R_eq ..
set_option maxRecDepth 16384 in
theorem r283_689 (ls : A_V) (st : List Value) (h : A_H) : R 283 689 ls st h = a_do a_nL R R 283 (s_push (.int 3) 690 ls st h) := a_R_eq ..
set_option maxRecDepth 16384 in
theorem r283_690 (ls : A_V) (st : List Value) (h : A_H) : R 283 690 ls st h = a_do a_nL R R 283 (s_bi (fun x y => x + y) 691 ls st h) := a_R_eq ..
set_option maxRecDepth 16384 in
theorem r283_691 (ls : A_V) (st : List Value) (h : A_H) : R 283 691 ls st h = a_do a_nL R R 283 (s_xal 692 ls st h) := a_R_eq ..
set_option maxRecDepth 16384 in
theorem r283_692 (ls : A_V) (st : List Value) (h : A_H) : R 283 692 ls st h = a_do a_nL R R 283 (s_call 14 102 4 4 true 693 ls st h) := a_R_eq ..
set_option maxRecDepth 16384 in
theorem r283_693 (ls : A_V) (st : List Value) (h : A_H) : R 283 693 ls st h = a_do a_nL R R 283 (s_aldl 2 694 ls st h) := a_R_eq ..
set_option maxRecDepth 16384 in
theorem r283_694 (ls : A_V) (st : List Value) (h : A_H) : R 283 694 ls st h = a_do a_nL R R 283 (s_aldl 0 695 ls st h) := a_R_eq ..
set_option maxRecDepth 16384 in
theorem r283_695 (ls : A_V) (st : List Value) (h : A_H) : R 283 695 ls st h = a_do a_nL R R 283 (s_ildl 4 696 ls st h) := a_R_eq ..
set_option maxRecDepth 16384 in
theorem r283_696 (ls : A_V) (st : List Value) (h : A_H) : R 283 696 ls st h = a_do a_nL R R 283 (s_push (.int 1) 697 ls st h) := a_R_eq ..
set_option maxRecDepth 16384 in
theorem r283_697 (ls : A_V) (st : List Value) (h : A_H) : R 283 697 ls st h = a_do a_nL R R 283 (s_bi (fun x y => x + y) 698 ls st h) := a_R_eq ..
set_option maxRecDepth 16384 in
theorem r283_698 (ls : A_V) (st : List Value) (h : A_H) : R 283 698 ls st h = a_do a_nL R R 283 (s_xal 699 ls st h) := a_R_eq ..
set_option maxRecDepth 16384 in
theorem r283_699 (ls : A_V) (st : List Value) (h : A_H) : R 283 699 ls st h = a_do a_nL R R 283 (s_aldl 0 700 ls st h) := a_R_eq ..
set_option maxRecDepth 16384 in
theorem r283_700 (ls : A_V) (st : List Value) (h : A_H) : R 283 700 ls st h = a_do a_nL R R 283 (s_ildl 4 701 ls st h) := a_R_eq ..
set_option maxRecDepth 16384 in
theorem r283_701 (ls : A_V) (st : List Value) (h : A_H) : R 283 701 ls st h = a_do a_nL R R 283 (s_push (.int 2) 702 ls st h) := a_R_eq ..
set_option maxRecDepth 16384 in
theorem r283_702 (ls : A_V) (st : List Value) (h : A_H) : R 283 702 ls st h = a_do a_nL R R 283 (s_bi (fun x y => x + y) 703 ls st h) := a_R_eq ..
set_option maxRecDepth 16384 in
theorem r283_703 (ls : A_V) (st : List Value) (h : A_H) : R 283 703 ls st h = a_do a_nL R R 283 (s_xal 704 ls st h) := a_R_eq ..
set_option maxRecDepth 16384 in
theorem r283_704 (ls : A_V) (st : List Value) (h : A_H) : R 283 704 ls st h = a_do a_nL R R 283 (s_aldl 0 705 ls st h) := a_R_eq ..
set_option maxRecDepth 16384 in
theorem r283_705 (ls : A_V) (st : List Value) (h : A_H) : R 283 705 ls st h = a_do a_nL R R 283 (s_ildl 4 706 ls st h) := a_R_eq ..
set_option maxRecDepth 16384 in
theorem r283_706 (ls : A_V) (st : List Value) (h : A_H) : R 283 706 ls st h = a_do a_nL R R 283 (s_push (.int 3) 707 ls st h) := a_R_eq ..
set_option maxRecDepth 16384 in
theorem r283_707 (ls : A_V) (st : List Value) (h : A_H) : R 283 707 ls st h = a_do a_nL R R 283 (s_bi (fun x y => x + y) 708 ls st h) := a_R_eq ..
set_option maxRecDepth 16384 in
theorem r283_708 (ls : A_V) (st : List Value) (h : A_H) : R 283 708 ls st h = a_do a_nL R R 283 (s_xal 709 ls st h) := a_R_eq ..
set_option maxRecDepth 16384 in
theorem r283_709 (ls : A_V) (st : List Value) (h : A_H) : R 283 709 ls st h = a_do a_nL R R 283 (s_call 16 240 4 5 true 710 ls st h) := a_R_eq ..
set_option maxRecDepth 16384 in
theorem r283_710 (ls : A_V) (st : List Value) (h : A_H) : R 283 710 ls st h = a_do a_nL R R 283 (s_if2 (fun x y => decide (x = y)) 1248 711 ls st h) := a_R_eq ..
set_option maxRecDepth 16384 in
theorem r283_711 (ls : A_V) (st : List Value) (h : A_H) : R 283 711 ls st h = a_do a_nL R R 283 (s_push (.int 0) 712 ls st h) := a_R_eq ..
set_option maxRecDepth 16384 in
theorem r283_712 (ls : A_V) (st : List Value) (h : A_H) : R 283 712 ls st h = a_do a_nL R R 283 (s_zret ls st h) := a_R_eq ..
set_option maxRecDepth 16384 in
theorem r283_713 (ls : A_V) (st : List Value) (h : A_H) : R 283 713 ls st h = a_do a_nL R R 283 (s_aldl 1 714 ls st h) := a_R_eq ..
set_option maxRecDepth 16384 in
theorem r283_714 (ls : A_V) (st : List Value) (h : A_H) : R 283 714 ls st h = a_do a_nL R R 283 (s_aldl 0 715 ls st h) := a_R_eq ..
set_option maxRecDepth 16384 in
theorem r283_715 (ls : A_V) (st : List Value) (h : A_H) : R 283 715 ls st h = a_do a_nL R R 283 (s_ildl 4 716 ls st h) := a_R_eq ..
set_option maxRecDepth 16384 in
theorem r283_716 (ls : A_V) (st : List Value) (h : A_H) : R 283 716 ls st h = a_do a_nL R R 283 (s_push (.int 1) 717 ls st h) := a_R_eq ..
set_option maxRecDepth 16384 in
theorem r283_717 (ls : A_V) (st : List Value) (h : A_H) : R 283 717 ls st h = a_do a_nL R R 283 (s_bi (fun x y => x + y) 718 ls st h) := a_R_eq ..
set_option maxRecDepth 16384 in
theorem r283_718 (ls : A_V) (st : List Value) (h : A_H) : R 283 718 ls st h = a_do a_nL R R 283 (s_xal 719 ls st h) := a_R_eq ..
set_option maxRecDepth 16384 in
theorem r283_719 (ls : A_V) (st : List Value) (h : A_H) : R 283 719 ls st h = a_do a_nL R R 283 (s_aldl 0 720 ls st h) := a_R_eq ..
set_option maxRecDepth 16384 in
theorem r283_720 (ls : A_V) (st : List Value) (h : A_H) : R 283 720 ls st h = a_do a_nL R R 283 (s_ildl 4 721 ls st h) := a_R_eq ..
set_option maxRecDepth 16384 in
theorem r283_721 (ls : A_V) (st : List Value) (h : A_H) : R 283 721 ls st h = a_do a_nL R R 283 (s_push (.int 2) 722 ls st h) := a_R_eq ..
set_option maxRecDepth 16384 in
theorem r283_722 (ls : A_V) (st : List Value) (h : A_H) : R 283 722 ls st h = a_do a_nL R R 283 (s_bi (fun x y => x + y) 723 ls st h) := a_R_eq ..
set_option maxRecDepth 16384 in
theorem r283_723 (ls : A_V) (st : List Value) (h : A_H) : R 283 723 ls st h = a_do a_nL R R 283 (s_xal 724 ls st h) := a_R_eq ..
set_option maxRecDepth 16384 in
theorem r283_724 (ls : A_V) (st : List Value) (h : A_H) : R 283 724 ls st h = a_do a_nL R R 283 (s_aldl 0 725 ls st h) := a_R_eq ..
set_option maxRecDepth 16384 in
theorem r283_725 (ls : A_V) (st : List Value) (h : A_H) : R 283 725 ls st h = a_do a_nL R R 283 (s_ildl 4 726 ls st h) := a_R_eq ..
set_option maxRecDepth 16384 in
theorem r283_726 (ls : A_V) (st : List Value) (h : A_H) : R 283 726 ls st h = a_do a_nL R R 283 (s_push (.int 3) 727 ls st h) := a_R_eq ..
set_option maxRecDepth 16384 in
theorem r283_727 (ls : A_V) (st : List Value) (h : A_H) : R 283 727 ls st h = a_do a_nL R R 283 (s_bi (fun x y => x + y) 728 ls st h) := a_R_eq ..
set_option maxRecDepth 16384 in
theorem r283_728 (ls : A_V) (st : List Value) (h : A_H) : R 283 728 ls st h = a_do a_nL R R 283 (s_xal 729 ls st h) := a_R_eq ..
set_option maxRecDepth 16384 in
theorem r283_729 (ls : A_V) (st : List Value) (h : A_H) : R 283 729 ls st h = a_do a_nL R R 283 (s_call 14 103 4 5 true 730 ls st h) := a_R_eq ..
set_option maxRecDepth 16384 in
theorem r283_730 (ls : A_V) (st : List Value) (h : A_H) : R 283 730 ls st h = a_do a_nL R R 283 (s_aldl 2 731 ls st h) := a_R_eq ..
set_option maxRecDepth 16384 in
theorem r283_731 (ls : A_V) (st : List Value) (h : A_H) : R 283 731 ls st h = a_do a_nL R R 283 (s_aldl 0 732 ls st h) := a_R_eq ..
set_option maxRecDepth 16384 in
theorem r283_732 (ls : A_V) (st : List Value) (h : A_H) : R 283 732 ls st h = a_do a_nL R R 283 (s_ildl 4 733 ls st h) := a_R_eq ..
set_option maxRecDepth 16384 in
theorem r283_733 (ls : A_V) (st : List Value) (h : A_H) : R 283 733 ls st h = a_do a_nL R R 283 (s_push (.int 1) 734 ls st h) := a_R_eq ..
set_option maxRecDepth 16384 in
theorem r283_734 (ls : A_V) (st : List Value) (h : A_H) : R 283 734 ls st h = a_do a_nL R R 283 (s_bi (fun x y => x + y) 735 ls st h) := a_R_eq ..
set_option maxRecDepth 16384 in
theorem r283_735 (ls : A_V) (st : List Value) (h : A_H) : R 283 735 ls st h = a_do a_nL R R 283 (s_xal 736 ls st h) := a_R_eq ..
set_option maxRecDepth 16384 in
theorem r283_736 (ls : A_V) (st : List Value) (h : A_H) : R 283 736 ls st h = a_do a_nL R R 283 (s_aldl 0 737 ls st h) := a_R_eq ..
set_option maxRecDepth 16384 in
theorem r283_737 (ls : A_V) (st : List Value) (h : A_H) : R 283 737 ls st h = a_do a_nL R R 283 (s_ildl 4 738 ls st h) := a_R_eq ..
set_option maxRecDepth 16384 in
theorem r283_738 (ls : A_V) (st : List Value) (h : A_H) : R 283 738 ls st h = a_do a_nL R R 283 (s_push (.int 2) 739 ls st h) := a_R_eq ..
set_option maxRecDepth 16384 in
theorem r283_739 (ls : A_V) (st : List Value) (h : A_H) : R 283 739 ls st h = a_do a_nL R R 283 (s_bi (fun x y => x + y) 740 ls st h) := a_R_eq ..
set_option maxRecDepth 16384 in
theorem r283_740 (ls : A_V) (st : List Value) (h : A_H) : R 283 740 ls st h = a_do a_nL R R 283 (s_xal 741 ls st h) := a_R_eq ..
set_option maxRecDepth 16384 in
theorem r283_741 (ls : A_V) (st : List Value) (h : A_H) : R 283 741 ls st h = a_do a_nL R R 283 (s_aldl 0 742 ls st h) := a_R_eq ..
set_option maxRecDepth 16384 in
theorem r283_742 (ls : A_V) (st : List Value) (h : A_H) : R 283 742 ls st h = a_do a_nL R R 283 (s_ildl 4 743 ls st h) := a_R_eq ..
set_option maxRecDepth 16384 in
theorem r283_743 (ls : A_V) (st : List Value) (h : A_H) : R 283 743 ls st h = a_do a_nL R R 283 (s_push (.int 3) 744 ls st h) := a_R_eq ..
set_option maxRecDepth 16384 in
theorem r283_744 (ls : A_V) (st : List Value) (h : A_H) : R 283 744 ls st h = a_do a_nL R R 283 (s_bi (fun x y => x + y) 745 ls st h) := a_R_eq ..
set_option maxRecDepth 16384 in
theorem r283_745 (ls : A_V) (st : List Value) (h : A_H) : R 283 745 ls st h = a_do a_nL R R 283 (s_xal 746 ls st h) := a_R_eq ..
set_option maxRecDepth 16384 in
theorem r283_746 (ls : A_V) (st : List Value) (h : A_H) : R 283 746 ls st h = a_do a_nL R R 283 (s_call 16 241 4 5 true 747 ls st h) := a_R_eq ..
set_option maxRecDepth 16384 in
theorem r283_747 (ls : A_V) (st : List Value) (h : A_H) : R 283 747 ls st h = a_do a_nL R R 283 (s_if2 (fun x y => decide (x = y)) 1248 748 ls st h) := a_R_eq ..
set_option maxRecDepth 16384 in
theorem r283_748 (ls : A_V) (st : List Value) (h : A_H) : R 283 748 ls st h = a_do a_nL R R 283 (s_push (.int 0) 749 ls st h) := a_R_eq ..
set_option maxRecDepth 16384 in
theorem r283_749 (ls : A_V) (st : List Value) (h : A_H) : R 283 749 ls st h = a_do a_nL R R 283 (s_zret ls st h) := a_R_eq ..
set_option maxRecDepth 16384 in
theorem r283_750 (ls : A_V) (st : List Value) (h : A_H) : R 283 750 ls st h = a_do a_nL R R 283 (s_aldl 1 751 ls st h) := a_R_eq ..
set_option maxRecDepth 16384 in
theorem r283_751 (ls : A_V) (st : List Value) (h : A_H) : R 283 751 ls st h = a_do a_nL R R 283 (s_aldl 0 752 ls st h) := a_R_eq ..
set_option maxRecDepth 16384 in
theorem r283_752 (ls : A_V) (st : List Value) (h : A_H) : R 283 752 ls st h = a_do a_nL R R 283 (s_ildl 4 753 ls st h) := a_R_eq ..
set_option maxRecDepth 16384 in
theorem r283_753 (ls : A_V) (st : List Value) (h : A_H) : R 283 753 ls st h = a_do a_nL R R 283 (s_push (.int 1) 754 ls st h) := a_R_eq ..
set_option maxRecDepth 16384 in
theorem r283_754 (ls : A_V) (st : List Value) (h : A_H) : R 283 754 ls st h = a_do a_nL R R 283 (s_bi (fun x y => x + y) 755 ls st h) := a_R_eq ..
set_option maxRecDepth 16384 in
theorem r283_755 (ls : A_V) (st : List Value) (h : A_H) : R 283 755 ls st h = a_do a_nL R R 283 (s_xal 756 ls st h) := a_R_eq ..
set_option maxRecDepth 16384 in
theorem r283_756 (ls : A_V) (st : List Value) (h : A_H) : R 283 756 ls st h = a_do a_nL R R 283 (s_aldl 0 757 ls st h) := a_R_eq ..
set_option maxRecDepth 16384 in
theorem r283_757 (ls : A_V) (st : List Value) (h : A_H) : R 283 757 ls st h = a_do a_nL R R 283 (s_ildl 4 758 ls st h) := a_R_eq ..
set_option maxRecDepth 16384 in
theorem r283_758 (ls : A_V) (st : List Value) (h : A_H) : R 283 758 ls st h = a_do a_nL R R 283 (s_push (.int 2) 759 ls st h) := a_R_eq ..
set_option maxRecDepth 16384 in
theorem r283_759 (ls : A_V) (st : List Value) (h : A_H) : R 283 759 ls st h = a_do a_nL R R 283 (s_bi (fun x y => x + y) 760 ls st h) := a_R_eq ..
set_option maxRecDepth 16384 in
theorem r283_760 (ls : A_V) (st : List Value) (h : A_H) : R 283 760 ls st h = a_do a_nL R R 283 (s_xal 761 ls st h) := a_R_eq ..
set_option maxRecDepth 16384 in
theorem r283_761 (ls : A_V) (st : List Value) (h : A_H) : R 283 761 ls st h = a_do a_nL R R 283 (s_aldl 0 762 ls st h) := a_R_eq ..
set_option maxRecDepth 16384 in
theorem r283_762 (ls : A_V) (st : List Value) (h : A_H) : R 283 762 ls st h = a_do a_nL R R 283 (s_ildl 4 763 ls st h) := a_R_eq ..
set_option maxRecDepth 16384 in
theorem r283_763 (ls : A_V) (st : List Value) (h : A_H) : R 283 763 ls st h = a_do a_nL R R 283 (s_push (.int 3) 764 ls st h) := a_R_eq ..
set_option maxRecDepth 16384 in
theorem r283_764 (ls : A_V) (st : List Value) (h : A_H) : R 283 764 ls st h = a_do a_nL R R 283 (s_bi (fun x y => x + y) 765 ls st h) := a_R_eq ..
set_option maxRecDepth 16384 in
theorem r283_765 (ls : A_V) (st : List Value) (h : A_H) : R 283 765 ls st h = a_do a_nL R R 283 (s_xal 766 ls st h) := a_R_eq ..
set_option maxRecDepth 16384 in
theorem r283_766 (ls : A_V) (st : List Value) (h : A_H) : R 283 766 ls st h = a_do a_nL R R 283 (s_call 14 105 4 8 true 767 ls st h) := a_R_eq ..
set_option maxRecDepth 16384 in
theorem r283_767 (ls : A_V) (st : List Value) (h : A_H) : R 283 767 ls st h = a_do a_nL R R 283 (s_aldl 2 768 ls st h) := a_R_eq ..
set_option maxRecDepth 16384 in
theorem r283_768 (ls : A_V) (st : List Value) (h : A_H) : R 283 768 ls st h = a_do a_nL R R 283 (s_aldl 0 769 ls st h) := a_R_eq ..
set_option maxRecDepth 16384 in
theorem r283_769 (ls : A_V) (st : List Value) (h : A_H) : R 283 769 ls st h = a_do a_nL R R 283 (s_ildl 4 770 ls st h) := a_R_eq ..
set_option maxRecDepth 16384 in
theorem r283_770 (ls : A_V) (st : List Value) (h : A_H) : R 283 770 ls st h = a_do a_nL R R 283 (s_push (.int 1) 771 ls st h) := a_R_eq ..
set_option maxRecDepth 16384 in
theorem r283_771 (ls : A_V) (st : List Value) (h : A_H) : R 283 771 ls st h = a_do a_nL R R 283 (s_bi (fun x y => x + y) 772 ls st h) := a_R_eq ..
set_option maxRecDepth 16384 in
theorem r283_772 (ls : A_V) (st : List Value) (h : A_H) : R 283 772 ls st h = a_do a_nL R R 283 (s_xal 773 ls st h) := a_R_eq ..
set_option maxRecDepth 16384 in
theorem r283_773 (ls : A_V) (st : List Value) (h : A_H) : R 283 773 ls st h = a_do a_nL R R 283 (s_aldl 0 774 ls st h) := a_R_eq ..
set_option maxRecDepth 16384 in
theorem r283_774 (ls : A_V) (st : List Value) (h : A_H) : R 283 774 ls st h = a_do a_nL R R 283 (s_ildl 4 775 ls st h) := a_R_eq ..
set_option maxRecDepth 16384 in
theorem r283_775 (ls : A_V) (st : List Value) (h : A_H) : R 283 775 ls st h = a_do a_nL R R 283 (s_push (.int 2) 776 ls st h) := a_R_eq ..
set_option maxRecDepth 16384 in
theorem r283_776 (ls : A_V) (st : List Value) (h : A_H) : R 283 776 ls st h = a_do a_nL R R 283 (s_bi (fun x y => x + y) 777 ls st h) := a_R_eq ..
set_option maxRecDepth 16384 in
theorem r283_777 (ls : A_V) (st : List Value) (h : A_H) : R 283 777 ls st h = a_do a_nL R R 283 (s_xal 778 ls st h) := a_R_eq ..
set_option maxRecDepth 16384 in
theorem r283_778 (ls : A_V) (st : List Value) (h : A_H) : R 283 778 ls st h = a_do a_nL R R 283 (s_aldl 0 779 ls st h) := a_R_eq ..
set_option maxRecDepth 16384 in
theorem r283_779 (ls : A_V) (st : List Value) (h : A_H) : R 283 779 ls st h = a_do a_nL R R 283 (s_ildl 4 780 ls st h) := a_R_eq ..
set_option maxRecDepth 16384 in
theorem r283_780 (ls : A_V) (st : List Value) (h : A_H) : R 283 780 ls st h = a_do a_nL R R 283 (s_push (.int 3) 781 ls st h) := a_R_eq ..
set_option maxRecDepth 16384 in
theorem r283_781 (ls : A_V) (st : List Value) (h : A_H) : R 283 781 ls st h = a_do a_nL R R 283 (s_bi (fun x y => x + y) 782 ls st h) := a_R_eq ..
set_option maxRecDepth 16384 in
theorem r283_782 (ls : A_V) (st : List Value) (h : A_H) : R 283 782 ls st h = a_do a_nL R R 283 (s_xal 783 ls st h) := a_R_eq ..
set_option maxRecDepth 16384 in
theorem r283_783 (ls : A_V) (st : List Value) (h : A_H) : R 283 783 ls st h = a_do a_nL R R 283 (s_call 16 242 4 6 true 784 ls st h) := a_R_eq ..
set_option maxRecDepth 16384 in
theorem r283_784 (ls : A_V) (st : List Value) (h : A_H) : R 283 784 ls st h = a_do a_nL R R 283 (s_if2 (fun x y => decide (x = y)) 1248 785 ls st h) := a_R_eq ..
set_option maxRecDepth 16384 in
theorem r283_785 (ls : A_V) (st : List Value) (h : A_H) : R 283 785 ls st h = a_do a_nL R R 283 (s_push (.int 0) 786 ls st h) := a_R_eq ..
set_option maxRecDepth 16384 in
theorem r283_786 (ls : A_V) (st : List Value) (h : A_H) : R 283 786 ls st h = a_do a_nL R R 283 (s_zret ls st h) := a_R_eq ..
set_option maxRecDepth 16384 in
theorem r283_787 (ls : A_V) (st : List Value) (h : A_H) : R 283 787 ls st h = a_do a_nL R R 283 (s_aldl 1 788 ls st h) := a_R_eq ..
set_option maxRecDepth 16384 in
theorem r283_788 (ls : A_V) (st : List Value) (h : A_H) : R 283 788 ls st h = a_do a_nL R R 283 (s_aldl 0 789 ls st h) := a_R_eq ..
set_option maxRecDepth 16384 in
theorem r283_789 (ls : A_V) (st : List Value) (h : A_H) : R 283 789 ls st h = a_do a_nL R R 283 (s_ildl 4 790 ls st h) := a_R_eq ..
set_option maxRecDepth 16384 in
theorem r283_790 (ls : A_V) (st : List Value) (h : A_H) : R 283 790 ls st h = a_do a_nL R R 283 (s_push (.int 1) 791 ls st h) := a_R_eq ..
set_option maxRecDepth 16384 in
theorem r283_791 (ls : A_V) (st : List Value) (h : A_H) : R 283 791 ls st h = a_do a_nL R R 283 (s_bi (fun x y => x + y) 792 ls st h) := a_R_eq ..
set_option maxRecDepth 16384 in
theorem r283_792 (ls : A_V) (st : List Value) (h : A_H) : R 283 792 ls st h = a_do a_nL R R 283 (s_xal 793 ls st h) := a_R_eq ..
set_option maxRecDepth 16384 in
theorem r283_793 (ls : A_V) (st : List Value) (h : A_H) : R 283 793 ls st h = a_do a_nL R R 283 (s_call 14 106 2 2 true 794 ls st h) := a_R_eq ..
set_option maxRecDepth 16384 in
theorem r283_794 (ls : A_V) (st : List Value) (h : A_H) : R 283 794 ls st h = a_do a_nL R R 283 (s_aldl 2 795 ls st h) := a_R_eq ..
set_option maxRecDepth 16384 in
theorem r283_795 (ls : A_V) (st : List Value) (h : A_H) : R 283 795 ls st h = a_do a_nL R R 283 (s_aldl 0 796 ls st h) := a_R_eq ..
set_option maxRecDepth 16384 in
theorem r283_796 (ls : A_V) (st : List Value) (h : A_H) : R 283 796 ls st h = a_do a_nL R R 283 (s_ildl 4 797 ls st h) := a_R_eq ..
set_option maxRecDepth 16384 in
theorem r283_797 (ls : A_V) (st : List Value) (h : A_H) : R 283 797 ls st h = a_do a_nL R R 283 (s_push (.int 1) 798 ls st h) := a_R_eq ..
set_option maxRecDepth 16384 in
theorem r283_798 (ls : A_V) (st : List Value) (h : A_H) : R 283 798 ls st h = a_do a_nL R R 283 (s_bi (fun x y => x + y) 799 ls st h) := a_R_eq ..
set_option maxRecDepth 16384 in
theorem r283_799 (ls : A_V) (st : List Value) (h : A_H) : R 283 799 ls st h = a_do a_nL R R 283 (s_xal 800 ls st h) := a_R_eq ..
set_option maxRecDepth 16384 in
theorem r283_800 (ls : A_V) (st : List Value) (h : A_H) : R 283 800 ls st h = a_do a_nL R R 283 (s_call 16 244 2 2 true 801 ls st h) := a_R_eq ..
set_option maxRecDepth 16384 in
theorem r283_801 (ls : A_V) (st : List Value) (h : A_H) : R 283 801 ls st h = a_do a_nL R R 283 (s_if2 (fun x y => decide (x = y)) 1248 802 ls st h) := a_R_eq ..
set_option maxRecDepth 16384 in
theorem r283_802 (ls : A_V) (st : List Value) (h : A_H) : R 283 802 ls st h = a_do a_nL R R 283 (s_push (.int 0) 803 ls st h) := a_R_eq ..
set_option maxRecDepth 16384 in
theorem r283_803 (ls : A_V) (st : List Value) (h : A_H) : R 283 803 ls st h = a_do a_nL R R 283 (s_zret ls st h) := a_R_eq ..
set_option maxRecDepth 16384 in
theorem r283_804 (ls : A_V) (st : List Value) (h : A_H) : R 283 804 ls st h = a_do a_nL R R 283 (s_aldl 1 805 ls st h) := a_R_eq ..
set_option maxRecDepth 16384 in
theorem r283_805 (ls : A_V) (st : List Value) (h : A_H) : R 283 805 ls st h = a_do a_nL R R 283 (s_aldl 0 806 ls st h) := a_R_eq ..
set_option maxRecDepth 16384 in
theorem r283_806 (ls : A_V) (st : List Value) (h : A_H) : R 283 806 ls st h = a_do a_nL R R 283 (s_ildl 4 807 ls st h) := a_R_eq ..
set_option maxRecDepth 16384 in
theorem r283_807 (ls : A_V) (st : List Value) (h : A_H) : R 283 807 ls st h = a_do a_nL R R 283 (s_push (.int 1) 808 ls st h) := a_R_eq ..
set_option maxRecDepth 16384 in
theorem r283_808 (ls : A_V) (st : List Value) (h : A_H) : R 283 808 ls st h = a_do a_nL R R 283 (s_bi (fun x y => x + y) 809 ls st h) := a_R_eq ..
set_option maxRecDepth 16384 in
theorem r283_809 (ls : A_V) (st : List Value) (h : A_H) : R 283 809 ls st h = a_do a_nL R R 283 (s_xal 810 ls st h) := a_R_eq ..
set_option maxRecDepth 16384 in
theorem r283_810 (ls : A_V) (st : List Value) (h : A_H) : R 283 810 ls st h = a_do a_nL R R 283 (s_call 14 107 2 2 true 811 ls st h) := a_R_eq ..
set_option maxRecDepth 16384 in
theorem r283_811 (ls : A_V) (st : List Value) (h : A_H) : R 283 811 ls st h = a_do a_nL R R 283 (s_aldl 2 812 ls st h) := a_R_eq ..
set_option maxRecDepth 16384 in
theorem r283_812 (ls : A_V) (st : List Value) (h : A_H) : R 283 812 ls st h = a_do a_nL R R 283 (s_aldl 0 813 ls st h) := a_R_eq ..
set_option maxRecDepth 16384 in
theorem r283_813 (ls : A_V) (st : List Value) (h : A_H) : R 283 813 ls st h = a_do a_nL R R 283 (s_ildl 4 814 ls st h) := a_R_eq ..
set_option maxRecDepth 16384 in
theorem r283_814 (ls : A_V) (st : List Value) (h : A_H) : R 283 814 ls st h = a_do a_nL R R 283 (s_push (.int 1) 815 ls st h) := a_R_eq ..
set_option maxRecDepth 16384 in
theorem r283_815 (ls : A_V) (st : List Value) (h : A_H) : R 283 815 ls st h = a_do a_nL R R 283 (s_bi (fun x y => x + y) 816 ls st h) := a_R_eq ..
set_option maxRecDepth 16384 in
theorem r283_816 (ls : A_V) (st : List Value) (h : A_H) : R 283 816 ls st h = a_do a_nL R R 283 (s_xal 817 ls st h) := a_R_eq ..
set_option maxRecDepth 16384 in
theorem r283_817 (ls : A_V) (st : List Value) (h : A_H) : R 283 817 ls st h = a_do a_nL R R 283 (s_call 16 245 2 2 true 818 ls st h) := a_R_eq ..
set_option maxRecDepth 16384 in
theorem r283_818 (ls : A_V) (st : List Value) (h : A_H) : R 283 818 ls st h = a_do a_nL R R 283 (s_if2 (fun x y => decide (x = y)) 1248 819 ls st h) := a_R_eq ..
set_option maxRecDepth 16384 in
theorem r283_819 (ls : A_V) (st : List Value) (h : A_H) : R 283 819 ls st h = a_do a_nL R R 283 (s_push (.int 0) 820 ls st h) := a_R_eq ..
set_option maxRecDepth 16384 in
theorem r283_820 (ls : A_V) (st : List Value) (h : A_H) : R 283 820 ls st h = a_do a_nL R R 283 (s_zret ls st h) := a_R_eq ..
set_option maxRecDepth 16384 in
theorem r283_821 (ls : A_V) (st : List Value) (h : A_H) : R 283 821 ls st h = a_do a_nL R R 283 (s_aldl 1 822 ls st h) := a_R_eq ..
set_option maxRecDepth 16384 in
theorem r283_822 (ls : A_V) (st : List Value) (h : A_H) : R 283 822 ls st h = a_do a_nL R R 283 (s_aldl 0 823 ls st h) := a_R_eq ..
set_option maxRecDepth 16384 in
theorem r283_823 (ls : A_V) (st : List Value) (h : A_H) : R 283 823 ls st h = a_do a_nL R R 283 (s_ildl 4 824 ls st h) := a_R_eq ..
set_option maxRecDepth 16384 in
theorem r283_824 (ls : A_V) (st : List Value) (h : A_H) : R 283 824 ls st h = a_do a_nL R R 283 (s_push (.int 1) 825 ls st h) := a_R_eq ..
set_option maxRecDepth 16384 in
theorem r283_825 (ls : A_V) (st : List Value) (h : A_H) : R 283 825 ls st h = a_do a_nL R R 283 (s_bi (fun x y => x + y) 826 ls st h) := a_R_eq ..
set_option maxRecDepth 16384 in
theorem r283_826 (ls : A_V) (st : List Value) (h : A_H) : R 283 826 ls st h = a_do a_nL R R 283 (s_xal 827 ls st h) := a_R_eq ..
set_option maxRecDepth 16384 in
theorem r283_827 (ls : A_V) (st : List Value) (h : A_H) : R 283 827 ls st h = a_do a_nL R R 283 (s_aldl 0 828 ls st h) := a_R_eq ..
set_option maxRecDepth 16384 in
theorem r283_828 (ls : A_V) (st : List Value) (h : A_H) : R 283 828 ls st h = a_do a_nL R R 283 (s_ildl 4 829 ls st h) := a_R_eq ..
set_option maxRecDepth 16384 in
theorem r283_829 (ls : A_V) (st : List Value) (h : A_H) : R 283 829 ls st h = a_do a_nL R R 283 (s_push (.int 2) 830 ls st h) := a_R_eq ..
set_option maxRecDepth 16384 in
theorem r283_830 (ls : A_V) (st : List Value) (h : A_H) : R 283 830 ls st h = a_do a_nL R R 283 (s_bi (fun x y => x + y) 831 ls st h) := a_R_eq ..
set_option maxRecDepth 16384 in
theorem r283_831 (ls : A_V) (st : List Value) (h : A_H) : R 283 831 ls st h = a_do a_nL R R 283 (s_xal 832 ls st h) := a_R_eq ..
set_option maxRecDepth 16384 in
theorem r283_832 (ls : A_V) (st : List Value) (h : A_H) : R 283 832 ls st h = a_do a_nL R R 283 (s_call 14 110 3 3 true 833 ls st h) := a_R_eq ..
set_option maxRecDepth 16384 in
theorem r283_833 (ls : A_V) (st : List Value) (h : A_H) : R 283 833 ls st h = a_do a_nL R R 283 (s_aldl 2 834 ls st h) := a_R_eq ..
set_option maxRecDepth 16384 in
theorem r283_834 (ls : A_V) (st : List Value) (h : A_H) : R 283 834 ls st h = a_do a_nL R R 283 (s_aldl 0 835 ls st h) := a_R_eq ..
set_option maxRecDepth 16384 in
theorem r283_835 (ls : A_V) (st : List Value) (h : A_H) : R 283 835 ls st h = a_do a_nL R R 283 (s_ildl 4 836 ls st h) := a_R_eq ..
set_option maxRecDepth 16384 in
theorem r283_836 (ls : A_V) (st : List Value) (h : A_H) : R 283 836 ls st h = a_do a_nL R R 283 (s_push (.int 1) 837 ls st h) := a_R_eq ..
set_option maxRecDepth 16384 in
theorem r283_837 (ls : A_V) (st : List Value) (h : A_H) : R 283 837 ls st h = a_do a_nL R R 283 (s_bi (fun x y => x + y) 838 ls st h) := a_R_eq ..
set_option maxRecDepth 16384 in
theorem r283_838 (ls : A_V) (st : List Value) (h : A_H) : R 283 838 ls st h = a_do a_nL R R 283 (s_xal 839 ls st h) := a_R_eq ..
set_option maxRecDepth 16384 in
theorem r283_839 (ls : A_V) (st : List Value) (h : A_H) : R 283 839 ls st h = a_do a_nL R R 283 (s_aldl 0 840 ls st h) := a_R_eq ..
set_option maxRecDepth 16384 in
theorem r283_840 (ls : A_V) (st : List Value) (h : A_H) : R 283 840 ls st h = a_do a_nL R R 283 (s_ildl 4 841 ls st h) := a_R_eq ..
set_option maxRecDepth 16384 in
theorem r283_841 (ls : A_V) (st : List Value) (h : A_H) : R 283 841 ls st h = a_do a_nL R R 283 (s_push (.int 2) 842 ls st h) := a_R_eq ..
set_option maxRecDepth 16384 in
theorem r283_842 (ls : A_V) (st : List Value) (h : A_H) : R 283 842 ls st h = a_do a_nL R R 283 (s_bi (fun x y => x + y) 843 ls st h) := a_R_eq ..
set_option maxRecDepth 16384 in
theorem r283_843 (ls : A_V) (st : List Value) (h : A_H) : R 283 843 ls st h = a_do a_nL R R 283 (s_xal 844 ls st h) := a_R_eq ..
set_option maxRecDepth 16384 in
theorem r283_844 (ls : A_V) (st : List Value) (h : A_H) : R 283 844 ls st h = a_do a_nL R R 283 (s_call 16 247 3 4 true 845 ls st h) := a_R_eq ..
set_option maxRecDepth 16384 in
theorem r283_845 (ls : A_V) (st : List Value) (h : A_H) : R 283 845 ls st h = a_do a_nL R R 283 (s_if2 (fun x y => decide (x = y)) 1248 846 ls st h) := a_R_eq ..
set_option maxRecDepth 16384 in
theorem r283_846 (ls : A_V) (st : List Value) (h : A_H) : R 283 846 ls st h = a_do a_nL R R 283 (s_push (.int 0) 847 ls st h) := a_R_eq ..
set_option maxRecDepth 16384 in
theorem r283_847 (ls : A_V) (st : List Value) (h : A_H) : R 283 847 ls st h = a_do a_nL R R 283 (s_zret ls st h) := a_R_eq ..
set_option maxRecDepth 16384 in
theorem r283_848 (ls : A_V) (st : List Value) (h : A_H) : R 283 848 ls st h = a_do a_nL R R 283 (s_aldl 1 849 ls st h) := a_R_eq ..
set_option maxRecDepth 16384 in
theorem r283_849 (ls : A_V) (st : List Value) (h : A_H) : R 283 849 ls st h = a_do a_nL R R 283 (s_call 14 111 1 7 true 850 ls st h) := a_R_eq ..
set_option maxRecDepth 16384 in
theorem r283_850 (ls : A_V) (st : List Value) (h : A_H) : R 283 850 ls st h = a_do a_nL R R 283 (s_aldl 2 851 ls st h) := a_R_eq ..
set_option maxRecDepth 16384 in
theorem r283_851 (ls : A_V) (st : List Value) (h : A_H) : R 283 851 ls st h = a_do a_nL R R 283 (s_call 16 248 1 5 true 852 ls st h) := a_R_eq ..
set_option maxRecDepth 16384 in
theorem r283_852 (ls : A_V) (st : List Value) (h : A_H) : R 283 852 ls st h = a_do a_nL R R 283 (s_if2 (fun x y => decide (x = y)) 1248 853 ls st h) := a_R_eq ..
set_option maxRecDepth 16384 in
theorem r283_853 (ls : A_V) (st : List Value) (h : A_H) : R 283 853 ls st h = a_do a_nL R R 283 (s_push (.int 0) 854 ls st h) := a_R_eq ..
set_option maxRecDepth 16384 in
theorem r283_854 (ls : A_V) (st : List Value) (h : A_H) : R 283 854 ls st h = a_do a_nL R R 283 (s_zret ls st h) := a_R_eq ..
set_option maxRecDepth 16384 in
theorem r283_855 (ls : A_V) (st : List Value) (h : A_H) : R 283 855 ls st h = a_do a_nL R R 283 (s_aldl 1 856 ls st h) := a_R_eq ..
set_option maxRecDepth 16384 in
theorem r283_856 (ls : A_V) (st : List Value) (h : A_H) : R 283 856 ls st h = a_do a_nL R R 283 (s_aldl 0 857 ls st h) := a_R_eq ..
set_option maxRecDepth 16384 in
theorem r283_857 (ls : A_V) (st : List Value) (h : A_H) : R 283 857 ls st h = a_do a_nL R R 283 (s_ildl 4 858 ls st h) := a_R_eq ..
set_option maxRecDepth 16384 in
theorem r283_858 (ls : A_V) (st : List Value) (h : A_H) : R 283 858 ls st h = a_do a_nL R R 283 (s_push (.int 1) 859 ls st h) := a_R_eq ..
set_option maxRecDepth 16384 in
theorem r283_859 (ls : A_V) (st : List Value) (h : A_H) : R 283 859 ls st h = a_do a_nL R R 283 (s_bi (fun x y => x + y) 860 ls st h) := a_R_eq ..
set_option maxRecDepth 16384 in
theorem r283_860 (ls : A_V) (st : List Value) (h : A_H) : R 283 860 ls st h = a_do a_nL R R 283 (s_xal 861 ls st h) := a_R_eq ..
set_option maxRecDepth 16384 in
theorem r283_861 (ls : A_V) (st : List Value) (h : A_H) : R 283 861 ls st h = a_do a_nL R R 283 (s_call 14 112 2 8 true 862 ls st h) := a_R_eq ..
set_option maxRecDepth 16384 in
theorem r283_862 (ls : A_V) (st : List Value) (h : A_H) : R 283 862 ls st h = a_do a_nL R R 283 (s_aldl 2 863 ls st h) := a_R_eq ..
set_option maxRecDepth 16384 in
theorem r283_863 (ls : A_V) (st : List Value) (h : A_H) : R 283 863 ls st h = a_do a_nL R R 283 (s_aldl 0 864 ls st h) := a_R_eq ..
set_option maxRecDepth 16384 in
theorem r283_864 (ls : A_V) (st : List Value) (h : A_H) : R 283 864 ls st h = a_do a_nL R R 283 (s_ildl 4 865 ls st h) := a_R_eq ..
set_option maxRecDepth 16384 in
theorem r283_865 (ls : A_V) (st : List Value) (h : A_H) : R 283 865 ls st h = a_do a_nL R R 283 (s_push (.int 1) 866 ls st h) := a_R_eq ..
set_option maxRecDepth 16384 in
theorem r283_866 (ls : A_V) (st : List Value) (h : A_H) : R 283 866 ls st h = a_do a_nL R R 283 (s_bi (fun x y => x + y) 867 ls st h) := a_R_eq ..
set_option maxRecDepth 16384 in
theorem r283_867 (ls : A_V) (st : List Value) (h : A_H) : R 283 867 ls st h = a_do a_nL R R 283 (s_xal 868 ls st h) := a_R_eq ..
set_option maxRecDepth 16384 in
theorem r283_868 (ls : A_V) (st : List Value) (h : A_H) : R 283 868 ls st h = a_do a_nL R R 283 (s_call 16 250 2 5 true 869 ls st h) := a_R_eq ..
set_option maxRecDepth 16384 in
theorem r283_869 (ls : A_V) (st : List Value) (h : A_H) : R 283 869 ls st h = a_do a_nL R R 283 (s_if2 (fun x y => decide (x = y)) 1248 870 ls st h) := a_R_eq ..
set_option maxRecDepth 16384 in
theorem r283_870 (ls : A_V) (st : List Value) (h : A_H) : R 283 870 ls st h = a_do a_nL R R 283 (s_push (.int 0) 871 ls st h) := a_R_eq ..
set_option maxRecDepth 16384 in
theorem r283_871 (ls : A_V) (st : List Value) (h : A_H) : R 283 871 ls st h = a_do a_nL R R 283 (s_zret ls st h) := a_R_eq ..
set_option maxRecDepth 16384 in
theorem r283_872 (ls : A_V) (st : List Value) (h : A_H) : R 283 872 ls st h = a_do a_nL R R 283 (s_aldl 1 873 ls st h) := a_R_eq ..
set_option maxRecDepth 16384 in
theorem r283_873 (ls : A_V) (st : List Value) (h : A_H) : R 283 873 ls st h = a_do a_nL R R 283 (s_aldl 0 874 ls st h) := a_R_eq ..
set_option maxRecDepth 16384 in
theorem r283_874 (ls : A_V) (st : List Value) (h : A_H) : R 283 874 ls st h = a_do a_nL R R 283 (s_ildl 4 875 ls st h) := a_R_eq ..
set_option maxRecDepth 16384 in
theorem r283_875 (ls : A_V) (st : List Value) (h : A_H) : R 283 875 ls st h = a_do a_nL R R 283 (s_push (.int 1) 876 ls st h) := a_R_eq ..
set_option maxRecDepth 16384 in
theorem r283_876 (ls : A_V) (st : List Value) (h : A_H) : R 283 876 ls st h = a_do a_nL R R 283 (s_bi (fun x y => x + y) 877 ls st h) := a_R_eq ..
set_option maxRecDepth 16384 in
theorem r283_877 (ls : A_V) (st : List Value) (h : A_H) : R 283 877 ls st h = a_do a_nL R R 283 (s_xal 878 ls st h) := a_R_eq ..
set_option maxRecDepth 16384 in
theorem r283_878 (ls : A_V) (st : List Value) (h : A_H) : R 283 878 ls st h = a_do a_nL R R 283 (s_call 14 114 2 2 true 879 ls st h) := a_R_eq ..
set_option maxRecDepth 16384 in
theorem r283_879 (ls : A_V) (st : List Value) (h : A_H) : R 283 879 ls st h = a_do a_nL R R 283 (s_aldl 2 880 ls st h) := a_R_eq ..
set_option maxRecDepth 16384 in
theorem r283_880 (ls : A_V) (st : List Value) (h : A_H) : R 283 880 ls st h = a_do a_nL R R 283 (s_aldl 0 881 ls st h) := a_R_eq ..
set_option maxRecDepth 16384 in
theorem r283_881 (ls : A_V) (st : List Value) (h : A_H) : R 283 881 ls st h = a_do a_nL R R 283 (s_ildl 4 882 ls st h) := a_R_eq ..
set_option maxRecDepth 16384 in
theorem r283_882 (ls : A_V) (st : List Value) (h : A_H) : R 283 882 ls st h = a_do a_nL R R 283 (s_push (.int 1) 883 ls st h) := a_R_eq ..
set_option maxRecDepth 16384 in
theorem r283_883 (ls : A_V) (st : List Value) (h : A_H) : R 283 883 ls st h = a_do a_nL R R 283 (s_bi (fun x y => x + y) 884 ls st h) := a_R_eq ..
set_option maxRecDepth 16384 in
theorem r283_884 (ls : A_V) (st : List Value) (h : A_H) : R 283 884 ls st h = a_do a_nL R R 283 (s_xal 885 ls st h) := a_R_eq ..
set_option maxRecDepth 16384 in
theorem r283_885 (ls : A_V) (st : List Value) (h : A_H) : R 283 885 ls st h = a_do a_nL R R 283 (s_call 16 254 2 2 true 886 ls st h) := a_R_eq ..
set_option maxRecDepth 16384 in
theorem r283_886 (ls : A_V) (st : List Value) (h : A_H) : R 283 886 ls st h = a_do a_nL R R 283 (s_if2 (fun x y => decide (x = y)) 1248 887 ls st h) := a_R_eq ..
set_option maxRecDepth 16384 in
theorem r283_887 (ls : A_V) (st : List Value) (h : A_H) : R 283 887 ls st h = a_do a_nL R R 283 (s_push (.int 0) 888 ls st h) := a_R_eq ..
set_option maxRecDepth 16384 in
theorem r283_888 (ls : A_V) (st : List Value) (h : A_H) : R 283 888 ls st h = a_do a_nL R R 283 (s_zret ls st h) := a_R_eq ..
set_option maxRecDepth 16384 in
theorem r283_889 (ls : A_V) (st : List Value) (h : A_H) : R 283 889 ls st h = a_do a_nL R R 283 (s_aldl 1 890 ls st h) := a_R_eq ..
set_option maxRecDepth 16384 in
theorem r283_890 (ls : A_V) (st : List Value) (h : A_H) : R 283 890 ls st h = a_do a_nL R R 283 (s_call 14 115 1 2 true 891 ls st h) := a_R_eq ..
set_option maxRecDepth 16384 in
theorem r283_891 (ls : A_V) (st : List Value) (h : A_H) : R 283 891 ls st h = a_do a_nL R R 283 (s_aldl 2 892 ls st h) := a_R_eq ..
set_option maxRecDepth 16384 in
theorem r283_892 (ls : A_V) (st : List Value) (h : A_H) : R 283 892 ls st h = a_do a_nL R R 283 (s_call 16 255 1 2 true 893 ls st h) := a_R_eq ..
set_option maxRecDepth 16384 in
theorem r283_893 (ls : A_V) (st : List Value) (h : A_H) : R 283 893 ls st h = a_do a_nL R R 283 (s_if2 (fun x y => decide (x = y)) 1248 894 ls st h) := a_R_eq ..
set_option maxRecDepth 16384 in
theorem r283_894 (ls : A_V) (st : List Value) (h : A_H) : R 283 894 ls st h = a_do a_nL R R 283 (s_push (.int 0) 895 ls st h) := a_R_eq ..
set_option maxRecDepth 16384 in
theorem r283_895 (ls : A_V) (st : List Value) (h : A_H) : R 283 895 ls st h = a_do a_nL R R 283 (s_zret ls st h) := a_R_eq ..
set_option maxRecDepth 16384 in
theorem r283_896 (ls : A_V) (st : List Value) (h : A_H) : R 283 896 ls st h = a_do a_nL R R 283 (s_aldl 1 897 ls st h) := a_R_eq ..
set_option maxRecDepth 16384 in
theorem r283_897 (ls : A_V) (st : List Value) (h : A_H) : R 283 897 ls st h = a_do a_nL R R 283 (s_aldl 0 898 ls st h) := a_R_eq ..
set_option maxRecDepth 16384 in
theorem r283_898 (ls : A_V) (st : List Value) (h : A_H) : R 283 898 ls st h = a_do a_nL R R 283 (s_ildl 4 899 ls st h) := a_R_eq ..
set_option maxRecDepth 16384 in
theorem r283_899 (ls : A_V) (st : List Value) (h : A_H) : R 283 899 ls st h = a_do a_nL R R 283 (s_push (.int 1) 900 ls st h) := a_R_eq ..
set_option maxRecDepth 16384 in
theorem r283_900 (ls : A_V) (st : List Value) (h : A_H) : R 283 900 ls st h = a_do a_nL R R 283 (s_bi (fun x y => x + y) 901 ls st h) := a_R_eq ..
set_option maxRecDepth 16384 in
theorem r283_901 (ls : A_V) (st : List Value) (h : A_H) : R 283 901 ls st h = a_do a_nL R R 283 (s_xal 902 ls st h) := a_R_eq ..
set_option maxRecDepth 16384 in
theorem r283_902 (ls : A_V) (st : List Value) (h : A_H) : R 283 902 ls st h = a_do a_nL R R 283 (s_if1 (fun x => decide (x = 0)) 905 903 ls st h) := a_R_eq ..
set_option maxRecDepth 16384 in
theorem r283_903 (ls : A_V) (st : List Value) (h : A_H) : R 283 903 ls st h = a_do a_nL R R 283 (s_push (.int 1) 904 ls st h) := a_R_eq ..
set_option maxRecDepth 16384 in
theorem r283_904 (ls : A_V) (st : List Value) (h : A_H) : R 283 904 ls st h = a_do a_nL R R 283 (s_goto 906 ls st h) := a_R_eq ..
set_option maxRecDepth 16384 in
theorem r283_905 (ls : A_V) (st : List Value) (h : A_H) : R 283 905 ls st h = a_do a_nL R R 283 (s_push (.int 0) 906 ls st h) := a_R_eq ..
set_option maxRecDepth 16384 in
theorem r283_906 (ls : A_V) (st : List Value) (h : A_H) : R 283 906 ls st h = a_do a_nL R R 283 (s_call 14 116 2 2 true 907 ls st h) := a_R_eq ..
set_option maxRecDepth 16384 in
theorem r283_907 (ls : A_V) (st : List Value) (h : A_H) : R 283 907 ls st h = a_do a_nL R R 283 (s_aldl 2 908 ls st h) := a_R_eq ..
set_option maxRecDepth 16384 in
theorem r283_908 (ls : A_V) (st : List Value) (h : A_H) : R 283 908 ls st h = a_do a_nL R R 283 (s_aldl 0 909 ls st h) := a_R_eq ..
set_option maxRecDepth 16384 in
theorem r283_909 (ls : A_V) (st : List Value) (h : A_H) : R 283 909 ls st h = a_do a_nL R R 283 (s_ildl 4 910 ls st h) := a_R_eq ..
set_option maxRecDepth 16384 in
theorem r283_910 (ls : A_V) (st : List Value) (h : A_H) : R 283 910 ls st h = a_do a_nL R R 283 (s_push (.int 1) 911 ls st h) := a_R_eq ..
set_option maxRecDepth 16384 in
theorem r283_911 (ls : A_V) (st : List Value) (h : A_H) : R 283 911 ls st h = a_do a_nL R R 283 (s_bi (fun x y => x + y) 912 ls st h) := a_R_eq ..
set_option maxRecDepth 16384 in
theorem r283_912 (ls : A_V) (st : List Value) (h : A_H) : R 283 912 ls st h = a_do a_nL R R 283 (s_xal 913 ls st h) := a_R_eq ..
set_option maxRecDepth 16384 in
theorem r283_913 (ls : A_V) (st : List Value) (h : A_H) : R 283 913 ls st h = a_do a_nL R R 283 (s_if1 (fun x => decide (x = 0)) 916 914 ls st h) := a_R_eq ..
set_option maxRecDepth 16384 in
theorem r283_914 (ls : A_V) (st : List Value) (h : A_H) : R 283 914 ls st h = a_do a_nL R R 283 (s_push (.int 1) 915 ls st h) := a_R_eq ..
set_option maxRecDepth 16384 in
theorem r283_915 (ls : A_V) (st : List Value) (h : A_H) : R 283 915 ls st h = a_do a_nL R R 283 (s_goto 917 ls st h) := a_R_eq ..
set_option maxRecDepth 16384 in
theorem r283_916 (ls : A_V) (st : List Value) (h : A_H) : R 283 916 ls st h = a_do a_nL R R 283 (s_push (.int 0) 917 ls st h) := a_R_eq ..
set_option maxRecDepth 16384 in
theorem r283_917 (ls : A_V) (st : List Value) (h : A_H) : R 283 917 ls st h = a_do a_nL R R 283 (s_call 16 256 2 4 true 918 ls st h) := a_R_eq ..
set_option maxRecDepth 16384 in
theorem r283_918 (ls : A_V) (st : List Value) (h : A_H) : R 283 918 ls st h = a_do a_nL R R 283 (s_if2 (fun x y => decide (x = y)) 1248 919 ls st h) := a_R_eq ..
set_option maxRecDepth 16384 in
theorem r283_919 (ls : A_V) (st : List Value) (h : A_H) : R 283 919 ls st h = a_do a_nL R R 283 (s_push (.int 0) 920 ls st h) := a_R_eq ..
set_option maxRecDepth 16384 in
theorem r283_920 (ls : A_V) (st : List Value) (h : A_H) : R 283 920 ls st h = a_do a_nL R R 283 (s_zret ls st h) := a_R_eq ..
set_option maxRecDepth 16384 in
theorem r283_921 (ls : A_V) (st : List Value) (h : A_H) : R 283 921 ls st h = a_do a_nL R R 283 (s_aldl 1 922 ls st h) := a_R_eq ..
set_option maxRecDepth 16384 in
theorem r283_922 (ls : A_V) (st : List Value) (h : A_H) : R 283 922 ls st h = a_do a_nL R R 283 (s_call 14 117 1 2 true 923 ls st h) := a_R_eq ..
set_option maxRecDepth 16384 in
theorem r283_923 (ls : A_V) (st : List Value) (h : A_H) : R 283 923 ls st h = a_do a_nL R R 283 (s_aldl 2 924 ls st h) := a_R_eq ..
set_option maxRecDepth 16384 in
theorem r283_924 (ls : A_V) (st : List Value) (h : A_H) : R 283 924 ls st h = a_do a_nL R R 283 (s_call 16 260 1 1 true 925 ls st h) := a_R_eq ..
set_option maxRecDepth 16384 in
theorem r283_925 (ls : A_V) (st : List Value) (h : A_H) : R 283 925 ls st h = a_do a_nL R R 283 (s_if2 (fun x y => decide (x = y)) 1248 926 ls st h) := a_R_eq ..
set_option maxRecDepth 16384 in
theorem r283_926 (ls : A_V) (st : List Value) (h : A_H) : R 283 926 ls st h = a_do a_nL R R 283 (s_push (.int 0) 927 ls st h) := a_R_eq ..
set_option maxRecDepth 16384 in
theorem r283_927 (ls : A_V) (st : List Value) (h : A_H) : R 283 927 ls st h = a_do a_nL R R 283 (s_zret ls st h) := a_R_eq ..
set_option maxRecDepth 16384 in
theorem r283_928 (ls : A_V) (st : List Value) (h : A_H) : R 283 928 ls st h = a_do a_nL R R 283 (s_aldl 1 929 ls st h) := a_R_eq ..
set_option maxRecDepth 16384 in
theorem r283_929 (ls : A_V) (st : List Value) (h : A_H) : R 283 929 ls st h = a_do a_nL R R 283 (s_aldl 0 930 ls st h) := a_R_eq ..
set_option maxRecDepth 16384 in
theorem r283_930 (ls : A_V) (st : List Value) (h : A_H) : R 283 930 ls st h = a_do a_nL R R 283 (s_ildl 4 931 ls st h) := a_R_eq ..
set_option maxRecDepth 16384 in
theorem r283_931 (ls : A_V) (st : List Value) (h : A_H) : R 283 931 ls st h = a_do a_nL R R 283 (s_push (.int 1) 932 ls st h) := a_R_eq ..
set_option maxRecDepth 16384 in
theorem r283_932 (ls : A_V) (st : List Value) (h : A_H) : R 283 932 ls st h = a_do a_nL R R 283 (s_bi (fun x y => x + y) 933 ls st h) := a_R_eq ..
set_option maxRecDepth 16384 in
theorem r283_933 (ls : A_V) (st : List Value) (h : A_H) : R 283 933 ls st h = a_do a_nL R R 283 (s_xal 934 ls st h) := a_R_eq ..
set_option maxRecDepth 16384 in
theorem r283_934 (ls : A_V) (st : List Value) (h : A_H) : R 283 934 ls st h = a_do a_nL R R 283 (s_call 14 118 2 2 true 935 ls st h) := a_R_eq ..
set_option maxRecDepth 16384 in
theorem r283_935 (ls : A_V) (st : List Value) (h : A_H) : R 283 935 ls st h = a_do a_nL R R 283 (s_aldl 2 936 ls st h) := a_R_eq ..
set_option maxRecDepth 16384 in
theorem r283_936 (ls : A_V) (st : List Value) (h : A_H) : R 283 936 ls st h = a_do a_nL R R 283 (s_aldl 0 937 ls st h) := a_R_eq ..
set_option maxRecDepth 16384 in
theorem r283_937 (ls : A_V) (st : List Value) (h : A_H) : R 283 937 ls st h = a_do a_nL R R 283 (s_ildl 4 938 ls st h) := a_R_eq ..
set_option maxRecDepth 16384 in
theorem r283_938 (ls : A_V) (st : List Value) (h : A_H) : R 283 938 ls st h = a_do a_nL R R 283 (s_push (.int 1) 939 ls st h) := a_R_eq ..
set_option maxRecDepth 16384 in
theorem r283_939 (ls : A_V) (st : List Value) (h : A_H) : R 283 939 ls st h = a_do a_nL R R 283 (s_bi (fun x y => x + y) 940 ls st h) := a_R_eq ..
set_option maxRecDepth 16384 in
theorem r283_940 (ls : A_V) (st : List Value) (h : A_H) : R 283 940 ls st h = a_do a_nL R R 283 (s_xal 941 ls st h) := a_R_eq ..
set_option maxRecDepth 16384 in
theorem r283_941 (ls : A_V) (st : List Value) (h : A_H) : R 283 941 ls st h = a_do a_nL R R 283 (s_call 16 262 2 2 true 942 ls st h) := a_R_eq ..
set_option maxRecDepth 16384 in
theorem r283_942 (ls : A_V) (st : List Value) (h : A_H) : R 283 942 ls st h = a_do a_nL R R 283 (s_if2 (fun x y => decide (x = y)) 1248 943 ls st h) := a_R_eq ..
set_option maxRecDepth 16384 in
theorem r283_943 (ls : A_V) (st : List Value) (h : A_H) : R 283 943 ls st h = a_do a_nL R R 283 (s_push (.int 0) 944 ls st h) := a_R_eq ..
set_option maxRecDepth 16384 in
theorem r283_944 (ls : A_V) (st : List Value) (h : A_H) : R 283 944 ls st h = a_do a_nL R R 283 (s_zret ls st h) := a_R_eq ..
set_option maxRecDepth 16384 in
theorem r283_945 (ls : A_V) (st : List Value) (h : A_H) : R 283 945 ls st h = a_do a_nL R R 283 (s_aldl 1 946 ls st h) := a_R_eq ..
set_option maxRecDepth 16384 in
theorem r283_946 (ls : A_V) (st : List Value) (h : A_H) : R 283 946 ls st h = a_do a_nL R R 283 (s_aldl 0 947 ls st h) := a_R_eq ..
set_option maxRecDepth 16384 in
theorem r283_947 (ls : A_V) (st : List Value) (h : A_H) : R 283 947 ls st h = a_do a_nL R R 283 (s_ildl 4 948 ls st h) := a_R_eq ..
set_option maxRecDepth 16384 in
theorem r283_948 (ls : A_V) (st : List Value) (h : A_H) : R 283 948 ls st h = a_do a_nL R R 283 (s_push (.int 1) 949 ls st h) := a_R_eq ..
set_option maxRecDepth 16384 in
theorem r283_949 (ls : A_V) (st : List Value) (h : A_H) : R 283 949 ls st h = a_do a_nL R R 283 (s_bi (fun x y => x + y) 950 ls st h) := a_R_eq ..
set_option maxRecDepth 16384 in
theorem r283_950 (ls : A_V) (st : List Value) (h : A_H) : R 283 950 ls st h = a_do a_nL R R 283 (s_xal 951 ls st h) := a_R_eq ..
set_option maxRecDepth 16384 in
theorem r283_951 (ls : A_V) (st : List Value) (h : A_H) : R 283 951 ls st h = a_do a_nL R R 283 (s_call 14 119 2 4 true 952 ls st h) := a_R_eq ..
set_option maxRecDepth 16384 in
theorem r283_952 (ls : A_V) (st : List Value) (h : A_H) : R 283 952 ls st h = a_do a_nL R R 283 (s_aldl 2 953 ls st h) := a_R_eq ..
set_option maxRecDepth 16384 in
theorem r283_953 (ls : A_V) (st : List Value) (h : A_H) : R 283 953 ls st h = a_do a_nL R R 283 (s_aldl 0 954 ls st h) := a_R_eq ..
set_option maxRecDepth 16384 in
theorem r283_954 (ls : A_V) (st : List Value) (h : A_H) : R 283 954 ls st h = a_do a_nL R R 283 (s_ildl 4 955 ls st h) := a_R_eq ..
set_option maxRecDepth 16384 in
theorem r283_955 (ls : A_V) (st : List Value) (h : A_H) : R 283 955 ls st h = a_do a_nL R R 283 (s_push (.int 1) 956 ls st h) := a_R_eq ..
set_option maxRecDepth 16384 in
theorem r283_956 (ls : A_V) (st : List Value) (h : A_H) : R 283 956 ls st h = a_do a_nL R R 283 (s_bi (fun x y => x + y) 957 ls st h) := a_R_eq ..
set_option maxRecDepth 16384 in
theorem r283_957 (ls : A_V) (st : List Value) (h : A_H) : R 283 957 ls st h = a_do a_nL R R 283 (s_xal 958 ls st h) := a_R_eq ..
set_option maxRecDepth 16384 in
theorem r283_958 (ls : A_V) (st : List Value) (h : A_H) : R 283 958 ls st h = a_do a_nL R R 283 (s_call 16 263 2 3 true 959 ls st h) := a_R_eq ..
set_option maxRecDepth 16384 in
theorem r283_959 (ls : A_V) (st : List Value) (h : A_H) : R 283 959 ls st h = a_do a_nL R R 283 (s_if2 (fun x y => decide (x = y)) 1248 960 ls st h) := a_R_eq ..
set_option maxRecDepth 16384 in
theorem r283_960 (ls : A_V) (st : List Value) (h : A_H) : R 283 960 ls st h = a_do a_nL R R 283 (s_push (.int 0) 961 ls st h) := a_R_eq ..
set_option maxRecDepth 16384 in
theorem r283_961 (ls : A_V) (st : List Value) (h : A_H) : R 283 961 ls st h = a_do a_nL R R 283 (s_zret ls st h) := a_R_eq ..
set_option maxRecDepth 16384 in
theorem r283_962 (ls : A_V) (st : List Value) (h : A_H) : R 283 962 ls st h = a_do a_nL R R 283 (s_aldl 1 963 ls st h) := a_R_eq ..
set_option maxRecDepth 16384 in
theorem r283_963 (ls : A_V) (st : List Value) (h : A_H) : R 283 963 ls st h = a_do a_nL R R 283 (s_aldl 0 964 ls st h) := a_R_eq ..
set_option maxRecDepth 16384 in
theorem r283_964 (ls : A_V) (st : List Value) (h : A_H) : R 283 964 ls st h = a_do a_nL R R 283 (s_ildl 4 965 ls st h) := a_R_eq ..
set_option maxRecDepth 16384 in
theorem r283_965 (ls : A_V) (st : List Value) (h : A_H) : R 283 965 ls st h = a_do a_nL R R 283 (s_push (.int 1) 966 ls st h) := a_R_eq ..
set_option maxRecDepth 16384 in
theorem r283_966 (ls : A_V) (st : List Value) (h : A_H) : R 283 966 ls st h = a_do a_nL R R 283 (s_bi (fun x y => x + y) 967 ls st h) := a_R_eq ..
set_option maxRecDepth 16384 in
theorem r283_967 (ls : A_V) (st : List Value) (h : A_H) : R 283 967 ls st h = a_do a_nL R R 283 (s_xal 968 ls st h) := a_R_eq ..
set_option maxRecDepth 16384 in
theorem r283_968 (ls : A_V) (st : List Value) (h : A_H) : R 283 968 ls st h = a_do a_nL R R 283 (s_aldl 0 969 ls st h) := a_R_eq ..
set_option maxRecDepth 16384 in
theorem r283_969 (ls : A_V) (st : List Value) (h : A_H) : R 283 969 ls st h = a_do a_nL R R 283 (s_ildl 4 970 ls st h) := a_R_eq ..
set_option maxRecDepth 16384 in
theorem r283_970 (ls : A_V) (st : List Value) (h : A_H) : R 283 970 ls st h = a_do a_nL R R 283 (s_push (.int 2) 971 ls st h) := a_R_eq ..
set_option maxRecDepth 16384 in
theorem r283_971 (ls : A_V) (st : List Value) (h : A_H) : R 283 971 ls st h = a_do a_nL R R 283 (s_bi (fun x y => x + y) 972 ls st h) := a_R_eq ..
set_option maxRecDepth 16384 in
theorem r283_972 (ls : A_V) (st : List Value) (h : A_H) : R 283 972 ls st h = a_do a_nL R R 283 (s_xal 973 ls st h) := a_R_eq ..
set_option maxRecDepth 16384 in
theorem r283_973 (ls : A_V) (st : List Value) (h : A_H) : R 283 973 ls st h = a_do a_nL R R 283 (s_aldl 0 974 ls st h) := a_R_eq ..
set_option maxRecDepth 16384 in
theorem r283_974 (ls : A_V) (st : List Value) (h : A_H) : R 283 974 ls st h = a_do a_nL R R 283 (s_ildl 4 975 ls st h) := a_R_eq ..
set_option maxRecDepth 16384 in
theorem r283_975 (ls : A_V) (st : List Value) (h : A_H) : R 283 975 ls st h = a_do a_nL R R 283 (s_push (.int 3) 976 ls st h) := a_R_eq ..
set_option maxRecDepth 16384 in
theorem r283_976 (ls : A_V) (st : List Value) (h : A_H) : R 283 976 ls st h = a_do a_nL R R 283 (s_bi (fun x y => x + y) 977 ls st h) := a_R_eq ..
set_option maxRecDepth 16384 in
theorem r283_977 (ls : A_V) (st : List Value) (h : A_H) : R 283 977 ls st h = a_do a_nL R R 283 (s_xal 978 ls st h) := a_R_eq ..
set_option maxRecDepth 16384 in
theorem r283_978 (ls : A_V) (st : List Value) (h : A_H) : R 283 978 ls st h = a_do a_nL R R 283 (s_if1 (fun x => decide (x = 0)) 981 979 ls st h) := a_R_eq ..
set_option maxRecDepth 16384 in
theorem r283_979 (ls : A_V) (st : List Value) (h : A_H) : R 283 979 ls st h = a_do a_nL R R 283 (s_push (.int 1) 980 ls st h) := a_R_eq ..
set_option maxRecDepth 16384 in
theorem r283_980 (ls : A_V) (st : List Value) (h : A_H) : R 283 980 ls st h = a_do a_nL R R 283 (s_goto 982 ls st h) := a_R_eq ..
set_option maxRecDepth 16384 in
theorem r283_981 (ls : A_V) (st : List Value) (h : A_H) : R 283 981 ls st h = a_do a_nL R R 283 (s_push (.int 0) 982 ls st h) := a_R_eq ..
set_option maxRecDepth 16384 in
theorem r283_982 (ls : A_V) (st : List Value) (h : A_H) : R 283 982 ls st h = a_do a_nL R R 283 (s_call 14 120 4 11 true 983 ls st h) := a_R_eq ..
set_option maxRecDepth 16384 in
theorem r283_983 (ls : A_V) (st : List Value) (h : A_H) : R 283 983 ls st h = a_do a_nL R R 283 (s_aldl 2 984 ls st h) := a_R_eq ..
set_option maxRecDepth 16384 in
theorem r283_984 (ls : A_V) (st : List Value) (h : A_H) : R 283 984 ls st h = a_do a_nL R R 283 (s_aldl 0 985 ls st h) := a_R_eq ..
set_option maxRecDepth 16384 in
theorem r283_985 (ls : A_V) (st : List Value) (h : A_H) : R 283 985 ls st h = a_do a_nL R R 283 (s_ildl 4 986 ls st h) := a_R_eq ..
set_option maxRecDepth 16384 in
theorem r283_986 (ls : A_V) (st : List Value) (h : A_H) : R 283 986 ls st h = a_do a_nL R R 283 (s_push (.int 1) 987 ls st h) := a_R_eq ..
set_option maxRecDepth 16384 in
theorem r283_987 (ls : A_V) (st : List Value) (h : A_H) : R 283 987 ls st h = a_do a_nL R R 283 (s_bi (fun x y => x + y) 988 ls st h) := a_R_eq ..
set_option maxRecDepth 16384 in
theorem r283_988 (ls : A_V) (st : List Value) (h : A_H) : R 283 988 ls st h = a_do a_nL R R 283 (s_xal 989 ls st h) := a_R_eq ..
set_option maxRecDepth 16384 in
theorem r283_989 (ls : A_V) (st : List Value) (h : A_H) : R 283 989 ls st h = a_do a_nL R R 283 (s_aldl 0 990 ls st h) := a_R_eq ..
set_option maxRecDepth 16384 in
theorem r283_990 (ls : A_V) (st : List Value) (h : A_H) : R 283 990 ls st h = a_do a_nL R R 283 (s_ildl 4 991 ls st h) := a_R_eq ..
set_option maxRecDepth 16384 in
theorem r283_991 (ls : A_V) (st : List Value) (h : A_H) : R 283 991 ls st h = a_do a_nL R R 283 (s_push (.int 2) 992 ls st h) := a_R_eq ..
set_option maxRecDepth 16384 in
theorem r283_992 (ls : A_V) (st : List Value) (h : A_H) : R 283 992 ls st h = a_do a_nL R R 283 (s_bi (fun x y => x + y) 993 ls st h) := a_R_eq ..
set_option maxRecDepth 16384 in
theorem r283_993 (ls : A_V) (st : List Value) (h : A_H) : R 283 993 ls st h = a_do a_nL R R 283 (s_xal 994 ls st h) := a_R_eq ..
set_option maxRecDepth 16384 in
theorem r283_994 (ls : A_V) (st : List Value) (h : A_H) : R 283 994 ls st h = a_do a_nL R R 283 (s_aldl 0 995 ls st h) := a_R_eq ..
set_option maxRecDepth 16384 in
theorem r283_995 (ls : A_V) (st : List Value) (h : A_H) : R 283 995 ls st h = a_do a_nL R R 283 (s_ildl 4 996 ls st h) := a_R_eq ..
set_option maxRecDepth 16384 in
theorem r283_996 (ls : A_V) (st : List Value) (h : A_H) : R 283 996 ls st h = a_do a_nL R R 283 (s_push (.int 3) 997 ls st h) := a_R_eq ..
set_option maxRecDepth 16384 in
theorem r283_997 (ls : A_V) (st : List Value) (h : A_H) : R 283 997 ls st h = a_do a_nL R R 283 (s_bi (fun x y => x + y) 998 ls st h) := a_R_eq ..
set_option maxRecDepth 16384 in
theorem r283_998 (ls : A_V) (st : List Value) (h : A_H) : R 283 998 ls st h = a_do a_nL R R 283 (s_xal 999 ls st h) := a_R_eq ..
set_option maxRecDepth 16384 in
theorem r283_999 (ls : A_V) (st : List Value) (h : A_H) : R 283 999 ls st h = a_do a_nL R R 283 (s_if1 (fun x => decide (x = 0)) 1002 1000 ls st h) := a_R_eq ..
set_option maxRecDepth 16384 in
theorem r283_1000 (ls : A_V) (st : List Value) (h : A_H) : R 283 1000 ls st h = a_do a_nL R R 283 (s_push (.int 1) 1001 ls st h) := a_R_eq ..
set_option maxRecDepth 16384 in
theorem r283_1001 (ls : A_V) (st : List Value) (h : A_H) : R 283 1001 ls st h = a_do a_nL R R 283 (s_goto 1003 ls st h) := a_R_eq ..
set_option maxRecDepth 16384 in
theorem r283_1002 (ls : A_V) (st : List Value) (h : A_H) : R 283 1002 ls st h = a_do a_nL R R 283 (s_push (.int 0) 1003 ls st h) := a_R_eq ..
set_option maxRecDepth 16384 in
theorem r283_1003 (ls : A_V) (st : List Value) (h : A_H) : R 283 1003 ls st h = a_do a_nL R R 283 (s_call 16 264 4 9 true 1004 ls st h) := a_R_eq ..
set_option maxRecDepth 16384 in
theorem r283_1004 (ls : A_V) (st : List Value) (h : A_H) : R 283 1004 ls st h = a_do a_nL R R 283 (s_lcmp 1005 ls st h) := a_R_eq ..
set_option maxRecDepth 16384 in
theorem r283_1005 (ls : A_V) (st : List Value) (h : A_H) : R 283 1005 ls st h = a_do a_nL R R 283 (s_if1 (fun x => decide (x = 0)) 1248 1006 ls st h) := a_R_eq ..
set_option maxRecDepth 16384 in
theorem r283_1006 (ls : A_V) (st : List Value) (h : A_H) : R 283 1006 ls st h = a_do a_nL R R 283 (s_push (.int 0) 1007 ls st h) := a_R_eq ..
set_option maxRecDepth 16384 in
theorem r283_1007 (ls : A_V) (st : List Value) (h : A_H) : R 283 1007 ls st h = a_do a_nL R R 283 (s_zret ls st h) := a_R_eq ..
set_option maxRecDepth 16384 in
theorem r283_1008 (ls : A_V) (st : List Value) (h : A_H) : R 283 1008 ls st h = a_do a_nL R R 283 (s_aldl 1 1009 ls st h) := a_R_eq ..
set_option maxRecDepth 16384 in
theorem r283_1009 (ls : A_V) (st : List Value) (h : A_H) : R 283 1009 ls st h = a_do a_nL R R 283 (s_aldl 0 1010 ls st h) := a_R_eq ..
set_option maxRecDepth 16384 in
theorem r283_1010 (ls : A_V) (st : List Value) (h : A_H) : R 283 1010 ls st h = a_do a_nL R R 283 (s_ildl 4 1011 ls st h) := a_R_eq ..
set_option maxRecDepth 16384 in
theorem r283_1011 (ls : A_V) (st : List Value) (h : A_H) : R 283 1011 ls st h = a_do a_nL R R 283 (s_push (.int 1) 1012 ls st h) := a_R_eq ..
set_option maxRecDepth 16384 in
theorem r283_1012 (ls : A_V) (st : List Value) (h : A_H) : R 283 1012 ls st h = a_do a_nL R R 283 (s_bi (fun x y => x + y) 1013 ls st h) := a_R_eq ..
set_option maxRecDepth 16384 in
theorem r283_1013 (ls : A_V) (st : List Value) (h : A_H) : R 283 1013 ls st h = a_do a_nL R R 283 (s_xal 1014 ls st h) := a_R_eq ..
set_option maxRecDepth 16384 in
theorem r283_1014 (ls : A_V) (st : List Value) (h : A_H) : R 283 1014 ls st h = a_do a_nL R R 283 (s_call 14 122 2 2 true 1015 ls st h) := a_R_eq ..
set_option maxRecDepth 16384 in
theorem r283_1015 (ls : A_V) (st : List Value) (h : A_H) : R 283 1015 ls st h = a_do a_nL R R 283 (s_aldl 2 1016 ls st h) := a_R_eq ..
set_option maxRecDepth 16384 in
theorem r283_1016 (ls : A_V) (st : List Value) (h : A_H) : R 283 1016 ls st h = a_do a_nL R R 283 (s_aldl 0 1017 ls st h) := a_R_eq ..
set_option maxRecDepth 16384 in
theorem r283_1017 (ls : A_V) (st : List Value) (h : A_H) : R 283 1017 ls st h = a_do a_nL R R 283 (s_ildl 4 1018 ls st h) := a_R_eq ..
set_option maxRecDepth 16384 in
theorem r283_1018 (ls : A_V) (st : List Value) (h : A_H) : R 283 1018 ls st h = a_do a_nL R R 283 (s_push (.int 1) 1019 ls st h) := a_R_eq ..
set_option maxRecDepth 16384 in
theorem r283_1019 (ls : A_V) (st : List Value) (h : A_H) : R 283 1019 ls st h = a_do a_nL R R 283 (s_bi (fun x y => x + y) 1020 ls st h) := a_R_eq ..
set_option maxRecDepth 16384 in
theorem r283_1020 (ls : A_V) (st : List Value) (h : A_H) : R 283 1020 ls st h = a_do a_nL R R 283 (s_xal 1021 ls st h) := a_R_eq ..
set_option maxRecDepth 16384 in
theorem r283_1021 (ls : A_V) (st : List Value) (h : A_H) : R 283 1021 ls st h = a_do a_nL R R 283 (s_call 16 265 2 2 true 1022 ls st h) := a_R_eq ..
set_option maxRecDepth 16384 in
theorem r283_1022 (ls : A_V) (st : List Value) (h : A_H) : R 283 1022 ls st h = a_do a_nL R R 283 (s_if2 (fun x y => decide (x = y)) 1248 1023 ls st h) := a_R_eq ..
set_option maxRecDepth 16384 in
theorem r283_1023 (ls : A_V) (st : List Value) (h : A_H) : R 283 1023 ls st h = a_do a_nL R R 283 (s_push (.int 0) 1024 ls st h) := a_R_eq ..
set_option maxRecDepth 16384 in
theorem r283_1024 (ls : A_V) (st : List Value) (h : A_H) : R 283 1024 ls st h = a_do a_nL R R 283 (s_zret ls st h) := a_R_eq ..
set_option maxRecDepth 16384 in
theorem r283_1025 (ls : A_V) (st : List Value) (h : A_H) : R 283 1025 ls st h = a_do a_nL R R 283 (s_aldl 1 1026 ls st h) := a_R_eq ..
set_option maxRecDepth 16384 in
theorem r283_1026 (ls : A_V) (st : List Value) (h : A_H) : R 283 1026 ls st h = a_do a_nL R R 283 (s_aldl 0 1027 ls st h) := a_R_eq ..
set_option maxRecDepth 16384 in
theorem r283_1027 (ls : A_V) (st : List Value) (h : A_H) : R 283 1027 ls st h = a_do a_nL R R 283 (s_ildl 4 1028 ls st h) := a_R_eq ..
set_option maxRecDepth 16384 in
theorem r283_1028 (ls : A_V) (st : List Value) (h : A_H) : R 283 1028 ls st h = a_do a_nL R R 283 (s_push (.int 1) 1029 ls st h) := a_R_eq ..
set_option maxRecDepth 16384 in
theorem r283_1029 (ls : A_V) (st : List Value) (h : A_H) : R 283 1029 ls st h = a_do a_nL R R 283 (s_bi (fun x y => x + y) 1030 ls st h) := a_R_eq ..
set_option maxRecDepth 16384 in
theorem r283_1030 (ls : A_V) (st : List Value) (h : A_H) : R 283 1030 ls st h = a_do a_nL R R 283 (s_xal 1031 ls st h) := a_R_eq ..
set_option maxRecDepth 16384 in
theorem r283_1031 (ls : A_V) (st : List Value) (h : A_H) : R 283 1031 ls st h = a_do a_nL R R 283 (s_aldl 0 1032 ls st h) := a_R_eq ..
set_option maxRecDepth 16384 in
theorem r283_1032 (ls : A_V) (st : List Value) (h : A_H) : R 283 1032 ls st h = a_do a_nL R R 283 (s_ildl 4 1033 ls st h) := a_R_eq ..
set_option maxRecDepth 16384 in
theorem r283_1033 (ls : A_V) (st : List Value) (h : A_H) : R 283 1033 ls st h = a_do a_nL R R 283 (s_push (.int 2) 1034 ls st h) := a_R_eq ..
set_option maxRecDepth 16384 in
theorem r283_1034 (ls : A_V) (st : List Value) (h : A_H) : R 283 1034 ls st h = a_do a_nL R R 283 (s_bi (fun x y => x + y) 1035 ls st h) := a_R_eq ..
set_option maxRecDepth 16384 in
theorem r283_1035 (ls : A_V) (st : List Value) (h : A_H) : R 283 1035 ls st h = a_do a_nL R R 283 (s_xal 1036 ls st h) := a_R_eq ..
set_option maxRecDepth 16384 in
theorem r283_1036 (ls : A_V) (st : List Value) (h : A_H) : R 283 1036 ls st h = a_do a_nL R R 283 (s_aldl 0 1037 ls st h) := a_R_eq ..
set_option maxRecDepth 16384 in
theorem r283_1037 (ls : A_V) (st : List Value) (h : A_H) : R 283 1037 ls st h = a_do a_nL R R 283 (s_ildl 4 1038 ls st h) := a_R_eq ..
set_option maxRecDepth 16384 in
theorem r283_1038 (ls : A_V) (st : List Value) (h : A_H) : R 283 1038 ls st h = a_do a_nL R R 283 (s_push (.int 3) 1039 ls st h) := a_R_eq ..
set_option maxRecDepth 16384 in
theorem r283_1039 (ls : A_V) (st : List Value) (h : A_H) : R 283 1039 ls st h = a_do a_nL R R 283 (s_bi (fun x y => x + y) 1040 ls st h) := a_R_eq ..
set_option maxRecDepth 16384 in
theorem r283_1040 (ls : A_V) (st : List Value) (h : A_H) : R 283 1040 ls st h = a_do a_nL R R 283 (s_xal 1041 ls st h) := a_R_eq ..
set_option maxRecDepth 16384 in
theorem r283_1041 (ls : A_V) (st : List Value) (h : A_H) : R 283 1041 ls st h = a_do a_nL R R 283 (s_call 14 123 4 7 true 1042 ls st h) := a_R_eq ..
set_option maxRecDepth 16384 in
theorem r283_1042 (ls : A_V) (st : List Value) (h : A_H) : R 283 1042 ls st h = a_do a_nL R R 283 (s_aldl 2 1043 ls st h) := a_R_eq ..
set_option maxRecDepth 16384 in
theorem r283_1043 (ls : A_V) (st : List Value) (h : A_H) : R 283 1043 ls st h = a_do a_nL R R 283 (s_aldl 0 1044 ls st h) := a_R_eq ..
set_option maxRecDepth 16384 in
theorem r283_1044 (ls : A_V) (st : List Value) (h : A_H) : R 283 1044 ls st h = a_do a_nL R R 283 (s_ildl 4 1045 ls st h) := a_R_eq ..
set_option maxRecDepth 16384 in
theorem r283_1045 (ls : A_V) (st : List Value) (h : A_H) : R 283 1045 ls st h = a_do a_nL R R 283 (s_push (.int 1) 1046 ls st h) := a_R_eq ..
set_option maxRecDepth 16384 in
theorem r283_1046 (ls : A_V) (st : List Value) (h : A_H) : R 283 1046 ls st h = a_do a_nL R R 283 (s_bi (fun x y => x + y) 1047 ls st h) := a_R_eq ..
set_option maxRecDepth 16384 in
theorem r283_1047 (ls : A_V) (st : List Value) (h : A_H) : R 283 1047 ls st h = a_do a_nL R R 283 (s_xal 1048 ls st h) := a_R_eq ..
set_option maxRecDepth 16384 in
theorem r283_1048 (ls : A_V) (st : List Value) (h : A_H) : R 283 1048 ls st h = a_do a_nL R R 283 (s_aldl 0 1049 ls st h) := a_R_eq ..
set_option maxRecDepth 16384 in
theorem r283_1049 (ls : A_V) (st : List Value) (h : A_H) : R 283 1049 ls st h = a_do a_nL R R 283 (s_ildl 4 1050 ls st h) := a_R_eq ..
set_option maxRecDepth 16384 in
theorem r283_1050 (ls : A_V) (st : List Value) (h : A_H) : R 283 1050 ls st h = a_do a_nL R R 283 (s_push (.int 2) 1051 ls st h) := a_R_eq ..
set_option maxRecDepth 16384 in
theorem r283_1051 (ls : A_V) (st : List Value) (h : A_H) : R 283 1051 ls st h = a_do a_nL R R 283 (s_bi (fun x y => x + y) 1052 ls st h) := a_R_eq ..
set_option maxRecDepth 16384 in
theorem r283_1052 (ls : A_V) (st : List Value) (h : A_H) : R 283 1052 ls st h = a_do a_nL R R 283 (s_xal 1053 ls st h) := a_R_eq ..
set_option maxRecDepth 16384 in
theorem r283_1053 (ls : A_V) (st : List Value) (h : A_H) : R 283 1053 ls st h = a_do a_nL R R 283 (s_aldl 0 1054 ls st h) := a_R_eq ..
set_option maxRecDepth 16384 in
theorem r283_1054 (ls : A_V) (st : List Value) (h : A_H) : R 283 1054 ls st h = a_do a_nL R R 283 (s_ildl 4 1055 ls st h) := a_R_eq ..
set_option maxRecDepth 16384 in
theorem r283_1055 (ls : A_V) (st : List Value) (h : A_H) : R 283 1055 ls st h = a_do a_nL R R 283 (s_push (.int 3) 1056 ls st h) := a_R_eq ..
set_option maxRecDepth 16384 in
theorem r283_1056 (ls : A_V) (st : List Value) (h : A_H) : R 283 1056 ls st h = a_do a_nL R R 283 (s_bi (fun x y => x + y) 1057 ls st h) := a_R_eq ..
set_option maxRecDepth 16384 in
theorem r283_1057 (ls : A_V) (st : List Value) (h : A_H) : R 283 1057 ls st h = a_do a_nL R R 283 (s_xal 1058 ls st h) := a_R_eq ..
set_option maxRecDepth 16384 in
theorem r283_1058 (ls : A_V) (st : List Value) (h : A_H) : R 283 1058 ls st h = a_do a_nL R R 283 (s_call 16 266 4 6 true 1059 ls st h) := a_R_eq ..
set_option maxRecDepth 16384 in
theorem r283_1059 (ls : A_V) (st : List Value) (h : A_H) : R 283 1059 ls st h = a_do a_nL R R 283 (s_if2 (fun x y => decide (x = y)) 1248 1060 ls st h) := a_R_eq ..
set_option maxRecDepth 16384 in
theorem r283_1060 (ls : A_V) (st : List Value) (h : A_H) : R 283 1060 ls st h = a_do a_nL R R 283 (s_push (.int 0) 1061 ls st h) := a_R_eq ..
set_option maxRecDepth 16384 in
theorem r283_1061 (ls : A_V) (st : List Value) (h : A_H) : R 283 1061 ls st h = a_do a_nL R R 283 (s_zret ls st h) := a_R_eq ..
set_option maxRecDepth 16384 in
theorem r283_1062 (ls : A_V) (st : List Value) (h : A_H) : R 283 1062 ls st h = a_do a_nL R R 283 (s_aldl 1 1063 ls st h) := a_R_eq ..
set_option maxRecDepth 16384 in
theorem r283_1063 (ls : A_V) (st : List Value) (h : A_H) : R 283 1063 ls st h = a_do a_nL R R 283 (s_aldl 0 1064 ls st h) := a_R_eq ..
set_option maxRecDepth 16384 in
theorem r283_1064 (ls : A_V) (st : List Value) (h : A_H) : R 283 1064 ls st h = a_do a_nL R R 283 (s_ildl 4 1065 ls st h) := a_R_eq ..
set_option maxRecDepth 16384 in
theorem r283_1065 (ls : A_V) (st : List Value) (h : A_H) : R 283 1065 ls st h = a_do a_nL R R 283 (s_push (.int 1) 1066 ls st h) := a_R_eq ..
set_option maxRecDepth 16384 in
theorem r283_1066 (ls : A_V) (st : List Value) (h : A_H) : R 283 1066 ls st h = a_do a_nL R R 283 (s_bi (fun x y => x + y) 1067 ls st h) := a_R_eq ..
set_option maxRecDepth 16384 in
theorem r283_1067 (ls : A_V) (st : List Value) (h : A_H) : R 283 1067 ls st h = a_do a_nL R R 283 (s_xal 1068 ls st h) := a_R_eq ..
set_option maxRecDepth 16384 in
theorem r283_1068 (ls : A_V) (st : List Value) (h : A_H) : R 283 1068 ls st h = a_do a_nL R R 283 (s_call 14 124 2 2 true 1069 ls st h) := a_R_eq ..
set_option maxRecDepth 16384 in
theorem r283_1069 (ls : A_V) (st : List Value) (h : A_H) : R 283 1069 ls st h = a_do a_nL R R 283 (s_aldl 2 1070 ls st h) := a_R_eq ..
set_option maxRecDepth 16384 in
theorem r283_1070 (ls : A_V) (st : List Value) (h : A_H) : R 283 1070 ls st h = a_do a_nL R R 283 (s_aldl 0 1071 ls st h) := a_R_eq ..
set_option maxRecDepth 16384 in
theorem r283_1071 (ls : A_V) (st : List Value) (h : A_H) : R 283 1071 ls st h = a_do a_nL R R 283 (s_ildl 4 1072 ls st h) := a_R_eq ..
set_option maxRecDepth 16384 in
theorem r283_1072 (ls : A_V) (st : List Value) (h : A_H) : R 283 1072 ls st h = a_do a_nL R R 283 (s_push (.int 1) 1073 ls st h) := a_R_eq ..
set_option maxRecDepth 16384 in
theorem r283_1073 (ls : A_V) (st : List Value) (h : A_H) : R 283 1073 ls st h = a_do a_nL R R 283 (s_bi (fun x y => x + y) 1074 ls st h) := a_R_eq ..
set_option maxRecDepth 16384 in
theorem r283_1074 (ls : A_V) (st : List Value) (h : A_H) : R 283 1074 ls st h = a_do a_nL R R 283 (s_xal 1075 ls st h) := a_R_eq ..
set_option maxRecDepth 16384 in
theorem r283_1075 (ls : A_V) (st : List Value) (h : A_H) : R 283 1075 ls st h = a_do a_nL R R 283 (s_call 16 268 2 2 true 1076 ls st h) := a_R_eq ..
set_option maxRecDepth 16384 in
theorem r283_1076 (ls : A_V) (st : List Value) (h : A_H) : R 283 1076 ls st h = a_do a_nL R R 283 (s_if2 (fun x y => decide (x = y)) 1248 1077 ls st h) := a_R_eq ..
set_option maxRecDepth 16384 in
theorem r283_1077 (ls : A_V) (st : List Value) (h : A_H) : R 283 1077 ls st h = a_do a_nL R R 283 (s_push (.int 0) 1078 ls st h) := a_R_eq ..
set_option maxRecDepth 16384 in
theorem r283_1078 (ls : A_V) (st : List Value) (h : A_H) : R 283 1078 ls st h = a_do a_nL R R 283 (s_zret ls st h) := a_R_eq ..
set_option maxRecDepth 16384 in
theorem r283_1079 (ls : A_V) (st : List Value) (h : A_H) : R 283 1079 ls st h = a_do a_nL R R 283 (s_aldl 1 1080 ls st h) := a_R_eq ..
set_option maxRecDepth 16384 in
theorem r283_1080 (ls : A_V) (st : List Value) (h : A_H) : R 283 1080 ls st h = a_do a_nL R R 283 (s_aldl 0 1081 ls st h) := a_R_eq ..
set_option maxRecDepth 16384 in
theorem r283_1081 (ls : A_V) (st : List Value) (h : A_H) : R 283 1081 ls st h = a_do a_nL R R 283 (s_ildl 4 1082 ls st h) := a_R_eq ..
set_option maxRecDepth 16384 in
theorem r283_1082 (ls : A_V) (st : List Value) (h : A_H) : R 283 1082 ls st h = a_do a_nL R R 283 (s_push (.int 1) 1083 ls st h) := a_R_eq ..
set_option maxRecDepth 16384 in
theorem r283_1083 (ls : A_V) (st : List Value) (h : A_H) : R 283 1083 ls st h = a_do a_nL R R 283 (s_bi (fun x y => x + y) 1084 ls st h) := a_R_eq ..
set_option maxRecDepth 16384 in
theorem r283_1084 (ls : A_V) (st : List Value) (h : A_H) : R 283 1084 ls st h = a_do a_nL R R 283 (s_xal 1085 ls st h) := a_R_eq ..
set_option maxRecDepth 16384 in
theorem r283_1085 (ls : A_V) (st : List Value) (h : A_H) : R 283 1085 ls st h = a_do a_nL R R 283 (s_aldl 0 1086 ls st h) := a_R_eq ..
set_option maxRecDepth 16384 in
theorem r283_1086 (ls : A_V) (st : List Value) (h : A_H) : R 283 1086 ls st h = a_do a_nL R R 283 (s_ildl 4 1087 ls st h) := a_R_eq ..
set_option maxRecDepth 16384 in
theorem r283_1087 (ls : A_V) (st : List Value) (h : A_H) : R 283 1087 ls st h = a_do a_nL R R 283 (s_push (.int 2) 1088 ls st h) := a_R_eq ..
set_option maxRecDepth 16384 in
theorem r283_1088 (ls : A_V) (st : List Value) (h : A_H) : R 283 1088 ls st h = a_do a_nL R R 283 (s_bi (fun x y => x + y) 1089 ls st h) := a_R_eq ..
set_option maxRecDepth 16384 in
theorem r283_1089 (ls : A_V) (st : List Value) (h : A_H) : R 283 1089 ls st h = a_do a_nL R R 283 (s_xal 1090 ls st h) := a_R_eq ..
set_option maxRecDepth 16384 in
theorem r283_1090 (ls : A_V) (st : List Value) (h : A_H) : R 283 1090 ls st h = a_do a_nL R R 283 (s_if1 (fun x => decide (x = 0)) 1093 1091 ls st h) := a_R_eq ..
set_option maxRecDepth 16384 in
theorem r283_1091 (ls : A_V) (st : List Value) (h : A_H) : R 283 1091 ls st h = a_do a_nL R R 283 (s_push (.int 1) 1092 ls st h) := a_R_eq ..
set_option maxRecDepth 16384 in
theorem r283_1092 (ls : A_V) (st : List Value) (h : A_H) : R 283 1092 ls st h = a_do a_nL R R 283 (s_goto 1094 ls st h) := a_R_eq ..
set_option maxRecDepth 16384 in
theorem r283_1093 (ls : A_V) (st : List Value) (h : A_H) : R 283 1093 ls st h = a_do a_nL R R 283 (s_push (.int 0) 1094 ls st h) := a_R_eq ..
set_option maxRecDepth 16384 in
theorem r283_1094 (ls : A_V) (st : List Value) (h : A_H) : R 283 1094 ls st h = a_do a_nL R R 283 (s_call 14 125 3 4 true 1095 ls st h) := a_R_eq ..
set_option maxRecDepth 16384 in
theorem r283_1095 (ls : A_V) (st : List Value) (h : A_H) : R 283 1095 ls st h = a_do a_nL R R 283 (s_aldl 2 1096 ls st h) := a_R_eq ..
set_option maxRecDepth 16384 in
theorem r283_1096 (ls : A_V) (st : List Value) (h : A_H) : R 283 1096 ls st h = a_do a_nL R R 283 (s_aldl 0 1097 ls st h) := a_R_eq ..
set_option maxRecDepth 16384 in
theorem r283_1097 (ls : A_V) (st : List Value) (h : A_H) : R 283 1097 ls st h = a_do a_nL R R 283 (s_ildl 4 1098 ls st h) := a_R_eq ..
set_option maxRecDepth 16384 in
theorem r283_1098 (ls : A_V) (st : List Value) (h : A_H) : R 283 1098 ls st h = a_do a_nL R R 283 (s_push (.int 1) 1099 ls st h) := a_R_eq ..
set_option maxRecDepth 16384 in
theorem r283_1099 (ls : A_V) (st : List Value) (h : A_H) : R 283 1099 ls st h = a_do a_nL R R 283 (s_bi (fun x y => x + y) 1100 ls st h) := a_R_eq ..
set_option maxRecDepth 16384 in
theorem r283_1100 (ls : A_V) (st : List Value) (h : A_H) : R 283 1100 ls st h = a_do a_nL R R 283 (s_xal 1101 ls st h) := a_R_eq ..
set_option maxRecDepth 16384 in
theorem r283_1101 (ls : A_V) (st : List Value) (h : A_H) : R 283 1101 ls st h = a_do a_nL R R 283 (s_aldl 0 1102 ls st h) := a_R_eq ..
set_option maxRecDepth 16384 in
theorem r283_1102 (ls : A_V) (st : List Value) (h : A_H) : R 283 1102 ls st h = a_do a_nL R R 283 (s_ildl 4 1103 ls st h) := a_R_eq ..
set_option maxRecDepth 16384 in
theorem r283_1103 (ls : A_V) (st : List Value) (h : A_H) : R 283 1103 ls st h = a_do a_nL R R 283 (s_push (.int 2) 1104 ls st h) := a_R_eq ..
set_option maxRecDepth 16384 in
theorem r283_1104 (ls : A_V) (st : List Value) (h : A_H) : R 283 1104 ls st h = a_do a_nL R R 283 (s_bi (fun x y => x + y) 1105 ls st h) := a_R_eq ..
set_option maxRecDepth 16384 in
theorem r283_1105 (ls : A_V) (st : List Value) (h : A_H) : R 283 1105 ls st h = a_do a_nL R R 283 (s_xal 1106 ls st h) := a_R_eq ..
set_option maxRecDepth 16384 in
theorem r283_1106 (ls : A_V) (st : List Value) (h : A_H) : R 283 1106 ls st h = a_do a_nL R R 283 (s_if1 (fun x => decide (x = 0)) 1109 1107 ls st h) := a_R_eq ..
set_option maxRecDepth 16384 in
theorem r283_1107 (ls : A_V) (st : List Value) (h : A_H) : R 283 1107 ls st h = a_do a_nL R R 283 (s_push (.int 1) 1108 ls st h) := a_R_eq ..
set_option maxRecDepth 16384 in
theorem r283_1108 (ls : A_V) (st : List Value) (h : A_H) : R 283 1108 ls st h = a_do a_nL R R 283 (s_goto 1110 ls st h) := a_R_eq ..
set_option maxRecDepth 16384 in
theorem r283_1109 (ls : A_V) (st : List Value) (h : A_H) : R 283 1109 ls st h = a_do a_nL R R 283 (s_push (.int 0) 1110 ls st h) := a_R_eq ..
set_option maxRecDepth 16384 in
theorem r283_1110 (ls : A_V) (st : List Value) (h : A_H) : R 283 1110 ls st h = a_do a_nL R R 283 (s_call 16 269 3 3 true 1111 ls st h) := a_R_eq ..
set_option maxRecDepth 16384 in
theorem r283_1111 (ls : A_V) (st : List Value) (h : A_H) : R 283 1111 ls st h = a_do a_nL R R 283 (s_if2 (fun x y => decide (x = y)) 1248 1112 ls st h) := a_R_eq ..
set_option maxRecDepth 16384 in
theorem r283_1112 (ls : A_V) (st : List Value) (h : A_H) : R 283 1112 ls st h = a_do a_nL R R 283 (s_push (.int 0) 1113 ls st h) := a_R_eq ..
set_option maxRecDepth 16384 in
theorem r283_1113 (ls : A_V) (st : List Value) (h : A_H) : R 283 1113 ls st h = a_do a_nL R R 283 (s_zret ls st h) := a_R_eq ..
set_option maxRecDepth 16384 in
theorem r283_1114 (ls : A_V) (st : List Value) (h : A_H) : R 283 1114 ls st h = a_do a_nL R R 283 (s_aldl 1 1115 ls st h) := a_R_eq ..
set_option maxRecDepth 16384 in
theorem r283_1115 (ls : A_V) (st : List Value) (h : A_H) : R 283 1115 ls st h = a_do a_nL R R 283 (s_aldl 0 1116 ls st h) := a_R_eq ..
set_option maxRecDepth 16384 in
theorem r283_1116 (ls : A_V) (st : List Value) (h : A_H) : R 283 1116 ls st h = a_do a_nL R R 283 (s_ildl 4 1117 ls st h) := a_R_eq ..
set_option maxRecDepth 16384 in
theorem r283_1117 (ls : A_V) (st : List Value) (h : A_H) : R 283 1117 ls st h = a_do a_nL R R 283 (s_push (.int 1) 1118 ls st h) := a_R_eq ..
set_option maxRecDepth 16384 in
theorem r283_1118 (ls : A_V) (st : List Value) (h : A_H) : R 283 1118 ls st h = a_do a_nL R R 283 (s_bi (fun x y => x + y) 1119 ls st h) := a_R_eq ..
set_option maxRecDepth 16384 in
theorem r283_1119 (ls : A_V) (st : List Value) (h : A_H) : R 283 1119 ls st h = a_do a_nL R R 283 (s_xal 1120 ls st h) := a_R_eq ..
set_option maxRecDepth 16384 in
theorem r283_1120 (ls : A_V) (st : List Value) (h : A_H) : R 283 1120 ls st h = a_do a_nL R R 283 (s_aldl 0 1121 ls st h) := a_R_eq ..
set_option maxRecDepth 16384 in
theorem r283_1121 (ls : A_V) (st : List Value) (h : A_H) : R 283 1121 ls st h = a_do a_nL R R 283 (s_ildl 4 1122 ls st h) := a_R_eq ..
set_option maxRecDepth 16384 in
theorem r283_1122 (ls : A_V) (st : List Value) (h : A_H) : R 283 1122 ls st h = a_do a_nL R R 283 (s_push (.int 2) 1123 ls st h) := a_R_eq ..
set_option maxRecDepth 16384 in
theorem r283_1123 (ls : A_V) (st : List Value) (h : A_H) : R 283 1123 ls st h = a_do a_nL R R 283 (s_bi (fun x y => x + y) 1124 ls st h) := a_R_eq ..
set_option maxRecDepth 16384 in
theorem r283_1124 (ls : A_V) (st : List Value) (h : A_H) : R 283 1124 ls st h = a_do a_nL R R 283 (s_xal 1125 ls st h) := a_R_eq ..
set_option maxRecDepth 16384 in
theorem r283_1125 (ls : A_V) (st : List Value) (h : A_H) : R 283 1125 ls st h = a_do a_nL R R 283 (s_call 14 126 3 6 true 1126 ls st h) := a_R_eq ..
set_option maxRecDepth 16384 in
theorem r283_1126 (ls : A_V) (st : List Value) (h : A_H) : R 283 1126 ls st h = a_do a_nL R R 283 (s_aldl 2 1127 ls st h) := a_R_eq ..
set_option maxRecDepth 16384 in
theorem r283_1127 (ls : A_V) (st : List Value) (h : A_H) : R 283 1127 ls st h = a_do a_nL R R 283 (s_aldl 0 1128 ls st h) := a_R_eq ..
set_option maxRecDepth 16384 in
theorem r283_1128 (ls : A_V) (st : List Value) (h : A_H) : R 283 1128 ls st h = a_do a_nL R R 283 (s_ildl 4 1129 ls st h) := a_R_eq ..
set_option maxRecDepth 16384 in
theorem r283_1129 (ls : A_V) (st : List Value) (h : A_H) : R 283 1129 ls st h = a_do a_nL R R 283 (s_push (.int 1) 1130 ls st h) := a_R_eq ..
set_option maxRecDepth 16384 in
theorem r283_1130 (ls : A_V) (st : List Value) (h : A_H) : R 283 1130 ls st h = a_do a_nL R R 283 (s_bi (fun x y => x + y) 1131 ls st h) := a_R_eq ..
set_option maxRecDepth 16384 in
theorem r283_1131 (ls : A_V) (st : List Value) (h : A_H) : R 283 1131 ls st h = a_do a_nL R R 283 (s_xal 1132 ls st h) := a_R_eq ..
set_option maxRecDepth 16384 in
theorem r283_1132 (ls : A_V) (st : List Value) (h : A_H) : R 283 1132 ls st h = a_do a_nL R R 283 (s_aldl 0 1133 ls st h) := a_R_eq ..
set_option maxRecDepth 16384 in
theorem r283_1133 (ls : A_V) (st : List Value) (h : A_H) : R 283 1133 ls st h = a_do a_nL R R 283 (s_ildl 4 1134 ls st h) := a_R_eq ..
set_option maxRecDepth 16384 in
theorem r283_1134 (ls : A_V) (st : List Value) (h : A_H) : R 283 1134 ls st h = a_do a_nL R R 283 (s_push (.int 2) 1135 ls st h) := a_R_eq ..
set_option maxRecDepth 16384 in
theorem r283_1135 (ls : A_V) (st : List Value) (h : A_H) : R 283 1135 ls st h = a_do a_nL R R 283 (s_bi (fun x y => x + y) 1136 ls st h) := a_R_eq ..
set_option maxRecDepth 16384 in
theorem r283_1136 (ls : A_V) (st : List Value) (h : A_H) : R 283 1136 ls st h = a_do a_nL R R 283 (s_xal 1137 ls st h) := a_R_eq ..
set_option maxRecDepth 16384 in
theorem r283_1137 (ls : A_V) (st : List Value) (h : A_H) : R 283 1137 ls st h = a_do a_nL R R 283 (s_call 16 270 3 3 true 1138 ls st h) := a_R_eq ..
set_option maxRecDepth 16384 in
theorem r283_1138 (ls : A_V) (st : List Value) (h : A_H) : R 283 1138 ls st h = a_do a_nL R R 283 (s_if2 (fun x y => decide (x = y)) 1248 1139 ls st h) := a_R_eq ..
set_option maxRecDepth 16384 in
theorem r283_1139 (ls : A_V) (st : List Value) (h : A_H) : R 283 1139 ls st h = a_do a_nL R R 283 (s_push (.int 0) 1140 ls st h) := a_R_eq ..
set_option maxRecDepth 16384 in
theorem r283_1140 (ls : A_V) (st : List Value) (h : A_H) : R 283 1140 ls st h = a_do a_nL R R 283 (s_zret ls st h) := a_R_eq ..
set_option maxRecDepth 16384 in
theorem r283_1141 (ls : A_V) (st : List Value) (h : A_H) : R 283 1141 ls st h = a_do a_nL R R 283 (s_aldl 1 1142 ls st h) := a_R_eq ..
set_option maxRecDepth 16384 in
theorem r283_1142 (ls : A_V) (st : List Value) (h : A_H) : R 283 1142 ls st h = a_do a_nL R R 283 (s_aldl 0 1143 ls st h) := a_R_eq ..
set_option maxRecDepth 16384 in
theorem r283_1143 (ls : A_V) (st : List Value) (h : A_H) : R 283 1143 ls st h = a_do a_nL R R 283 (s_ildl 4 1144 ls st h) := a_R_eq ..
set_option maxRecDepth 16384 in
theorem r283_1144 (ls : A_V) (st : List Value) (h : A_H) : R 283 1144 ls st h = a_do a_nL R R 283 (s_push (.int 1) 1145 ls st h) := a_R_eq ..
set_option maxRecDepth 16384 in
theorem r283_1145 (ls : A_V) (st : List Value) (h : A_H) : R 283 1145 ls st h = a_do a_nL R R 283 (s_bi (fun x y => x + y) 1146 ls st h) := a_R_eq ..
set_option maxRecDepth 16384 in
theorem r283_1146 (ls : A_V) (st : List Value) (h : A_H) : R 283 1146 ls st h = a_do a_nL R R 283 (s_xal 1147 ls st h) := a_R_eq ..
set_option maxRecDepth 16384 in
theorem r283_1147 (ls : A_V) (st : List Value) (h : A_H) : R 283 1147 ls st h = a_do a_nL R R 283 (s_call 14 127 2 2 true 1148 ls st h) := a_R_eq ..
set_option maxRecDepth 16384 in
theorem r283_1148 (ls : A_V) (st : List Value) (h : A_H) : R 283 1148 ls st h = a_do a_nL R R 283 (s_aldl 2 1149 ls st h) := a_R_eq ..
set_option maxRecDepth 16384 in
theorem r283_1149 (ls : A_V) (st : List Value) (h : A_H) : R 283 1149 ls st h = a_do a_nL R R 283 (s_aldl 0 1150 ls st h) := a_R_eq ..
set_option maxRecDepth 16384 in
theorem r283_1150 (ls : A_V) (st : List Value) (h : A_H) : R 283 1150 ls st h = a_do a_nL R R 283 (s_ildl 4 1151 ls st h) := a_R_eq ..
set_option maxRecDepth 16384 in
theorem r283_1151 (ls : A_V) (st : List Value) (h : A_H) : R 283 1151 ls st h = a_do a_nL R R 283 (s_push (.int 1) 1152 ls st h) := a_R_eq ..
set_option maxRecDepth 16384 in
theorem r283_1152 (ls : A_V) (st : List Value) (h : A_H) : R 283 1152 ls st h = a_do a_nL R R 283 (s_bi (fun x y => x + y) 1153 ls st h) := a_R_eq ..
set_option maxRecDepth 16384 in
theorem r283_1153 (ls : A_V) (st : List Value) (h : A_H) : R 283 1153 ls st h = a_do a_nL R R 283 (s_xal 1154 ls st h) := a_R_eq ..
set_option maxRecDepth 16384 in
theorem r283_1154 (ls : A_V) (st : List Value) (h : A_H) : R 283 1154 ls st h = a_do a_nL R R 283 (s_call 16 271 2 2 true 1155 ls st h) := a_R_eq ..
set_option maxRecDepth 16384 in
theorem r283_1155 (ls : A_V) (st : List Value) (h : A_H) : R 283 1155 ls st h = a_do a_nL R R 283 (s_if2 (fun x y => decide (x = y)) 1248 1156 ls st h) := a_R_eq ..
set_option maxRecDepth 16384 in
theorem r283_1156 (ls : A_V) (st : List Value) (h : A_H) : R 283 1156 ls st h = a_do a_nL R R 283 (s_push (.int 0) 1157 ls st h) := a_R_eq ..
set_option maxRecDepth 16384 in
theorem r283_1157 (ls : A_V) (st : List Value) (h : A_H) : R 283 1157 ls st h = a_do a_nL R R 283 (s_zret ls st h) := a_R_eq ..
set_option maxRecDepth 16384 in
theorem r283_1158 (ls : A_V) (st : List Value) (h : A_H) : R 283 1158 ls st h = a_do a_nL R R 283 (s_aldl 1 1159 ls st h) := a_R_eq ..
set_option maxRecDepth 16384 in
theorem r283_1159 (ls : A_V) (st : List Value) (h : A_H) : R 283 1159 ls st h = a_do a_nL R R 283 (s_call 14 128 1 1 true 1160 ls st h) := a_R_eq ..
set_option maxRecDepth 16384 in
theorem r283_1160 (ls : A_V) (st : List Value) (h : A_H) : R 283 1160 ls st h = a_do a_nL R R 283 (s_aldl 2 1161 ls st h) := a_R_eq ..
set_option maxRecDepth 16384 in
theorem r283_1161 (ls : A_V) (st : List Value) (h : A_H) : R 283 1161 ls st h = a_do a_nL R R 283 (s_call 16 272 1 2 true 1162 ls st h) := a_R_eq ..
set_option maxRecDepth 16384 in
theorem r283_1162 (ls : A_V) (st : List Value) (h : A_H) : R 283 1162 ls st h = a_do a_nL R R 283 (s_if2 (fun x y => decide (x = y)) 1248 1163 ls st h) := a_R_eq ..
set_option maxRecDepth 16384 in
theorem r283_1163 (ls : A_V) (st : List Value) (h : A_H) : R 283 1163 ls st h = a_do a_nL R R 283 (s_push (.int 0) 1164 ls st h) := a_R_eq ..
set_option maxRecDepth 16384 in
theorem r283_1164 (ls : A_V) (st : List Value) (h : A_H) : R 283 1164 ls st h = a_do a_nL R R 283 (s_zret ls st h) := a_R_eq ..
set_option maxRecDepth 16384 in
theorem r283_1165 (ls : A_V) (st : List Value) (h : A_H) : R 283 1165 ls st h = a_do a_nL R R 283 (s_aldl 1 1166 ls st h) := a_R_eq ..
set_option maxRecDepth 16384 in
theorem r283_1166 (ls : A_V) (st : List Value) (h : A_H) : R 283 1166 ls st h = a_do a_nL R R 283 (s_call 14 129 1 2 true 1167 ls st h) := a_R_eq ..
set_option maxRecDepth 16384 in
theorem r283_1167 (ls : A_V) (st : List Value) (h : A_H) : R 283 1167 ls st h = a_do a_nL R R 283 (s_aldl 2 1168 ls st h) := a_R_eq ..
set_option maxRecDepth 16384 in
theorem r283_1168 (ls : A_V) (st : List Value) (h : A_H) : R 283 1168 ls st h = a_do a_nL R R 283 (s_call 16 273 1 2 true 1169 ls st h) := a_R_eq ..
set_option maxRecDepth 16384 in
theorem r283_1169 (ls : A_V) (st : List Value) (h : A_H) : R 283 1169 ls st h = a_do a_nL R R 283 (s_if2 (fun x y => decide (x = y)) 1248 1170 ls st h) := a_R_eq ..
set_option maxRecDepth 16384 in
theorem r283_1170 (ls : A_V) (st : List Value) (h : A_H) : R 283 1170 ls st h = a_do a_nL R R 283 (s_push (.int 0) 1171 ls st h) := a_R_eq ..
set_option maxRecDepth 16384 in
theorem r283_1171 (ls : A_V) (st : List Value) (h : A_H) : R 283 1171 ls st h = a_do a_nL R R 283 (s_zret ls st h) := a_R_eq ..
set_option maxRecDepth 16384 in
theorem r283_1172 (ls : A_V) (st : List Value) (h : A_H) : R 283 1172 ls st h = a_do a_nL R R 283 (s_aldl 1 1173 ls st h) := a_R_eq ..
set_option maxRecDepth 16384 in
theorem r283_1173 (ls : A_V) (st : List Value) (h : A_H) : R 283 1173 ls st h = a_do a_nL R R 283 (s_aldl 0 1174 ls st h) := a_R_eq ..
set_option maxRecDepth 16384 in
theorem r283_1174 (ls : A_V) (st : List Value) (h : A_H) : R 283 1174 ls st h = a_do a_nL R R 283 (s_ildl 4 1175 ls st h) := a_R_eq ..
set_option maxRecDepth 16384 in
theorem r283_1175 (ls : A_V) (st : List Value) (h : A_H) : R 283 1175 ls st h = a_do a_nL R R 283 (s_push (.int 1) 1176 ls st h) := a_R_eq ..
set_option maxRecDepth 16384 in
theorem r283_1176 (ls : A_V) (st : List Value) (h : A_H) : R 283 1176 ls st h = a_do a_nL R R 283 (s_bi (fun x y => x + y) 1177 ls st h) := a_R_eq ..
set_option maxRecDepth 16384 in
theorem r283_1177 (ls : A_V) (st : List Value) (h : A_H) : R 283 1177 ls st h = a_do a_nL R R 283 (s_xal 1178 ls st h) := a_R_eq ..
set_option maxRecDepth 16384 in
theorem r283_1178 (ls : A_V) (st : List Value) (h : A_H) : R 283 1178 ls st h = a_do a_nL R R 283 (s_call 14 130 2 2 true 1179 ls st h) := a_R_eq ..
set_option maxRecDepth 16384 in
theorem r283_1179 (ls : A_V) (st : List Value) (h : A_H) : R 283 1179 ls st h = a_do a_nL R R 283 (s_aldl 2 1180 ls st h) := a_R_eq ..
set_option maxRecDepth 16384 in
theorem r283_1180 (ls : A_V) (st : List Value) (h : A_H) : R 283 1180 ls st h = a_do a_nL R R 283 (s_aldl 0 1181 ls st h) := a_R_eq ..
set_option maxRecDepth 16384 in
theorem r283_1181 (ls : A_V) (st : List Value) (h : A_H) : R 283 1181 ls st h = a_do a_nL R R 283 (s_ildl 4 1182 ls st h) := a_R_eq ..
set_option maxRecDepth 16384 in
theorem r283_1182 (ls : A_V) (st : List Value) (h : A_H) : R 283 1182 ls st h = a_do a_nL R R 283 (s_push (.int 1) 1183 ls st h) := a_R_eq ..
set_option maxRecDepth 16384 in
theorem r283_1183 (ls : A_V) (st : List Value) (h : A_H) : R 283 1183 ls st h = a_do a_nL R R 283 (s_bi (fun x y => x + y) 1184 ls st h) := a_R_eq ..
set_option maxRecDepth 16384 in
theorem r283_1184 (ls : A_V) (st : List Value) (h : A_H) : R 283 1184 ls st h = a_do a_nL R R 283 (s_xal 1185 ls st h) := a_R_eq ..
set_option maxRecDepth 16384 in
theorem r283_1185 (ls : A_V) (st : List Value) (h : A_H) : R 283 1185 ls st h = a_do a_nL R R 283 (s_call 16 274 2 3 true 1186 ls st h) := a_R_eq ..
set_option maxRecDepth 16384 in
theorem r283_1186 (ls : A_V) (st : List Value) (h : A_H) : R 283 1186 ls st h = a_do a_nL R R 283 (s_if2 (fun x y => decide (x = y)) 1248 1187 ls st h) := a_R_eq ..
set_option maxRecDepth 16384 in
theorem r283_1187 (ls : A_V) (st : List Value) (h : A_H) : R 283 1187 ls st h = a_do a_nL R R 283 (s_push (.int 0) 1188 ls st h) := a_R_eq ..
set_option maxRecDepth 16384 in
theorem r283_1188 (ls : A_V) (st : List Value) (h : A_H) : R 283 1188 ls st h = a_do a_nL R R 283 (s_zret ls st h) := a_R_eq ..
set_option maxRecDepth 16384 in
theorem r283_1189 (ls : A_V) (st : List Value) (h : A_H) : R 283 1189 ls st h = a_do a_nL R R 283 (s_aldl 1 1190 ls st h) := a_R_eq ..
set_option maxRecDepth 16384 in
theorem r283_1190 (ls : A_V) (st : List Value) (h : A_H) : R 283 1190 ls st h = a_do a_nL R R 283 (s_aldl 0 1191 ls st h) := a_R_eq ..
set_option maxRecDepth 16384 in
theorem r283_1191 (ls : A_V) (st : List Value) (h : A_H) : R 283 1191 ls st h = a_do a_nL R R 283 (s_ildl 4 1192 ls st h) := a_R_eq ..
set_option maxRecDepth 16384 in
theorem r283_1192 (ls : A_V) (st : List Value) (h : A_H) : R 283 1192 ls st h = a_do a_nL R R 283 (s_push (.int 1) 1193 ls st h) := a_R_eq ..
set_option maxRecDepth 16384 in
theorem r283_1193 (ls : A_V) (st : List Value) (h : A_H) : R 283 1193 ls st h = a_do a_nL R R 283 (s_bi (fun x y => x + y) 1194 ls st h) := a_R_eq ..
set_option maxRecDepth 16384 in
theorem r283_1194 (ls : A_V) (st : List Value) (h : A_H) : R 283 1194 ls st h = a_do a_nL R R 283 (s_xal 1195 ls st h) := a_R_eq ..
set_option maxRecDepth 16384 in
theorem r283_1195 (ls : A_V) (st : List Value) (h : A_H) : R 283 1195 ls st h = a_do a_nL R R 283 (s_aldl 3 1196 ls st h) := a_R_eq ..
set_option maxRecDepth 16384 in
theorem r283_1196 (ls : A_V) (st : List Value) (h : A_H) : R 283 1196 ls st h = a_do a_nL R R 283 (s_call 0 282 3 4 true 1197 ls st h) := a_R_eq ..
set_option maxRecDepth 16384 in
theorem r283_1197 (ls : A_V) (st : List Value) (h : A_H) : R 283 1197 ls st h = a_do a_nL R R 283 (s_ist 5 1198 ls st h) := a_R_eq ..
set_option maxRecDepth 16384 in
theorem r283_1198 (ls : A_V) (st : List Value) (h : A_H) : R 283 1198 ls st h = a_do a_nL R R 283 (s_aldl 2 1199 ls st h) := a_R_eq ..
set_option maxRecDepth 16384 in
theorem r283_1199 (ls : A_V) (st : List Value) (h : A_H) : R 283 1199 ls st h = a_do a_nL R R 283 (s_aldl 0 1200 ls st h) := a_R_eq ..
set_option maxRecDepth 16384 in
theorem r283_1200 (ls : A_V) (st : List Value) (h : A_H) : R 283 1200 ls st h = a_do a_nL R R 283 (s_ildl 4 1201 ls st h) := a_R_eq ..
set_option maxRecDepth 16384 in
theorem r283_1201 (ls : A_V) (st : List Value) (h : A_H) : R 283 1201 ls st h = a_do a_nL R R 283 (s_push (.int 1) 1202 ls st h) := a_R_eq ..
set_option maxRecDepth 16384 in
theorem r283_1202 (ls : A_V) (st : List Value) (h : A_H) : R 283 1202 ls st h = a_do a_nL R R 283 (s_bi (fun x y => x + y) 1203 ls st h) := a_R_eq ..
set_option maxRecDepth 16384 in
theorem r283_1203 (ls : A_V) (st : List Value) (h : A_H) : R 283 1203 ls st h = a_do a_nL R R 283 (s_xal 1204 ls st h) := a_R_eq ..
set_option maxRecDepth 16384 in
theorem r283_1204 (ls : A_V) (st : List Value) (h : A_H) : R 283 1204 ls st h = a_do a_nL R R 283 (s_call 16 275 2 4 true 1205 ls st h) := a_R_eq ..
set_option maxRecDepth 16384 in
theorem r283_1205 (ls : A_V) (st : List Value) (h : A_H) : R 283 1205 ls st h = a_do a_nL R R 283 (s_ist 6 1206 ls st h) := a_R_eq ..
set_option maxRecDepth 16384 in
theorem r283_1206 (ls : A_V) (st : List Value) (h : A_H) : R 283 1206 ls st h = a_do a_nL R R 283 (s_aldl 2 1207 ls st h) := a_R_eq ..
set_option maxRecDepth 16384 in
theorem r283_1207 (ls : A_V) (st : List Value) (h : A_H) : R 283 1207 ls st h = a_do a_nL R R 283 (s_call 16 154 1 1 true 1208 ls st h) := a_R_eq ..
set_option maxRecDepth 16384 in
theorem r283_1208 (ls : A_V) (st : List Value) (h : A_H) : R 283 1208 ls st h = a_do a_nL R R 283 (s_ildl 5 1209 ls st h) := a_R_eq ..
set_option maxRecDepth 16384 in
theorem r283_1209 (ls : A_V) (st : List Value) (h : A_H) : R 283 1209 ls st h = a_do a_nL R R 283 (s_if2 (fun x y => decide (x = y)) 1212 1210 ls st h) := a_R_eq ..
set_option maxRecDepth 16384 in
theorem r283_1210 (ls : A_V) (st : List Value) (h : A_H) : R 283 1210 ls st h = a_do a_nL R R 283 (s_push (.int 0) 1211 ls st h) := a_R_eq ..
set_option maxRecDepth 16384 in
theorem r283_1211 (ls : A_V) (st : List Value) (h : A_H) : R 283 1211 ls st h = a_do a_nL R R 283 (s_zret ls st h) := a_R_eq ..
set_option maxRecDepth 16384 in
theorem r283_1212 (ls : A_V) (st : List Value) (h : A_H) : R 283 1212 ls st h = a_do a_nL R R 283 (s_ildl 5 1213 ls st h) := a_R_eq ..
set_option maxRecDepth 16384 in
theorem r283_1213 (ls : A_V) (st : List Value) (h : A_H) : R 283 1213 ls st h = a_do a_nL R R 283 (s_if1 (fun x => !decide (x = 0)) 1223 1214 ls st h) := a_R_eq ..
set_option maxRecDepth 16384 in
theorem r283_1214 (ls : A_V) (st : List Value) (h : A_H) : R 283 1214 ls st h = a_do a_nL R R 283 (s_aldl 3 1215 ls st h) := a_R_eq ..
set_option maxRecDepth 16384 in
theorem r283_1215 (ls : A_V) (st : List Value) (h : A_H) : R 283 1215 ls st h = a_do a_nL R R 283 (s_push (.int 0) 1216 ls st h) := a_R_eq ..
set_option maxRecDepth 16384 in
theorem r283_1216 (ls : A_V) (st : List Value) (h : A_H) : R 283 1216 ls st h = a_do a_nL R R 283 (s_lal 1217 ls st h) := a_R_eq ..
set_option maxRecDepth 16384 in
theorem r283_1217 (ls : A_V) (st : List Value) (h : A_H) : R 283 1217 ls st h = a_do a_nL R R 283 (s_ildl 6 1218 ls st h) := a_R_eq ..
set_option maxRecDepth 16384 in
theorem r283_1218 (ls : A_V) (st : List Value) (h : A_H) : R 283 1218 ls st h = a_do a_nL R R 283 (s_i2l 1219 ls st h) := a_R_eq ..
set_option maxRecDepth 16384 in
theorem r283_1219 (ls : A_V) (st : List Value) (h : A_H) : R 283 1219 ls st h = a_do a_nL R R 283 (s_lcmp 1220 ls st h) := a_R_eq ..
set_option maxRecDepth 16384 in
theorem r283_1220 (ls : A_V) (st : List Value) (h : A_H) : R 283 1220 ls st h = a_do a_nL R R 283 (s_if1 (fun x => decide (x = 0)) 1223 1221 ls st h) := a_R_eq ..
set_option maxRecDepth 16384 in
theorem r283_1221 (ls : A_V) (st : List Value) (h : A_H) : R 283 1221 ls st h = a_do a_nL R R 283 (s_push (.int 0) 1222 ls st h) := a_R_eq ..
set_option maxRecDepth 16384 in
theorem r283_1222 (ls : A_V) (st : List Value) (h : A_H) : R 283 1222 ls st h = a_do a_nL R R 283 (s_zret ls st h) := a_R_eq ..
set_option maxRecDepth 16384 in
theorem r283_1223 (ls : A_V) (st : List Value) (h : A_H) : R 283 1223 ls st h = a_do a_nL R R 283 (s_goto 1248 ls st h) := a_R_eq ..
set_option maxRecDepth 16384 in
theorem r283_1224 (ls : A_V) (st : List Value) (h : A_H) : R 283 1224 ls st h = a_do a_nL R R 283 (s_aldl 1 1225 ls st h) := a_R_eq ..
set_option maxRecDepth 16384 in
theorem r283_1225 (ls : A_V) (st : List Value) (h : A_H) : R 283 1225 ls st h = a_do a_nL R R 283 (s_aldl 0 1226 ls st h) := a_R_eq ..
set_option maxRecDepth 16384 in
theorem r283_1226 (ls : A_V) (st : List Value) (h : A_H) : R 283 1226 ls st h = a_do a_nL R R 283 (s_ildl 4 1227 ls st h) := a_R_eq ..
set_option maxRecDepth 16384 in
theorem r283_1227 (ls : A_V) (st : List Value) (h : A_H) : R 283 1227 ls st h = a_do a_nL R R 283 (s_push (.int 1) 1228 ls st h) := a_R_eq ..
set_option maxRecDepth 16384 in
theorem r283_1228 (ls : A_V) (st : List Value) (h : A_H) : R 283 1228 ls st h = a_do a_nL R R 283 (s_bi (fun x y => x + y) 1229 ls st h) := a_R_eq ..
set_option maxRecDepth 16384 in
theorem r283_1229 (ls : A_V) (st : List Value) (h : A_H) : R 283 1229 ls st h = a_do a_nL R R 283 (s_xal 1230 ls st h) := a_R_eq ..
set_option maxRecDepth 16384 in
theorem r283_1230 (ls : A_V) (st : List Value) (h : A_H) : R 283 1230 ls st h = a_do a_nL R R 283 (s_call 14 132 2 2 true 1231 ls st h) := a_R_eq ..
set_option maxRecDepth 16384 in
theorem r283_1231 (ls : A_V) (st : List Value) (h : A_H) : R 283 1231 ls st h = a_do a_nL R R 283 (s_aldl 2 1232 ls st h) := a_R_eq ..
set_option maxRecDepth 16384 in
theorem r283_1232 (ls : A_V) (st : List Value) (h : A_H) : R 283 1232 ls st h = a_do a_nL R R 283 (s_aldl 0 1233 ls st h) := a_R_eq ..
set_option maxRecDepth 16384 in
theorem r283_1233 (ls : A_V) (st : List Value) (h : A_H) : R 283 1233 ls st h = a_do a_nL R R 283 (s_ildl 4 1234 ls st h) := a_R_eq ..
set_option maxRecDepth 16384 in
theorem r283_1234 (ls : A_V) (st : List Value) (h : A_H) : R 283 1234 ls st h = a_do a_nL R R 283 (s_push (.int 1) 1235 ls st h) := a_R_eq ..
set_option maxRecDepth 16384 in
theorem r283_1235 (ls : A_V) (st : List Value) (h : A_H) : R 283 1235 ls st h = a_do a_nL R R 283 (s_bi (fun x y => x + y) 1236 ls st h) := a_R_eq ..
set_option maxRecDepth 16384 in
theorem r283_1236 (ls : A_V) (st : List Value) (h : A_H) : R 283 1236 ls st h = a_do a_nL R R 283 (s_xal 1237 ls st h) := a_R_eq ..
set_option maxRecDepth 16384 in
theorem r283_1237 (ls : A_V) (st : List Value) (h : A_H) : R 283 1237 ls st h = a_do a_nL R R 283 (s_call 16 276 2 2 true 1238 ls st h) := a_R_eq ..
set_option maxRecDepth 16384 in
theorem r283_1238 (ls : A_V) (st : List Value) (h : A_H) : R 283 1238 ls st h = a_do a_nL R R 283 (s_if2 (fun x y => decide (x = y)) 1248 1239 ls st h) := a_R_eq ..
set_option maxRecDepth 16384 in
theorem r283_1239 (ls : A_V) (st : List Value) (h : A_H) : R 283 1239 ls st h = a_do a_nL R R 283 (s_push (.int 0) 1240 ls st h) := a_R_eq ..
set_option maxRecDepth 16384 in
theorem r283_1240 (ls : A_V) (st : List Value) (h : A_H) : R 283 1240 ls st h = a_do a_nL R R 283 (s_zret ls st h) := a_R_eq ..
set_option maxRecDepth 16384 in
theorem r283_1241 (ls : A_V) (st : List Value) (h : A_H) : R 283 1241 ls st h = a_do a_nL R R 283 (s_aldl 1 1242 ls st h) := a_R_eq ..
set_option maxRecDepth 16384 in
theorem r283_1242 (ls : A_V) (st : List Value) (h : A_H) : R 283 1242 ls st h = a_do a_nL R R 283 (s_call 14 133 1 1 true 1243 ls st h) := a_R_eq ..
set_option maxRecDepth 16384 in
theorem r283_1243 (ls : A_V) (st : List Value) (h : A_H) : R 283 1243 ls st h = a_do a_nL R R 283 (s_aldl 2 1244 ls st h) := a_R_eq ..
set_option maxRecDepth 16384 in
theorem r283_1244 (ls : A_V) (st : List Value) (h : A_H) : R 283 1244 ls st h = a_do a_nL R R 283 (s_call 16 277 1 1 true 1245 ls st h) := a_R_eq ..
set_option maxRecDepth 16384 in
theorem r283_1245 (ls : A_V) (st : List Value) (h : A_H) : R 283 1245 ls st h = a_do a_nL R R 283 (s_if2 (fun x y => decide (x = y)) 1248 1246 ls st h) := a_R_eq ..
set_option maxRecDepth 16384 in
theorem r283_1246 (ls : A_V) (st : List Value) (h : A_H) : R 283 1246 ls st h = a_do a_nL R R 283 (s_push (.int 0) 1247 ls st h) := a_R_eq ..
set_option maxRecDepth 16384 in
theorem r283_1247 (ls : A_V) (st : List Value) (h : A_H) : R 283 1247 ls st h = a_do a_nL R R 283 (s_zret ls st h) := a_R_eq ..
set_option maxRecDepth 16384 in
theorem r283_1248 (ls : A_V) (st : List Value) (h : A_H) : R 283 1248 ls st h = a_do a_nL R R 283 (s_inc 4 6 1249 ls st h) := a_R_eq ..
set_option maxRecDepth 16384 in
theorem r283_1249 (ls : A_V) (st : List Value) (h : A_H) : R 283 1249 ls st h = a_do a_nL R R 283 (s_goto 13 ls st h) := a_R_eq ..
set_option maxRecDepth 16384 in
theorem r283_1250 (ls : A_V) (st : List Value) (h : A_H) : R 283 1250 ls st h = a_do a_nL R R 283 (s_push (.int 1) 1251 ls st h) := a_R_eq ..
set_option maxRecDepth 16384 in
theorem r283_1251 (ls : A_V) (st : List Value) (h : A_H) : R 283 1251 ls st h = a_do a_nL R R 283 (s_zret ls st h) := a_R_eq ..
set_option maxRecDepth 16384 in
theorem b283_0 (x0 : UInt32) (l1 : Option Value) (l2 : Option Value) (l3 : Option Value) (l4 : Option Value) (l5 : Option Value) (l6 : Option Value) (h : A_H) : R 283 0 [some (.float x0), l1, l2, l3, l4, l5, l6] [] h = (R 283 1 [some (.float x0), l1, l2, l3, l4, l5, l6] [.ref (hn h)] (nw h 11 9 9)) := (r283_0 ..)
set_option maxRecDepth 16384 in
theorem b283_1 (x0 : UInt32) (l1 : Option Value) (l2 : Option Value) (l3 : Option Value) (l4 : Option Value) (l5 : Option Value) (l6 : Option Value) (s0 : Nat) (h : A_H) : R 283 1 [some (.float x0), l1, l2, l3, l4, l5, l6] [.ref s0] h = (a_back R 283 (74, [.ref s0], h, false, none, 3, [some (.float x0), l1, l2, l3, l4, l5, l6], [.ref s0]) (C 74 [.ref s0] h)) := (tr (r283_1 ..) (r283_2 ..))
set_option maxRecDepth 16384 in
theorem b283_3 (x0 : UInt32) (l1 : Option Value) (l2 : Option Value) (l3 : Option Value) (l4 : Option Value) (l5 : Option Value) (l6 : Option Value) (s0 : Nat) (h : A_H) : R 283 3 [some (.float x0), l1, l2, l3, l4, l5, l6] [.ref s0] h = (R 283 5 [some (.float x0), some (.ref s0), l2, l3, l4, l5, l6] [.ref (hn h)] (nw h 13 31 31)) := (tr (r283_3 ..) (r283_4 ..))
set_option maxRecDepth 16384 in
theorem b283_5 (x0 : UInt32) (x1 : Nat) (l2 : Option Value) (l3 : Option Value) (l4 : Option Value) (l5 : Option Value) (l6 : Option Value) (s0 : Nat) (h : A_H) : R 283 5 [some (.float x0), some (.ref x1), l2, l3, l4, l5, l6] [.ref s0] h = (a_back R 283 (153, [.ref s0], h, false, none, 7, [some (.float x0), some (.ref x1), l2, l3, l4, l5, l6], [.ref s0]) (C 153 [.ref s0] h)) := (tr (r283_5 ..) (r283_6 ..))
set_option maxRecDepth 16384 in
theorem b283_7 (x0 : UInt32) (x1 : Nat) (l2 : Option Value) (l3 : Option Value) (l4 : Option Value) (l5 : Option Value) (l6 : Option Value) (s0 : Nat) (h : A_H) : R 283 7 [some (.float x0), some (.ref x1), l2, l3, l4, l5, l6] [.ref s0] h = (R 283 10 [some (.float x0), some (.ref x1), some (.ref s0), l3, l4, l5, l6] [.ref (hn h)] (nw h 102 1 1)) := (tr (r283_7 ..) (tr (r283_8 ..) (r283_9 ..)))
set_option maxRecDepth 16384 in
theorem b283_10 (x0 : UInt32) (x1 : Nat) (x2 : Nat) (l3 : Option Value) (l4 : Option Value) (l5 : Option Value) (l6 : Option Value) (s0 : Nat) (h : A_H) : R 283 10 [some (.float x0), some (.ref x1), some (.ref x2), l3, l4, l5, l6] [.ref s0] h = (R 283 13 [some (.float x0), some (.ref x1), some (.ref x2), some (.ref s0), some (.int (0 : Int32)), l5, l6] [] h) := (tr (r283_10 ..) (tr (r283_11 ..) (r283_12 ..)))
set_option maxRecDepth 16384 in
theorem b283_13 (x0 : UInt32) (x1 : Nat) (x2 : Nat) (x3 : Nat) (x4 : Int32) (l5 : Option Value) (l6 : Option Value) (h : A_H) : R 283 13 [some (.float x0), some (.ref x1), some (.ref x2), some (.ref x3), some (.int x4), l5, l6] [] h = (cond (decide (x0 = 0)) (cond (decide (((Int32.ofNat (hX h).1) - (6 : Int32)) < x4)) (cond (decide ((1 : Int32) = 0) || decide ((1 : Int32) = 1)) (some (some (some (.int (1 : Int32))), h)) none) (cond (decide (x0 = 0) && !decide (x4 < 0) && decide ((x4).toNatClampNeg < (hX h).1)) (cond (decide ((((hX h).2 (x4).toNatClampNeg) &&& (63 : Int32)) = 0)) (R 283 25 [some (.float x0), some (.ref x1), some (.ref x2), some (.ref x3), some (.int x4), l5, l6] [] h) (cond (decide ((((hX h).2 (x4).toNatClampNeg) &&& (63 : Int32)) = 1)) (R 283 82 [some (.float x0), some (.ref x1), some (.ref x2), some (.ref x3), some (.int x4), l5, l6] [] h) (cond (decide ((((hX h).2 (x4).toNatClampNeg) &&& (63 : Int32)) = 2)) (R 283 99 [some (.float x0), some (.ref x1), some (.ref x2), some (.ref x3), some (.int x4), l5, l6] [] h) (cond (decide ((((hX h).2 (x4).toNatClampNeg) &&& (63 : Int32)) = 3)) (R 283 106 [some (.float x0), some (.ref x1), some (.ref x2), some (.ref x3), some (.int x4), l5, l6] [] h) (cond (decide ((((hX h).2 (x4).toNatClampNeg) &&& (63 : Int32)) = 4)) (R 283 113 [some (.float x0), some (.ref x1), some (.ref x2), some (.ref x3), some (.int x4), l5, l6] [] h) (cond (decide ((((hX h).2 (x4).toNatClampNeg) &&& (63 : Int32)) = 5)) (R 283 140 [some (.float x0), some (.ref x1), some (.ref x2), some (.ref x3), some (.int x4), l5, l6] [] h) (cond (decide ((((hX h).2 (x4).toNatClampNeg) &&& (63 : Int32)) = 6)) (R 283 167 [some (.float x0), some (.ref x1), some (.ref x2), some (.ref x3), some (.int x4), l5, l6] [] h) (cond (decide ((((hX h).2 (x4).toNatClampNeg) &&& (63 : Int32)) = 7)) (R 283 194 [some (.float x0), some (.ref x1), some (.ref x2), some (.ref x3), some (.int x4), l5, l6] [] h) (cond (decide ((((hX h).2 (x4).toNatClampNeg) &&& (63 : Int32)) = 8)) (R 283 221 [some (.float x0), some (.ref x1), some (.ref x2), some (.ref x3), some (.int x4), l5, l6] [] h) (cond (decide ((((hX h).2 (x4).toNatClampNeg) &&& (63 : Int32)) = 9)) (R 283 248 [some (.float x0), some (.ref x1), some (.ref x2), some (.ref x3), some (.int x4), l5, l6] [] h) (cond (decide ((((hX h).2 (x4).toNatClampNeg) &&& (63 : Int32)) = 10)) (R 283 275 [some (.float x0), some (.ref x1), some (.ref x2), some (.ref x3), some (.int x4), l5, l6] [] h) (cond (decide ((((hX h).2 (x4).toNatClampNeg) &&& (63 : Int32)) = 11)) (R 283 302 [some (.float x0), some (.ref x1), some (.ref x2), some (.ref x3), some (.int x4), l5, l6] [] h) (cond (decide ((((hX h).2 (x4).toNatClampNeg) &&& (63 : Int32)) = 12)) (R 283 319 [some (.float x0), some (.ref x1), some (.ref x2), some (.ref x3), some (.int x4), l5, l6] [] h) (cond (decide ((((hX h).2 (x4).toNatClampNeg) &&& (63 : Int32)) = 13)) (R 283 356 [some (.float x0), some (.ref x1), some (.ref x2), some (.ref x3), some (.int x4), l5, l6] [] h) (cond (decide ((((hX h).2 (x4).toNatClampNeg) &&& (63 : Int32)) = 14)) (R 283 393 [some (.float x0), some (.ref x1), some (.ref x2), some (.ref x3), some (.int x4), l5, l6] [] h) (cond (decide ((((hX h).2 (x4).toNatClampNeg) &&& (63 : Int32)) = 15)) (R 283 430 [some (.float x0), some (.ref x1), some (.ref x2), some (.ref x3), some (.int x4), l5, l6] [] h) (cond (decide ((((hX h).2 (x4).toNatClampNeg) &&& (63 : Int32)) = 16)) (R 283 457 [some (.float x0), some (.ref x1), some (.ref x2), some (.ref x3), some (.int x4), l5, l6] [] h) (cond (decide ((((hX h).2 (x4).toNatClampNeg) &&& (63 : Int32)) = 17)) (R 283 484 [some (.float x0), some (.ref x1), some (.ref x2), some (.ref x3), some (.int x4), l5, l6] [] h) (cond (decide ((((hX h).2 (x4).toNatClampNeg) &&& (63 : Int32)) = 18)) (R 283 521 [some (.float x0), some (.ref x1), some (.ref x2), some (.ref x3), some (.int x4), l5, l6] [] h) (cond (decide ((((hX h).2 (x4).toNatClampNeg) &&& (63 : Int32)) = 19)) (R 283 548 [some (.float x0), some (.ref x1), some (.ref x2), some (.ref x3), some (.int x4), l5, l6] [] h) (cond (decide ((((hX h).2 (x4).toNatClampNeg) &&& (63 : Int32)) = 20)) (R 283 575 [some (.float x0), some (.ref x1), some (.ref x2), some (.ref x3), some (.int x4), l5, l6] [] h) (cond (decide ((((hX h).2 (x4).toNatClampNeg) &&& (63 : Int32)) = 21)) (R 283 602 [some (.float x0), some (.ref x1), some (.ref x2), some (.ref x3), some (.int x4), l5, l6] [] h) (cond (decide ((((hX h).2 (x4).toNatClampNeg) &&& (63 : Int32)) = 22)) (R 283 639 [some (.float x0), some (.ref x1), some (.ref x2), some (.ref x3), some (.int x4), l5, l6] [] h) (cond (decide ((((hX h).2 (x4).toNatClampNeg) &&& (63 : Int32)) = 23)) (R 283 676 [some (.float x0), some (.ref x1), some (.ref x2), some (.ref x3), some (.int x4), l5, l6] [] h) (cond (decide ((((hX h).2 (x4).toNatClampNeg) &&& (63 : Int32)) = 24)) (R 283 713 [some (.float x0), some (.ref x1), some (.ref x2), some (.ref x3), some (.int x4), l5, l6] [] h) (cond (decide ((((hX h).2 (x4).toNatClampNeg) &&& (63 : Int32)) = 25)) (R 283 750 [some (.float x0), some (.ref x1), some (.ref x2), some (.ref x3), some (.int x4), l5, l6] [] h) (cond (decide ((((hX h).2 (x4).toNatClampNeg) &&& (63 : Int32)) = 26)) (R 283 787 [some (.float x0), some (.ref x1), some (.ref x2), some (.ref x3), some (.int x4), l5, l6] [] h) (cond (decide ((((hX h).2 (x4).toNatClampNeg) &&& (63 : Int32)) = 27)) (R 283 804 [some (.float x0), some (.ref x1), some (.ref x2), some (.ref x3), some (.int x4), l5, l6] [] h) (cond (decide ((((hX h).2 (x4).toNatClampNeg) &&& (63 : Int32)) = 28)) (R 283 821 [some (.float x0), some (.ref x1), some (.ref x2), some (.ref x3), some (.int x4), l5, l6] [] h) (cond (decide ((((hX h).2 (x4).toNatClampNeg) &&& (63 : Int32)) = 29)) (R 283 848 [some (.float x0), some (.ref x1), some (.ref x2), some (.ref x3), some (.int x4), l5, l6] [] h) (cond (decide ((((hX h).2 (x4).toNatClampNeg) &&& (63 : Int32)) = 30)) (R 283 855 [some (.float x0), some (.ref x1), some (.ref x2), some (.ref x3), some (.int x4), l5, l6] [] h) (cond (decide ((((hX h).2 (x4).toNatClampNeg) &&& (63 : Int32)) = 31)) (R 283 872 [some (.float x0), some (.ref x1), some (.ref x2), some (.ref x3), some (.int x4), l5, l6] [] h) (cond (decide ((((hX h).2 (x4).toNatClampNeg) &&& (63 : Int32)) = 32)) (R 283 889 [some (.float x0), some (.ref x1), some (.ref x2), some (.ref x3), some (.int x4), l5, l6] [] h) (cond (decide ((((hX h).2 (x4).toNatClampNeg) &&& (63 : Int32)) = 33)) (R 283 896 [some (.float x0), some (.ref x1), some (.ref x2), some (.ref x3), some (.int x4), l5, l6] [] h) (cond (decide ((((hX h).2 (x4).toNatClampNeg) &&& (63 : Int32)) = 34)) (R 283 921 [some (.float x0), some (.ref x1), some (.ref x2), some (.ref x3), some (.int x4), l5, l6] [] h) (cond (decide ((((hX h).2 (x4).toNatClampNeg) &&& (63 : Int32)) = 35)) (R 283 928 [some (.float x0), some (.ref x1), some (.ref x2), some (.ref x3), some (.int x4), l5, l6] [] h) (cond (decide ((((hX h).2 (x4).toNatClampNeg) &&& (63 : Int32)) = 36)) (R 283 945 [some (.float x0), some (.ref x1), some (.ref x2), some (.ref x3), some (.int x4), l5, l6] [] h) (cond (decide ((((hX h).2 (x4).toNatClampNeg) &&& (63 : Int32)) = 37)) (R 283 962 [some (.float x0), some (.ref x1), some (.ref x2), some (.ref x3), some (.int x4), l5, l6] [] h) (cond (decide ((((hX h).2 (x4).toNatClampNeg) &&& (63 : Int32)) = 38)) (R 283 1008 [some (.float x0), some (.ref x1), some (.ref x2), some (.ref x3), some (.int x4), l5, l6] [] h) (cond (decide ((((hX h).2 (x4).toNatClampNeg) &&& (63 : Int32)) = 39)) (R 283 1025 [some (.float x0), some (.ref x1), some (.ref x2), some (.ref x3), some (.int x4), l5, l6] [] h) (cond (decide ((((hX h).2 (x4).toNatClampNeg) &&& (63 : Int32)) = 40)) (R 283 1062 [some (.float x0), some (.ref x1), some (.ref x2), some (.ref x3), some (.int x4), l5, l6] [] h) (cond (decide ((((hX h).2 (x4).toNatClampNeg) &&& (63 : Int32)) = 41)) (R 283 1079 [some (.float x0), some (.ref x1), some (.ref x2), some (.ref x3), some (.int x4), l5, l6] [] h) (cond (decide ((((hX h).2 (x4).toNatClampNeg) &&& (63 : Int32)) = 42)) (R 283 1114 [some (.float x0), some (.ref x1), some (.ref x2), some (.ref x3), some (.int x4), l5, l6] [] h) (cond (decide ((((hX h).2 (x4).toNatClampNeg) &&& (63 : Int32)) = 43)) (R 283 1141 [some (.float x0), some (.ref x1), some (.ref x2), some (.ref x3), some (.int x4), l5, l6] [] h) (cond (decide ((((hX h).2 (x4).toNatClampNeg) &&& (63 : Int32)) = 44)) (R 283 1158 [some (.float x0), some (.ref x1), some (.ref x2), some (.ref x3), some (.int x4), l5, l6] [] h) (cond (decide ((((hX h).2 (x4).toNatClampNeg) &&& (63 : Int32)) = 45)) (R 283 1165 [some (.float x0), some (.ref x1), some (.ref x2), some (.ref x3), some (.int x4), l5, l6] [] h) (cond (decide ((((hX h).2 (x4).toNatClampNeg) &&& (63 : Int32)) = 46)) (R 283 1172 [some (.float x0), some (.ref x1), some (.ref x2), some (.ref x3), some (.int x4), l5, l6] [] h) (cond (decide ((((hX h).2 (x4).toNatClampNeg) &&& (63 : Int32)) = 47)) (R 283 1189 [some (.float x0), some (.ref x1), some (.ref x2), some (.ref x3), some (.int x4), l5, l6] [] h) (cond (decide ((((hX h).2 (x4).toNatClampNeg) &&& (63 : Int32)) = 48)) (R 283 1224 [some (.float x0), some (.ref x1), some (.ref x2), some (.ref x3), some (.int x4), l5, l6] [] h) (cond (decide ((((hX h).2 (x4).toNatClampNeg) &&& (63 : Int32)) = 49)) (R 283 1241 [some (.float x0), some (.ref x1), some (.ref x2), some (.ref x3), some (.int x4), l5, l6] [] h) (R 283 1248 [some (.float x0), some (.ref x1), some (.ref x2), some (.ref x3), some (.int x4), l5, l6] [] h))))))))))))))))))))))))))))))))))))))))))))))))))) none)) none) := (tr (r283_13 ..) (tr (r283_14 ..) (tr (r283_15 ..) (cgT (tr (r283_16 ..) (tr (r283_17 ..) (tr (r283_18 ..) (cgB (tr (r283_1250 ..) (r283_1251 ..)) (tr (r283_19 ..) (tr (r283_20 ..) (tr (r283_21 ..) (cgT (tr (r283_22 ..) (tr (r283_23 ..) (tr (r283_24 ..) (cgB rfl (cgB rfl (cgB rfl (cgB rfl (cgB rfl (cgB rfl (cgB rfl (cgB rfl (cgB rfl (cgB rfl (cgB rfl (cgB rfl (cgB rfl (cgB rfl (cgB rfl (cgB rfl (cgB rfl (cgB rfl (cgB rfl (cgB rfl (cgB rfl (cgB rfl (cgB rfl (cgB rfl (cgB rfl (cgB rfl (cgB rfl (cgB rfl (cgB rfl (cgB rfl (cgB rfl (cgB rfl (cgB rfl (cgB rfl (cgB rfl (cgB rfl (cgB rfl (cgB rfl (cgB rfl (cgB rfl (cgB rfl (cgB rfl (cgB rfl (cgB rfl (cgB rfl (cgB rfl (cgB rfl (cgB rfl (cgB rfl (cgB rfl rfl)))))))))))))))))))))))))))))))))))))))))))))))))))))))))))))))))
set_option maxRecDepth 16384 in
theorem b283_25 (x0 : UInt32) (x1 : Nat) (x2 : Nat) (x3 : Nat) (x4 : Int32) (l5 : Option Value) (l6 : Option Value) (h : A_H) : R 283 25 [some (.float x0), some (.ref x1), some (.ref x2), some (.ref x3), some (.int x4), l5, l6] [] h = (cond (decide (x0 = 0) && !decide ((x4 + (1 : Int32)) < 0) && decide (((x4 + (1 : Int32))).toNatClampNeg < (hX h).1)) (cond (decide (x0 = 0) && !decide ((x4 + (2 : Int32)) < 0) && decide (((x4 + (2 : Int32))).toNatClampNeg < (hX h).1)) (cond (decide (x0 = 0) && !decide ((x4 + (3 : Int32)) < 0) && decide (((x4 + (3 : Int32))).toNatClampNeg < (hX h).1)) (cond (decide (x0 = 0) && !decide ((x4 + (4 : Int32)) < 0) && decide (((x4 + (4 : Int32))).toNatClampNeg < (hX h).1)) (cond (decide (x0 = 0) && !decide ((x4 + (5 : Int32)) < 0) && decide (((x4 + (5 : Int32))).toNatClampNeg < (hX h).1)) (cond (isO h x1 11) (a_back R 283 (75, [.ref x1, .int ((hX h).2 ((x4 + (1 : Int32))).toNatClampNeg), .int ((hX h).2 ((x4 + (2 : Int32))).toNatClampNeg), .int ((hX h).2 ((x4 + (3 : Int32))).toNatClampNeg), .int ((hX h).2 ((x4 + (4 : Int32))).toNatClampNeg), .int ((hX h).2 ((x4 + (5 : Int32))).toNatClampNeg)], h, true, none, 52, [some (.float x0), some (.ref x1), some (.ref x2), some (.ref x3), some (.int x4), l5, l6], []) (C 75 [.ref x1, .int ((hX h).2 ((x4 + (1 : Int32))).toNatClampNeg), .int ((hX h).2 ((x4 + (2 : Int32))).toNatClampNeg), .int ((hX h).2 ((x4 + (3 : Int32))).toNatClampNeg), .int ((hX h).2 ((x4 + (4 : Int32))).toNatClampNeg), .int ((hX h).2 ((x4 + (5 : Int32))).toNatClampNeg)] h)) none) none) none) none) none) none) := (tr (r283_25 ..) (tr (r283_26 ..) (tr (r283_27 ..) (tr (r283_28 ..) (tr (r283_29 ..) (tr (r283_30 ..) (cgT (tr (r283_31 ..) (tr (r283_32 ..) (tr (r283_33 ..) (tr (r283_34 ..) (tr (r283_35 ..) (cgT (tr (r283_36 ..) (tr (r283_37 ..) (tr (r283_38 ..) (tr (r283_39 ..) (tr (r283_40 ..) (cgT (tr (r283_41 ..) (tr (r283_42 ..) (tr (r283_43 ..) (tr (r283_44 ..) (tr (r283_45 ..) (cgT (tr (r283_46 ..) (tr (r283_47 ..) (tr (r283_48 ..) (tr (r283_49 ..) (tr (r283_50 ..) (cgT (r283_51 ..))))))))))))))))))))))))))))))))
set_option maxRecDepth 16384 in
theorem b283_52 (x0 : UInt32) (x1 : Nat) (x2 : Nat) (x3 : Nat) (x4 : Int32) (l5 : Option Value) (l6 : Option Value) (s0 : Int32) (h : A_H) : R 283 52 [some (.float x0), some (.ref x1), some (.ref x2), some (.ref x3), some (.int x4), l5, l6] [.int s0] h = (cond (decide (x0 = 0) && !decide ((x4 + (1 : Int32)) < 0) && decide (((x4 + (1 : Int32))).toNatClampNeg < (hX h).1)) (cond (decide (x0 = 0) && !decide ((x4 + (2 : Int32)) < 0) && decide (((x4 + (2 : Int32))).toNatClampNeg < (hX h).1)) (cond (decide (x0 = 0) && !decide ((x4 + (3 : Int32)) < 0) && decide (((x4 + (3 : Int32))).toNatClampNeg < (hX h).1)) (cond (decide (x0 = 0) && !decide ((x4 + (4 : Int32)) < 0) && decide (((x4 + (4 : Int32))).toNatClampNeg < (hX h).1)) (cond (decide (x0 = 0) && !decide ((x4 + (5 : Int32)) < 0) && decide (((x4 + (5 : Int32))).toNatClampNeg < (hX h).1)) (cond (isO h x2 13) (a_back R 283 (193, [.ref x2, .int ((hX h).2 ((x4 + (1 : Int32))).toNatClampNeg), .int ((hX h).2 ((x4 + (2 : Int32))).toNatClampNeg), .int ((hX h).2 ((x4 + (3 : Int32))).toNatClampNeg), .int ((hX h).2 ((x4 + (4 : Int32))).toNatClampNeg), .int ((hX h).2 ((x4 + (5 : Int32))).toNatClampNeg)], h, true, none, 79, [some (.float x0), some (.ref x1), some (.ref x2), some (.ref x3), some (.int x4), l5, l6], [.int s0]) (C 193 [.ref x2, .int ((hX h).2 ((x4 + (1 : Int32))).toNatClampNeg), .int ((hX h).2 ((x4 + (2 : Int32))).toNatClampNeg), .int ((hX h).2 ((x4 + (3 : Int32))).toNatClampNeg), .int ((hX h).2 ((x4 + (4 : Int32))).toNatClampNeg), .int ((hX h).2 ((x4 + (5 : Int32))).toNatClampNeg)] h)) none) none) none) none) none) none) := (tr (r283_52 ..) (tr (r283_53 ..) (tr (r283_54 ..) (tr (r283_55 ..) (tr (r283_56 ..) (tr (r283_57 ..) (cgT (tr (r283_58 ..) (tr (r283_59 ..) (tr (r283_60 ..) (tr (r283_61 ..) (tr (r283_62 ..) (cgT (tr (r283_63 ..) (tr (r283_64 ..) (tr (r283_65 ..) (tr (r283_66 ..) (tr (r283_67 ..) (cgT (tr (r283_68 ..) (tr (r283_69 ..) (tr (r283_70 ..) (tr (r283_71 ..) (tr (r283_72 ..) (cgT (tr (r283_73 ..) (tr (r283_74 ..) (tr (r283_75 ..) (tr (r283_76 ..) (tr (r283_77 ..) (cgT (r283_78 ..))))))))))))))))))))))))))))))))
set_option maxRecDepth 16384 in
theorem b283_79 (x0 : UInt32) (x1 : Nat) (x2 : Nat) (x3 : Nat) (x4 : Int32) (l5 : Option Value) (l6 : Option Value) (s0 : Int32) (s1 : Int32) (h : A_H) : R 283 79 [some (.float x0), some (.ref x1), some (.ref x2), some (.ref x3), some (.int x4), l5, l6] [.int s1, .int s0] h = (cond (decide (s0 = s1)) (R 283 1248 [some (.float x0), some (.ref x1), some (.ref x2), some (.ref x3), some (.int x4), l5, l6] [] h) (cond (decide ((0 : Int32) = 0) || decide ((0 : Int32) = 1)) (some (some (some (.int (0 : Int32))), h)) none)) := (tr (r283_79 ..) (cgB rfl (tr (r283_80 ..) (r283_81 ..))))
set_option maxRecDepth 16384 in
theorem b283_82 (x0 : UInt32) (x1 : Nat) (x2 : Nat) (x3 : Nat) (x4 : Int32) (l5 : Option Value) (l6 : Option Value) (h : A_H) : R 283 82 [some (.float x0), some (.ref x1), some (.ref x2), some (.ref x3), some (.int x4), l5, l6] [] h = (cond (decide (x0 = 0) && !decide ((x4 + (1 : Int32)) < 0) && decide (((x4 + (1 : Int32))).toNatClampNeg < (hX h).1)) (cond (isO h x1 11) (a_back R 283 (77, [.ref x1, .int ((hX h).2 ((x4 + (1 : Int32))).toNatClampNeg)], h, true, none, 89, [some (.float x0), some (.ref x1), some (.ref x2), some (.ref x3), some (.int x4), l5, l6], []) (C 77 [.ref x1, .int ((hX h).2 ((x4 + (1 : Int32))).toNatClampNeg)] h)) none) none) := (tr (r283_82 ..) (tr (r283_83 ..) (tr (r283_84 ..) (tr (r283_85 ..) (tr (r283_86 ..) (tr (r283_87 ..) (cgT (r283_88 ..))))))))
set_option maxRecDepth 16384 in
theorem b283_89 (x0 : UInt32) (x1 : Nat) (x2 : Nat) (x3 : Nat) (x4 : Int32) (l5 : Option Value) (l6 : Option Value) (s0 : Int32) (h : A_H) : R 283 89 [some (.float x0), some (.ref x1), some (.ref x2), some (.ref x3), some (.int x4), l5, l6] [.int s0] h = (cond (decide (x0 = 0) && !decide ((x4 + (1 : Int32)) < 0) && decide (((x4 + (1 : Int32))).toNatClampNeg < (hX h).1)) (cond (isO h x2 13) (a_back R 283 (194, [.ref x2, .int ((hX h).2 ((x4 + (1 : Int32))).toNatClampNeg)], h, true, none, 96, [some (.float x0), some (.ref x1), some (.ref x2), some (.ref x3), some (.int x4), l5, l6], [.int s0]) (C 194 [.ref x2, .int ((hX h).2 ((x4 + (1 : Int32))).toNatClampNeg)] h)) none) none) := (tr (r283_89 ..) (tr (r283_90 ..) (tr (r283_91 ..) (tr (r283_92 ..) (tr (r283_93 ..) (tr (r283_94 ..) (cgT (r283_95 ..))))))))
set_option maxRecDepth 16384 in
theorem b283_96 (x0 : UInt32) (x1 : Nat) (x2 : Nat) (x3 : Nat) (x4 : Int32) (l5 : Option Value) (l6 : Option Value) (s0 : Int32) (s1 : Int32) (h : A_H) : R 283 96 [some (.float x0), some (.ref x1), some (.ref x2), some (.ref x3), some (.int x4), l5, l6] [.int s1, .int s0] h = (cond (decide (s0 = s1)) (R 283 1248 [some (.float x0), some (.ref x1), some (.ref x2), some (.ref x3), some (.int x4), l5, l6] [] h) (cond (decide ((0 : Int32) = 0) || decide ((0 : Int32) = 1)) (some (some (some (.int (0 : Int32))), h)) none)) := (tr (r283_96 ..) (cgB rfl (tr (r283_97 ..) (r283_98 ..))))
set_option maxRecDepth 16384 in
theorem b283_99 (x0 : UInt32) (x1 : Nat) (x2 : Nat) (x3 : Nat) (x4 : Int32) (l5 : Option Value) (l6 : Option Value) (h : A_H) : R 283 99 [some (.float x0), some (.ref x1), some (.ref x2), some (.ref x3), some (.int x4), l5, l6] [] h = (cond (isO h x1 11) (a_back R 283 (78, [.ref x1], h, true, none, 101, [some (.float x0), some (.ref x1), some (.ref x2), some (.ref x3), some (.int x4), l5, l6], []) (C 78 [.ref x1] h)) none) := (tr (r283_99 ..) (r283_100 ..))
set_option maxRecDepth 16384 in
theorem b283_101 (x0 : UInt32) (x1 : Nat) (x2 : Nat) (x3 : Nat) (x4 : Int32) (l5 : Option Value) (l6 : Option Value) (s0 : Int32) (h : A_H) : R 283 101 [some (.float x0), some (.ref x1), some (.ref x2), some (.ref x3), some (.int x4), l5, l6] [.int s0] h = (cond (isO h x2 13) (a_back R 283 (195, [.ref x2], h, true, none, 103, [some (.float x0), some (.ref x1), some (.ref x2), some (.ref x3), some (.int x4), l5, l6], [.int s0]) (C 195 [.ref x2] h)) none) := (tr (r283_101 ..) (r283_102 ..))
set_option maxRecDepth 16384 in
theorem b283_103 (x0 : UInt32) (x1 : Nat) (x2 : Nat) (x3 : Nat) (x4 : Int32) (l5 : Option Value) (l6 : Option Value) (s0 : Int32) (s1 : Int32) (h : A_H) : R 283 103 [some (.float x0), some (.ref x1), some (.ref x2), some (.ref x3), some (.int x4), l5, l6] [.int s1, .int s0] h = (cond (decide (s0 = s1)) (R 283 1248 [some (.float x0), some (.ref x1), some (.ref x2), some (.ref x3), some (.int x4), l5, l6] [] h) (cond (decide ((0 : Int32) = 0) || decide ((0 : Int32) = 1)) (some (some (some (.int (0 : Int32))), h)) none)) := (tr (r283_103 ..) (cgB rfl (tr (r283_104 ..) (r283_105 ..))))
set_option maxRecDepth 16384 in
theorem b283_106 (x0 : UInt32) (x1 : Nat) (x2 : Nat) (x3 : Nat) (x4 : Int32) (l5 : Option Value) (l6 : Option Value) (h : A_H) : R 283 106 [some (.float x0), some (.ref x1), some (.ref x2), some (.ref x3), some (.int x4), l5, l6] [] h = (cond (isO h x1 11) (a_back R 283 (79, [.ref x1], h, true, none, 108, [some (.float x0), some (.ref x1), some (.ref x2), some (.ref x3), some (.int x4), l5, l6], []) (C 79 [.ref x1] h)) none) := (tr (r283_106 ..) (r283_107 ..))
set_option maxRecDepth 16384 in
theorem b283_108 (x0 : UInt32) (x1 : Nat) (x2 : Nat) (x3 : Nat) (x4 : Int32) (l5 : Option Value) (l6 : Option Value) (s0 : Int32) (h : A_H) : R 283 108 [some (.float x0), some (.ref x1), some (.ref x2), some (.ref x3), some (.int x4), l5, l6] [.int s0] h = (cond (isO h x2 13) (a_back R 283 (196, [.ref x2], h, true, none, 110, [some (.float x0), some (.ref x1), some (.ref x2), some (.ref x3), some (.int x4), l5, l6], [.int s0]) (C 196 [.ref x2] h)) none) := (tr (r283_108 ..) (r283_109 ..))
set_option maxRecDepth 16384 in
theorem b283_110 (x0 : UInt32) (x1 : Nat) (x2 : Nat) (x3 : Nat) (x4 : Int32) (l5 : Option Value) (l6 : Option Value) (s0 : Int32) (s1 : Int32) (h : A_H) : R 283 110 [some (.float x0), some (.ref x1), some (.ref x2), some (.ref x3), some (.int x4), l5, l6] [.int s1, .int s0] h = (cond (decide (s0 = s1)) (R 283 1248 [some (.float x0), some (.ref x1), some (.ref x2), some (.ref x3), some (.int x4), l5, l6] [] h) (cond (decide ((0 : Int32) = 0) || decide ((0 : Int32) = 1)) (some (some (some (.int (0 : Int32))), h)) none)) := (tr (r283_110 ..) (cgB rfl (tr (r283_111 ..) (r283_112 ..))))
set_option maxRecDepth 16384 in
theorem b283_113 (x0 : UInt32) (x1 : Nat) (x2 : Nat) (x3 : Nat) (x4 : Int32) (l5 : Option Value) (l6 : Option Value) (h : A_H) : R 283 113 [some (.float x0), some (.ref x1), some (.ref x2), some (.ref x3), some (.int x4), l5, l6] [] h = (cond (decide (x0 = 0) && !decide ((x4 + (1 : Int32)) < 0) && decide (((x4 + (1 : Int32))).toNatClampNeg < (hX h).1)) (cond (decide (x0 = 0) && !decide ((x4 + (2 : Int32)) < 0) && decide (((x4 + (2 : Int32))).toNatClampNeg < (hX h).1)) (cond (isO h x1 11) (a_back R 283 (80, [.ref x1, .int ((hX h).2 ((x4 + (1 : Int32))).toNatClampNeg), .int ((hX h).2 ((x4 + (2 : Int32))).toNatClampNeg)], h, true, none, 125, [some (.float x0), some (.ref x1), some (.ref x2), some (.ref x3), some (.int x4), l5, l6], []) (C 80 [.ref x1, .int ((hX h).2 ((x4 + (1 : Int32))).toNatClampNeg), .int ((hX h).2 ((x4 + (2 : Int32))).toNatClampNeg)] h)) none) none) none) := (tr (r283_113 ..) (tr (r283_114 ..) (tr (r283_115 ..) (tr (r283_116 ..) (tr (r283_117 ..) (tr (r283_118 ..) (cgT (tr (r283_119 ..) (tr (r283_120 ..) (tr (r283_121 ..) (tr (r283_122 ..) (tr (r283_123 ..) (cgT (r283_124 ..))))))))))))))
set_option maxRecDepth 16384 in
theorem b283_125 (x0 : UInt32) (x1 : Nat) (x2 : Nat) (x3 : Nat) (x4 : Int32) (l5 : Option Value) (l6 : Option Value) (s0 : Int32) (h : A_H) : R 283 125 [some (.float x0), some (.ref x1), some (.ref x2), some (.ref x3), some (.int x4), l5, l6] [.int s0] h = (cond (decide (x0 = 0) && !decide ((x4 + (1 : Int32)) < 0) && decide (((x4 + (1 : Int32))).toNatClampNeg < (hX h).1)) (cond (decide (x0 = 0) && !decide ((x4 + (2 : Int32)) < 0) && decide (((x4 + (2 : Int32))).toNatClampNeg < (hX h).1)) (cond (isO h x2 13) (a_back R 283 (215, [.ref x2, .int ((hX h).2 ((x4 + (1 : Int32))).toNatClampNeg), .int ((hX h).2 ((x4 + (2 : Int32))).toNatClampNeg)], h, true, none, 137, [some (.float x0), some (.ref x1), some (.ref x2), some (.ref x3), some (.int x4), l5, l6], [.int s0]) (C 215 [.ref x2, .int ((hX h).2 ((x4 + (1 : Int32))).toNatClampNeg), .int ((hX h).2 ((x4 + (2 : Int32))).toNatClampNeg)] h)) none) none) none) := (tr (r283_125 ..) (tr (r283_126 ..) (tr (r283_127 ..) (tr (r283_128 ..) (tr (r283_129 ..) (tr (r283_130 ..) (cgT (tr (r283_131 ..) (tr (r283_132 ..) (tr (r283_133 ..) (tr (r283_134 ..) (tr (r283_135 ..) (cgT (r283_136 ..))))))))))))))
set_option maxRecDepth 16384 in
theorem b283_137 (x0 : UInt32) (x1 : Nat) (x2 : Nat) (x3 : Nat) (x4 : Int32) (l5 : Option Value) (l6 : Option Value) (s0 : Int32) (s1 : Int32) (h : A_H) : R 283 137 [some (.float x0), some (.ref x1), some (.ref x2), some (.ref x3), some (.int x4), l5, l6] [.int s1, .int s0] h = (cond (decide (s0 = s1)) (R 283 1248 [some (.float x0), some (.ref x1), some (.ref x2), some (.ref x3), some (.int x4), l5, l6] [] h) (cond (decide ((0 : Int32) = 0) || decide ((0 : Int32) = 1)) (some (some (some (.int (0 : Int32))), h)) none)) := (tr (r283_137 ..) (cgB rfl (tr (r283_138 ..) (r283_139 ..))))
set_option maxRecDepth 16384 in
theorem b283_140 (x0 : UInt32) (x1 : Nat) (x2 : Nat) (x3 : Nat) (x4 : Int32) (l5 : Option Value) (l6 : Option Value) (h : A_H) : R 283 140 [some (.float x0), some (.ref x1), some (.ref x2), some (.ref x3), some (.int x4), l5, l6] [] h = (cond (decide (x0 = 0) && !decide ((x4 + (1 : Int32)) < 0) && decide (((x4 + (1 : Int32))).toNatClampNeg < (hX h).1)) (cond (decide (x0 = 0) && !decide ((x4 + (2 : Int32)) < 0) && decide (((x4 + (2 : Int32))).toNatClampNeg < (hX h).1)) (cond (isO h x1 11) (a_back R 283 (81, [.ref x1, .int ((hX h).2 ((x4 + (1 : Int32))).toNatClampNeg), .int ((hX h).2 ((x4 + (2 : Int32))).toNatClampNeg)], h, true, none, 152, [some (.float x0), some (.ref x1), some (.ref x2), some (.ref x3), some (.int x4), l5, l6], []) (C 81 [.ref x1, .int ((hX h).2 ((x4 + (1 : Int32))).toNatClampNeg), .int ((hX h).2 ((x4 + (2 : Int32))).toNatClampNeg)] h)) none) none) none) := (tr (r283_140 ..) (tr (r283_141 ..) (tr (r283_142 ..) (tr (r283_143 ..) (tr (r283_144 ..) (tr (r283_145 ..) (cgT (tr (r283_146 ..) (tr (r283_147 ..) (tr (r283_148 ..) (tr (r283_149 ..) (tr (r283_150 ..) (cgT (r283_151 ..))))))))))))))
set_option maxRecDepth 16384 in
theorem b283_152 (x0 : UInt32) (x1 : Nat) (x2 : Nat) (x3 : Nat) (x4 : Int32) (l5 : Option Value) (l6 : Option Value) (s0 : Int32) (h : A_H) : R 283 152 [some (.float x0), some (.ref x1), some (.ref x2), some (.ref x3), some (.int x4), l5, l6] [.int s0] h = (cond (decide (x0 = 0) && !decide ((x4 + (1 : Int32)) < 0) && decide (((x4 + (1 : Int32))).toNatClampNeg < (hX h).1)) (cond (decide (x0 = 0) && !decide ((x4 + (2 : Int32)) < 0) && decide (((x4 + (2 : Int32))).toNatClampNeg < (hX h).1)) (cond (isO h x2 13) (a_back R 283 (217, [.ref x2, .int ((hX h).2 ((x4 + (1 : Int32))).toNatClampNeg), .int ((hX h).2 ((x4 + (2 : Int32))).toNatClampNeg)], h, true, none, 164, [some (.float x0), some (.ref x1), some (.ref x2), some (.ref x3), some (.int x4), l5, l6], [.int s0]) (C 217 [.ref x2, .int ((hX h).2 ((x4 + (1 : Int32))).toNatClampNeg), .int ((hX h).2 ((x4 + (2 : Int32))).toNatClampNeg)] h)) none) none) none) := (tr (r283_152 ..) (tr (r283_153 ..) (tr (r283_154 ..) (tr (r283_155 ..) (tr (r283_156 ..) (tr (r283_157 ..) (cgT (tr (r283_158 ..) (tr (r283_159 ..) (tr (r283_160 ..) (tr (r283_161 ..) (tr (r283_162 ..) (cgT (r283_163 ..))))))))))))))
set_option maxRecDepth 16384 in
theorem b283_164 (x0 : UInt32) (x1 : Nat) (x2 : Nat) (x3 : Nat) (x4 : Int32) (l5 : Option Value) (l6 : Option Value) (s0 : Int32) (s1 : Int32) (h : A_H) : R 283 164 [some (.float x0), some (.ref x1), some (.ref x2), some (.ref x3), some (.int x4), l5, l6] [.int s1, .int s0] h = (cond (decide (s0 = s1)) (R 283 1248 [some (.float x0), some (.ref x1), some (.ref x2), some (.ref x3), some (.int x4), l5, l6] [] h) (cond (decide ((0 : Int32) = 0) || decide ((0 : Int32) = 1)) (some (some (some (.int (0 : Int32))), h)) none)) := (tr (r283_164 ..) (cgB rfl (tr (r283_165 ..) (r283_166 ..))))
set_option maxRecDepth 16384 in
theorem b283_167 (x0 : UInt32) (x1 : Nat) (x2 : Nat) (x3 : Nat) (x4 : Int32) (l5 : Option Value) (l6 : Option Value) (h : A_H) : R 283 167 [some (.float x0), some (.ref x1), some (.ref x2), some (.ref x3), some (.int x4), l5, l6] [] h = (cond (decide (x0 = 0) && !decide ((x4 + (1 : Int32)) < 0) && decide (((x4 + (1 : Int32))).toNatClampNeg < (hX h).1)) (cond (decide (x0 = 0) && !decide ((x4 + (2 : Int32)) < 0) && decide (((x4 + (2 : Int32))).toNatClampNeg < (hX h).1)) (cond (isO h x1 11) (a_back R 283 (82, [.ref x1, .int ((hX h).2 ((x4 + (1 : Int32))).toNatClampNeg), .int ((hX h).2 ((x4 + (2 : Int32))).toNatClampNeg)], h, true, none, 179, [some (.float x0), some (.ref x1), some (.ref x2), some (.ref x3), some (.int x4), l5, l6], []) (C 82 [.ref x1, .int ((hX h).2 ((x4 + (1 : Int32))).toNatClampNeg), .int ((hX h).2 ((x4 + (2 : Int32))).toNatClampNeg)] h)) none) none) none) := (tr (r283_167 ..) (tr (r283_168 ..) (tr (r283_169 ..) (tr (r283_170 ..) (tr (r283_171 ..) (tr (r283_172 ..) (cgT (tr (r283_173 ..) (tr (r283_174 ..) (tr (r283_175 ..) (tr (r283_176 ..) (tr (r283_177 ..) (cgT (r283_178 ..))))))))))))))
set_option maxRecDepth 16384 in
theorem b283_179 (x0 : UInt32) (x1 : Nat) (x2 : Nat) (x3 : Nat) (x4 : Int32) (l5 : Option Value) (l6 : Option Value) (s0 : Int32) (h : A_H) : R 283 179 [some (.float x0), some (.ref x1), some (.ref x2), some (.ref x3), some (.int x4), l5, l6] [.int s0] h = (cond (decide (x0 = 0) && !decide ((x4 + (1 : Int32)) < 0) && decide (((x4 + (1 : Int32))).toNatClampNeg < (hX h).1)) (cond (decide (x0 = 0) && !decide ((x4 + (2 : Int32)) < 0) && decide (((x4 + (2 : Int32))).toNatClampNeg < (hX h).1)) (cond (isO h x2 13) (a_back R 283 (218, [.ref x2, .int ((hX h).2 ((x4 + (1 : Int32))).toNatClampNeg), .int ((hX h).2 ((x4 + (2 : Int32))).toNatClampNeg)], h, true, none, 191, [some (.float x0), some (.ref x1), some (.ref x2), some (.ref x3), some (.int x4), l5, l6], [.int s0]) (C 218 [.ref x2, .int ((hX h).2 ((x4 + (1 : Int32))).toNatClampNeg), .int ((hX h).2 ((x4 + (2 : Int32))).toNatClampNeg)] h)) none) none) none) := (tr (r283_179 ..) (tr (r283_180 ..) (tr (r283_181 ..) (tr (r283_182 ..) (tr (r283_183 ..) (tr (r283_184 ..) (cgT (tr (r283_185 ..) (tr (r283_186 ..) (tr (r283_187 ..) (tr (r283_188 ..) (tr (r283_189 ..) (cgT (r283_190 ..))))))))))))))
set_option maxRecDepth 16384 in
theorem b283_191 (x0 : UInt32) (x1 : Nat) (x2 : Nat) (x3 : Nat) (x4 : Int32) (l5 : Option Value) (l6 : Option Value) (s0 : Int32) (s1 : Int32) (h : A_H) : R 283 191 [some (.float x0), some (.ref x1), some (.ref x2), some (.ref x3), some (.int x4), l5, l6] [.int s1, .int s0] h = (cond (decide (s0 = s1)) (R 283 1248 [some (.float x0), some (.ref x1), some (.ref x2), some (.ref x3), some (.int x4), l5, l6] [] h) (cond (decide ((0 : Int32) = 0) || decide ((0 : Int32) = 1)) (some (some (some (.int (0 : Int32))), h)) none)) := (tr (r283_191 ..) (cgB rfl (tr (r283_192 ..) (r283_193 ..))))
set_option maxRecDepth 16384 in
theorem b283_194 (x0 : UInt32) (x1 : Nat) (x2 : Nat) (x3 : Nat) (x4 : Int32) (l5 : Option Value) (l6 : Option Value) (h : A_H) : R 283 194 [some (.float x0), some (.ref x1), some (.ref x2), some (.ref x3), some (.int x4), l5, l6] [] h = (cond (decide (x0 = 0) && !decide ((x4 + (1 : Int32)) < 0) && decide (((x4 + (1 : Int32))).toNatClampNeg < (hX h).1)) (cond (decide (x0 = 0) && !decide ((x4 + (2 : Int32)) < 0) && decide (((x4 + (2 : Int32))).toNatClampNeg < (hX h).1)) (cond (isO h x1 11) (a_back R 283 (83, [.ref x1, .int ((hX h).2 ((x4 + (1 : Int32))).toNatClampNeg), .int ((hX h).2 ((x4 + (2 : Int32))).toNatClampNeg)], h, true, none, 206, [some (.float x0), some (.ref x1), some (.ref x2), some (.ref x3), some (.int x4), l5, l6], []) (C 83 [.ref x1, .int ((hX h).2 ((x4 + (1 : Int32))).toNatClampNeg), .int ((hX h).2 ((x4 + (2 : Int32))).toNatClampNeg)] h)) none) none) none) := (tr (r283_194 ..) (tr (r283_195 ..) (tr (r283_196 ..) (tr (r283_197 ..) (tr (r283_198 ..) (tr (r283_199 ..) (cgT (tr (r283_200 ..) (tr (r283_201 ..) (tr (r283_202 ..) (tr (r283_203 ..) (tr (r283_204 ..) (cgT (r283_205 ..))))))))))))))
set_option maxRecDepth 16384 in
theorem b283_206 (x0 : UInt32) (x1 : Nat) (x2 : Nat) (x3 : Nat) (x4 : Int32) (l5 : Option Value) (l6 : Option Value) (s0 : Int32) (h : A_H) : R 283 206 [some (.float x0), some (.ref x1), some (.ref x2), some (.ref x3), some (.int x4), l5, l6] [.int s0] h = (cond (decide (x0 = 0) && !decide ((x4 + (1 : Int32)) < 0) && decide (((x4 + (1 : Int32))).toNatClampNeg < (hX h).1)) (cond (decide (x0 = 0) && !decide ((x4 + (2 : Int32)) < 0) && decide (((x4 + (2 : Int32))).toNatClampNeg < (hX h).1)) (cond (isO h x2 13) (a_back R 283 (220, [.ref x2, .int ((hX h).2 ((x4 + (1 : Int32))).toNatClampNeg), .int ((hX h).2 ((x4 + (2 : Int32))).toNatClampNeg)], h, true, none, 218, [some (.float x0), some (.ref x1), some (.ref x2), some (.ref x3), some (.int x4), l5, l6], [.int s0]) (C 220 [.ref x2, .int ((hX h).2 ((x4 + (1 : Int32))).toNatClampNeg), .int ((hX h).2 ((x4 + (2 : Int32))).toNatClampNeg)] h)) none) none) none) := (tr (r283_206 ..) (tr (r283_207 ..) (tr (r283_208 ..) (tr (r283_209 ..) (tr (r283_210 ..) (tr (r283_211 ..) (cgT (tr (r283_212 ..) (tr (r283_213 ..) (tr (r283_214 ..) (tr (r283_215 ..) (tr (r283_216 ..) (cgT (r283_217 ..))))))))))))))
set_option maxRecDepth 16384 in
theorem b283_218 (x0 : UInt32) (x1 : Nat) (x2 : Nat) (x3 : Nat) (x4 : Int32) (l5 : Option Value) (l6 : Option Value) (s0 : Int32) (s1 : Int32) (h : A_H) : R 283 218 [some (.float x0), some (.ref x1), some (.ref x2), some (.ref x3), some (.int x4), l5, l6] [.int s1, .int s0] h = (cond (decide (s0 = s1)) (R 283 1248 [some (.float x0), some (.ref x1), some (.ref x2), some (.ref x3), some (.int x4), l5, l6] [] h) (cond (decide ((0 : Int32) = 0) || decide ((0 : Int32) = 1)) (some (some (some (.int (0 : Int32))), h)) none)) := (tr (r283_218 ..) (cgB rfl (tr (r283_219 ..) (r283_220 ..))))
set_option maxRecDepth 16384 in
theorem b283_221 (x0 : UInt32) (x1 : Nat) (x2 : Nat) (x3 : Nat) (x4 : Int32) (l5 : Option Value) (l6 : Option Value) (h : A_H) : R 283 221 [some (.float x0), some (.ref x1), some (.ref x2), some (.ref x3), some (.int x4), l5, l6] [] h = (cond (decide (x0 = 0) && !decide ((x4 + (1 : Int32)) < 0) && decide (((x4 + (1 : Int32))).toNatClampNeg < (hX h).1)) (cond (decide (x0 = 0) && !decide ((x4 + (2 : Int32)) < 0) && decide (((x4 + (2 : Int32))).toNatClampNeg < (hX h).1)) (cond (isO h x1 11) (a_back R 283 (84, [.ref x1, .int ((hX h).2 ((x4 + (1 : Int32))).toNatClampNeg), .int ((hX h).2 ((x4 + (2 : Int32))).toNatClampNeg)], h, true, none, 233, [some (.float x0), some (.ref x1), some (.ref x2), some (.ref x3), some (.int x4), l5, l6], []) (C 84 [.ref x1, .int ((hX h).2 ((x4 + (1 : Int32))).toNatClampNeg), .int ((hX h).2 ((x4 + (2 : Int32))).toNatClampNeg)] h)) none) none) none) := (tr (r283_221 ..) (tr (r283_222 ..) (tr (r283_223 ..) (tr (r283_224 ..) (tr (r283_225 ..) (tr (r283_226 ..) (cgT (tr (r283_227 ..) (tr (r283_228 ..) (tr (r283_229 ..) (tr (r283_230 ..) (tr (r283_231 ..) (cgT (r283_232 ..))))))))))))))
set_option maxRecDepth 16384 in
theorem b283_233 (x0 : UInt32) (x1 : Nat) (x2 : Nat) (x3 : Nat) (x4 : Int32) (l5 : Option Value) (l6 : Option Value) (s0 : Int32) (h : A_H) : R 283 233 [some (.float x0), some (.ref x1), some (.ref x2), some (.ref x3), some (.int x4), l5, l6] [.int s0] h = (cond (decide (x0 = 0) && !decide ((x4 + (1 : Int32)) < 0) && decide (((x4 + (1 : Int32))).toNatClampNeg < (hX h).1)) (cond (decide (x0 = 0) && !decide ((x4 + (2 : Int32)) < 0) && decide (((x4 + (2 : Int32))).toNatClampNeg < (hX h).1)) (cond (isO h x2 13) (a_back R 283 (221, [.ref x2, .int ((hX h).2 ((x4 + (1 : Int32))).toNatClampNeg), .int ((hX h).2 ((x4 + (2 : Int32))).toNatClampNeg)], h, true, none, 245, [some (.float x0), some (.ref x1), some (.ref x2), some (.ref x3), some (.int x4), l5, l6], [.int s0]) (C 221 [.ref x2, .int ((hX h).2 ((x4 + (1 : Int32))).toNatClampNeg), .int ((hX h).2 ((x4 + (2 : Int32))).toNatClampNeg)] h)) none) none) none) := (tr (r283_233 ..) (tr (r283_234 ..) (tr (r283_235 ..) (tr (r283_236 ..) (tr (r283_237 ..) (tr (r283_238 ..) (cgT (tr (r283_239 ..) (tr (r283_240 ..) (tr (r283_241 ..) (tr (r283_242 ..) (tr (r283_243 ..) (cgT (r283_244 ..))))))))))))))
set_option maxRecDepth 16384 in
theorem b283_245 (x0 : UInt32) (x1 : Nat) (x2 : Nat) (x3 : Nat) (x4 : Int32) (l5 : Option Value) (l6 : Option Value) (s0 : Int32) (s1 : Int32) (h : A_H) : R 283 245 [some (.float x0), some (.ref x1), some (.ref x2), some (.ref x3), some (.int x4), l5, l6] [.int s1, .int s0] h = (cond (decide (s0 = s1)) (R 283 1248 [some (.float x0), some (.ref x1), some (.ref x2), some (.ref x3), some (.int x4), l5, l6] [] h) (cond (decide ((0 : Int32) = 0) || decide ((0 : Int32) = 1)) (some (some (some (.int (0 : Int32))), h)) none)) := (tr (r283_245 ..) (cgB rfl (tr (r283_246 ..) (r283_247 ..))))
set_option maxRecDepth 16384 in
theorem b283_248 (x0 : UInt32) (x1 : Nat) (x2 : Nat) (x3 : Nat) (x4 : Int32) (l5 : Option Value) (l6 : Option Value) (h : A_H) : R 283 248 [some (.float x0), some (.ref x1), some (.ref x2), some (.ref x3), some (.int x4), l5, l6] [] h = (cond (decide (x0 = 0) && !decide ((x4 + (1 : Int32)) < 0) && decide (((x4 + (1 : Int32))).toNatClampNeg < (hX h).1)) (cond (decide (x0 = 0) && !decide ((x4 + (2 : Int32)) < 0) && decide (((x4 + (2 : Int32))).toNatClampNeg < (hX h).1)) (cond (isO h x1 11) (a_back R 283 (85, [.ref x1, .int ((hX h).2 ((x4 + (1 : Int32))).toNatClampNeg), .int ((hX h).2 ((x4 + (2 : Int32))).toNatClampNeg)], h, true, none, 260, [some (.float x0), some (.ref x1), some (.ref x2), some (.ref x3), some (.int x4), l5, l6], []) (C 85 [.ref x1, .int ((hX h).2 ((x4 + (1 : Int32))).toNatClampNeg), .int ((hX h).2 ((x4 + (2 : Int32))).toNatClampNeg)] h)) none) none) none) := (tr (r283_248 ..) (tr (r283_249 ..) (tr (r283_250 ..) (tr (r283_251 ..) (tr (r283_252 ..) (tr (r283_253 ..) (cgT (tr (r283_254 ..) (tr (r283_255 ..) (tr (r283_256 ..) (tr (r283_257 ..) (tr (r283_258 ..) (cgT (r283_259 ..))))))))))))))
set_option maxRecDepth 16384 in
theorem b283_260 (x0 : UInt32) (x1 : Nat) (x2 : Nat) (x3 : Nat) (x4 : Int32) (l5 : Option Value) (l6 : Option Value) (s0 : Int32) (h : A_H) : R 283 260 [some (.float x0), some (.ref x1), some (.ref x2), some (.ref x3), some (.int x4), l5, l6] [.int s0] h = (cond (decide (x0 = 0) && !decide ((x4 + (1 : Int32)) < 0) && decide (((x4 + (1 : Int32))).toNatClampNeg < (hX h).1)) (cond (decide (x0 = 0) && !decide ((x4 + (2 : Int32)) < 0) && decide (((x4 + (2 : Int32))).toNatClampNeg < (hX h).1)) (cond (isO h x2 13) (a_back R 283 (222, [.ref x2, .int ((hX h).2 ((x4 + (1 : Int32))).toNatClampNeg), .int ((hX h).2 ((x4 + (2 : Int32))).toNatClampNeg)], h, true, none, 272, [some (.float x0), some (.ref x1), some (.ref x2), some (.ref x3), some (.int x4), l5, l6], [.int s0]) (C 222 [.ref x2, .int ((hX h).2 ((x4 + (1 : Int32))).toNatClampNeg), .int ((hX h).2 ((x4 + (2 : Int32))).toNatClampNeg)] h)) none) none) none) := (tr (r283_260 ..) (tr (r283_261 ..) (tr (r283_262 ..) (tr (r283_263 ..) (tr (r283_264 ..) (tr (r283_265 ..) (cgT (tr (r283_266 ..) (tr (r283_267 ..) (tr (r283_268 ..) (tr (r283_269 ..) (tr (r283_270 ..) (cgT (r283_271 ..))))))))))))))
set_option maxRecDepth 16384 in
theorem b283_272 (x0 : UInt32) (x1 : Nat) (x2 : Nat) (x3 : Nat) (x4 : Int32) (l5 : Option Value) (l6 : Option Value) (s0 : Int32) (s1 : Int32) (h : A_H) : R 283 272 [some (.float x0), some (.ref x1), some (.ref x2), some (.ref x3), some (.int x4), l5, l6] [.int s1, .int s0] h = (cond (decide (s0 = s1)) (R 283 1248 [some (.float x0), some (.ref x1), some (.ref x2), some (.ref x3), some (.int x4), l5, l6] [] h) (cond (decide ((0 : Int32) = 0) || decide ((0 : Int32) = 1)) (some (some (some (.int (0 : Int32))), h)) none)) := (tr (r283_272 ..) (cgB rfl (tr (r283_273 ..) (r283_274 ..))))
set_option maxRecDepth 16384 in
theorem b283_275 (x0 : UInt32) (x1 : Nat) (x2 : Nat) (x3 : Nat) (x4 : Int32) (l5 : Option Value) (l6 : Option Value) (h : A_H) : R 283 275 [some (.float x0), some (.ref x1), some (.ref x2), some (.ref x3), some (.int x4), l5, l6] [] h = (cond (decide (x0 = 0) && !decide ((x4 + (1 : Int32)) < 0) && decide (((x4 + (1 : Int32))).toNatClampNeg < (hX h).1)) (cond (decide (x0 = 0) && !decide ((x4 + (2 : Int32)) < 0) && decide (((x4 + (2 : Int32))).toNatClampNeg < (hX h).1)) (cond (isO h x1 11) (a_back R 283 (86, [.ref x1, .int ((hX h).2 ((x4 + (1 : Int32))).toNatClampNeg), .int ((hX h).2 ((x4 + (2 : Int32))).toNatClampNeg)], h, true, none, 287, [some (.float x0), some (.ref x1), some (.ref x2), some (.ref x3), some (.int x4), l5, l6], []) (C 86 [.ref x1, .int ((hX h).2 ((x4 + (1 : Int32))).toNatClampNeg), .int ((hX h).2 ((x4 + (2 : Int32))).toNatClampNeg)] h)) none) none) none) := (tr (r283_275 ..) (tr (r283_276 ..) (tr (r283_277 ..) (tr (r283_278 ..) (tr (r283_279 ..) (tr (r283_280 ..) (cgT (tr (r283_281 ..) (tr (r283_282 ..) (tr (r283_283 ..) (tr (r283_284 ..) (tr (r283_285 ..) (cgT (r283_286 ..))))))))))))))
set_option maxRecDepth 16384 in
theorem b283_287 (x0 : UInt32) (x1 : Nat) (x2 : Nat) (x3 : Nat) (x4 : Int32) (l5 : Option Value) (l6 : Option Value) (s0 : Int32) (h : A_H) : R 283 287 [some (.float x0), some (.ref x1), some (.ref x2), some (.ref x3), some (.int x4), l5, l6] [.int s0] h = (cond (decide (x0 = 0) && !decide ((x4 + (1 : Int32)) < 0) && decide (((x4 + (1 : Int32))).toNatClampNeg < (hX h).1)) (cond (decide (x0 = 0) && !decide ((x4 + (2 : Int32)) < 0) && decide (((x4 + (2 : Int32))).toNatClampNeg < (hX h).1)) (cond (isO h x2 13) (a_back R 283 (223, [.ref x2, .int ((hX h).2 ((x4 + (1 : Int32))).toNatClampNeg), .int ((hX h).2 ((x4 + (2 : Int32))).toNatClampNeg)], h, true, none, 299, [some (.float x0), some (.ref x1), some (.ref x2), some (.ref x3), some (.int x4), l5, l6], [.int s0]) (C 223 [.ref x2, .int ((hX h).2 ((x4 + (1 : Int32))).toNatClampNeg), .int ((hX h).2 ((x4 + (2 : Int32))).toNatClampNeg)] h)) none) none) none) := (tr (r283_287 ..) (tr (r283_288 ..) (tr (r283_289 ..) (tr (r283_290 ..) (tr (r283_291 ..) (tr (r283_292 ..) (cgT (tr (r283_293 ..) (tr (r283_294 ..) (tr (r283_295 ..) (tr (r283_296 ..) (tr (r283_297 ..) (cgT (r283_298 ..))))))))))))))
set_option maxRecDepth 16384 in
theorem b283_299 (x0 : UInt32) (x1 : Nat) (x2 : Nat) (x3 : Nat) (x4 : Int32) (l5 : Option Value) (l6 : Option Value) (s0 : Int32) (s1 : Int32) (h : A_H) : R 283 299 [some (.float x0), some (.ref x1), some (.ref x2), some (.ref x3), some (.int x4), l5, l6] [.int s1, .int s0] h = (cond (decide (s0 = s1)) (R 283 1248 [some (.float x0), some (.ref x1), some (.ref x2), some (.ref x3), some (.int x4), l5, l6] [] h) (cond (decide ((0 : Int32) = 0) || decide ((0 : Int32) = 1)) (some (some (some (.int (0 : Int32))), h)) none)) := (tr (r283_299 ..) (cgB rfl (tr (r283_300 ..) (r283_301 ..))))
set_option maxRecDepth 16384 in
theorem b283_302 (x0 : UInt32) (x1 : Nat) (x2 : Nat) (x3 : Nat) (x4 : Int32) (l5 : Option Value) (l6 : Option Value) (h : A_H) : R 283 302 [some (.float x0), some (.ref x1), some (.ref x2), some (.ref x3), some (.int x4), l5, l6] [] h = (cond (decide (x0 = 0) && !decide ((x4 + (1 : Int32)) < 0) && decide (((x4 + (1 : Int32))).toNatClampNeg < (hX h).1)) (cond (isO h x1 11) (a_back R 283 (87, [.ref x1, .int ((hX h).2 ((x4 + (1 : Int32))).toNatClampNeg)], h, true, none, 309, [some (.float x0), some (.ref x1), some (.ref x2), some (.ref x3), some (.int x4), l5, l6], []) (C 87 [.ref x1, .int ((hX h).2 ((x4 + (1 : Int32))).toNatClampNeg)] h)) none) none) := (tr (r283_302 ..) (tr (r283_303 ..) (tr (r283_304 ..) (tr (r283_305 ..) (tr (r283_306 ..) (tr (r283_307 ..) (cgT (r283_308 ..))))))))
set_option maxRecDepth 16384 in
theorem b283_309 (x0 : UInt32) (x1 : Nat) (x2 : Nat) (x3 : Nat) (x4 : Int32) (l5 : Option Value) (l6 : Option Value) (s0 : Int32) (h : A_H) : R 283 309 [some (.float x0), some (.ref x1), some (.ref x2), some (.ref x3), some (.int x4), l5, l6] [.int s0] h = (cond (decide (x0 = 0) && !decide ((x4 + (1 : Int32)) < 0) && decide (((x4 + (1 : Int32))).toNatClampNeg < (hX h).1)) (cond (isO h x2 13) (a_back R 283 (224, [.ref x2, .int ((hX h).2 ((x4 + (1 : Int32))).toNatClampNeg)], h, true, none, 316, [some (.float x0), some (.ref x1), some (.ref x2), some (.ref x3), some (.int x4), l5, l6], [.int s0]) (C 224 [.ref x2, .int ((hX h).2 ((x4 + (1 : Int32))).toNatClampNeg)] h)) none) none) := (tr (r283_309 ..) (tr (r283_310 ..) (tr (r283_311 ..) (tr (r283_312 ..) (tr (r283_313 ..) (tr (r283_314 ..) (cgT (r283_315 ..))))))))
set_option maxRecDepth 16384 in
theorem b283_316 (x0 : UInt32) (x1 : Nat) (x2 : Nat) (x3 : Nat) (x4 : Int32) (l5 : Option Value) (l6 : Option Value) (s0 : Int32) (s1 : Int32) (h : A_H) : R 283 316 [some (.float x0), some (.ref x1), some (.ref x2), some (.ref x3), some (.int x4), l5, l6] [.int s1, .int s0] h = (cond (decide (s0 = s1)) (R 283 1248 [some (.float x0), some (.ref x1), some (.ref x2), some (.ref x3), some (.int x4), l5, l6] [] h) (cond (decide ((0 : Int32) = 0) || decide ((0 : Int32) = 1)) (some (some (some (.int (0 : Int32))), h)) none)) := (tr (r283_316 ..) (cgB rfl (tr (r283_317 ..) (r283_318 ..))))
set_option maxRecDepth 16384 in
theorem b283_319 (x0 : UInt32) (x1 : Nat) (x2 : Nat) (x3 : Nat) (x4 : Int32) (l5 : Option Value) (l6 : Option Value) (h : A_H) : R 283 319 [some (.float x0), some (.ref x1), some (.ref x2), some (.ref x3), some (.int x4), l5, l6] [] h = (cond (decide (x0 = 0) && !decide ((x4 + (1 : Int32)) < 0) && decide (((x4 + (1 : Int32))).toNatClampNeg < (hX h).1)) (cond (decide (x0 = 0) && !decide ((x4 + (2 : Int32)) < 0) && decide (((x4 + (2 : Int32))).toNatClampNeg < (hX h).1)) (cond (decide (x0 = 0) && !decide ((x4 + (3 : Int32)) < 0) && decide (((x4 + (3 : Int32))).toNatClampNeg < (hX h).1)) (cond (isO h x1 11) (a_back R 283 (88, [.ref x1, .int ((hX h).2 ((x4 + (1 : Int32))).toNatClampNeg), .int ((hX h).2 ((x4 + (2 : Int32))).toNatClampNeg), .int ((hX h).2 ((x4 + (3 : Int32))).toNatClampNeg)], h, true, none, 336, [some (.float x0), some (.ref x1), some (.ref x2), some (.ref x3), some (.int x4), l5, l6], []) (C 88 [.ref x1, .int ((hX h).2 ((x4 + (1 : Int32))).toNatClampNeg), .int ((hX h).2 ((x4 + (2 : Int32))).toNatClampNeg), .int ((hX h).2 ((x4 + (3 : Int32))).toNatClampNeg)] h)) none) none) none) none) := (tr (r283_319 ..) (tr (r283_320 ..) (tr (r283_321 ..) (tr (r283_322 ..) (tr (r283_323 ..) (tr (r283_324 ..) (cgT (tr (r283_325 ..) (tr (r283_326 ..) (tr (r283_327 ..) (tr (r283_328 ..) (tr (r283_329 ..) (cgT (tr (r283_330 ..) (tr (r283_331 ..) (tr (r283_332 ..) (tr (r283_333 ..) (tr (r283_334 ..) (cgT (r283_335 ..))))))))))))))))))))
set_option maxRecDepth 16384 in
theorem b283_336 (x0 : UInt32) (x1 : Nat) (x2 : Nat) (x3 : Nat) (x4 : Int32) (l5 : Option Value) (l6 : Option Value) (s0 : Int32) (h : A_H) : R 283 336 [some (.float x0), some (.ref x1), some (.ref x2), some (.ref x3), some (.int x4), l5, l6] [.int s0] h = (cond (decide (x0 = 0) && !decide ((x4 + (1 : Int32)) < 0) && decide (((x4 + (1 : Int32))).toNatClampNeg < (hX h).1)) (cond (decide (x0 = 0) && !decide ((x4 + (2 : Int32)) < 0) && decide (((x4 + (2 : Int32))).toNatClampNeg < (hX h).1)) (cond (decide (x0 = 0) && !decide ((x4 + (3 : Int32)) < 0) && decide (((x4 + (3 : Int32))).toNatClampNeg < (hX h).1)) (cond (isO h x2 13) (a_back R 283 (225, [.ref x2, .int ((hX h).2 ((x4 + (1 : Int32))).toNatClampNeg), .int ((hX h).2 ((x4 + (2 : Int32))).toNatClampNeg), .int ((hX h).2 ((x4 + (3 : Int32))).toNatClampNeg)], h, true, none, 353, [some (.float x0), some (.ref x1), some (.ref x2), some (.ref x3), some (.int x4), l5, l6], [.int s0]) (C 225 [.ref x2, .int ((hX h).2 ((x4 + (1 : Int32))).toNatClampNeg), .int ((hX h).2 ((x4 + (2 : Int32))).toNatClampNeg), .int ((hX h).2 ((x4 + (3 : Int32))).toNatClampNeg)] h)) none) none) none) none) := (tr (r283_336 ..) (tr (r283_337 ..) (tr (r283_338 ..) (tr (r283_339 ..) (tr (r283_340 ..) (tr (r283_341 ..) (cgT (tr (r283_342 ..) (tr (r283_343 ..) (tr (r283_344 ..) (tr (r283_345 ..) (tr (r283_346 ..) (cgT (tr (r283_347 ..) (tr (r283_348 ..) (tr (r283_349 ..) (tr (r283_350 ..) (tr (r283_351 ..) (cgT (r283_352 ..))))))))))))))))))))
set_option maxRecDepth 16384 in
theorem b283_353 (x0 : UInt32) (x1 : Nat) (x2 : Nat) (x3 : Nat) (x4 : Int32) (l5 : Option Value) (l6 : Option Value) (s0 : Int32) (s1 : Int32) (h : A_H) : R 283 353 [some (.float x0), some (.ref x1), some (.ref x2), some (.ref x3), some (.int x4), l5, l6] [.int s1, .int s0] h = (cond (decide (s0 = s1)) (R 283 1248 [some (.float x0), some (.ref x1), some (.ref x2), some (.ref x3), some (.int x4), l5, l6] [] h) (cond (decide ((0 : Int32) = 0) || decide ((0 : Int32) = 1)) (some (some (some (.int (0 : Int32))), h)) none)) := (tr (r283_353 ..) (cgB rfl (tr (r283_354 ..) (r283_355 ..))))
set_option maxRecDepth 16384 in
theorem b283_356 (x0 : UInt32) (x1 : Nat) (x2 : Nat) (x3 : Nat) (x4 : Int32) (l5 : Option Value) (l6 : Option Value) (h : A_H) : R 283 356 [some (.float x0), some (.ref x1), some (.ref x2), some (.ref x3), some (.int x4), l5, l6] [] h = (cond (decide (x0 = 0) && !decide ((x4 + (1 : Int32)) < 0) && decide (((x4 + (1 : Int32))).toNatClampNeg < (hX h).1)) (cond (decide (x0 = 0) && !decide ((x4 + (2 : Int32)) < 0) && decide (((x4 + (2 : Int32))).toNatClampNeg < (hX h).1)) (cond (decide (x0 = 0) && !decide ((x4 + (3 : Int32)) < 0) && decide (((x4 + (3 : Int32))).toNatClampNeg < (hX h).1)) (cond (isO h x1 11) (a_back R 283 (89, [.ref x1, .int ((hX h).2 ((x4 + (1 : Int32))).toNatClampNeg), .int ((hX h).2 ((x4 + (2 : Int32))).toNatClampNeg), .int ((hX h).2 ((x4 + (3 : Int32))).toNatClampNeg)], h, true, none, 373, [some (.float x0), some (.ref x1), some (.ref x2), some (.ref x3), some (.int x4), l5, l6], []) (C 89 [.ref x1, .int ((hX h).2 ((x4 + (1 : Int32))).toNatClampNeg), .int ((hX h).2 ((x4 + (2 : Int32))).toNatClampNeg), .int ((hX h).2 ((x4 + (3 : Int32))).toNatClampNeg)] h)) none) none) none) none) := (tr (r283_356 ..) (tr (r283_357 ..) (tr (r283_358 ..) (tr (r283_359 ..) (tr (r283_360 ..) (tr (r283_361 ..) (cgT (tr (r283_362 ..) (tr (r283_363 ..) (tr (r283_364 ..) (tr (r283_365 ..) (tr (r283_366 ..) (cgT (tr (r283_367 ..) (tr (r283_368 ..) (tr (r283_369 ..) (tr (r283_370 ..) (tr (r283_371 ..) (cgT (r283_372 ..))))))))))))))))))))
set_option maxRecDepth 16384 in
theorem b283_373 (x0 : UInt32) (x1 : Nat) (x2 : Nat) (x3 : Nat) (x4 : Int32) (l5 : Option Value) (l6 : Option Value) (s0 : Int32) (h : A_H) : R 283 373 [some (.float x0), some (.ref x1), some (.ref x2), some (.ref x3), some (.int x4), l5, l6] [.int s0] h = (cond (decide (x0 = 0) && !decide ((x4 + (1 : Int32)) < 0) && decide (((x4 + (1 : Int32))).toNatClampNeg < (hX h).1)) (cond (decide (x0 = 0) && !decide ((x4 + (2 : Int32)) < 0) && decide (((x4 + (2 : Int32))).toNatClampNeg < (hX h).1)) (cond (decide (x0 = 0) && !decide ((x4 + (3 : Int32)) < 0) && decide (((x4 + (3 : Int32))).toNatClampNeg < (hX h).1)) (cond (isO h x2 13) (a_back R 283 (226, [.ref x2, .int ((hX h).2 ((x4 + (1 : Int32))).toNatClampNeg), .int ((hX h).2 ((x4 + (2 : Int32))).toNatClampNeg), .int ((hX h).2 ((x4 + (3 : Int32))).toNatClampNeg)], h, true, none, 390, [some (.float x0), some (.ref x1), some (.ref x2), some (.ref x3), some (.int x4), l5, l6], [.int s0]) (C 226 [.ref x2, .int ((hX h).2 ((x4 + (1 : Int32))).toNatClampNeg), .int ((hX h).2 ((x4 + (2 : Int32))).toNatClampNeg), .int ((hX h).2 ((x4 + (3 : Int32))).toNatClampNeg)] h)) none) none) none) none) := (tr (r283_373 ..) (tr (r283_374 ..) (tr (r283_375 ..) (tr (r283_376 ..) (tr (r283_377 ..) (tr (r283_378 ..) (cgT (tr (r283_379 ..) (tr (r283_380 ..) (tr (r283_381 ..) (tr (r283_382 ..) (tr (r283_383 ..) (cgT (tr (r283_384 ..) (tr (r283_385 ..) (tr (r283_386 ..) (tr (r283_387 ..) (tr (r283_388 ..) (cgT (r283_389 ..))))))))))))))))))))
set_option maxRecDepth 16384 in
theorem b283_390 (x0 : UInt32) (x1 : Nat) (x2 : Nat) (x3 : Nat) (x4 : Int32) (l5 : Option Value) (l6 : Option Value) (s0 : Int32) (s1 : Int32) (h : A_H) : R 283 390 [some (.float x0), some (.ref x1), some (.ref x2), some (.ref x3), some (.int x4), l5, l6] [.int s1, .int s0] h = (cond (decide (s0 = s1)) (R 283 1248 [some (.float x0), some (.ref x1), some (.ref x2), some (.ref x3), some (.int x4), l5, l6] [] h) (cond (decide ((0 : Int32) = 0) || decide ((0 : Int32) = 1)) (some (some (some (.int (0 : Int32))), h)) none)) := (tr (r283_390 ..) (cgB rfl (tr (r283_391 ..) (r283_392 ..))))
set_option maxRecDepth 16384 in
theorem b283_393 (x0 : UInt32) (x1 : Nat) (x2 : Nat) (x3 : Nat) (x4 : Int32) (l5 : Option Value) (l6 : Option Value) (h : A_H) : R 283 393 [some (.float x0), some (.ref x1), some (.ref x2), some (.ref x3), some (.int x4), l5, l6] [] h = (cond (decide (x0 = 0) && !decide ((x4 + (1 : Int32)) < 0) && decide (((x4 + (1 : Int32))).toNatClampNeg < (hX h).1)) (cond (decide (x0 = 0) && !decide ((x4 + (2 : Int32)) < 0) && decide (((x4 + (2 : Int32))).toNatClampNeg < (hX h).1)) (cond (decide (x0 = 0) && !decide ((x4 + (3 : Int32)) < 0) && decide (((x4 + (3 : Int32))).toNatClampNeg < (hX h).1)) (cond (isO h x1 11) (a_back R 283 (90, [.ref x1, .int ((hX h).2 ((x4 + (1 : Int32))).toNatClampNeg), .int ((hX h).2 ((x4 + (2 : Int32))).toNatClampNeg), .int ((hX h).2 ((x4 + (3 : Int32))).toNatClampNeg)], h, true, none, 410, [some (.float x0), some (.ref x1), some (.ref x2), some (.ref x3), some (.int x4), l5, l6], []) (C 90 [.ref x1, .int ((hX h).2 ((x4 + (1 : Int32))).toNatClampNeg), .int ((hX h).2 ((x4 + (2 : Int32))).toNatClampNeg), .int ((hX h).2 ((x4 + (3 : Int32))).toNatClampNeg)] h)) none) none) none) none) := (tr (r283_393 ..) (tr (r283_394 ..) (tr (r283_395 ..) (tr (r283_396 ..) (tr (r283_397 ..) (tr (r283_398 ..) (cgT (tr (r283_399 ..) (tr (r283_400 ..) (tr (r283_401 ..) (tr (r283_402 ..) (tr (r283_403 ..) (cgT (tr (r283_404 ..) (tr (r283_405 ..) (tr (r283_406 ..) (tr (r283_407 ..) (tr (r283_408 ..) (cgT (r283_409 ..))))))))))))))))))))
set_option maxRecDepth 16384 in
theorem b283_410 (x0 : UInt32) (x1 : Nat) (x2 : Nat) (x3 : Nat) (x4 : Int32) (l5 : Option Value) (l6 : Option Value) (s0 : Int32) (h : A_H) : R 283 410 [some (.float x0), some (.ref x1), some (.ref x2), some (.ref x3), some (.int x4), l5, l6] [.int s0] h = (cond (decide (x0 = 0) && !decide ((x4 + (1 : Int32)) < 0) && decide (((x4 + (1 : Int32))).toNatClampNeg < (hX h).1)) (cond (decide (x0 = 0) && !decide ((x4 + (2 : Int32)) < 0) && decide (((x4 + (2 : Int32))).toNatClampNeg < (hX h).1)) (cond (decide (x0 = 0) && !decide ((x4 + (3 : Int32)) < 0) && decide (((x4 + (3 : Int32))).toNatClampNeg < (hX h).1)) (cond (isO h x2 13) (a_back R 283 (227, [.ref x2, .int ((hX h).2 ((x4 + (1 : Int32))).toNatClampNeg), .int ((hX h).2 ((x4 + (2 : Int32))).toNatClampNeg), .int ((hX h).2 ((x4 + (3 : Int32))).toNatClampNeg)], h, true, none, 427, [some (.float x0), some (.ref x1), some (.ref x2), some (.ref x3), some (.int x4), l5, l6], [.int s0]) (C 227 [.ref x2, .int ((hX h).2 ((x4 + (1 : Int32))).toNatClampNeg), .int ((hX h).2 ((x4 + (2 : Int32))).toNatClampNeg), .int ((hX h).2 ((x4 + (3 : Int32))).toNatClampNeg)] h)) none) none) none) none) := (tr (r283_410 ..) (tr (r283_411 ..) (tr (r283_412 ..) (tr (r283_413 ..) (tr (r283_414 ..) (tr (r283_415 ..) (cgT (tr (r283_416 ..) (tr (r283_417 ..) (tr (r283_418 ..) (tr (r283_419 ..) (tr (r283_420 ..) (cgT (tr (r283_421 ..) (tr (r283_422 ..) (tr (r283_423 ..) (tr (r283_424 ..) (tr (r283_425 ..) (cgT (r283_426 ..))))))))))))))))))))
set_option maxRecDepth 16384 in
theorem b283_427 (x0 : UInt32) (x1 : Nat) (x2 : Nat) (x3 : Nat) (x4 : Int32) (l5 : Option Value) (l6 : Option Value) (s0 : Int32) (s1 : Int32) (h : A_H) : R 283 427 [some (.float x0), some (.ref x1), some (.ref x2), some (.ref x3), some (.int x4), l5, l6] [.int s1, .int s0] h = (cond (decide (s0 = s1)) (R 283 1248 [some (.float x0), some (.ref x1), some (.ref x2), some (.ref x3), some (.int x4), l5, l6] [] h) (cond (decide ((0 : Int32) = 0) || decide ((0 : Int32) = 1)) (some (some (some (.int (0 : Int32))), h)) none)) := (tr (r283_427 ..) (cgB rfl (tr (r283_428 ..) (r283_429 ..))))
set_option maxRecDepth 16384 in
theorem b283_430 (x0 : UInt32) (x1 : Nat) (x2 : Nat) (x3 : Nat) (x4 : Int32) (l5 : Option Value) (l6 : Option Value) (h : A_H) : R 283 430 [some (.float x0), some (.ref x1), some (.ref x2), some (.ref x3), some (.int x4), l5, l6] [] h = (cond (decide (x0 = 0) && !decide ((x4 + (1 : Int32)) < 0) && decide (((x4 + (1 : Int32))).toNatClampNeg < (hX h).1)) (cond (decide (x0 = 0) && !decide ((x4 + (2 : Int32)) < 0) && decide (((x4 + (2 : Int32))).toNatClampNeg < (hX h).1)) (cond (isO h x1 11) (a_back R 283 (91, [.ref x1, .int ((hX h).2 ((x4 + (1 : Int32))).toNatClampNeg), .int ((hX h).2 ((x4 + (2 : Int32))).toNatClampNeg)], h, true, none, 442, [some (.float x0), some (.ref x1), some (.ref x2), some (.ref x3), some (.int x4), l5, l6], []) (C 91 [.ref x1, .int ((hX h).2 ((x4 + (1 : Int32))).toNatClampNeg), .int ((hX h).2 ((x4 + (2 : Int32))).toNatClampNeg)] h)) none) none) none) := (tr (r283_430 ..) (tr (r283_431 ..) (tr (r283_432 ..) (tr (r283_433 ..) (tr (r283_434 ..) (tr (r283_435 ..) (cgT (tr (r283_436 ..) (tr (r283_437 ..) (tr (r283_438 ..) (tr (r283_439 ..) (tr (r283_440 ..) (cgT (r283_441 ..))))))))))))))
set_option maxRecDepth 16384 in
theorem b283_442 (x0 : UInt32) (x1 : Nat) (x2 : Nat) (x3 : Nat) (x4 : Int32) (l5 : Option Value) (l6 : Option Value) (s0 : Int32) (h : A_H) : R 283 442 [some (.float x0), some (.ref x1), some (.ref x2), some (.ref x3), some (.int x4), l5, l6] [.int s0] h = (cond (decide (x0 = 0) && !decide ((x4 + (1 : Int32)) < 0) && decide (((x4 + (1 : Int32))).toNatClampNeg < (hX h).1)) (cond (decide (x0 = 0) && !decide ((x4 + (2 : Int32)) < 0) && decide (((x4 + (2 : Int32))).toNatClampNeg < (hX h).1)) (cond (isO h x2 13) (a_back R 283 (228, [.ref x2, .int ((hX h).2 ((x4 + (1 : Int32))).toNatClampNeg), .int ((hX h).2 ((x4 + (2 : Int32))).toNatClampNeg)], h, true, none, 454, [some (.float x0), some (.ref x1), some (.ref x2), some (.ref x3), some (.int x4), l5, l6], [.int s0]) (C 228 [.ref x2, .int ((hX h).2 ((x4 + (1 : Int32))).toNatClampNeg), .int ((hX h).2 ((x4 + (2 : Int32))).toNatClampNeg)] h)) none) none) none) := (tr (r283_442 ..) (tr (r283_443 ..) (tr (r283_444 ..) (tr (r283_445 ..) (tr (r283_446 ..) (tr (r283_447 ..) (cgT (tr (r283_448 ..) (tr (r283_449 ..) (tr (r283_450 ..) (tr (r283_451 ..) (tr (r283_452 ..) (cgT (r283_453 ..))))))))))))))
set_option maxRecDepth 16384 in
theorem b283_454 (x0 : UInt32) (x1 : Nat) (x2 : Nat) (x3 : Nat) (x4 : Int32) (l5 : Option Value) (l6 : Option Value) (s0 : Int32) (s1 : Int32) (h : A_H) : R 283 454 [some (.float x0), some (.ref x1), some (.ref x2), some (.ref x3), some (.int x4), l5, l6] [.int s1, .int s0] h = (cond (decide (s0 = s1)) (R 283 1248 [some (.float x0), some (.ref x1), some (.ref x2), some (.ref x3), some (.int x4), l5, l6] [] h) (cond (decide ((0 : Int32) = 0) || decide ((0 : Int32) = 1)) (some (some (some (.int (0 : Int32))), h)) none)) := (tr (r283_454 ..) (cgB rfl (tr (r283_455 ..) (r283_456 ..))))
set_option maxRecDepth 16384 in
theorem b283_457 (x0 : UInt32) (x1 : Nat) (x2 : Nat) (x3 : Nat) (x4 : Int32) (l5 : Option Value) (l6 : Option Value) (h : A_H) : R 283 457 [some (.float x0), some (.ref x1), some (.ref x2), some (.ref x3), some (.int x4), l5, l6] [] h = (cond (decide (x0 = 0) && !decide ((x4 + (1 : Int32)) < 0) && decide (((x4 + (1 : Int32))).toNatClampNeg < (hX h).1)) (cond (decide (x0 = 0) && !decide ((x4 + (2 : Int32)) < 0) && decide (((x4 + (2 : Int32))).toNatClampNeg < (hX h).1)) (cond (isO h x1 11) (a_back R 283 (92, [.ref x1, .int ((hX h).2 ((x4 + (1 : Int32))).toNatClampNeg), .int ((hX h).2 ((x4 + (2 : Int32))).toNatClampNeg)], h, true, none, 469, [some (.float x0), some (.ref x1), some (.ref x2), some (.ref x3), some (.int x4), l5, l6], []) (C 92 [.ref x1, .int ((hX h).2 ((x4 + (1 : Int32))).toNatClampNeg), .int ((hX h).2 ((x4 + (2 : Int32))).toNatClampNeg)] h)) none) none) none) := (tr (r283_457 ..) (tr (r283_458 ..) (tr (r283_459 ..) (tr (r283_460 ..) (tr (r283_461 ..) (tr (r283_462 ..) (cgT (tr (r283_463 ..) (tr (r283_464 ..) (tr (r283_465 ..) (tr (r283_466 ..) (tr (r283_467 ..) (cgT (r283_468 ..))))))))))))))
set_option maxRecDepth 16384 in
theorem b283_469 (x0 : UInt32) (x1 : Nat) (x2 : Nat) (x3 : Nat) (x4 : Int32) (l5 : Option Value) (l6 : Option Value) (s0 : Int32) (h : A_H) : R 283 469 [some (.float x0), some (.ref x1), some (.ref x2), some (.ref x3), some (.int x4), l5, l6] [.int s0] h = (cond (decide (x0 = 0) && !decide ((x4 + (1 : Int32)) < 0) && decide (((x4 + (1 : Int32))).toNatClampNeg < (hX h).1)) (cond (decide (x0 = 0) && !decide ((x4 + (2 : Int32)) < 0) && decide (((x4 + (2 : Int32))).toNatClampNeg < (hX h).1)) (cond (isO h x2 13) (a_back R 283 (229, [.ref x2, .int ((hX h).2 ((x4 + (1 : Int32))).toNatClampNeg), .int ((hX h).2 ((x4 + (2 : Int32))).toNatClampNeg)], h, true, none, 481, [some (.float x0), some (.ref x1), some (.ref x2), some (.ref x3), some (.int x4), l5, l6], [.int s0]) (C 229 [.ref x2, .int ((hX h).2 ((x4 + (1 : Int32))).toNatClampNeg), .int ((hX h).2 ((x4 + (2 : Int32))).toNatClampNeg)] h)) none) none) none) := (tr (r283_469 ..) (tr (r283_470 ..) (tr (r283_471 ..) (tr (r283_472 ..) (tr (r283_473 ..) (tr (r283_474 ..) (cgT (tr (r283_475 ..) (tr (r283_476 ..) (tr (r283_477 ..) (tr (r283_478 ..) (tr (r283_479 ..) (cgT (r283_480 ..))))))))))))))
set_option maxRecDepth 16384 in
theorem b283_481 (x0 : UInt32) (x1 : Nat) (x2 : Nat) (x3 : Nat) (x4 : Int32) (l5 : Option Value) (l6 : Option Value) (s0 : Int32) (s1 : Int32) (h : A_H) : R 283 481 [some (.float x0), some (.ref x1), some (.ref x2), some (.ref x3), some (.int x4), l5, l6] [.int s1, .int s0] h = (cond (decide (s0 = s1)) (R 283 1248 [some (.float x0), some (.ref x1), some (.ref x2), some (.ref x3), some (.int x4), l5, l6] [] h) (cond (decide ((0 : Int32) = 0) || decide ((0 : Int32) = 1)) (some (some (some (.int (0 : Int32))), h)) none)) := (tr (r283_481 ..) (cgB rfl (tr (r283_482 ..) (r283_483 ..))))
set_option maxRecDepth 16384 in
theorem b283_484 (x0 : UInt32) (x1 : Nat) (x2 : Nat) (x3 : Nat) (x4 : Int32) (l5 : Option Value) (l6 : Option Value) (h : A_H) : R 283 484 [some (.float x0), some (.ref x1), some (.ref x2), some (.ref x3), some (.int x4), l5, l6] [] h = (cond (decide (x0 = 0) && !decide ((x4 + (1 : Int32)) < 0) && decide (((x4 + (1 : Int32))).toNatClampNeg < (hX h).1)) (cond (decide (x0 = 0) && !decide ((x4 + (2 : Int32)) < 0) && decide (((x4 + (2 : Int32))).toNatClampNeg < (hX h).1)) (cond (decide (x0 = 0) && !decide ((x4 + (3 : Int32)) < 0) && decide (((x4 + (3 : Int32))).toNatClampNeg < (hX h).1)) (cond (isO h x1 11) (a_back R 283 (93, [.ref x1, .int ((hX h).2 ((x4 + (1 : Int32))).toNatClampNeg), .int ((hX h).2 ((x4 + (2 : Int32))).toNatClampNeg), .int ((hX h).2 ((x4 + (3 : Int32))).toNatClampNeg)], h, true, none, 501, [some (.float x0), some (.ref x1), some (.ref x2), some (.ref x3), some (.int x4), l5, l6], []) (C 93 [.ref x1, .int ((hX h).2 ((x4 + (1 : Int32))).toNatClampNeg), .int ((hX h).2 ((x4 + (2 : Int32))).toNatClampNeg), .int ((hX h).2 ((x4 + (3 : Int32))).toNatClampNeg)] h)) none) none) none) none) := (tr (r283_484 ..) (tr (r283_485 ..) (tr (r283_486 ..) (tr (r283_487 ..) (tr (r283_488 ..) (tr (r283_489 ..) (cgT (tr (r283_490 ..) (tr (r283_491 ..) (tr (r283_492 ..) (tr (r283_493 ..) (tr (r283_494 ..) (cgT (tr (r283_495 ..) (tr (r283_496 ..) (tr (r283_497 ..) (tr (r283_498 ..) (tr (r283_499 ..) (cgT (r283_500 ..))))))))))))))))))))
set_option maxRecDepth 16384 in
theorem b283_501 (x0 : UInt32) (x1 : Nat) (x2 : Nat) (x3 : Nat) (x4 : Int32) (l5 : Option Value) (l6 : Option Value) (s0 : Int32) (h : A_H) : R 283 501 [some (.float x0), some (.ref x1), some (.ref x2), some (.ref x3), some (.int x4), l5, l6] [.int s0] h = (cond (decide (x0 = 0) && !decide ((x4 + (1 : Int32)) < 0) && decide (((x4 + (1 : Int32))).toNatClampNeg < (hX h).1)) (cond (decide (x0 = 0) && !decide ((x4 + (2 : Int32)) < 0) && decide (((x4 + (2 : Int32))).toNatClampNeg < (hX h).1)) (cond (decide (x0 = 0) && !decide ((x4 + (3 : Int32)) < 0) && decide (((x4 + (3 : Int32))).toNatClampNeg < (hX h).1)) (cond (isO h x2 13) (a_back R 283 (230, [.ref x2, .int ((hX h).2 ((x4 + (1 : Int32))).toNatClampNeg), .int ((hX h).2 ((x4 + (2 : Int32))).toNatClampNeg), .int ((hX h).2 ((x4 + (3 : Int32))).toNatClampNeg)], h, true, none, 518, [some (.float x0), some (.ref x1), some (.ref x2), some (.ref x3), some (.int x4), l5, l6], [.int s0]) (C 230 [.ref x2, .int ((hX h).2 ((x4 + (1 : Int32))).toNatClampNeg), .int ((hX h).2 ((x4 + (2 : Int32))).toNatClampNeg), .int ((hX h).2 ((x4 + (3 : Int32))).toNatClampNeg)] h)) none) none) none) none) := (tr (r283_501 ..) (tr (r283_502 ..) (tr (r283_503 ..) (tr (r283_504 ..) (tr (r283_505 ..) (tr (r283_506 ..) (cgT (tr (r283_507 ..) (tr (r283_508 ..) (tr (r283_509 ..) (tr (r283_510 ..) (tr (r283_511 ..) (cgT (tr (r283_512 ..) (tr (r283_513 ..) (tr (r283_514 ..) (tr (r283_515 ..) (tr (r283_516 ..) (cgT (r283_517 ..))))))))))))))))))))
set_option maxRecDepth 16384 in
theorem b283_518 (x0 : UInt32) (x1 : Nat) (x2 : Nat) (x3 : Nat) (x4 : Int32) (l5 : Option Value) (l6 : Option Value) (s0 : Int32) (s1 : Int32) (h : A_H) : R 283 518 [some (.float x0), some (.ref x1), some (.ref x2), some (.ref x3), some (.int x4), l5, l6] [.int s1, .int s0] h = (cond (decide (s0 = s1)) (R 283 1248 [some (.float x0), some (.ref x1), some (.ref x2), some (.ref x3), some (.int x4), l5, l6] [] h) (cond (decide ((0 : Int32) = 0) || decide ((0 : Int32) = 1)) (some (some (some (.int (0 : Int32))), h)) none)) := (tr (r283_518 ..) (cgB rfl (tr (r283_519 ..) (r283_520 ..))))
set_option maxRecDepth 16384 in
theorem b283_521 (x0 : UInt32) (x1 : Nat) (x2 : Nat) (x3 : Nat) (x4 : Int32) (l5 : Option Value) (l6 : Option Value) (h : A_H) : R 283 521 [some (.float x0), some (.ref x1), some (.ref x2), some (.ref x3), some (.int x4), l5, l6] [] h = (cond (decide (x0 = 0) && !decide ((x4 + (1 : Int32)) < 0) && decide (((x4 + (1 : Int32))).toNatClampNeg < (hX h).1)) (cond (decide (x0 = 0) && !decide ((x4 + (2 : Int32)) < 0) && decide (((x4 + (2 : Int32))).toNatClampNeg < (hX h).1)) (cond (isO h x1 11) (a_back R 283 (94, [.ref x1, .int ((hX h).2 ((x4 + (1 : Int32))).toNatClampNeg), .int ((hX h).2 ((x4 + (2 : Int32))).toNatClampNeg)], h, true, none, 533, [some (.float x0), some (.ref x1), some (.ref x2), some (.ref x3), some (.int x4), l5, l6], []) (C 94 [.ref x1, .int ((hX h).2 ((x4 + (1 : Int32))).toNatClampNeg), .int ((hX h).2 ((x4 + (2 : Int32))).toNatClampNeg)] h)) none) none) none) := (tr (r283_521 ..) (tr (r283_522 ..) (tr (r283_523 ..) (tr (r283_524 ..) (tr (r283_525 ..) (tr (r283_526 ..) (cgT (tr (r283_527 ..) (tr (r283_528 ..) (tr (r283_529 ..) (tr (r283_530 ..) (tr (r283_531 ..) (cgT (r283_532 ..))))))))))))))
set_option maxRecDepth 16384 in
theorem b283_533 (x0 : UInt32) (x1 : Nat) (x2 : Nat) (x3 : Nat) (x4 : Int32) (l5 : Option Value) (l6 : Option Value) (s0 : Int32) (h : A_H) : R 283 533 [some (.float x0), some (.ref x1), some (.ref x2), some (.ref x3), some (.int x4), l5, l6] [.int s0] h = (cond (decide (x0 = 0) && !decide ((x4 + (1 : Int32)) < 0) && decide (((x4 + (1 : Int32))).toNatClampNeg < (hX h).1)) (cond (decide (x0 = 0) && !decide ((x4 + (2 : Int32)) < 0) && decide (((x4 + (2 : Int32))).toNatClampNeg < (hX h).1)) (cond (isO h x2 13) (a_back R 283 (231, [.ref x2, .int ((hX h).2 ((x4 + (1 : Int32))).toNatClampNeg), .int ((hX h).2 ((x4 + (2 : Int32))).toNatClampNeg)], h, true, none, 545, [some (.float x0), some (.ref x1), some (.ref x2), some (.ref x3), some (.int x4), l5, l6], [.int s0]) (C 231 [.ref x2, .int ((hX h).2 ((x4 + (1 : Int32))).toNatClampNeg), .int ((hX h).2 ((x4 + (2 : Int32))).toNatClampNeg)] h)) none) none) none) := (tr (r283_533 ..) (tr (r283_534 ..) (tr (r283_535 ..) (tr (r283_536 ..) (tr (r283_537 ..) (tr (r283_538 ..) (cgT (tr (r283_539 ..) (tr (r283_540 ..) (tr (r283_541 ..) (tr (r283_542 ..) (tr (r283_543 ..) (cgT (r283_544 ..))))))))))))))
set_option maxRecDepth 16384 in
theorem b283_545 (x0 : UInt32) (x1 : Nat) (x2 : Nat) (x3 : Nat) (x4 : Int32) (l5 : Option Value) (l6 : Option Value) (s0 : Int32) (s1 : Int32) (h : A_H) : R 283 545 [some (.float x0), some (.ref x1), some (.ref x2), some (.ref x3), some (.int x4), l5, l6] [.int s1, .int s0] h = (cond (decide (s0 = s1)) (R 283 1248 [some (.float x0), some (.ref x1), some (.ref x2), some (.ref x3), some (.int x4), l5, l6] [] h) (cond (decide ((0 : Int32) = 0) || decide ((0 : Int32) = 1)) (some (some (some (.int (0 : Int32))), h)) none)) := (tr (r283_545 ..) (cgB rfl (tr (r283_546 ..) (r283_547 ..))))
set_option maxRecDepth 16384 in
theorem b283_548 (x0 : UInt32) (x1 : Nat) (x2 : Nat) (x3 : Nat) (x4 : Int32) (l5 : Option Value) (l6 : Option Value) (h : A_H) : R 283 548 [some (.float x0), some (.ref x1), some (.ref x2), some (.ref x3), some (.int x4), l5, l6] [] h = (cond (decide (x0 = 0) && !decide ((x4 + (1 : Int32)) < 0) && decide (((x4 + (1 : Int32))).toNatClampNeg < (hX h).1)) (cond (decide (x0 = 0) && !decide ((x4 + (2 : Int32)) < 0) && decide (((x4 + (2 : Int32))).toNatClampNeg < (hX h).1)) (cond (isO h x1 11) (a_back R 283 (95, [.ref x1, .int ((hX h).2 ((x4 + (1 : Int32))).toNatClampNeg), .int ((hX h).2 ((x4 + (2 : Int32))).toNatClampNeg)], h, true, none, 560, [some (.float x0), some (.ref x1), some (.ref x2), some (.ref x3), some (.int x4), l5, l6], []) (C 95 [.ref x1, .int ((hX h).2 ((x4 + (1 : Int32))).toNatClampNeg), .int ((hX h).2 ((x4 + (2 : Int32))).toNatClampNeg)] h)) none) none) none) := (tr (r283_548 ..) (tr (r283_549 ..) (tr (r283_550 ..) (tr (r283_551 ..) (tr (r283_552 ..) (tr (r283_553 ..) (cgT (tr (r283_554 ..) (tr (r283_555 ..) (tr (r283_556 ..) (tr (r283_557 ..) (tr (r283_558 ..) (cgT (r283_559 ..))))))))))))))
set_option maxRecDepth 16384 in
theorem b283_560 (x0 : UInt32) (x1 : Nat) (x2 : Nat) (x3 : Nat) (x4 : Int32) (l5 : Option Value) (l6 : Option Value) (s0 : Int32) (h : A_H) : R 283 560 [some (.float x0), some (.ref x1), some (.ref x2), some (.ref x3), some (.int x4), l5, l6] [.int s0] h = (cond (decide (x0 = 0) && !decide ((x4 + (1 : Int32)) < 0) && decide (((x4 + (1 : Int32))).toNatClampNeg < (hX h).1)) (cond (decide (x0 = 0) && !decide ((x4 + (2 : Int32)) < 0) && decide (((x4 + (2 : Int32))).toNatClampNeg < (hX h).1)) (cond (isO h x2 13) (a_back R 283 (233, [.ref x2, .int ((hX h).2 ((x4 + (1 : Int32))).toNatClampNeg), .int ((hX h).2 ((x4 + (2 : Int32))).toNatClampNeg)], h, true, none, 572, [some (.float x0), some (.ref x1), some (.ref x2), some (.ref x3), some (.int x4), l5, l6], [.int s0]) (C 233 [.ref x2, .int ((hX h).2 ((x4 + (1 : Int32))).toNatClampNeg), .int ((hX h).2 ((x4 + (2 : Int32))).toNatClampNeg)] h)) none) none) none) := (tr (r283_560 ..) (tr (r283_561 ..) (tr (r283_562 ..) (tr (r283_563 ..) (tr (r283_564 ..) (tr (r283_565 ..) (cgT (tr (r283_566 ..) (tr (r283_567 ..) (tr (r283_568 ..) (tr (r283_569 ..) (tr (r283_570 ..) (cgT (r283_571 ..))))))))))))))
set_option maxRecDepth 16384 in
theorem b283_572 (x0 : UInt32) (x1 : Nat) (x2 : Nat) (x3 : Nat) (x4 : Int32) (l5 : Option Value) (l6 : Option Value) (s0 : Int32) (s1 : Int32) (h : A_H) : R 283 572 [some (.float x0), some (.ref x1), some (.ref x2), some (.ref x3), some (.int x4), l5, l6] [.int s1, .int s0] h = (cond (decide (s0 = s1)) (R 283 1248 [some (.float x0), some (.ref x1), some (.ref x2), some (.ref x3), some (.int x4), l5, l6] [] h) (cond (decide ((0 : Int32) = 0) || decide ((0 : Int32) = 1)) (some (some (some (.int (0 : Int32))), h)) none)) := (tr (r283_572 ..) (cgB rfl (tr (r283_573 ..) (r283_574 ..))))
set_option maxRecDepth 16384 in
theorem b283_575 (x0 : UInt32) (x1 : Nat) (x2 : Nat) (x3 : Nat) (x4 : Int32) (l5 : Option Value) (l6 : Option Value) (h : A_H) : R 283 575 [some (.float x0), some (.ref x1), some (.ref x2), some (.ref x3), some (.int x4), l5, l6] [] h = (cond (decide (x0 = 0) && !decide ((x4 + (1 : Int32)) < 0) && decide (((x4 + (1 : Int32))).toNatClampNeg < (hX h).1)) (cond (decide (x0 = 0) && !decide ((x4 + (2 : Int32)) < 0) && decide (((x4 + (2 : Int32))).toNatClampNeg < (hX h).1)) (cond (isO h x1 11) (a_back R 283 (96, [.ref x1, .int ((hX h).2 ((x4 + (1 : Int32))).toNatClampNeg), .int ((hX h).2 ((x4 + (2 : Int32))).toNatClampNeg)], h, true, none, 587, [some (.float x0), some (.ref x1), some (.ref x2), some (.ref x3), some (.int x4), l5, l6], []) (C 96 [.ref x1, .int ((hX h).2 ((x4 + (1 : Int32))).toNatClampNeg), .int ((hX h).2 ((x4 + (2 : Int32))).toNatClampNeg)] h)) none) none) none) := (tr (r283_575 ..) (tr (r283_576 ..) (tr (r283_577 ..) (tr (r283_578 ..) (tr (r283_579 ..) (tr (r283_580 ..) (cgT (tr (r283_581 ..) (tr (r283_582 ..) (tr (r283_583 ..) (tr (r283_584 ..) (tr (r283_585 ..) (cgT (r283_586 ..))))))))))))))
set_option maxRecDepth 16384 in
theorem b283_587 (x0 : UInt32) (x1 : Nat) (x2 : Nat) (x3 : Nat) (x4 : Int32) (l5 : Option Value) (l6 : Option Value) (s0 : Int32) (h : A_H) : R 283 587 [some (.float x0), some (.ref x1), some (.ref x2), some (.ref x3), some (.int x4), l5, l6] [.int s0] h = (cond (decide (x0 = 0) && !decide ((x4 + (1 : Int32)) < 0) && decide (((x4 + (1 : Int32))).toNatClampNeg < (hX h).1)) (cond (decide (x0 = 0) && !decide ((x4 + (2 : Int32)) < 0) && decide (((x4 + (2 : Int32))).toNatClampNeg < (hX h).1)) (cond (isO h x2 13) (a_back R 283 (234, [.ref x2, .int ((hX h).2 ((x4 + (1 : Int32))).toNatClampNeg), .int ((hX h).2 ((x4 + (2 : Int32))).toNatClampNeg)], h, true, none, 599, [some (.float x0), some (.ref x1), some (.ref x2), some (.ref x3), some (.int x4), l5, l6], [.int s0]) (C 234 [.ref x2, .int ((hX h).2 ((x4 + (1 : Int32))).toNatClampNeg), .int ((hX h).2 ((x4 + (2 : Int32))).toNatClampNeg)] h)) none) none) none) := (tr (r283_587 ..) (tr (r283_588 ..) (tr (r283_589 ..) (tr (r283_590 ..) (tr (r283_591 ..) (tr (r283_592 ..) (cgT (tr (r283_593 ..) (tr (r283_594 ..) (tr (r283_595 ..) (tr (r283_596 ..) (tr (r283_597 ..) (cgT (r283_598 ..))))))))))))))
set_option maxRecDepth 16384 in
theorem b283_599 (x0 : UInt32) (x1 : Nat) (x2 : Nat) (x3 : Nat) (x4 : Int32) (l5 : Option Value) (l6 : Option Value) (s0 : Int32) (s1 : Int32) (h : A_H) : R 283 599 [some (.float x0), some (.ref x1), some (.ref x2), some (.ref x3), some (.int x4), l5, l6] [.int s1, .int s0] h = (cond (decide (s0 = s1)) (R 283 1248 [some (.float x0), some (.ref x1), some (.ref x2), some (.ref x3), some (.int x4), l5, l6] [] h) (cond (decide ((0 : Int32) = 0) || decide ((0 : Int32) = 1)) (some (some (some (.int (0 : Int32))), h)) none)) := (tr (r283_599 ..) (cgB rfl (tr (r283_600 ..) (r283_601 ..))))
set_option maxRecDepth 16384 in
theorem b283_602 (x0 : UInt32) (x1 : Nat) (x2 : Nat) (x3 : Nat) (x4 : Int32) (l5 : Option Value) (l6 : Option Value) (h : A_H) : R 283 602 [some (.float x0), some (.ref x1), some (.ref x2), some (.ref x3), some (.int x4), l5, l6] [] h = (cond (decide (x0 = 0) && !decide ((x4 + (1 : Int32)) < 0) && decide (((x4 + (1 : Int32))).toNatClampNeg < (hX h).1)) (cond (decide (x0 = 0) && !decide ((x4 + (2 : Int32)) < 0) && decide (((x4 + (2 : Int32))).toNatClampNeg < (hX h).1)) (cond (decide (x0 = 0) && !decide ((x4 + (3 : Int32)) < 0) && decide (((x4 + (3 : Int32))).toNatClampNeg < (hX h).1)) (cond (isO h x1 11) (a_back R 283 (98, [.ref x1, .int ((hX h).2 ((x4 + (1 : Int32))).toNatClampNeg), .int ((hX h).2 ((x4 + (2 : Int32))).toNatClampNeg), .int ((hX h).2 ((x4 + (3 : Int32))).toNatClampNeg)], h, true, none, 619, [some (.float x0), some (.ref x1), some (.ref x2), some (.ref x3), some (.int x4), l5, l6], []) (C 98 [.ref x1, .int ((hX h).2 ((x4 + (1 : Int32))).toNatClampNeg), .int ((hX h).2 ((x4 + (2 : Int32))).toNatClampNeg), .int ((hX h).2 ((x4 + (3 : Int32))).toNatClampNeg)] h)) none) none) none) none) := (tr (r283_602 ..) (tr (r283_603 ..) (tr (r283_604 ..) (tr (r283_605 ..) (tr (r283_606 ..) (tr (r283_607 ..) (cgT (tr (r283_608 ..) (tr (r283_609 ..) (tr (r283_610 ..) (tr (r283_611 ..) (tr (r283_612 ..) (cgT (tr (r283_613 ..) (tr (r283_614 ..) (tr (r283_615 ..) (tr (r283_616 ..) (tr (r283_617 ..) (cgT (r283_618 ..))))))))))))))))))))
set_option maxRecDepth 16384 in
theorem b283_619 (x0 : UInt32) (x1 : Nat) (x2 : Nat) (x3 : Nat) (x4 : Int32) (l5 : Option Value) (l6 : Option Value) (s0 : Int32) (h : A_H) : R 283 619 [some (.float x0), some (.ref x1), some (.ref x2), some (.ref x3), some (.int x4), l5, l6] [.int s0] h = (cond (decide (x0 = 0) && !decide ((x4 + (1 : Int32)) < 0) && decide (((x4 + (1 : Int32))).toNatClampNeg < (hX h).1)) (cond (decide (x0 = 0) && !decide ((x4 + (2 : Int32)) < 0) && decide (((x4 + (2 : Int32))).toNatClampNeg < (hX h).1)) (cond (decide (x0 = 0) && !decide ((x4 + (3 : Int32)) < 0) && decide (((x4 + (3 : Int32))).toNatClampNeg < (hX h).1)) (cond (isO h x2 13) (a_back R 283 (237, [.ref x2, .int ((hX h).2 ((x4 + (1 : Int32))).toNatClampNeg), .int ((hX h).2 ((x4 + (2 : Int32))).toNatClampNeg), .int ((hX h).2 ((x4 + (3 : Int32))).toNatClampNeg)], h, true, none, 636, [some (.float x0), some (.ref x1), some (.ref x2), some (.ref x3), some (.int x4), l5, l6], [.int s0]) (C 237 [.ref x2, .int ((hX h).2 ((x4 + (1 : Int32))).toNatClampNeg), .int ((hX h).2 ((x4 + (2 : Int32))).toNatClampNeg), .int ((hX h).2 ((x4 + (3 : Int32))).toNatClampNeg)] h)) none) none) none) none) := (tr (r283_619 ..) (tr (r283_620 ..) (tr (r283_621 ..) (tr (r283_622 ..) (tr (r283_623 ..) (tr (r283_624 ..) (cgT (tr (r283_625 ..) (tr (r283_626 ..) (tr (r283_627 ..) (tr (r283_628 ..) (tr (r283_629 ..) (cgT (tr (r283_630 ..) (tr (r283_631 ..) (tr (r283_632 ..) (tr (r283_633 ..) (tr (r283_634 ..) (cgT (r283_635 ..))))))))))))))))))))
set_option maxRecDepth 16384 in
theorem b283_636 (x0 : UInt32) (x1 : Nat) (x2 : Nat) (x3 : Nat) (x4 : Int32) (l5 : Option Value) (l6 : Option Value) (s0 : Int32) (s1 : Int32) (h : A_H) : R 283 636 [some (.float x0), some (.ref x1), some (.ref x2), some (.ref x3), some (.int x4), l5, l6] [.int s1, .int s0] h = (cond (decide (s0 = s1)) (R 283 1248 [some (.float x0), some (.ref x1), some (.ref x2), some (.ref x3), some (.int x4), l5, l6] [] h) (cond (decide ((0 : Int32) = 0) || decide ((0 : Int32) = 1)) (some (some (some (.int (0 : Int32))), h)) none)) := (tr (r283_636 ..) (cgB rfl (tr (r283_637 ..) (r283_638 ..))))
set_option maxRecDepth 16384 in
theorem b283_639 (x0 : UInt32) (x1 : Nat) (x2 : Nat) (x3 : Nat) (x4 : Int32) (l5 : Option Value) (l6 : Option Value) (h : A_H) : R 283 639 [some (.float x0), some (.ref x1), some (.ref x2), some (.ref x3), some (.int x4), l5, l6] [] h = (cond (decide (x0 = 0) && !decide ((x4 + (1 : Int32)) < 0) && decide (((x4 + (1 : Int32))).toNatClampNeg < (hX h).1)) (cond (decide (x0 = 0) && !decide ((x4 + (2 : Int32)) < 0) && decide (((x4 + (2 : Int32))).toNatClampNeg < (hX h).1)) (cond (decide (x0 = 0) && !decide ((x4 + (3 : Int32)) < 0) && decide (((x4 + (3 : Int32))).toNatClampNeg < (hX h).1)) (cond (isO h x1 11) (a_back R 283 (99, [.ref x1, .int ((hX h).2 ((x4 + (1 : Int32))).toNatClampNeg), .int ((hX h).2 ((x4 + (2 : Int32))).toNatClampNeg), .int ((hX h).2 ((x4 + (3 : Int32))).toNatClampNeg)], h, true, none, 656, [some (.float x0), some (.ref x1), some (.ref x2), some (.ref x3), some (.int x4), l5, l6], []) (C 99 [.ref x1, .int ((hX h).2 ((x4 + (1 : Int32))).toNatClampNeg), .int ((hX h).2 ((x4 + (2 : Int32))).toNatClampNeg), .int ((hX h).2 ((x4 + (3 : Int32))).toNatClampNeg)] h)) none) none) none) none) := (tr (r283_639 ..) (tr (r283_640 ..) (tr (r283_641 ..) (tr (r283_642 ..) (tr (r283_643 ..) (tr (r283_644 ..) (cgT (tr (r283_645 ..) (tr (r283_646 ..) (tr (r283_647 ..) (tr (r283_648 ..) (tr (r283_649 ..) (cgT (tr (r283_650 ..) (tr (r283_651 ..) (tr (r283_652 ..) (tr (r283_653 ..) (tr (r283_654 ..) (cgT (r283_655 ..))))))))))))))))))))
set_option maxRecDepth 16384 in
theorem b283_656 (x0 : UInt32) (x1 : Nat) (x2 : Nat) (x3 : Nat) (x4 : Int32) (l5 : Option Value) (l6 : Option Value) (s0 : Int32) (h : A_H) : R 283 656 [some (.float x0), some (.ref x1), some (.ref x2), some (.ref x3), some (.int x4), l5, l6] [.int s0] h = (cond (decide (x0 = 0) && !decide ((x4 + (1 : Int32)) < 0) && decide (((x4 + (1 : Int32))).toNatClampNeg < (hX h).1)) (cond (decide (x0 = 0) && !decide ((x4 + (2 : Int32)) < 0) && decide (((x4 + (2 : Int32))).toNatClampNeg < (hX h).1)) (cond (decide (x0 = 0) && !decide ((x4 + (3 : Int32)) < 0) && decide (((x4 + (3 : Int32))).toNatClampNeg < (hX h).1)) (cond (isO h x2 13) (a_back R 283 (238, [.ref x2, .int ((hX h).2 ((x4 + (1 : Int32))).toNatClampNeg), .int ((hX h).2 ((x4 + (2 : Int32))).toNatClampNeg), .int ((hX h).2 ((x4 + (3 : Int32))).toNatClampNeg)], h, true, none, 673, [some (.float x0), some (.ref x1), some (.ref x2), some (.ref x3), some (.int x4), l5, l6], [.int s0]) (C 238 [.ref x2, .int ((hX h).2 ((x4 + (1 : Int32))).toNatClampNeg), .int ((hX h).2 ((x4 + (2 : Int32))).toNatClampNeg), .int ((hX h).2 ((x4 + (3 : Int32))).toNatClampNeg)] h)) none) none) none) none) := (tr (r283_656 ..) (tr (r283_657 ..) (tr (r283_658 ..) (tr (r283_659 ..) (tr (r283_660 ..) (tr (r283_661 ..) (cgT (tr (r283_662 ..) (tr (r283_663 ..) (tr (r283_664 ..) (tr (r283_665 ..) (tr (r283_666 ..) (cgT (tr (r283_667 ..) (tr (r283_668 ..) (tr (r283_669 ..) (tr (r283_670 ..) (tr (r283_671 ..) (cgT (r283_672 ..))))))))))))))))))))
set_option maxRecDepth 16384 in
theorem b283_673 (x0 : UInt32) (x1 : Nat) (x2 : Nat) (x3 : Nat) (x4 : Int32) (l5 : Option Value) (l6 : Option Value) (s0 : Int32) (s1 : Int32) (h : A_H) : R 283 673 [some (.float x0), some (.ref x1), some (.ref x2), some (.ref x3), some (.int x4), l5, l6] [.int s1, .int s0] h = (cond (decide (s0 = s1)) (R 283 1248 [some (.float x0), some (.ref x1), some (.ref x2), some (.ref x3), some (.int x4), l5, l6] [] h) (cond (decide ((0 : Int32) = 0) || decide ((0 : Int32) = 1)) (some (some (some (.int (0 : Int32))), h)) none)) := (tr (r283_673 ..) (cgB rfl (tr (r283_674 ..) (r283_675 ..))))
set_option maxRecDepth 16384 in
theorem b283_676 (x0 : UInt32) (x1 : Nat) (x2 : Nat) (x3 : Nat) (x4 : Int32) (l5 : Option Value) (l6 : Option Value) (h : A_H) : R 283 676 [some (.float x0), some (.ref x1), some (.ref x2), some (.ref x3), some (.int x4), l5, l6] [] h = (cond (decide (x0 = 0) && !decide ((x4 + (1 : Int32)) < 0) && decide (((x4 + (1 : Int32))).toNatClampNeg < (hX h).1)) (cond (decide (x0 = 0) && !decide ((x4 + (2 : Int32)) < 0) && decide (((x4 + (2 : Int32))).toNatClampNeg < (hX h).1)) (cond (decide (x0 = 0) && !decide ((x4 + (3 : Int32)) < 0) && decide (((x4 + (3 : Int32))).toNatClampNeg < (hX h).1)) (cond (isO h x1 11) (a_back R 283 (102, [.ref x1, .int ((hX h).2 ((x4 + (1 : Int32))).toNatClampNeg), .int ((hX h).2 ((x4 + (2 : Int32))).toNatClampNeg), .int ((hX h).2 ((x4 + (3 : Int32))).toNatClampNeg)], h, true, none, 693, [some (.float x0), some (.ref x1), some (.ref x2), some (.ref x3), some (.int x4), l5, l6], []) (C 102 [.ref x1, .int ((hX h).2 ((x4 + (1 : Int32))).toNatClampNeg), .int ((hX h).2 ((x4 + (2 : Int32))).toNatClampNeg), .int ((hX h).2 ((x4 + (3 : Int32))).toNatClampNeg)] h)) none) none) none) none) := (tr (r283_676 ..) (tr (r283_677 ..) (tr (r283_678 ..) (tr (r283_679 ..) (tr (r283_680 ..) (tr (r283_681 ..) (cgT (tr (r283_682 ..) (tr (r283_683 ..) (tr (r283_684 ..) (tr (r283_685 ..) (tr (r283_686 ..) (cgT (tr (r283_687 ..) (tr (r283_688 ..) (tr (r283_689 ..) (tr (r283_690 ..) (tr (r283_691 ..) (cgT (r283_692 ..))))))))))))))))))))
set_option maxRecDepth 16384 in
theorem b283_693 (x0 : UInt32) (x1 : Nat) (x2 : Nat) (x3 : Nat) (x4 : Int32) (l5 : Option Value) (l6 : Option Value) (s0 : Int32) (h : A_H) : R 283 693 [some (.float x0), some (.ref x1), some (.ref x2), some (.ref x3), some (.int x4), l5, l6] [.int s0] h = (cond (decide (x0 = 0) && !decide ((x4 + (1 : Int32)) < 0) && decide (((x4 + (1 : Int32))).toNatClampNeg < (hX h).1)) (cond (decide (x0 = 0) && !decide ((x4 + (2 : Int32)) < 0) && decide (((x4 + (2 : Int32))).toNatClampNeg < (hX h).1)) (cond (decide (x0 = 0) && !decide ((x4 + (3 : Int32)) < 0) && decide (((x4 + (3 : Int32))).toNatClampNeg < (hX h).1)) (cond (isO h x2 13) (a_back R 283 (240, [.ref x2, .int ((hX h).2 ((x4 + (1 : Int32))).toNatClampNeg), .int ((hX h).2 ((x4 + (2 : Int32))).toNatClampNeg), .int ((hX h).2 ((x4 + (3 : Int32))).toNatClampNeg)], h, true, none, 710, [some (.float x0), some (.ref x1), some (.ref x2), some (.ref x3), some (.int x4), l5, l6], [.int s0]) (C 240 [.ref x2, .int ((hX h).2 ((x4 + (1 : Int32))).toNatClampNeg), .int ((hX h).2 ((x4 + (2 : Int32))).toNatClampNeg), .int ((hX h).2 ((x4 + (3 : Int32))).toNatClampNeg)] h)) none) none) none) none) := (tr (r283_693 ..) (tr (r283_694 ..) (tr (r283_695 ..) (tr (r283_696 ..) (tr (r283_697 ..) (tr (r283_698 ..) (cgT (tr (r283_699 ..) (tr (r283_700 ..) (tr (r283_701 ..) (tr (r283_702 ..) (tr (r283_703 ..) (cgT (tr (r283_704 ..) (tr (r283_705 ..) (tr (r283_706 ..) (tr (r283_707 ..) (tr (r283_708 ..) (cgT (r283_709 ..))))))))))))))))))))
set_option maxRecDepth 16384 in
theorem b283_710 (x0 : UInt32) (x1 : Nat) (x2 : Nat) (x3 : Nat) (x4 : Int32) (l5 : Option Value) (l6 : Option Value) (s0 : Int32) (s1 : Int32) (h : A_H) : R 283 710 [some (.float x0), some (.ref x1), some (.ref x2), some (.ref x3), some (.int x4), l5, l6] [.int s1, .int s0] h = (cond (decide (s0 = s1)) (R 283 1248 [some (.float x0), some (.ref x1), some (.ref x2), some (.ref x3), some (.int x4), l5, l6] [] h) (cond (decide ((0 : Int32) = 0) || decide ((0 : Int32) = 1)) (some (some (some (.int (0 : Int32))), h)) none)) := (tr (r283_710 ..) (cgB rfl (tr (r283_711 ..) (r283_712 ..))))
set_option maxRecDepth 16384 in
theorem b283_713 (x0 : UInt32) (x1 : Nat) (x2 : Nat) (x3 : Nat) (x4 : Int32) (l5 : Option Value) (l6 : Option Value) (h : A_H) : R 283 713 [some (.float x0), some (.ref x1), some (.ref x2), some (.ref x3), some (.int x4), l5, l6] [] h = (cond (decide (x0 = 0) && !decide ((x4 + (1 : Int32)) < 0) && decide (((x4 + (1 : Int32))).toNatClampNeg < (hX h).1)) (cond (decide (x0 = 0) && !decide ((x4 + (2 : Int32)) < 0) && decide (((x4 + (2 : Int32))).toNatClampNeg < (hX h).1)) (cond (decide (x0 = 0) && !decide ((x4 + (3 : Int32)) < 0) && decide (((x4 + (3 : Int32))).toNatClampNeg < (hX h).1)) (cond (isO h x1 11) (a_back R 283 (103, [.ref x1, .int ((hX h).2 ((x4 + (1 : Int32))).toNatClampNeg), .int ((hX h).2 ((x4 + (2 : Int32))).toNatClampNeg), .int ((hX h).2 ((x4 + (3 : Int32))).toNatClampNeg)], h, true, none, 730, [some (.float x0), some (.ref x1), some (.ref x2), some (.ref x3), some (.int x4), l5, l6], []) (C 103 [.ref x1, .int ((hX h).2 ((x4 + (1 : Int32))).toNatClampNeg), .int ((hX h).2 ((x4 + (2 : Int32))).toNatClampNeg), .int ((hX h).2 ((x4 + (3 : Int32))).toNatClampNeg)] h)) none) none) none) none) := (tr (r283_713 ..) (tr (r283_714 ..) (tr (r283_715 ..) (tr (r283_716 ..) (tr (r283_717 ..) (tr (r283_718 ..) (cgT (tr (r283_719 ..) (tr (r283_720 ..) (tr (r283_721 ..) (tr (r283_722 ..) (tr (r283_723 ..) (cgT (tr (r283_724 ..) (tr (r283_725 ..) (tr (r283_726 ..) (tr (r283_727 ..) (tr (r283_728 ..) (cgT (r283_729 ..))))))))))))))))))))
set_option maxRecDepth 16384 in
theorem b283_730 (x0 : UInt32) (x1 : Nat) (x2 : Nat) (x3 : Nat) (x4 : Int32) (l5 : Option Value) (l6 : Option Value) (s0 : Int32) (h : A_H) : R 283 730 [some (.float x0), some (.ref x1), some (.ref x2), some (.ref x3), some (.int x4), l5, l6] [.int s0] h = (cond (decide (x0 = 0) && !decide ((x4 + (1 : Int32)) < 0) && decide (((x4 + (1 : Int32))).toNatClampNeg < (hX h).1)) (cond (decide (x0 = 0) && !decide ((x4 + (2 : Int32)) < 0) && decide (((x4 + (2 : Int32))).toNatClampNeg < (hX h).1)) (cond (decide (x0 = 0) && !decide ((x4 + (3 : Int32)) < 0) && decide (((x4 + (3 : Int32))).toNatClampNeg < (hX h).1)) (cond (isO h x2 13) (a_back R 283 (241, [.ref x2, .int ((hX h).2 ((x4 + (1 : Int32))).toNatClampNeg), .int ((hX h).2 ((x4 + (2 : Int32))).toNatClampNeg), .int ((hX h).2 ((x4 + (3 : Int32))).toNatClampNeg)], h, true, none, 747, [some (.float x0), some (.ref x1), some (.ref x2), some (.ref x3), some (.int x4), l5, l6], [.int s0]) (C 241 [.ref x2, .int ((hX h).2 ((x4 + (1 : Int32))).toNatClampNeg), .int ((hX h).2 ((x4 + (2 : Int32))).toNatClampNeg), .int ((hX h).2 ((x4 + (3 : Int32))).toNatClampNeg)] h)) none) none) none) none) := (tr (r283_730 ..) (tr (r283_731 ..) (tr (r283_732 ..) (tr (r283_733 ..) (tr (r283_734 ..) (tr (r283_735 ..) (cgT (tr (r283_736 ..) (tr (r283_737 ..) (tr (r283_738 ..) (tr (r283_739 ..) (tr (r283_740 ..) (cgT (tr (r283_741 ..) (tr (r283_742 ..) (tr (r283_743 ..) (tr (r283_744 ..) (tr (r283_745 ..) (cgT (r283_746 ..))))))))))))))))))))
set_option maxRecDepth 16384 in
theorem b283_747 (x0 : UInt32) (x1 : Nat) (x2 : Nat) (x3 : Nat) (x4 : Int32) (l5 : Option Value) (l6 : Option Value) (s0 : Int32) (s1 : Int32) (h : A_H) : R 283 747 [some (.float x0), some (.ref x1), some (.ref x2), some (.ref x3), some (.int x4), l5, l6] [.int s1, .int s0] h = (cond (decide (s0 = s1)) (R 283 1248 [some (.float x0), some (.ref x1), some (.ref x2), some (.ref x3), some (.int x4), l5, l6] [] h) (cond (decide ((0 : Int32) = 0) || decide ((0 : Int32) = 1)) (some (some (some (.int (0 : Int32))), h)) none)) := (tr (r283_747 ..) (cgB rfl (tr (r283_748 ..) (r283_749 ..))))
set_option maxRecDepth 16384 in
theorem b283_750 (x0 : UInt32) (x1 : Nat) (x2 : Nat) (x3 : Nat) (x4 : Int32) (l5 : Option Value) (l6 : Option Value) (h : A_H) : R 283 750 [some (.float x0), some (.ref x1), some (.ref x2), some (.ref x3), some (.int x4), l5, l6] [] h = (cond (decide (x0 = 0) && !decide ((x4 + (1 : Int32)) < 0) && decide (((x4 + (1 : Int32))).toNatClampNeg < (hX h).1)) (cond (decide (x0 = 0) && !decide ((x4 + (2 : Int32)) < 0) && decide (((x4 + (2 : Int32))).toNatClampNeg < (hX h).1)) (cond (decide (x0 = 0) && !decide ((x4 + (3 : Int32)) < 0) && decide (((x4 + (3 : Int32))).toNatClampNeg < (hX h).1)) (cond (isO h x1 11) (a_back R 283 (105, [.ref x1, .int ((hX h).2 ((x4 + (1 : Int32))).toNatClampNeg), .int ((hX h).2 ((x4 + (2 : Int32))).toNatClampNeg), .int ((hX h).2 ((x4 + (3 : Int32))).toNatClampNeg)], h, true, none, 767, [some (.float x0), some (.ref x1), some (.ref x2), some (.ref x3), some (.int x4), l5, l6], []) (C 105 [.ref x1, .int ((hX h).2 ((x4 + (1 : Int32))).toNatClampNeg), .int ((hX h).2 ((x4 + (2 : Int32))).toNatClampNeg), .int ((hX h).2 ((x4 + (3 : Int32))).toNatClampNeg)] h)) none) none) none) none) := (tr (r283_750 ..) (tr (r283_751 ..) (tr (r283_752 ..) (tr (r283_753 ..) (tr (r283_754 ..) (tr (r283_755 ..) (cgT (tr (r283_756 ..) (tr (r283_757 ..) (tr (r283_758 ..) (tr (r283_759 ..) (tr (r283_760 ..) (cgT (tr (r283_761 ..) (tr (r283_762 ..) (tr (r283_763 ..) (tr (r283_764 ..) (tr (r283_765 ..) (cgT (r283_766 ..))))))))))))))))))))
set_option maxRecDepth 16384 in
theorem b283_767 (x0 : UInt32) (x1 : Nat) (x2 : Nat) (x3 : Nat) (x4 : Int32) (l5 : Option Value) (l6 : Option Value) (s0 : Int32) (h : A_H) : R 283 767 [some (.float x0), some (.ref x1), some (.ref x2), some (.ref x3), some (.int x4), l5, l6] [.int s0] h = (cond (decide (x0 = 0) && !decide ((x4 + (1 : Int32)) < 0) && decide (((x4 + (1 : Int32))).toNatClampNeg < (hX h).1)) (cond (decide (x0 = 0) && !decide ((x4 + (2 : Int32)) < 0) && decide (((x4 + (2 : Int32))).toNatClampNeg < (hX h).1)) (cond (decide (x0 = 0) && !decide ((x4 + (3 : Int32)) < 0) && decide (((x4 + (3 : Int32))).toNatClampNeg < (hX h).1)) (cond (isO h x2 13) (a_back R 283 (242, [.ref x2, .int ((hX h).2 ((x4 + (1 : Int32))).toNatClampNeg), .int ((hX h).2 ((x4 + (2 : Int32))).toNatClampNeg), .int ((hX h).2 ((x4 + (3 : Int32))).toNatClampNeg)], h, true, none, 784, [some (.float x0), some (.ref x1), some (.ref x2), some (.ref x3), some (.int x4), l5, l6], [.int s0]) (C 242 [.ref x2, .int ((hX h).2 ((x4 + (1 : Int32))).toNatClampNeg), .int ((hX h).2 ((x4 + (2 : Int32))).toNatClampNeg), .int ((hX h).2 ((x4 + (3 : Int32))).toNatClampNeg)] h)) none) none) none) none) := (tr (r283_767 ..) (tr (r283_768 ..) (tr (r283_769 ..) (tr (r283_770 ..) (tr (r283_771 ..) (tr (r283_772 ..) (cgT (tr (r283_773 ..) (tr (r283_774 ..) (tr (r283_775 ..) (tr (r283_776 ..) (tr (r283_777 ..) (cgT (tr (r283_778 ..) (tr (r283_779 ..) (tr (r283_780 ..) (tr (r283_781 ..) (tr (r283_782 ..) (cgT (r283_783 ..))))))))))))))))))))
set_option maxRecDepth 16384 in
theorem b283_784 (x0 : UInt32) (x1 : Nat) (x2 : Nat) (x3 : Nat) (x4 : Int32) (l5 : Option Value) (l6 : Option Value) (s0 : Int32) (s1 : Int32) (h : A_H) : R 283 784 [some (.float x0), some (.ref x1), some (.ref x2), some (.ref x3), some (.int x4), l5, l6] [.int s1, .int s0] h = (cond (decide (s0 = s1)) (R 283 1248 [some (.float x0), some (.ref x1), some (.ref x2), some (.ref x3), some (.int x4), l5, l6] [] h) (cond (decide ((0 : Int32) = 0) || decide ((0 : Int32) = 1)) (some (some (some (.int (0 : Int32))), h)) none)) := (tr (r283_784 ..) (cgB rfl (tr (r283_785 ..) (r283_786 ..))))
set_option maxRecDepth 16384 in
theorem b283_787 (x0 : UInt32) (x1 : Nat) (x2 : Nat) (x3 : Nat) (x4 : Int32) (l5 : Option Value) (l6 : Option Value) (h : A_H) : R 283 787 [some (.float x0), some (.ref x1), some (.ref x2), some (.ref x3), some (.int x4), l5, l6] [] h = (cond (decide (x0 = 0) && !decide ((x4 + (1 : Int32)) < 0) && decide (((x4 + (1 : Int32))).toNatClampNeg < (hX h).1)) (cond (isO h x1 11) (a_back R 283 (106, [.ref x1, .int ((hX h).2 ((x4 + (1 : Int32))).toNatClampNeg)], h, true, none, 794, [some (.float x0), some (.ref x1), some (.ref x2), some (.ref x3), some (.int x4), l5, l6], []) (C 106 [.ref x1, .int ((hX h).2 ((x4 + (1 : Int32))).toNatClampNeg)] h)) none) none) := (tr (r283_787 ..) (tr (r283_788 ..) (tr (r283_789 ..) (tr (r283_790 ..) (tr (r283_791 ..) (tr (r283_792 ..) (cgT (r283_793 ..))))))))
set_option maxRecDepth 16384 in
theorem b283_794 (x0 : UInt32) (x1 : Nat) (x2 : Nat) (x3 : Nat) (x4 : Int32) (l5 : Option Value) (l6 : Option Value) (s0 : Int32) (h : A_H) : R 283 794 [some (.float x0), some (.ref x1), some (.ref x2), some (.ref x3), some (.int x4), l5, l6] [.int s0] h = (cond (decide (x0 = 0) && !decide ((x4 + (1 : Int32)) < 0) && decide (((x4 + (1 : Int32))).toNatClampNeg < (hX h).1)) (cond (isO h x2 13) (a_back R 283 (244, [.ref x2, .int ((hX h).2 ((x4 + (1 : Int32))).toNatClampNeg)], h, true, none, 801, [some (.float x0), some (.ref x1), some (.ref x2), some (.ref x3), some (.int x4), l5, l6], [.int s0]) (C 244 [.ref x2, .int ((hX h).2 ((x4 + (1 : Int32))).toNatClampNeg)] h)) none) none) := (tr (r283_794 ..) (tr (r283_795 ..) (tr (r283_796 ..) (tr (r283_797 ..) (tr (r283_798 ..) (tr (r283_799 ..) (cgT (r283_800 ..))))))))
set_option maxRecDepth 16384 in
theorem b283_801 (x0 : UInt32) (x1 : Nat) (x2 : Nat) (x3 : Nat) (x4 : Int32) (l5 : Option Value) (l6 : Option Value) (s0 : Int32) (s1 : Int32) (h : A_H) : R 283 801 [some (.float x0), some (.ref x1), some (.ref x2), some (.ref x3), some (.int x4), l5, l6] [.int s1, .int s0] h = (cond (decide (s0 = s1)) (R 283 1248 [some (.float x0), some (.ref x1), some (.ref x2), some (.ref x3), some (.int x4), l5, l6] [] h) (cond (decide ((0 : Int32) = 0) || decide ((0 : Int32) = 1)) (some (some (some (.int (0 : Int32))), h)) none)) := (tr (r283_801 ..) (cgB rfl (tr (r283_802 ..) (r283_803 ..))))
set_option maxRecDepth 16384 in
theorem b283_804 (x0 : UInt32) (x1 : Nat) (x2 : Nat) (x3 : Nat) (x4 : Int32) (l5 : Option Value) (l6 : Option Value) (h : A_H) : R 283 804 [some (.float x0), some (.ref x1), some (.ref x2), some (.ref x3), some (.int x4), l5, l6] [] h = (cond (decide (x0 = 0) && !decide ((x4 + (1 : Int32)) < 0) && decide (((x4 + (1 : Int32))).toNatClampNeg < (hX h).1)) (cond (isO h x1 11) (a_back R 283 (107, [.ref x1, .int ((hX h).2 ((x4 + (1 : Int32))).toNatClampNeg)], h, true, none, 811, [some (.float x0), some (.ref x1), some (.ref x2), some (.ref x3), some (.int x4), l5, l6], []) (C 107 [.ref x1, .int ((hX h).2 ((x4 + (1 : Int32))).toNatClampNeg)] h)) none) none) := (tr (r283_804 ..) (tr (r283_805 ..) (tr (r283_806 ..) (tr (r283_807 ..) (tr (r283_808 ..) (tr (r283_809 ..) (cgT (r283_810 ..))))))))
set_option maxRecDepth 16384 in
theorem b283_811 (x0 : UInt32) (x1 : Nat) (x2 : Nat) (x3 : Nat) (x4 : Int32) (l5 : Option Value) (l6 : Option Value) (s0 : Int32) (h : A_H) : R 283 811 [some (.float x0), some (.ref x1), some (.ref x2), some (.ref x3), some (.int x4), l5, l6] [.int s0] h = (cond (decide (x0 = 0) && !decide ((x4 + (1 : Int32)) < 0) && decide (((x4 + (1 : Int32))).toNatClampNeg < (hX h).1)) (cond (isO h x2 13) (a_back R 283 (245, [.ref x2, .int ((hX h).2 ((x4 + (1 : Int32))).toNatClampNeg)], h, true, none, 818, [some (.float x0), some (.ref x1), some (.ref x2), some (.ref x3), some (.int x4), l5, l6], [.int s0]) (C 245 [.ref x2, .int ((hX h).2 ((x4 + (1 : Int32))).toNatClampNeg)] h)) none) none) := (tr (r283_811 ..) (tr (r283_812 ..) (tr (r283_813 ..) (tr (r283_814 ..) (tr (r283_815 ..) (tr (r283_816 ..) (cgT (r283_817 ..))))))))
set_option maxRecDepth 16384 in
theorem b283_818 (x0 : UInt32) (x1 : Nat) (x2 : Nat) (x3 : Nat) (x4 : Int32) (l5 : Option Value) (l6 : Option Value) (s0 : Int32) (s1 : Int32) (h : A_H) : R 283 818 [some (.float x0), some (.ref x1), some (.ref x2), some (.ref x3), some (.int x4), l5, l6] [.int s1, .int s0] h = (cond (decide (s0 = s1)) (R 283 1248 [some (.float x0), some (.ref x1), some (.ref x2), some (.ref x3), some (.int x4), l5, l6] [] h) (cond (decide ((0 : Int32) = 0) || decide ((0 : Int32) = 1)) (some (some (some (.int (0 : Int32))), h)) none)) := (tr (r283_818 ..) (cgB rfl (tr (r283_819 ..) (r283_820 ..))))
set_option maxRecDepth 16384 in
theorem b283_821 (x0 : UInt32) (x1 : Nat) (x2 : Nat) (x3 : Nat) (x4 : Int32) (l5 : Option Value) (l6 : Option Value) (h : A_H) : R 283 821 [some (.float x0), some (.ref x1), some (.ref x2), some (.ref x3), some (.int x4), l5, l6] [] h = (cond (decide (x0 = 0) && !decide ((x4 + (1 : Int32)) < 0) && decide (((x4 + (1 : Int32))).toNatClampNeg < (hX h).1)) (cond (decide (x0 = 0) && !decide ((x4 + (2 : Int32)) < 0) && decide (((x4 + (2 : Int32))).toNatClampNeg < (hX h).1)) (cond (isO h x1 11) (a_back R 283 (110, [.ref x1, .int ((hX h).2 ((x4 + (1 : Int32))).toNatClampNeg), .int ((hX h).2 ((x4 + (2 : Int32))).toNatClampNeg)], h, true, none, 833, [some (.float x0), some (.ref x1), some (.ref x2), some (.ref x3), some (.int x4), l5, l6], []) (C 110 [.ref x1, .int ((hX h).2 ((x4 + (1 : Int32))).toNatClampNeg), .int ((hX h).2 ((x4 + (2 : Int32))).toNatClampNeg)] h)) none) none) none) := (tr (r283_821 ..) (tr (r283_822 ..) (tr (r283_823 ..) (tr (r283_824 ..) (tr (r283_825 ..) (tr (r283_826 ..) (cgT (tr (r283_827 ..) (tr (r283_828 ..) (tr (r283_829 ..) (tr (r283_830 ..) (tr (r283_831 ..) (cgT (r283_832 ..))))))))))))))
set_option maxRecDepth 16384 in
theorem b283_833 (x0 : UInt32) (x1 : Nat) (x2 : Nat) (x3 : Nat) (x4 : Int32) (l5 : Option Value) (l6 : Option Value) (s0 : Int32) (h : A_H) : R 283 833 [some (.float x0), some (.ref x1), some (.ref x2), some (.ref x3), some (.int x4), l5, l6] [.int s0] h = (cond (decide (x0 = 0) && !decide ((x4 + (1 : Int32)) < 0) && decide (((x4 + (1 : Int32))).toNatClampNeg < (hX h).1)) (cond (decide (x0 = 0) && !decide ((x4 + (2 : Int32)) < 0) && decide (((x4 + (2 : Int32))).toNatClampNeg < (hX h).1)) (cond (isO h x2 13) (a_back R 283 (247, [.ref x2, .int ((hX h).2 ((x4 + (1 : Int32))).toNatClampNeg), .int ((hX h).2 ((x4 + (2 : Int32))).toNatClampNeg)], h, true, none, 845, [some (.float x0), some (.ref x1), some (.ref x2), some (.ref x3), some (.int x4), l5, l6], [.int s0]) (C 247 [.ref x2, .int ((hX h).2 ((x4 + (1 : Int32))).toNatClampNeg), .int ((hX h).2 ((x4 + (2 : Int32))).toNatClampNeg)] h)) none) none) none) := (tr (r283_833 ..) (tr (r283_834 ..) (tr (r283_835 ..) (tr (r283_836 ..) (tr (r283_837 ..) (tr (r283_838 ..) (cgT (tr (r283_839 ..) (tr (r283_840 ..) (tr (r283_841 ..) (tr (r283_842 ..) (tr (r283_843 ..) (cgT (r283_844 ..))))))))))))))
set_option maxRecDepth 16384 in
theorem b283_845 (x0 : UInt32) (x1 : Nat) (x2 : Nat) (x3 : Nat) (x4 : Int32) (l5 : Option Value) (l6 : Option Value) (s0 : Int32) (s1 : Int32) (h : A_H) : R 283 845 [some (.float x0), some (.ref x1), some (.ref x2), some (.ref x3), some (.int x4), l5, l6] [.int s1, .int s0] h = (cond (decide (s0 = s1)) (R 283 1248 [some (.float x0), some (.ref x1), some (.ref x2), some (.ref x3), some (.int x4), l5, l6] [] h) (cond (decide ((0 : Int32) = 0) || decide ((0 : Int32) = 1)) (some (some (some (.int (0 : Int32))), h)) none)) := (tr (r283_845 ..) (cgB rfl (tr (r283_846 ..) (r283_847 ..))))
set_option maxRecDepth 16384 in
theorem b283_848 (x0 : UInt32) (x1 : Nat) (x2 : Nat) (x3 : Nat) (x4 : Int32) (l5 : Option Value) (l6 : Option Value) (h : A_H) : R 283 848 [some (.float x0), some (.ref x1), some (.ref x2), some (.ref x3), some (.int x4), l5, l6] [] h = (cond (isO h x1 11) (a_back R 283 (111, [.ref x1], h, true, none, 850, [some (.float x0), some (.ref x1), some (.ref x2), some (.ref x3), some (.int x4), l5, l6], []) (C 111 [.ref x1] h)) none) := (tr (r283_848 ..) (r283_849 ..))
set_option maxRecDepth 16384 in
theorem b283_850 (x0 : UInt32) (x1 : Nat) (x2 : Nat) (x3 : Nat) (x4 : Int32) (l5 : Option Value) (l6 : Option Value) (s0 : Int32) (h : A_H) : R 283 850 [some (.float x0), some (.ref x1), some (.ref x2), some (.ref x3), some (.int x4), l5, l6] [.int s0] h = (cond (isO h x2 13) (a_back R 283 (248, [.ref x2], h, true, none, 852, [some (.float x0), some (.ref x1), some (.ref x2), some (.ref x3), some (.int x4), l5, l6], [.int s0]) (C 248 [.ref x2] h)) none) := (tr (r283_850 ..) (r283_851 ..))
set_option maxRecDepth 16384 in
theorem b283_852 (x0 : UInt32) (x1 : Nat) (x2 : Nat) (x3 : Nat) (x4 : Int32) (l5 : Option Value) (l6 : Option Value) (s0 : Int32) (s1 : Int32) (h : A_H) : R 283 852 [some (.float x0), some (.ref x1), some (.ref x2), some (.ref x3), some (.int x4), l5, l6] [.int s1, .int s0] h = (cond (decide (s0 = s1)) (R 283 1248 [some (.float x0), some (.ref x1), some (.ref x2), some (.ref x3), some (.int x4), l5, l6] [] h) (cond (decide ((0 : Int32) = 0) || decide ((0 : Int32) = 1)) (some (some (some (.int (0 : Int32))), h)) none)) := (tr (r283_852 ..) (cgB rfl (tr (r283_853 ..) (r283_854 ..))))
set_option maxRecDepth 16384 in
theorem b283_855 (x0 : UInt32) (x1 : Nat) (x2 : Nat) (x3 : Nat) (x4 : Int32) (l5 : Option Value) (l6 : Option Value) (h : A_H) : R 283 855 [some (.float x0), some (.ref x1), some (.ref x2), some (.ref x3), some (.int x4), l5, l6] [] h = (cond (decide (x0 = 0) && !decide ((x4 + (1 : Int32)) < 0) && decide (((x4 + (1 : Int32))).toNatClampNeg < (hX h).1)) (cond (isO h x1 11) (a_back R 283 (112, [.ref x1, .int ((hX h).2 ((x4 + (1 : Int32))).toNatClampNeg)], h, true, none, 862, [some (.float x0), some (.ref x1), some (.ref x2), some (.ref x3), some (.int x4), l5, l6], []) (C 112 [.ref x1, .int ((hX h).2 ((x4 + (1 : Int32))).toNatClampNeg)] h)) none) none) := (tr (r283_855 ..) (tr (r283_856 ..) (tr (r283_857 ..) (tr (r283_858 ..) (tr (r283_859 ..) (tr (r283_860 ..) (cgT (r283_861 ..))))))))
set_option maxRecDepth 16384 in
theorem b283_862 (x0 : UInt32) (x1 : Nat) (x2 : Nat) (x3 : Nat) (x4 : Int32) (l5 : Option Value) (l6 : Option Value) (s0 : Int32) (h : A_H) : R 283 862 [some (.float x0), some (.ref x1), some (.ref x2), some (.ref x3), some (.int x4), l5, l6] [.int s0] h = (cond (decide (x0 = 0) && !decide ((x4 + (1 : Int32)) < 0) && decide (((x4 + (1 : Int32))).toNatClampNeg < (hX h).1)) (cond (isO h x2 13) (a_back R 283 (250, [.ref x2, .int ((hX h).2 ((x4 + (1 : Int32))).toNatClampNeg)], h, true, none, 869, [some (.float x0), some (.ref x1), some (.ref x2), some (.ref x3), some (.int x4), l5, l6], [.int s0]) (C 250 [.ref x2, .int ((hX h).2 ((x4 + (1 : Int32))).toNatClampNeg)] h)) none) none) := (tr (r283_862 ..) (tr (r283_863 ..) (tr (r283_864 ..) (tr (r283_865 ..) (tr (r283_866 ..) (tr (r283_867 ..) (cgT (r283_868 ..))))))))
set_option maxRecDepth 16384 in
theorem b283_869 (x0 : UInt32) (x1 : Nat) (x2 : Nat) (x3 : Nat) (x4 : Int32) (l5 : Option Value) (l6 : Option Value) (s0 : Int32) (s1 : Int32) (h : A_H) : R 283 869 [some (.float x0), some (.ref x1), some (.ref x2), some (.ref x3), some (.int x4), l5, l6] [.int s1, .int s0] h = (cond (decide (s0 = s1)) (R 283 1248 [some (.float x0), some (.ref x1), some (.ref x2), some (.ref x3), some (.int x4), l5, l6] [] h) (cond (decide ((0 : Int32) = 0) || decide ((0 : Int32) = 1)) (some (some (some (.int (0 : Int32))), h)) none)) := (tr (r283_869 ..) (cgB rfl (tr (r283_870 ..) (r283_871 ..))))
set_option maxRecDepth 16384 in
theorem b283_872 (x0 : UInt32) (x1 : Nat) (x2 : Nat) (x3 : Nat) (x4 : Int32) (l5 : Option Value) (l6 : Option Value) (h : A_H) : R 283 872 [some (.float x0), some (.ref x1), some (.ref x2), some (.ref x3), some (.int x4), l5, l6] [] h = (cond (decide (x0 = 0) && !decide ((x4 + (1 : Int32)) < 0) && decide (((x4 + (1 : Int32))).toNatClampNeg < (hX h).1)) (cond (isO h x1 11) (a_back R 283 (114, [.ref x1, .int ((hX h).2 ((x4 + (1 : Int32))).toNatClampNeg)], h, true, none, 879, [some (.float x0), some (.ref x1), some (.ref x2), some (.ref x3), some (.int x4), l5, l6], []) (C 114 [.ref x1, .int ((hX h).2 ((x4 + (1 : Int32))).toNatClampNeg)] h)) none) none) := (tr (r283_872 ..) (tr (r283_873 ..) (tr (r283_874 ..) (tr (r283_875 ..) (tr (r283_876 ..) (tr (r283_877 ..) (cgT (r283_878 ..))))))))
set_option maxRecDepth 16384 in
theorem b283_879 (x0 : UInt32) (x1 : Nat) (x2 : Nat) (x3 : Nat) (x4 : Int32) (l5 : Option Value) (l6 : Option Value) (s0 : Int32) (h : A_H) : R 283 879 [some (.float x0), some (.ref x1), some (.ref x2), some (.ref x3), some (.int x4), l5, l6] [.int s0] h = (cond (decide (x0 = 0) && !decide ((x4 + (1 : Int32)) < 0) && decide (((x4 + (1 : Int32))).toNatClampNeg < (hX h).1)) (cond (isO h x2 13) (a_back R 283 (254, [.ref x2, .int ((hX h).2 ((x4 + (1 : Int32))).toNatClampNeg)], h, true, none, 886, [some (.float x0), some (.ref x1), some (.ref x2), some (.ref x3), some (.int x4), l5, l6], [.int s0]) (C 254 [.ref x2, .int ((hX h).2 ((x4 + (1 : Int32))).toNatClampNeg)] h)) none) none) := (tr (r283_879 ..) (tr (r283_880 ..) (tr (r283_881 ..) (tr (r283_882 ..) (tr (r283_883 ..) (tr (r283_884 ..) (cgT (r283_885 ..))))))))
set_option maxRecDepth 16384 in
theorem b283_886 (x0 : UInt32) (x1 : Nat) (x2 : Nat) (x3 : Nat) (x4 : Int32) (l5 : Option Value) (l6 : Option Value) (s0 : Int32) (s1 : Int32) (h : A_H) : R 283 886 [some (.float x0), some (.ref x1), some (.ref x2), some (.ref x3), some (.int x4), l5, l6] [.int s1, .int s0] h = (cond (decide (s0 = s1)) (R 283 1248 [some (.float x0), some (.ref x1), some (.ref x2), some (.ref x3), some (.int x4), l5, l6] [] h) (cond (decide ((0 : Int32) = 0) || decide ((0 : Int32) = 1)) (some (some (some (.int (0 : Int32))), h)) none)) := (tr (r283_886 ..) (cgB rfl (tr (r283_887 ..) (r283_888 ..))))
set_option maxRecDepth 16384 in
theorem b283_889 (x0 : UInt32) (x1 : Nat) (x2 : Nat) (x3 : Nat) (x4 : Int32) (l5 : Option Value) (l6 : Option Value) (h : A_H) : R 283 889 [some (.float x0), some (.ref x1), some (.ref x2), some (.ref x3), some (.int x4), l5, l6] [] h = (cond (isO h x1 11) (a_back R 283 (115, [.ref x1], h, true, none, 891, [some (.float x0), some (.ref x1), some (.ref x2), some (.ref x3), some (.int x4), l5, l6], []) (C 115 [.ref x1] h)) none) := (tr (r283_889 ..) (r283_890 ..))
set_option maxRecDepth 16384 in
theorem b283_891 (x0 : UInt32) (x1 : Nat) (x2 : Nat) (x3 : Nat) (x4 : Int32) (l5 : Option Value) (l6 : Option Value) (s0 : Int32) (h : A_H) : R 283 891 [some (.float x0), some (.ref x1), some (.ref x2), some (.ref x3), some (.int x4), l5, l6] [.int s0] h = (cond (isO h x2 13) (a_back R 283 (255, [.ref x2], h, true, none, 893, [some (.float x0), some (.ref x1), some (.ref x2), some (.ref x3), some (.int x4), l5, l6], [.int s0]) (C 255 [.ref x2] h)) none) := (tr (r283_891 ..) (r283_892 ..))
set_option maxRecDepth 16384 in
theorem b283_893 (x0 : UInt32) (x1 : Nat) (x2 : Nat) (x3 : Nat) (x4 : Int32) (l5 : Option Value) (l6 : Option Value) (s0 : Int32) (s1 : Int32) (h : A_H) : R 283 893 [some (.float x0), some (.ref x1), some (.ref x2), some (.ref x3), some (.int x4), l5, l6] [.int s1, .int s0] h = (cond (decide (s0 = s1)) (R 283 1248 [some (.float x0), some (.ref x1), some (.ref x2), some (.ref x3), some (.int x4), l5, l6] [] h) (cond (decide ((0 : Int32) = 0) || decide ((0 : Int32) = 1)) (some (some (some (.int (0 : Int32))), h)) none)) := (tr (r283_893 ..) (cgB rfl (tr (r283_894 ..) (r283_895 ..))))
set_option maxRecDepth 16384 in
theorem b283_896 (x0 : UInt32) (x1 : Nat) (x2 : Nat) (x3 : Nat) (x4 : Int32) (l5 : Option Value) (l6 : Option Value) (h : A_H) : R 283 896 [some (.float x0), some (.ref x1), some (.ref x2), some (.ref x3), some (.int x4), l5, l6] [] h = (cond (decide (x0 = 0) && !decide ((x4 + (1 : Int32)) < 0) && decide (((x4 + (1 : Int32))).toNatClampNeg < (hX h).1)) (cond (decide (((hX h).2 ((x4 + (1 : Int32))).toNatClampNeg) = 0)) (cond (isO h x1 11) (a_back R 283 (116, [.ref x1, .int (0 : Int32)], h, true, none, 907, [some (.float x0), some (.ref x1), some (.ref x2), some (.ref x3), some (.int x4), l5, l6], []) (C 116 [.ref x1, .int (0 : Int32)] h)) none) (cond (isO h x1 11) (a_back R 283 (116, [.ref x1, .int (1 : Int32)], h, true, none, 907, [some (.float x0), some (.ref x1), some (.ref x2), some (.ref x3), some (.int x4), l5, l6], []) (C 116 [.ref x1, .int (1 : Int32)] h)) none)) none) := (tr (r283_896 ..) (tr (r283_897 ..) (tr (r283_898 ..) (tr (r283_899 ..) (tr (r283_900 ..) (tr (r283_901 ..) (cgT (tr (r283_902 ..) (cgB (tr (r283_905 ..) (r283_906 ..)) (tr (r283_903 ..) (tr (r283_904 ..) (r283_906 ..))))))))))))
set_option maxRecDepth 16384 in
theorem b283_907 (x0 : UInt32) (x1 : Nat) (x2 : Nat) (x3 : Nat) (x4 : Int32) (l5 : Option Value) (l6 : Option Value) (s0 : Int32) (h : A_H) : R 283 907 [some (.float x0), some (.ref x1), some (.ref x2), some (.ref x3), some (.int x4), l5, l6] [.int s0] h = (cond (decide (x0 = 0) && !decide ((x4 + (1 : Int32)) < 0) && decide (((x4 + (1 : Int32))).toNatClampNeg < (hX h).1)) (cond (decide (((hX h).2 ((x4 + (1 : Int32))).toNatClampNeg) = 0)) (cond (isO h x2 13) (a_back R 283 (256, [.ref x2, .int (0 : Int32)], h, true, none, 918, [some (.float x0), some (.ref x1), some (.ref x2), some (.ref x3), some (.int x4), l5, l6], [.int s0]) (C 256 [.ref x2, .int (0 : Int32)] h)) none) (cond (isO h x2 13) (a_back R 283 (256, [.ref x2, .int (1 : Int32)], h, true, none, 918, [some (.float x0), some (.ref x1), some (.ref x2), some (.ref x3), some (.int x4), l5, l6], [.int s0]) (C 256 [.ref x2, .int (1 : Int32)] h)) none)) none) := (tr (r283_907 ..) (tr (r283_908 ..) (tr (r283_909 ..) (tr (r283_910 ..) (tr (r283_911 ..) (tr (r283_912 ..) (cgT (tr (r283_913 ..) (cgB (tr (r283_916 ..) (r283_917 ..)) (tr (r283_914 ..) (tr (r283_915 ..) (r283_917 ..))))))))))))
set_option maxRecDepth 16384 in
theorem b283_918 (x0 : UInt32) (x1 : Nat) (x2 : Nat) (x3 : Nat) (x4 : Int32) (l5 : Option Value) (l6 : Option Value) (s0 : Int32) (s1 : Int32) (h : A_H) : R 283 918 [some (.float x0), some (.ref x1), some (.ref x2), some (.ref x3), some (.int x4), l5, l6] [.int s1, .int s0] h = (cond (decide (s0 = s1)) (R 283 1248 [some (.float x0), some (.ref x1), some (.ref x2), some (.ref x3), some (.int x4), l5, l6] [] h) (cond (decide ((0 : Int32) = 0) || decide ((0 : Int32) = 1)) (some (some (some (.int (0 : Int32))), h)) none)) := (tr (r283_918 ..) (cgB rfl (tr (r283_919 ..) (r283_920 ..))))
set_option maxRecDepth 16384 in
theorem b283_921 (x0 : UInt32) (x1 : Nat) (x2 : Nat) (x3 : Nat) (x4 : Int32) (l5 : Option Value) (l6 : Option Value) (h : A_H) : R 283 921 [some (.float x0), some (.ref x1), some (.ref x2), some (.ref x3), some (.int x4), l5, l6] [] h = (cond (isO h x1 11) (a_back R 283 (117, [.ref x1], h, true, none, 923, [some (.float x0), some (.ref x1), some (.ref x2), some (.ref x3), some (.int x4), l5, l6], []) (C 117 [.ref x1] h)) none) := (tr (r283_921 ..) (r283_922 ..))
set_option maxRecDepth 16384 in
theorem b283_923 (x0 : UInt32) (x1 : Nat) (x2 : Nat) (x3 : Nat) (x4 : Int32) (l5 : Option Value) (l6 : Option Value) (s0 : Int32) (h : A_H) : R 283 923 [some (.float x0), some (.ref x1), some (.ref x2), some (.ref x3), some (.int x4), l5, l6] [.int s0] h = (cond (isO h x2 13) (a_back R 283 (260, [.ref x2], h, true, none, 925, [some (.float x0), some (.ref x1), some (.ref x2), some (.ref x3), some (.int x4), l5, l6], [.int s0]) (C 260 [.ref x2] h)) none) := (tr (r283_923 ..) (r283_924 ..))
set_option maxRecDepth 16384 in
theorem b283_925 (x0 : UInt32) (x1 : Nat) (x2 : Nat) (x3 : Nat) (x4 : Int32) (l5 : Option Value) (l6 : Option Value) (s0 : Int32) (s1 : Int32) (h : A_H) : R 283 925 [some (.float x0), some (.ref x1), some (.ref x2), some (.ref x3), some (.int x4), l5, l6] [.int s1, .int s0] h = (cond (decide (s0 = s1)) (R 283 1248 [some (.float x0), some (.ref x1), some (.ref x2), some (.ref x3), some (.int x4), l5, l6] [] h) (cond (decide ((0 : Int32) = 0) || decide ((0 : Int32) = 1)) (some (some (some (.int (0 : Int32))), h)) none)) := (tr (r283_925 ..) (cgB rfl (tr (r283_926 ..) (r283_927 ..))))
set_option maxRecDepth 16384 in
theorem b283_928 (x0 : UInt32) (x1 : Nat) (x2 : Nat) (x3 : Nat) (x4 : Int32) (l5 : Option Value) (l6 : Option Value) (h : A_H) : R 283 928 [some (.float x0), some (.ref x1), some (.ref x2), some (.ref x3), some (.int x4), l5, l6] [] h = (cond (decide (x0 = 0) && !decide ((x4 + (1 : Int32)) < 0) && decide (((x4 + (1 : Int32))).toNatClampNeg < (hX h).1)) (cond (isO h x1 11) (a_back R 283 (118, [.ref x1, .int ((hX h).2 ((x4 + (1 : Int32))).toNatClampNeg)], h, true, none, 935, [some (.float x0), some (.ref x1), some (.ref x2), some (.ref x3), some (.int x4), l5, l6], []) (C 118 [.ref x1, .int ((hX h).2 ((x4 + (1 : Int32))).toNatClampNeg)] h)) none) none) := (tr (r283_928 ..) (tr (r283_929 ..) (tr (r283_930 ..) (tr (r283_931 ..) (tr (r283_932 ..) (tr (r283_933 ..) (cgT (r283_934 ..))))))))
set_option maxRecDepth 16384 in
theorem b283_935 (x0 : UInt32) (x1 : Nat) (x2 : Nat) (x3 : Nat) (x4 : Int32) (l5 : Option Value) (l6 : Option Value) (s0 : Int32) (h : A_H) : R 283 935 [some (.float x0), some (.ref x1), some (.ref x2), some (.ref x3), some (.int x4), l5, l6] [.int s0] h = (cond (decide (x0 = 0) && !decide ((x4 + (1 : Int32)) < 0) && decide (((x4 + (1 : Int32))).toNatClampNeg < (hX h).1)) (cond (isO h x2 13) (a_back R 283 (262, [.ref x2, .int ((hX h).2 ((x4 + (1 : Int32))).toNatClampNeg)], h, true, none, 942, [some (.float x0), some (.ref x1), some (.ref x2), some (.ref x3), some (.int x4), l5, l6], [.int s0]) (C 262 [.ref x2, .int ((hX h).2 ((x4 + (1 : Int32))).toNatClampNeg)] h)) none) none) := (tr (r283_935 ..) (tr (r283_936 ..) (tr (r283_937 ..) (tr (r283_938 ..) (tr (r283_939 ..) (tr (r283_940 ..) (cgT (r283_941 ..))))))))
set_option maxRecDepth 16384 in
theorem b283_942 (x0 : UInt32) (x1 : Nat) (x2 : Nat) (x3 : Nat) (x4 : Int32) (l5 : Option Value) (l6 : Option Value) (s0 : Int32) (s1 : Int32) (h : A_H) : R 283 942 [some (.float x0), some (.ref x1), some (.ref x2), some (.ref x3), some (.int x4), l5, l6] [.int s1, .int s0] h = (cond (decide (s0 = s1)) (R 283 1248 [some (.float x0), some (.ref x1), some (.ref x2), some (.ref x3), some (.int x4), l5, l6] [] h) (cond (decide ((0 : Int32) = 0) || decide ((0 : Int32) = 1)) (some (some (some (.int (0 : Int32))), h)) none)) := (tr (r283_942 ..) (cgB rfl (tr (r283_943 ..) (r283_944 ..))))
set_option maxRecDepth 16384 in
theorem b283_945 (x0 : UInt32) (x1 : Nat) (x2 : Nat) (x3 : Nat) (x4 : Int32) (l5 : Option Value) (l6 : Option Value) (h : A_H) : R 283 945 [some (.float x0), some (.ref x1), some (.ref x2), some (.ref x3), some (.int x4), l5, l6] [] h = (cond (decide (x0 = 0) && !decide ((x4 + (1 : Int32)) < 0) && decide (((x4 + (1 : Int32))).toNatClampNeg < (hX h).1)) (cond (isO h x1 11) (a_back R 283 (119, [.ref x1, .int ((hX h).2 ((x4 + (1 : Int32))).toNatClampNeg)], h, true, none, 952, [some (.float x0), some (.ref x1), some (.ref x2), some (.ref x3), some (.int x4), l5, l6], []) (C 119 [.ref x1, .int ((hX h).2 ((x4 + (1 : Int32))).toNatClampNeg)] h)) none) none) := (tr (r283_945 ..) (tr (r283_946 ..) (tr (r283_947 ..) (tr (r283_948 ..) (tr (r283_949 ..) (tr (r283_950 ..) (cgT (r283_951 ..))))))))
set_option maxRecDepth 16384 in
theorem b283_952 (x0 : UInt32) (x1 : Nat) (x2 : Nat) (x3 : Nat) (x4 : Int32) (l5 : Option Value) (l6 : Option Value) (s0 : Int32) (h : A_H) : R 283 952 [some (.float x0), some (.ref x1), some (.ref x2), some (.ref x3), some (.int x4), l5, l6] [.int s0] h = (cond (decide (x0 = 0) && !decide ((x4 + (1 : Int32)) < 0) && decide (((x4 + (1 : Int32))).toNatClampNeg < (hX h).1)) (cond (isO h x2 13) (a_back R 283 (263, [.ref x2, .int ((hX h).2 ((x4 + (1 : Int32))).toNatClampNeg)], h, true, none, 959, [some (.float x0), some (.ref x1), some (.ref x2), some (.ref x3), some (.int x4), l5, l6], [.int s0]) (C 263 [.ref x2, .int ((hX h).2 ((x4 + (1 : Int32))).toNatClampNeg)] h)) none) none) := (tr (r283_952 ..) (tr (r283_953 ..) (tr (r283_954 ..) (tr (r283_955 ..) (tr (r283_956 ..) (tr (r283_957 ..) (cgT (r283_958 ..))))))))
set_option maxRecDepth 16384 in
theorem b283_959 (x0 : UInt32) (x1 : Nat) (x2 : Nat) (x3 : Nat) (x4 : Int32) (l5 : Option Value) (l6 : Option Value) (s0 : Int32) (s1 : Int32) (h : A_H) : R 283 959 [some (.float x0), some (.ref x1), some (.ref x2), some (.ref x3), some (.int x4), l5, l6] [.int s1, .int s0] h = (cond (decide (s0 = s1)) (R 283 1248 [some (.float x0), some (.ref x1), some (.ref x2), some (.ref x3), some (.int x4), l5, l6] [] h) (cond (decide ((0 : Int32) = 0) || decide ((0 : Int32) = 1)) (some (some (some (.int (0 : Int32))), h)) none)) := (tr (r283_959 ..) (cgB rfl (tr (r283_960 ..) (r283_961 ..))))
set_option maxRecDepth 16384 in
theorem b283_962 (x0 : UInt32) (x1 : Nat) (x2 : Nat) (x3 : Nat) (x4 : Int32) (l5 : Option Value) (l6 : Option Value) (h : A_H) : R 283 962 [some (.float x0), some (.ref x1), some (.ref x2), some (.ref x3), some (.int x4), l5, l6] [] h = (cond (decide (x0 = 0) && !decide ((x4 + (1 : Int32)) < 0) && decide (((x4 + (1 : Int32))).toNatClampNeg < (hX h).1)) (cond (decide (x0 = 0) && !decide ((x4 + (2 : Int32)) < 0) && decide (((x4 + (2 : Int32))).toNatClampNeg < (hX h).1)) (cond (decide (x0 = 0) && !decide ((x4 + (3 : Int32)) < 0) && decide (((x4 + (3 : Int32))).toNatClampNeg < (hX h).1)) (cond (decide (((hX h).2 ((x4 + (3 : Int32))).toNatClampNeg) = 0)) (cond (isO h x1 11) (a_back R 283 (120, [.ref x1, .int ((hX h).2 ((x4 + (1 : Int32))).toNatClampNeg), .int ((hX h).2 ((x4 + (2 : Int32))).toNatClampNeg), .int (0 : Int32)], h, true, none, 983, [some (.float x0), some (.ref x1), some (.ref x2), some (.ref x3), some (.int x4), l5, l6], []) (C 120 [.ref x1, .int ((hX h).2 ((x4 + (1 : Int32))).toNatClampNeg), .int ((hX h).2 ((x4 + (2 : Int32))).toNatClampNeg), .int (0 : Int32)] h)) none) (cond (isO h x1 11) (a_back R 283 (120, [.ref x1, .int ((hX h).2 ((x4 + (1 : Int32))).toNatClampNeg), .int ((hX h).2 ((x4 + (2 : Int32))).toNatClampNeg), .int (1 : Int32)], h, true, none, 983, [some (.float x0), some (.ref x1), some (.ref x2), some (.ref x3), some (.int x4), l5, l6], []) (C 120 [.ref x1, .int ((hX h).2 ((x4 + (1 : Int32))).toNatClampNeg), .int ((hX h).2 ((x4 + (2 : Int32))).toNatClampNeg), .int (1 : Int32)] h)) none)) none) none) none) := (tr (r283_962 ..) (tr (r283_963 ..) (tr (r283_964 ..) (tr (r283_965 ..) (tr (r283_966 ..) (tr (r283_967 ..) (cgT (tr (r283_968 ..) (tr (r283_969 ..) (tr (r283_970 ..) (tr (r283_971 ..) (tr (r283_972 ..) (cgT (tr (r283_973 ..) (tr (r283_974 ..) (tr (r283_975 ..) (tr (r283_976 ..) (tr (r283_977 ..) (cgT (tr (r283_978 ..) (cgB (tr (r283_981 ..) (r283_982 ..)) (tr (r283_979 ..) (tr (r283_980 ..) (r283_982 ..))))))))))))))))))))))))
set_option maxRecDepth 16384 in
theorem b283_983 (x0 : UInt32) (x1 : Nat) (x2 : Nat) (x3 : Nat) (x4 : Int32) (l5 : Option Value) (l6 : Option Value) (s0 : Int64) (h : A_H) : R 283 983 [some (.float x0), some (.ref x1), some (.ref x2), some (.ref x3), some (.int x4), l5, l6] [.long s0] h = (cond (decide (x0 = 0) && !decide ((x4 + (1 : Int32)) < 0) && decide (((x4 + (1 : Int32))).toNatClampNeg < (hX h).1)) (cond (decide (x0 = 0) && !decide ((x4 + (2 : Int32)) < 0) && decide (((x4 + (2 : Int32))).toNatClampNeg < (hX h).1)) (cond (decide (x0 = 0) && !decide ((x4 + (3 : Int32)) < 0) && decide (((x4 + (3 : Int32))).toNatClampNeg < (hX h).1)) (cond (decide (((hX h).2 ((x4 + (3 : Int32))).toNatClampNeg) = 0)) (cond (isO h x2 13) (a_back R 283 (264, [.ref x2, .int ((hX h).2 ((x4 + (1 : Int32))).toNatClampNeg), .int ((hX h).2 ((x4 + (2 : Int32))).toNatClampNeg), .int (0 : Int32)], h, true, none, 1004, [some (.float x0), some (.ref x1), some (.ref x2), some (.ref x3), some (.int x4), l5, l6], [.long s0]) (C 264 [.ref x2, .int ((hX h).2 ((x4 + (1 : Int32))).toNatClampNeg), .int ((hX h).2 ((x4 + (2 : Int32))).toNatClampNeg), .int (0 : Int32)] h)) none) (cond (isO h x2 13) (a_back R 283 (264, [.ref x2, .int ((hX h).2 ((x4 + (1 : Int32))).toNatClampNeg), .int ((hX h).2 ((x4 + (2 : Int32))).toNatClampNeg), .int (1 : Int32)], h, true, none, 1004, [some (.float x0), some (.ref x1), some (.ref x2), some (.ref x3), some (.int x4), l5, l6], [.long s0]) (C 264 [.ref x2, .int ((hX h).2 ((x4 + (1 : Int32))).toNatClampNeg), .int ((hX h).2 ((x4 + (2 : Int32))).toNatClampNeg), .int (1 : Int32)] h)) none)) none) none) none) := (tr (r283_983 ..) (tr (r283_984 ..) (tr (r283_985 ..) (tr (r283_986 ..) (tr (r283_987 ..) (tr (r283_988 ..) (cgT (tr (r283_989 ..) (tr (r283_990 ..) (tr (r283_991 ..) (tr (r283_992 ..) (tr (r283_993 ..) (cgT (tr (r283_994 ..) (tr (r283_995 ..) (tr (r283_996 ..) (tr (r283_997 ..) (tr (r283_998 ..) (cgT (tr (r283_999 ..) (cgB (tr (r283_1002 ..) (r283_1003 ..)) (tr (r283_1000 ..) (tr (r283_1001 ..) (r283_1003 ..))))))))))))))))))))))))
set_option maxRecDepth 16384 in
theorem b283_1004 (x0 : UInt32) (x1 : Nat) (x2 : Nat) (x3 : Nat) (x4 : Int32) (l5 : Option Value) (l6 : Option Value) (s0 : Int64) (s1 : Int64) (h : A_H) : R 283 1004 [some (.float x0), some (.ref x1), some (.ref x2), some (.ref x3), some (.int x4), l5, l6] [.long s1, .long s0] h = (cond (decide ((lg_cmp s0 s1) = 0)) (R 283 1248 [some (.float x0), some (.ref x1), some (.ref x2), some (.ref x3), some (.int x4), l5, l6] [] h) (cond (decide ((0 : Int32) = 0) || decide ((0 : Int32) = 1)) (some (some (some (.int (0 : Int32))), h)) none)) := (tr (r283_1004 ..) (tr (r283_1005 ..) (cgB rfl (tr (r283_1006 ..) (r283_1007 ..)))))
set_option maxRecDepth 16384 in
theorem b283_1008 (x0 : UInt32) (x1 : Nat) (x2 : Nat) (x3 : Nat) (x4 : Int32) (l5 : Option Value) (l6 : Option Value) (h : A_H) : R 283 1008 [some (.float x0), some (.ref x1), some (.ref x2), some (.ref x3), some (.int x4), l5, l6] [] h = (cond (decide (x0 = 0) && !decide ((x4 + (1 : Int32)) < 0) && decide (((x4 + (1 : Int32))).toNatClampNeg < (hX h).1)) (cond (isO h x1 11) (a_back R 283 (122, [.ref x1, .int ((hX h).2 ((x4 + (1 : Int32))).toNatClampNeg)], h, true, none, 1015, [some (.float x0), some (.ref x1), some (.ref x2), some (.ref x3), some (.int x4), l5, l6], []) (C 122 [.ref x1, .int ((hX h).2 ((x4 + (1 : Int32))).toNatClampNeg)] h)) none) none) := (tr (r283_1008 ..) (tr (r283_1009 ..) (tr (r283_1010 ..) (tr (r283_1011 ..) (tr (r283_1012 ..) (tr (r283_1013 ..) (cgT (r283_1014 ..))))))))
set_option maxRecDepth 16384 in
theorem b283_1015 (x0 : UInt32) (x1 : Nat) (x2 : Nat) (x3 : Nat) (x4 : Int32) (l5 : Option Value) (l6 : Option Value) (s0 : Int32) (h : A_H) : R 283 1015 [some (.float x0), some (.ref x1), some (.ref x2), some (.ref x3), some (.int x4), l5, l6] [.int s0] h = (cond (decide (x0 = 0) && !decide ((x4 + (1 : Int32)) < 0) && decide (((x4 + (1 : Int32))).toNatClampNeg < (hX h).1)) (cond (isO h x2 13) (a_back R 283 (265, [.ref x2, .int ((hX h).2 ((x4 + (1 : Int32))).toNatClampNeg)], h, true, none, 1022, [some (.float x0), some (.ref x1), some (.ref x2), some (.ref x3), some (.int x4), l5, l6], [.int s0]) (C 265 [.ref x2, .int ((hX h).2 ((x4 + (1 : Int32))).toNatClampNeg)] h)) none) none) := (tr (r283_1015 ..) (tr (r283_1016 ..) (tr (r283_1017 ..) (tr (r283_1018 ..) (tr (r283_1019 ..) (tr (r283_1020 ..) (cgT (r283_1021 ..))))))))
set_option maxRecDepth 16384 in
theorem b283_1022 (x0 : UInt32) (x1 : Nat) (x2 : Nat) (x3 : Nat) (x4 : Int32) (l5 : Option Value) (l6 : Option Value) (s0 : Int32) (s1 : Int32) (h : A_H) : R 283 1022 [some (.float x0), some (.ref x1), some (.ref x2), some (.ref x3), some (.int x4), l5, l6] [.int s1, .int s0] h = (cond (decide (s0 = s1)) (R 283 1248 [some (.float x0), some (.ref x1), some (.ref x2), some (.ref x3), some (.int x4), l5, l6] [] h) (cond (decide ((0 : Int32) = 0) || decide ((0 : Int32) = 1)) (some (some (some (.int (0 : Int32))), h)) none)) := (tr (r283_1022 ..) (cgB rfl (tr (r283_1023 ..) (r283_1024 ..))))
set_option maxRecDepth 16384 in
theorem b283_1025 (x0 : UInt32) (x1 : Nat) (x2 : Nat) (x3 : Nat) (x4 : Int32) (l5 : Option Value) (l6 : Option Value) (h : A_H) : R 283 1025 [some (.float x0), some (.ref x1), some (.ref x2), some (.ref x3), some (.int x4), l5, l6] [] h = (cond (decide (x0 = 0) && !decide ((x4 + (1 : Int32)) < 0) && decide (((x4 + (1 : Int32))).toNatClampNeg < (hX h).1)) (cond (decide (x0 = 0) && !decide ((x4 + (2 : Int32)) < 0) && decide (((x4 + (2 : Int32))).toNatClampNeg < (hX h).1)) (cond (decide (x0 = 0) && !decide ((x4 + (3 : Int32)) < 0) && decide (((x4 + (3 : Int32))).toNatClampNeg < (hX h).1)) (cond (isO h x1 11) (a_back R 283 (123, [.ref x1, .int ((hX h).2 ((x4 + (1 : Int32))).toNatClampNeg), .int ((hX h).2 ((x4 + (2 : Int32))).toNatClampNeg), .int ((hX h).2 ((x4 + (3 : Int32))).toNatClampNeg)], h, true, none, 1042, [some (.float x0), some (.ref x1), some (.ref x2), some (.ref x3), some (.int x4), l5, l6], []) (C 123 [.ref x1, .int ((hX h).2 ((x4 + (1 : Int32))).toNatClampNeg), .int ((hX h).2 ((x4 + (2 : Int32))).toNatClampNeg), .int ((hX h).2 ((x4 + (3 : Int32))).toNatClampNeg)] h)) none) none) none) none) := (tr (r283_1025 ..) (tr (r283_1026 ..) (tr (r283_1027 ..) (tr (r283_1028 ..) (tr (r283_1029 ..) (tr (r283_1030 ..) (cgT (tr (r283_1031 ..) (tr (r283_1032 ..) (tr (r283_1033 ..) (tr (r283_1034 ..) (tr (r283_1035 ..) (cgT (tr (r283_1036 ..) (tr (r283_1037 ..) (tr (r283_1038 ..) (tr (r283_1039 ..) (tr (r283_1040 ..) (cgT (r283_1041 ..))))))))))))))))))))
set_option maxRecDepth 16384 in
theorem b283_1042 (x0 : UInt32) (x1 : Nat) (x2 : Nat) (x3 : Nat) (x4 : Int32) (l5 : Option Value) (l6 : Option Value) (s0 : Int32) (h : A_H) : R 283 1042 [some (.float x0), some (.ref x1), some (.ref x2), some (.ref x3), some (.int x4), l5, l6] [.int s0] h = (cond (decide (x0 = 0) && !decide ((x4 + (1 : Int32)) < 0) && decide (((x4 + (1 : Int32))).toNatClampNeg < (hX h).1)) (cond (decide (x0 = 0) && !decide ((x4 + (2 : Int32)) < 0) && decide (((x4 + (2 : Int32))).toNatClampNeg < (hX h).1)) (cond (decide (x0 = 0) && !decide ((x4 + (3 : Int32)) < 0) && decide (((x4 + (3 : Int32))).toNatClampNeg < (hX h).1)) (cond (isO h x2 13) (a_back R 283 (266, [.ref x2, .int ((hX h).2 ((x4 + (1 : Int32))).toNatClampNeg), .int ((hX h).2 ((x4 + (2 : Int32))).toNatClampNeg), .int ((hX h).2 ((x4 + (3 : Int32))).toNatClampNeg)], h, true, none, 1059, [some (.float x0), some (.ref x1), some (.ref x2), some (.ref x3), some (.int x4), l5, l6], [.int s0]) (C 266 [.ref x2, .int ((hX h).2 ((x4 + (1 : Int32))).toNatClampNeg), .int ((hX h).2 ((x4 + (2 : Int32))).toNatClampNeg), .int ((hX h).2 ((x4 + (3 : Int32))).toNatClampNeg)] h)) none) none) none) none) := (tr (r283_1042 ..) (tr (r283_1043 ..) (tr (r283_1044 ..) (tr (r283_1045 ..) (tr (r283_1046 ..) (tr (r283_1047 ..) (cgT (tr (r283_1048 ..) (tr (r283_1049 ..) (tr (r283_1050 ..) (tr (r283_1051 ..) (tr (r283_1052 ..) (cgT (tr (r283_1053 ..) (tr (r283_1054 ..) (tr (r283_1055 ..) (tr (r283_1056 ..) (tr (r283_1057 ..) (cgT (r283_1058 ..))))))))))))))))))))
set_option maxRecDepth 16384 in
theorem b283_1059 (x0 : UInt32) (x1 : Nat) (x2 : Nat) (x3 : Nat) (x4 : Int32) (l5 : Option Value) (l6 : Option Value) (s0 : Int32) (s1 : Int32) (h : A_H) : R 283 1059 [some (.float x0), some (.ref x1), some (.ref x2), some (.ref x3), some (.int x4), l5, l6] [.int s1, .int s0] h = (cond (decide (s0 = s1)) (R 283 1248 [some (.float x0), some (.ref x1), some (.ref x2), some (.ref x3), some (.int x4), l5, l6] [] h) (cond (decide ((0 : Int32) = 0) || decide ((0 : Int32) = 1)) (some (some (some (.int (0 : Int32))), h)) none)) := (tr (r283_1059 ..) (cgB rfl (tr (r283_1060 ..) (r283_1061 ..))))
set_option maxRecDepth 16384 in
theorem b283_1062 (x0 : UInt32) (x1 : Nat) (x2 : Nat) (x3 : Nat) (x4 : Int32) (l5 : Option Value) (l6 : Option Value) (h : A_H) : R 283 1062 [some (.float x0), some (.ref x1), some (.ref x2), some (.ref x3), some (.int x4), l5, l6] [] h = (cond (decide (x0 = 0) && !decide ((x4 + (1 : Int32)) < 0) && decide (((x4 + (1 : Int32))).toNatClampNeg < (hX h).1)) (cond (isO h x1 11) (a_back R 283 (124, [.ref x1, .int ((hX h).2 ((x4 + (1 : Int32))).toNatClampNeg)], h, true, none, 1069, [some (.float x0), some (.ref x1), some (.ref x2), some (.ref x3), some (.int x4), l5, l6], []) (C 124 [.ref x1, .int ((hX h).2 ((x4 + (1 : Int32))).toNatClampNeg)] h)) none) none) := (tr (r283_1062 ..) (tr (r283_1063 ..) (tr (r283_1064 ..) (tr (r283_1065 ..) (tr (r283_1066 ..) (tr (r283_1067 ..) (cgT (r283_1068 ..))))))))
set_option maxRecDepth 16384 in
theorem b283_1069 (x0 : UInt32) (x1 : Nat) (x2 : Nat) (x3 : Nat) (x4 : Int32) (l5 : Option Value) (l6 : Option Value) (s0 : Int32) (h : A_H) : R 283 1069 [some (.float x0), some (.ref x1), some (.ref x2), some (.ref x3), some (.int x4), l5, l6] [.int s0] h = (cond (decide (x0 = 0) && !decide ((x4 + (1 : Int32)) < 0) && decide (((x4 + (1 : Int32))).toNatClampNeg < (hX h).1)) (cond (isO h x2 13) (a_back R 283 (268, [.ref x2, .int ((hX h).2 ((x4 + (1 : Int32))).toNatClampNeg)], h, true, none, 1076, [some (.float x0), some (.ref x1), some (.ref x2), some (.ref x3), some (.int x4), l5, l6], [.int s0]) (C 268 [.ref x2, .int ((hX h).2 ((x4 + (1 : Int32))).toNatClampNeg)] h)) none) none) := (tr (r283_1069 ..) (tr (r283_1070 ..) (tr (r283_1071 ..) (tr (r283_1072 ..) (tr (r283_1073 ..) (tr (r283_1074 ..) (cgT (r283_1075 ..))))))))
set_option maxRecDepth 16384 in
theorem b283_1076 (x0 : UInt32) (x1 : Nat) (x2 : Nat) (x3 : Nat) (x4 : Int32) (l5 : Option Value) (l6 : Option Value) (s0 : Int32) (s1 : Int32) (h : A_H) : R 283 1076 [some (.float x0), some (.ref x1), some (.ref x2), some (.ref x3), some (.int x4), l5, l6] [.int s1, .int s0] h = (cond (decide (s0 = s1)) (R 283 1248 [some (.float x0), some (.ref x1), some (.ref x2), some (.ref x3), some (.int x4), l5, l6] [] h) (cond (decide ((0 : Int32) = 0) || decide ((0 : Int32) = 1)) (some (some (some (.int (0 : Int32))), h)) none)) := (tr (r283_1076 ..) (cgB rfl (tr (r283_1077 ..) (r283_1078 ..))))
set_option maxRecDepth 16384 in
theorem b283_1079 (x0 : UInt32) (x1 : Nat) (x2 : Nat) (x3 : Nat) (x4 : Int32) (l5 : Option Value) (l6 : Option Value) (h : A_H) : R 283 1079 [some (.float x0), some (.ref x1), some (.ref x2), some (.ref x3), some (.int x4), l5, l6] [] h = (cond (decide (x0 = 0) && !decide ((x4 + (1 : Int32)) < 0) && decide (((x4 + (1 : Int32))).toNatClampNeg < (hX h).1)) (cond (decide (x0 = 0) && !decide ((x4 + (2 : Int32)) < 0) && decide (((x4 + (2 : Int32))).toNatClampNeg < (hX h).1)) (cond (decide (((hX h).2 ((x4 + (2 : Int32))).toNatClampNeg) = 0)) (cond (isO h x1 11) (a_back R 283 (125, [.ref x1, .int ((hX h).2 ((x4 + (1 : Int32))).toNatClampNeg), .int (0 : Int32)], h, true, none, 1095, [some (.float x0), some (.ref x1), some (.ref x2), some (.ref x3), some (.int x4), l5, l6], []) (C 125 [.ref x1, .int ((hX h).2 ((x4 + (1 : Int32))).toNatClampNeg), .int (0 : Int32)] h)) none) (cond (isO h x1 11) (a_back R 283 (125, [.ref x1, .int ((hX h).2 ((x4 + (1 : Int32))).toNatClampNeg), .int (1 : Int32)], h, true, none, 1095, [some (.float x0), some (.ref x1), some (.ref x2), some (.ref x3), some (.int x4), l5, l6], []) (C 125 [.ref x1, .int ((hX h).2 ((x4 + (1 : Int32))).toNatClampNeg), .int (1 : Int32)] h)) none)) none) none) := (tr (r283_1079 ..) (tr (r283_1080 ..) (tr (r283_1081 ..) (tr (r283_1082 ..) (tr (r283_1083 ..) (tr (r283_1084 ..) (cgT (tr (r283_1085 ..) (tr (r283_1086 ..) (tr (r283_1087 ..) (tr (r283_1088 ..) (tr (r283_1089 ..) (cgT (tr (r283_1090 ..) (cgB (tr (r283_1093 ..) (r283_1094 ..)) (tr (r283_1091 ..) (tr (r283_1092 ..) (r283_1094 ..))))))))))))))))))
set_option maxRecDepth 16384 in
theorem b283_1095 (x0 : UInt32) (x1 : Nat) (x2 : Nat) (x3 : Nat) (x4 : Int32) (l5 : Option Value) (l6 : Option Value) (s0 : Int32) (h : A_H) : R 283 1095 [some (.float x0), some (.ref x1), some (.ref x2), some (.ref x3), some (.int x4), l5, l6] [.int s0] h = (cond (decide (x0 = 0) && !decide ((x4 + (1 : Int32)) < 0) && decide (((x4 + (1 : Int32))).toNatClampNeg < (hX h).1)) (cond (decide (x0 = 0) && !decide ((x4 + (2 : Int32)) < 0) && decide (((x4 + (2 : Int32))).toNatClampNeg < (hX h).1)) (cond (decide (((hX h).2 ((x4 + (2 : Int32))).toNatClampNeg) = 0)) (cond (isO h x2 13) (a_back R 283 (269, [.ref x2, .int ((hX h).2 ((x4 + (1 : Int32))).toNatClampNeg), .int (0 : Int32)], h, true, none, 1111, [some (.float x0), some (.ref x1), some (.ref x2), some (.ref x3), some (.int x4), l5, l6], [.int s0]) (C 269 [.ref x2, .int ((hX h).2 ((x4 + (1 : Int32))).toNatClampNeg), .int (0 : Int32)] h)) none) (cond (isO h x2 13) (a_back R 283 (269, [.ref x2, .int ((hX h).2 ((x4 + (1 : Int32))).toNatClampNeg), .int (1 : Int32)], h, true, none, 1111, [some (.float x0), some (.ref x1), some (.ref x2), some (.ref x3), some (.int x4), l5, l6], [.int s0]) (C 269 [.ref x2, .int ((hX h).2 ((x4 + (1 : Int32))).toNatClampNeg), .int (1 : Int32)] h)) none)) none) none) := (tr (r283_1095 ..) (tr (r283_1096 ..) (tr (r283_1097 ..) (tr (r283_1098 ..) (tr (r283_1099 ..) (tr (r283_1100 ..) (cgT (tr (r283_1101 ..) (tr (r283_1102 ..) (tr (r283_1103 ..) (tr (r283_1104 ..) (tr (r283_1105 ..) (cgT (tr (r283_1106 ..) (cgB (tr (r283_1109 ..) (r283_1110 ..)) (tr (r283_1107 ..) (tr (r283_1108 ..) (r283_1110 ..))))))))))))))))))
set_option maxRecDepth 16384 in
theorem b283_1111 (x0 : UInt32) (x1 : Nat) (x2 : Nat) (x3 : Nat) (x4 : Int32) (l5 : Option Value) (l6 : Option Value) (s0 : Int32) (s1 : Int32) (h : A_H) : R 283 1111 [some (.float x0), some (.ref x1), some (.ref x2), some (.ref x3), some (.int x4), l5, l6] [.int s1, .int s0] h = (cond (decide (s0 = s1)) (R 283 1248 [some (.float x0), some (.ref x1), some (.ref x2), some (.ref x3), some (.int x4), l5, l6] [] h) (cond (decide ((0 : Int32) = 0) || decide ((0 : Int32) = 1)) (some (some (some (.int (0 : Int32))), h)) none)) := (tr (r283_1111 ..) (cgB rfl (tr (r283_1112 ..) (r283_1113 ..))))
set_option maxRecDepth 16384 in
theorem b283_1114 (x0 : UInt32) (x1 : Nat) (x2 : Nat) (x3 : Nat) (x4 : Int32) (l5 : Option Value) (l6 : Option Value) (h : A_H) : R 283 1114 [some (.float x0), some (.ref x1), some (.ref x2), some (.ref x3), some (.int x4), l5, l6] [] h = (cond (decide (x0 = 0) && !decide ((x4 + (1 : Int32)) < 0) && decide (((x4 + (1 : Int32))).toNatClampNeg < (hX h).1)) (cond (decide (x0 = 0) && !decide ((x4 + (2 : Int32)) < 0) && decide (((x4 + (2 : Int32))).toNatClampNeg < (hX h).1)) (cond (isO h x1 11) (a_back R 283 (126, [.ref x1, .int ((hX h).2 ((x4 + (1 : Int32))).toNatClampNeg), .int ((hX h).2 ((x4 + (2 : Int32))).toNatClampNeg)], h, true, none, 1126, [some (.float x0), some (.ref x1), some (.ref x2), some (.ref x3), some (.int x4), l5, l6], []) (C 126 [.ref x1, .int ((hX h).2 ((x4 + (1 : Int32))).toNatClampNeg), .int ((hX h).2 ((x4 + (2 : Int32))).toNatClampNeg)] h)) none) none) none) := (tr (r283_1114 ..) (tr (r283_1115 ..) (tr (r283_1116 ..) (tr (r283_1117 ..) (tr (r283_1118 ..) (tr (r283_1119 ..) (cgT (tr (r283_1120 ..) (tr (r283_1121 ..) (tr (r283_1122 ..) (tr (r283_1123 ..) (tr (r283_1124 ..) (cgT (r283_1125 ..))))))))))))))
set_option maxRecDepth 16384 in
theorem b283_1126 (x0 : UInt32) (x1 : Nat) (x2 : Nat) (x3 : Nat) (x4 : Int32) (l5 : Option Value) (l6 : Option Value) (s0 : Int32) (h : A_H) : R 283 1126 [some (.float x0), some (.ref x1), some (.ref x2), some (.ref x3), some (.int x4), l5, l6] [.int s0] h = (cond (decide (x0 = 0) && !decide ((x4 + (1 : Int32)) < 0) && decide (((x4 + (1 : Int32))).toNatClampNeg < (hX h).1)) (cond (decide (x0 = 0) && !decide ((x4 + (2 : Int32)) < 0) && decide (((x4 + (2 : Int32))).toNatClampNeg < (hX h).1)) (cond (isO h x2 13) (a_back R 283 (270, [.ref x2, .int ((hX h).2 ((x4 + (1 : Int32))).toNatClampNeg), .int ((hX h).2 ((x4 + (2 : Int32))).toNatClampNeg)], h, true, none, 1138, [some (.float x0), some (.ref x1), some (.ref x2), some (.ref x3), some (.int x4), l5, l6], [.int s0]) (C 270 [.ref x2, .int ((hX h).2 ((x4 + (1 : Int32))).toNatClampNeg), .int ((hX h).2 ((x4 + (2 : Int32))).toNatClampNeg)] h)) none) none) none) := (tr (r283_1126 ..) (tr (r283_1127 ..) (tr (r283_1128 ..) (tr (r283_1129 ..) (tr (r283_1130 ..) (tr (r283_1131 ..) (cgT (tr (r283_1132 ..) (tr (r283_1133 ..) (tr (r283_1134 ..) (tr (r283_1135 ..) (tr (r283_1136 ..) (cgT (r283_1137 ..))))))))))))))
set_option maxRecDepth 16384 in
theorem b283_1138 (x0 : UInt32) (x1 : Nat) (x2 : Nat) (x3 : Nat) (x4 : Int32) (l5 : Option Value) (l6 : Option Value) (s0 : Int32) (s1 : Int32) (h : A_H) : R 283 1138 [some (.float x0), some (.ref x1), some (.ref x2), some (.ref x3), some (.int x4), l5, l6] [.int s1, .int s0] h = (cond (decide (s0 = s1)) (R 283 1248 [some (.float x0), some (.ref x1), some (.ref x2), some (.ref x3), some (.int x4), l5, l6] [] h) (cond (decide ((0 : Int32) = 0) || decide ((0 : Int32) = 1)) (some (some (some (.int (0 : Int32))), h)) none)) := (tr (r283_1138 ..) (cgB rfl (tr (r283_1139 ..) (r283_1140 ..))))
set_option maxRecDepth 16384 in
theorem b283_1141 (x0 : UInt32) (x1 : Nat) (x2 : Nat) (x3 : Nat) (x4 : Int32) (l5 : Option Value) (l6 : Option Value) (h : A_H) : R 283 1141 [some (.float x0), some (.ref x1), some (.ref x2), some (.ref x3), some (.int x4), l5, l6] [] h = (cond (decide (x0 = 0) && !decide ((x4 + (1 : Int32)) < 0) && decide (((x4 + (1 : Int32))).toNatClampNeg < (hX h).1)) (cond (isO h x1 11) (a_back R 283 (127, [.ref x1, .int ((hX h).2 ((x4 + (1 : Int32))).toNatClampNeg)], h, true, none, 1148, [some (.float x0), some (.ref x1), some (.ref x2), some (.ref x3), some (.int x4), l5, l6], []) (C 127 [.ref x1, .int ((hX h).2 ((x4 + (1 : Int32))).toNatClampNeg)] h)) none) none) := (tr (r283_1141 ..) (tr (r283_1142 ..) (tr (r283_1143 ..) (tr (r283_1144 ..) (tr (r283_1145 ..) (tr (r283_1146 ..) (cgT (r283_1147 ..))))))))
set_option maxRecDepth 16384 in
theorem b283_1148 (x0 : UInt32) (x1 : Nat) (x2 : Nat) (x3 : Nat) (x4 : Int32) (l5 : Option Value) (l6 : Option Value) (s0 : Int32) (h : A_H) : R 283 1148 [some (.float x0), some (.ref x1), some (.ref x2), some (.ref x3), some (.int x4), l5, l6] [.int s0] h = (cond (decide (x0 = 0) && !decide ((x4 + (1 : Int32)) < 0) && decide (((x4 + (1 : Int32))).toNatClampNeg < (hX h).1)) (cond (isO h x2 13) (a_back R 283 (271, [.ref x2, .int ((hX h).2 ((x4 + (1 : Int32))).toNatClampNeg)], h, true, none, 1155, [some (.float x0), some (.ref x1), some (.ref x2), some (.ref x3), some (.int x4), l5, l6], [.int s0]) (C 271 [.ref x2, .int ((hX h).2 ((x4 + (1 : Int32))).toNatClampNeg)] h)) none) none) := (tr (r283_1148 ..) (tr (r283_1149 ..) (tr (r283_1150 ..) (tr (r283_1151 ..) (tr (r283_1152 ..) (tr (r283_1153 ..) (cgT (r283_1154 ..))))))))
set_option maxRecDepth 16384 in
theorem b283_1155 (x0 : UInt32) (x1 : Nat) (x2 : Nat) (x3 : Nat) (x4 : Int32) (l5 : Option Value) (l6 : Option Value) (s0 : Int32) (s1 : Int32) (h : A_H) : R 283 1155 [some (.float x0), some (.ref x1), some (.ref x2), some (.ref x3), some (.int x4), l5, l6] [.int s1, .int s0] h = (cond (decide (s0 = s1)) (R 283 1248 [some (.float x0), some (.ref x1), some (.ref x2), some (.ref x3), some (.int x4), l5, l6] [] h) (cond (decide ((0 : Int32) = 0) || decide ((0 : Int32) = 1)) (some (some (some (.int (0 : Int32))), h)) none)) := (tr (r283_1155 ..) (cgB rfl (tr (r283_1156 ..) (r283_1157 ..))))
set_option maxRecDepth 16384 in
theorem b283_1158 (x0 : UInt32) (x1 : Nat) (x2 : Nat) (x3 : Nat) (x4 : Int32) (l5 : Option Value) (l6 : Option Value) (h : A_H) : R 283 1158 [some (.float x0), some (.ref x1), some (.ref x2), some (.ref x3), some (.int x4), l5, l6] [] h = (cond (isO h x1 11) (a_back R 283 (128, [.ref x1], h, true, none, 1160, [some (.float x0), some (.ref x1), some (.ref x2), some (.ref x3), some (.int x4), l5, l6], []) (C 128 [.ref x1] h)) none) := (tr (r283_1158 ..) (r283_1159 ..))
set_option maxRecDepth 16384 in
theorem b283_1160 (x0 : UInt32) (x1 : Nat) (x2 : Nat) (x3 : Nat) (x4 : Int32) (l5 : Option Value) (l6 : Option Value) (s0 : Int32) (h : A_H) : R 283 1160 [some (.float x0), some (.ref x1), some (.ref x2), some (.ref x3), some (.int x4), l5, l6] [.int s0] h = (cond (isO h x2 13) (a_back R 283 (272, [.ref x2], h, true, none, 1162, [some (.float x0), some (.ref x1), some (.ref x2), some (.ref x3), some (.int x4), l5, l6], [.int s0]) (C 272 [.ref x2] h)) none) := (tr (r283_1160 ..) (r283_1161 ..))
set_option maxRecDepth 16384 in
theorem b283_1162 (x0 : UInt32) (x1 : Nat) (x2 : Nat) (x3 : Nat) (x4 : Int32) (l5 : Option Value) (l6 : Option Value) (s0 : Int32) (s1 : Int32) (h : A_H) : R 283 1162 [some (.float x0), some (.ref x1), some (.ref x2), some (.ref x3), some (.int x4), l5, l6] [.int s1, .int s0] h = (cond (decide (s0 = s1)) (R 283 1248 [some (.float x0), some (.ref x1), some (.ref x2), some (.ref x3), some (.int x4), l5, l6] [] h) (cond (decide ((0 : Int32) = 0) || decide ((0 : Int32) = 1)) (some (some (some (.int (0 : Int32))), h)) none)) := (tr (r283_1162 ..) (cgB rfl (tr (r283_1163 ..) (r283_1164 ..))))
set_option maxRecDepth 16384 in
theorem b283_1165 (x0 : UInt32) (x1 : Nat) (x2 : Nat) (x3 : Nat) (x4 : Int32) (l5 : Option Value) (l6 : Option Value) (h : A_H) : R 283 1165 [some (.float x0), some (.ref x1), some (.ref x2), some (.ref x3), some (.int x4), l5, l6] [] h = (cond (isO h x1 11) (a_back R 283 (129, [.ref x1], h, true, none, 1167, [some (.float x0), some (.ref x1), some (.ref x2), some (.ref x3), some (.int x4), l5, l6], []) (C 129 [.ref x1] h)) none) := (tr (r283_1165 ..) (r283_1166 ..))
set_option maxRecDepth 16384 in
theorem b283_1167 (x0 : UInt32) (x1 : Nat) (x2 : Nat) (x3 : Nat) (x4 : Int32) (l5 : Option Value) (l6 : Option Value) (s0 : Int32) (h : A_H) : R 283 1167 [some (.float x0), some (.ref x1), some (.ref x2), some (.ref x3), some (.int x4), l5, l6] [.int s0] h = (cond (isO h x2 13) (a_back R 283 (273, [.ref x2], h, true, none, 1169, [some (.float x0), some (.ref x1), some (.ref x2), some (.ref x3), some (.int x4), l5, l6], [.int s0]) (C 273 [.ref x2] h)) none) := (tr (r283_1167 ..) (r283_1168 ..))
set_option maxRecDepth 16384 in
theorem b283_1169 (x0 : UInt32) (x1 : Nat) (x2 : Nat) (x3 : Nat) (x4 : Int32) (l5 : Option Value) (l6 : Option Value) (s0 : Int32) (s1 : Int32) (h : A_H) : R 283 1169 [some (.float x0), some (.ref x1), some (.ref x2), some (.ref x3), some (.int x4), l5, l6] [.int s1, .int s0] h = (cond (decide (s0 = s1)) (R 283 1248 [some (.float x0), some (.ref x1), some (.ref x2), some (.ref x3), some (.int x4), l5, l6] [] h) (cond (decide ((0 : Int32) = 0) || decide ((0 : Int32) = 1)) (some (some (some (.int (0 : Int32))), h)) none)) := (tr (r283_1169 ..) (cgB rfl (tr (r283_1170 ..) (r283_1171 ..))))
set_option maxRecDepth 16384 in
theorem b283_1172 (x0 : UInt32) (x1 : Nat) (x2 : Nat) (x3 : Nat) (x4 : Int32) (l5 : Option Value) (l6 : Option Value) (h : A_H) : R 283 1172 [some (.float x0), some (.ref x1), some (.ref x2), some (.ref x3), some (.int x4), l5, l6] [] h = (cond (decide (x0 = 0) && !decide ((x4 + (1 : Int32)) < 0) && decide (((x4 + (1 : Int32))).toNatClampNeg < (hX h).1)) (cond (isO h x1 11) (a_back R 283 (130, [.ref x1, .int ((hX h).2 ((x4 + (1 : Int32))).toNatClampNeg)], h, true, none, 1179, [some (.float x0), some (.ref x1), some (.ref x2), some (.ref x3), some (.int x4), l5, l6], []) (C 130 [.ref x1, .int ((hX h).2 ((x4 + (1 : Int32))).toNatClampNeg)] h)) none) none) := (tr (r283_1172 ..) (tr (r283_1173 ..) (tr (r283_1174 ..) (tr (r283_1175 ..) (tr (r283_1176 ..) (tr (r283_1177 ..) (cgT (r283_1178 ..))))))))
set_option maxRecDepth 16384 in
theorem b283_1179 (x0 : UInt32) (x1 : Nat) (x2 : Nat) (x3 : Nat) (x4 : Int32) (l5 : Option Value) (l6 : Option Value) (s0 : Int32) (h : A_H) : R 283 1179 [some (.float x0), some (.ref x1), some (.ref x2), some (.ref x3), some (.int x4), l5, l6] [.int s0] h = (cond (decide (x0 = 0) && !decide ((x4 + (1 : Int32)) < 0) && decide (((x4 + (1 : Int32))).toNatClampNeg < (hX h).1)) (cond (isO h x2 13) (a_back R 283 (274, [.ref x2, .int ((hX h).2 ((x4 + (1 : Int32))).toNatClampNeg)], h, true, none, 1186, [some (.float x0), some (.ref x1), some (.ref x2), some (.ref x3), some (.int x4), l5, l6], [.int s0]) (C 274 [.ref x2, .int ((hX h).2 ((x4 + (1 : Int32))).toNatClampNeg)] h)) none) none) := (tr (r283_1179 ..) (tr (r283_1180 ..) (tr (r283_1181 ..) (tr (r283_1182 ..) (tr (r283_1183 ..) (tr (r283_1184 ..) (cgT (r283_1185 ..))))))))
set_option maxRecDepth 16384 in
theorem b283_1186 (x0 : UInt32) (x1 : Nat) (x2 : Nat) (x3 : Nat) (x4 : Int32) (l5 : Option Value) (l6 : Option Value) (s0 : Int32) (s1 : Int32) (h : A_H) : R 283 1186 [some (.float x0), some (.ref x1), some (.ref x2), some (.ref x3), some (.int x4), l5, l6] [.int s1, .int s0] h = (cond (decide (s0 = s1)) (R 283 1248 [some (.float x0), some (.ref x1), some (.ref x2), some (.ref x3), some (.int x4), l5, l6] [] h) (cond (decide ((0 : Int32) = 0) || decide ((0 : Int32) = 1)) (some (some (some (.int (0 : Int32))), h)) none)) := (tr (r283_1186 ..) (cgB rfl (tr (r283_1187 ..) (r283_1188 ..))))
set_option maxRecDepth 16384 in
theorem b283_1189 (x0 : UInt32) (x1 : Nat) (x2 : Nat) (x3 : Nat) (x4 : Int32) (l5 : Option Value) (l6 : Option Value) (h : A_H) : R 283 1189 [some (.float x0), some (.ref x1), some (.ref x2), some (.ref x3), some (.int x4), l5, l6] [] h = (cond (decide (x0 = 0) && !decide ((x4 + (1 : Int32)) < 0) && decide (((x4 + (1 : Int32))).toNatClampNeg < (hX h).1)) (a_back R 283 (282, [.ref x1, .int ((hX h).2 ((x4 + (1 : Int32))).toNatClampNeg), .ref x3], h, true, none, 1197, [some (.float x0), some (.ref x1), some (.ref x2), some (.ref x3), some (.int x4), l5, l6], []) (C 282 [.ref x1, .int ((hX h).2 ((x4 + (1 : Int32))).toNatClampNeg), .ref x3] h)) none) := (tr (r283_1189 ..) (tr (r283_1190 ..) (tr (r283_1191 ..) (tr (r283_1192 ..) (tr (r283_1193 ..) (tr (r283_1194 ..) (cgT (tr (r283_1195 ..) (r283_1196 ..)))))))))
set_option maxRecDepth 16384 in
theorem b283_1197 (x0 : UInt32) (x1 : Nat) (x2 : Nat) (x3 : Nat) (x4 : Int32) (l5 : Option Value) (l6 : Option Value) (s0 : Int32) (h : A_H) : R 283 1197 [some (.float x0), some (.ref x1), some (.ref x2), some (.ref x3), some (.int x4), l5, l6] [.int s0] h = (cond (decide (x0 = 0) && !decide ((x4 + (1 : Int32)) < 0) && decide (((x4 + (1 : Int32))).toNatClampNeg < (hX h).1)) (cond (isO h x2 13) (a_back R 283 (275, [.ref x2, .int ((hX h).2 ((x4 + (1 : Int32))).toNatClampNeg)], h, true, none, 1205, [some (.float x0), some (.ref x1), some (.ref x2), some (.ref x3), some (.int x4), some (.int s0), l6], []) (C 275 [.ref x2, .int ((hX h).2 ((x4 + (1 : Int32))).toNatClampNeg)] h)) none) none) := (tr (r283_1197 ..) (tr (r283_1198 ..) (tr (r283_1199 ..) (tr (r283_1200 ..) (tr (r283_1201 ..) (tr (r283_1202 ..) (tr (r283_1203 ..) (cgT (r283_1204 ..)))))))))
set_option maxRecDepth 16384 in
theorem b283_1205 (x0 : UInt32) (x1 : Nat) (x2 : Nat) (x3 : Nat) (x4 : Int32) (x5 : Int32) (l6 : Option Value) (s0 : Int32) (h : A_H) : R 283 1205 [some (.float x0), some (.ref x1), some (.ref x2), some (.ref x3), some (.int x4), some (.int x5), l6] [.int s0] h = (cond (isO h x2 13) (a_back R 283 (154, [.ref x2], h, true, none, 1208, [some (.float x0), some (.ref x1), some (.ref x2), some (.ref x3), some (.int x4), some (.int x5), some (.int s0)], []) (C 154 [.ref x2] h)) none) := (tr (r283_1205 ..) (tr (r283_1206 ..) (r283_1207 ..)))
set_option maxRecDepth 16384 in
theorem b283_1208 (x0 : UInt32) (x1 : Nat) (x2 : Nat) (x3 : Nat) (x4 : Int32) (x5 : Int32) (x6 : Int32) (s0 : Int32) (h : A_H) : R 283 1208 [some (.float x0), some (.ref x1), some (.ref x2), some (.ref x3), some (.int x4), some (.int x5), some (.int x6)] [.int s0] h = (cond (decide (s0 = x5)) (cond (!decide (x5 = 0)) (R 283 1248 [some (.float x0), some (.ref x1), some (.ref x2), some (.ref x3), some (.int x4), some (.int x5), some (.int x6)] [] h) (cond (isA h x3 2 (0 : Int32)) (cond (decide ((lg_cmp (hL h x3 ((0 : Int32)).toNatClampNeg) (x6).toInt64) = 0)) (R 283 1248 [some (.float x0), some (.ref x1), some (.ref x2), some (.ref x3), some (.int x4), some (.int x5), some (.int x6)] [] h) (cond (decide ((0 : Int32) = 0) || decide ((0 : Int32) = 1)) (some (some (some (.int (0 : Int32))), h)) none)) none)) (cond (decide ((0 : Int32) = 0) || decide ((0 : Int32) = 1)) (some (some (some (.int (0 : Int32))), h)) none)) := (tr (r283_1208 ..) (tr (r283_1209 ..) (cgB (tr (r283_1212 ..) (tr (r283_1213 ..) (cgB (r283_1223 ..) (tr (r283_1214 ..) (tr (r283_1215 ..) (tr (r283_1216 ..) (cgT (tr (r283_1217 ..) (tr (r283_1218 ..) (tr (r283_1219 ..) (tr (r283_1220 ..) (cgB (r283_1223 ..) (tr (r283_1221 ..) (r283_1222 ..)))))))))))))) (tr (r283_1210 ..) (r283_1211 ..)))))
set_option maxRecDepth 16384 in
theorem b283_1224 (x0 : UInt32) (x1 : Nat) (x2 : Nat) (x3 : Nat) (x4 : Int32) (l5 : Option Value) (l6 : Option Value) (h : A_H) : R 283 1224 [some (.float x0), some (.ref x1), some (.ref x2), some (.ref x3), some (.int x4), l5, l6] [] h = (cond (decide (x0 = 0) && !decide ((x4 + (1 : Int32)) < 0) && decide (((x4 + (1 : Int32))).toNatClampNeg < (hX h).1)) (cond (isO h x1 11) (a_back R 283 (132, [.ref x1, .int ((hX h).2 ((x4 + (1 : Int32))).toNatClampNeg)], h, true, none, 1231, [some (.float x0), some (.ref x1), some (.ref x2), some (.ref x3), some (.int x4), l5, l6], []) (C 132 [.ref x1, .int ((hX h).2 ((x4 + (1 : Int32))).toNatClampNeg)] h)) none) none) := (tr (r283_1224 ..) (tr (r283_1225 ..) (tr (r283_1226 ..) (tr (r283_1227 ..) (tr (r283_1228 ..) (tr (r283_1229 ..) (cgT (r283_1230 ..))))))))
set_option maxRecDepth 16384 in
theorem b283_1231 (x0 : UInt32) (x1 : Nat) (x2 : Nat) (x3 : Nat) (x4 : Int32) (l5 : Option Value) (l6 : Option Value) (s0 : Int32) (h : A_H) : R 283 1231 [some (.float x0), some (.ref x1), some (.ref x2), some (.ref x3), some (.int x4), l5, l6] [.int s0] h = (cond (decide (x0 = 0) && !decide ((x4 + (1 : Int32)) < 0) && decide (((x4 + (1 : Int32))).toNatClampNeg < (hX h).1)) (cond (isO h x2 13) (a_back R 283 (276, [.ref x2, .int ((hX h).2 ((x4 + (1 : Int32))).toNatClampNeg)], h, true, none, 1238, [some (.float x0), some (.ref x1), some (.ref x2), some (.ref x3), some (.int x4), l5, l6], [.int s0]) (C 276 [.ref x2, .int ((hX h).2 ((x4 + (1 : Int32))).toNatClampNeg)] h)) none) none) := (tr (r283_1231 ..) (tr (r283_1232 ..) (tr (r283_1233 ..) (tr (r283_1234 ..) (tr (r283_1235 ..) (tr (r283_1236 ..) (cgT (r283_1237 ..))))))))
set_option maxRecDepth 16384 in
theorem b283_1238 (x0 : UInt32) (x1 : Nat) (x2 : Nat) (x3 : Nat) (x4 : Int32) (l5 : Option Value) (l6 : Option Value) (s0 : Int32) (s1 : Int32) (h : A_H) : R 283 1238 [some (.float x0), some (.ref x1), some (.ref x2), some (.ref x3), some (.int x4), l5, l6] [.int s1, .int s0] h = (cond (decide (s0 = s1)) (R 283 1248 [some (.float x0), some (.ref x1), some (.ref x2), some (.ref x3), some (.int x4), l5, l6] [] h) (cond (decide ((0 : Int32) = 0) || decide ((0 : Int32) = 1)) (some (some (some (.int (0 : Int32))), h)) none)) := (tr (r283_1238 ..) (cgB rfl (tr (r283_1239 ..) (r283_1240 ..))))
set_option maxRecDepth 16384 in
theorem b283_1241 (x0 : UInt32) (x1 : Nat) (x2 : Nat) (x3 : Nat) (x4 : Int32) (l5 : Option Value) (l6 : Option Value) (h : A_H) : R 283 1241 [some (.float x0), some (.ref x1), some (.ref x2), some (.ref x3), some (.int x4), l5, l6] [] h = (cond (isO h x1 11) (a_back R 283 (133, [.ref x1], h, true, none, 1243, [some (.float x0), some (.ref x1), some (.ref x2), some (.ref x3), some (.int x4), l5, l6], []) (C 133 [.ref x1] h)) none) := (tr (r283_1241 ..) (r283_1242 ..))
set_option maxRecDepth 16384 in
theorem b283_1243 (x0 : UInt32) (x1 : Nat) (x2 : Nat) (x3 : Nat) (x4 : Int32) (l5 : Option Value) (l6 : Option Value) (s0 : Int32) (h : A_H) : R 283 1243 [some (.float x0), some (.ref x1), some (.ref x2), some (.ref x3), some (.int x4), l5, l6] [.int s0] h = (cond (isO h x2 13) (a_back R 283 (277, [.ref x2], h, true, none, 1245, [some (.float x0), some (.ref x1), some (.ref x2), some (.ref x3), some (.int x4), l5, l6], [.int s0]) (C 277 [.ref x2] h)) none) := (tr (r283_1243 ..) (r283_1244 ..))
set_option maxRecDepth 16384 in
theorem b283_1245 (x0 : UInt32) (x1 : Nat) (x2 : Nat) (x3 : Nat) (x4 : Int32) (l5 : Option Value) (l6 : Option Value) (s0 : Int32) (s1 : Int32) (h : A_H) : R 283 1245 [some (.float x0), some (.ref x1), some (.ref x2), some (.ref x3), some (.int x4), l5, l6] [.int s1, .int s0] h = (cond (decide (s0 = s1)) (R 283 1248 [some (.float x0), some (.ref x1), some (.ref x2), some (.ref x3), some (.int x4), l5, l6] [] h) (cond (decide ((0 : Int32) = 0) || decide ((0 : Int32) = 1)) (some (some (some (.int (0 : Int32))), h)) none)) := (tr (r283_1245 ..) (cgB rfl (tr (r283_1246 ..) (r283_1247 ..))))
set_option maxRecDepth 16384 in
theorem b283_1248 (x0 : UInt32) (x1 : Nat) (x2 : Nat) (x3 : Nat) (x4 : Int32) (l5 : Option Value) (l6 : Option Value) (h : A_H) : R 283 1248 [some (.float x0), some (.ref x1), some (.ref x2), some (.ref x3), some (.int x4), l5, l6] [] h = (R 283 13 [some (.float x0), some (.ref x1), some (.ref x2), some (.ref x3), some (.int (x4 + 6)), l5, l6] [] h) := (tr (r283_1248 ..) (r283_1249 ..))
