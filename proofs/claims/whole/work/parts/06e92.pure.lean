def q0 : List (Nat × Nat × Nat) := []
def w0 : List (Nat × Nat × Int64) := []
def q1 : List (Nat × Nat × Nat) := (0, 0, 1) :: q0
def q2 : List (Nat × Nat × Nat) := (3, 9, 4) :: q1
def q3 : List (Nat × Nat × Nat) := (3, 10, 5) :: q2
def q4 : List (Nat × Nat × Nat) := (3, 11, 6) :: q3
def q5 : List (Nat × Nat × Nat) := (3, 12, 7) :: q4
def q6 : List (Nat × Nat × Nat) := (3, 13, 8) :: q5
def q7 : List (Nat × Nat × Nat) := (9, 1, 10) :: q6
def q8 : List (Nat × Nat × Nat) := (9, 2, 11) :: q7
def q9 : List (Nat × Nat × Nat) := (9, 3, 12) :: q8
def q10 : List (Nat × Nat × Nat) := (3, 14, 9) :: q9
def q11 : List (Nat × Nat × Nat) := (4, 0, 13) :: q10
def q12 : List (Nat × Nat × Nat) := (4, 1, 14) :: q11
def q13 : List (Nat × Nat × Nat) := (4, 2, 15) :: q12
def q14 : List (Nat × Nat × Nat) := (4, 3, 16) :: q13
def q15 : List (Nat × Nat × Nat) := (5, 0, 17) :: q14
def q16 : List (Nat × Nat × Nat) := (5, 1, 18) :: q15
def q17 : List (Nat × Nat × Nat) := (5, 2, 19) :: q16
def q18 : List (Nat × Nat × Nat) := (5, 3, 20) :: q17
def q19 : List (Nat × Nat × Nat) := (6, 0, 21) :: q18
def q20 : List (Nat × Nat × Nat) := (6, 1, 22) :: q19
def q21 : List (Nat × Nat × Nat) := (6, 2, 23) :: q20
def q22 : List (Nat × Nat × Nat) := (7, 0, 24) :: q21
def q23 : List (Nat × Nat × Nat) := (7, 1, 25) :: q22
def q24 : List (Nat × Nat × Nat) := (7, 2, 26) :: q23
def q25 : List (Nat × Nat × Nat) := (7, 3, 27) :: q24
def q26 : List (Nat × Nat × Nat) := (7, 4, 28) :: q25
def q27 : List (Nat × Nat × Nat) := (7, 5, 29) :: q26
def q28 : List (Nat × Nat × Nat) := (7, 6, 30) :: q27
def q29 : List (Nat × Nat × Nat) := (7, 7, 31) :: q28
def q30 : List (Nat × Nat × Nat) := (8, 0, 32) :: q29
def q31 : List (Nat × Nat × Nat) := (8, 1, 33) :: q30
def q32 : List (Nat × Nat × Nat) := (8, 2, 34) :: q31
def q33 : List (Nat × Nat × Nat) := (8, 3, 35) :: q32
def q34 : List (Nat × Nat × Nat) := (8, 4, 36) :: q33
def q35 : List (Nat × Nat × Nat) := (8, 5, 37) :: q34
def q36 : List (Nat × Nat × Nat) := (2, 2, 3) :: q35
def q37 : List (Nat × Nat × Nat) := (2, 12, 38) :: q36
def q38 : List (Nat × Nat × Nat) := (2, 13, 39) :: q37
def q39 : List (Nat × Nat × Nat) := (2, 14, 40) :: q38
def q40 : List (Nat × Nat × Nat) := (2, 0, 1) :: q39
def w1 : List (Nat × Nat × Int64) := (41, 0, nL (Wn 0)) :: w0
def w2 : List (Nat × Nat × Int64) := (41, 1, nL (Wn 1)) :: w1
def w3 : List (Nat × Nat × Int64) := (41, 2, nL (Wn 2)) :: w2
def w4 : List (Nat × Nat × Int64) := (41, 3, nL (Wn 3)) :: w3
def w5 : List (Nat × Nat × Int64) := (41, 4, nL (Wn 4)) :: w4
def w6 : List (Nat × Nat × Int64) := (41, 5, nL (Wn 5)) :: w5
def w7 : List (Nat × Nat × Int64) := (41, 6, nL (Wn 6)) :: w6
def w8 : List (Nat × Nat × Int64) := (41, 7, nL (Wn 7)) :: w7
def w9 : List (Nat × Nat × Int64) := (41, 8, nL (Wn 8)) :: w8
def w10 : List (Nat × Nat × Int64) := (41, 9, nL (Wn 9)) :: w9
def w11 : List (Nat × Nat × Int64) := (41, 10, nL (Wn 10)) :: w10
def q41 : List (Nat × Nat × Nat) := (2, 10, 41) :: q40
def q42 : List (Nat × Nat × Nat) := (0, 2, 2) :: q41
def q43 : List (Nat × Nat × Nat) := (42, 9, 43) :: q42
def q44 : List (Nat × Nat × Nat) := (42, 10, 44) :: q43
def q45 : List (Nat × Nat × Nat) := (42, 11, 45) :: q44
def q46 : List (Nat × Nat × Nat) := (42, 12, 46) :: q45
def q47 : List (Nat × Nat × Nat) := (42, 13, 47) :: q46
def q48 : List (Nat × Nat × Nat) := (48, 1, 49) :: q47
def q49 : List (Nat × Nat × Nat) := (48, 2, 50) :: q48
def q50 : List (Nat × Nat × Nat) := (48, 3, 51) :: q49
def q51 : List (Nat × Nat × Nat) := (42, 14, 48) :: q50
def q52 : List (Nat × Nat × Nat) := (43, 0, 52) :: q51
def q53 : List (Nat × Nat × Nat) := (43, 1, 53) :: q52
def q54 : List (Nat × Nat × Nat) := (43, 2, 54) :: q53
def q55 : List (Nat × Nat × Nat) := (43, 3, 55) :: q54
def q56 : List (Nat × Nat × Nat) := (44, 0, 56) :: q55
def q57 : List (Nat × Nat × Nat) := (44, 1, 57) :: q56
def q58 : List (Nat × Nat × Nat) := (44, 2, 58) :: q57
def q59 : List (Nat × Nat × Nat) := (44, 3, 59) :: q58
def q60 : List (Nat × Nat × Nat) := (45, 0, 60) :: q59
def q61 : List (Nat × Nat × Nat) := (45, 1, 61) :: q60
def q62 : List (Nat × Nat × Nat) := (45, 2, 62) :: q61
def q63 : List (Nat × Nat × Nat) := (46, 0, 63) :: q62
def q64 : List (Nat × Nat × Nat) := (46, 1, 64) :: q63
def q65 : List (Nat × Nat × Nat) := (46, 2, 65) :: q64
def q66 : List (Nat × Nat × Nat) := (46, 3, 66) :: q65
def q67 : List (Nat × Nat × Nat) := (46, 4, 67) :: q66
def q68 : List (Nat × Nat × Nat) := (46, 5, 68) :: q67
def q69 : List (Nat × Nat × Nat) := (46, 6, 69) :: q68
def q70 : List (Nat × Nat × Nat) := (46, 7, 70) :: q69
def q71 : List (Nat × Nat × Nat) := (47, 0, 71) :: q70
def q72 : List (Nat × Nat × Nat) := (47, 1, 72) :: q71
def q73 : List (Nat × Nat × Nat) := (47, 2, 73) :: q72
def q74 : List (Nat × Nat × Nat) := (47, 3, 74) :: q73
def q75 : List (Nat × Nat × Nat) := (47, 4, 75) :: q74
def q76 : List (Nat × Nat × Nat) := (47, 5, 76) :: q75
def q77 : List (Nat × Nat × Nat) := (0, 3, 42) :: q76
def q78 : List (Nat × Nat × Nat) := (77, 5, 78) :: q77
def q79 : List (Nat × Nat × Nat) := (0, 5, 77) :: q78
def q80 : List (Nat × Nat × Nat) := (79, 0, 80) :: q79
def q81 : List (Nat × Nat × Nat) := (79, 3, 81) :: q80
def q82 : List (Nat × Nat × Nat) := (82, 5, 83) :: q81
def q83 : List (Nat × Nat × Nat) := (80, 0, 82) :: q82
def q84 : List (Nat × Nat × Nat) := (84, 5, 85) :: q83
def q85 : List (Nat × Nat × Nat) := (80, 1, 84) :: q84
def q86 : List (Nat × Nat × Nat) := (86, 5, 87) :: q85
def q87 : List (Nat × Nat × Nat) := (80, 2, 86) :: q86
def q88 : List (Nat × Nat × Nat) := (88, 5, 89) :: q87
def q89 : List (Nat × Nat × Nat) := (80, 3, 88) :: q88
def q90 : List (Nat × Nat × Nat) := (90, 5, 91) :: q89
def q91 : List (Nat × Nat × Nat) := (80, 4, 90) :: q90
def q92 : List (Nat × Nat × Nat) := (92, 5, 93) :: q91
def q93 : List (Nat × Nat × Nat) := (80, 5, 92) :: q92
def q94 : List (Nat × Nat × Nat) := (94, 5, 95) :: q93
def q95 : List (Nat × Nat × Nat) := (80, 6, 94) :: q94
def q96 : List (Nat × Nat × Nat) := (96, 5, 97) :: q95
def q97 : List (Nat × Nat × Nat) := (80, 7, 96) :: q96
def q98 : List (Nat × Nat × Nat) := (98, 5, 99) :: q97
def q99 : List (Nat × Nat × Nat) := (80, 8, 98) :: q98
def q100 : List (Nat × Nat × Nat) := (100, 5, 101) :: q99
def q101 : List (Nat × Nat × Nat) := (80, 9, 100) :: q100
def q102 : List (Nat × Nat × Nat) := (102, 5, 103) :: q101
def q103 : List (Nat × Nat × Nat) := (80, 10, 102) :: q102
def q104 : List (Nat × Nat × Nat) := (104, 5, 105) :: q103
def q105 : List (Nat × Nat × Nat) := (80, 11, 104) :: q104
def q106 : List (Nat × Nat × Nat) := (106, 5, 107) :: q105
def q107 : List (Nat × Nat × Nat) := (80, 12, 106) :: q106
def q108 : List (Nat × Nat × Nat) := (108, 5, 109) :: q107
def q109 : List (Nat × Nat × Nat) := (80, 13, 108) :: q108
def q110 : List (Nat × Nat × Nat) := (110, 5, 111) :: q109
def q111 : List (Nat × Nat × Nat) := (80, 14, 110) :: q110
def q112 : List (Nat × Nat × Nat) := (112, 5, 113) :: q111
def q113 : List (Nat × Nat × Nat) := (80, 15, 112) :: q112
def q114 : List (Nat × Nat × Nat) := (114, 5, 115) :: q113
def q115 : List (Nat × Nat × Nat) := (81, 0, 114) :: q114
def q116 : List (Nat × Nat × Nat) := (116, 5, 117) :: q115
def q117 : List (Nat × Nat × Nat) := (81, 1, 116) :: q116
def q118 : List (Nat × Nat × Nat) := (118, 5, 119) :: q117
def q119 : List (Nat × Nat × Nat) := (81, 2, 118) :: q118
def q120 : List (Nat × Nat × Nat) := (0, 6, 79) :: q119
def q121 : List (Nat × Nat × Nat) := (121, 5, 122) :: q120
def q122 : List (Nat × Nat × Nat) := (120, 0, 121) :: q121
def q123 : List (Nat × Nat × Nat) := (120, 1, 123) :: q122
def q124 : List (Nat × Nat × Nat) := (0, 7, 120) :: q123
def q125 : List (Nat × Nat × Nat) := (124, 5, 125) :: q124
def q126 : List (Nat × Nat × Nat) := (124, 15, 126) :: q125
def q127 : List (Nat × Nat × Nat) := (124, 16, 127) :: q126
def q128 : List (Nat × Nat × Nat) := (124, 17, 128) :: q127
def q129 : List (Nat × Nat × Nat) := (124, 18, 129) :: q128
def q130 : List (Nat × Nat × Nat) := (124, 26, 130) :: q129
def q131 : List (Nat × Nat × Nat) := (124, 28, 131) :: q130
def q132 : List (Nat × Nat × Nat) := (124, 29, 132) :: q131
set_option maxRecDepth 16384 in
theorem K1_9 (L : Nat) (xs : Nat → Int32) : C 1 [.ref 9] (hK L xs 10 q6 w0) = some (some none, (hK L xs 13 q9 w0)) := by
  rw [e1]
  refine ((f1_0 (oK (show (9 : Nat) < 10 by decide) rfl)).trans (congrArg (R 1 6 [some (.ref 9)] []) (st_hK (L := L) (xs := xs) (n := 10) (t := 100) (N := 5) (a := 9) (b := 1) (ps := q6) (ls := w0) rfl rfl rfl : _ = hK L xs 11 q7 w0))).trans ?_
  refine ((f1_6 (oK (show (9 : Nat) < 11 by decide) rfl)).trans (congrArg (R 1 10 [some (.ref 9)] []) (st_hK (L := L) (xs := xs) (n := 11) (t := 100) (N := 5) (a := 9) (b := 2) (ps := q7) (ls := w0) rfl rfl rfl : _ = hK L xs 12 q8 w0))).trans ?_
  refine ((f1_10 (oK (show (9 : Nat) < 12 by decide) rfl)).trans (congrArg (R 1 14 [some (.ref 9)] []) (st_hK (L := L) (xs := xs) (n := 12) (t := 100) (N := 5) (a := 9) (b := 3) (ps := q8) (ls := w0) rfl rfl rfl : _ = hK L xs 13 q9 w0))).trans ?_
  exact b1_14 _ _
set_option maxRecDepth 16384 in
theorem K55_3 (L : Nat) (xs : Nat → Int32) : C 55 [.ref 3] (hK L xs 4 q1 w0) = some (some none, (hK L xs 38 q35 w0)) := by
  rw [e55]
  refine ((f55_0 (oK (show (3 : Nat) < 4 by decide) rfl)).trans (congrArg (R 55 6 [some (.ref 3), none] []) (st_hK (L := L) (xs := xs) (n := 4) (t := 103) (N := 4) (a := 3) (b := 9) (ps := q1) (ls := w0) rfl rfl rfl : _ = hK L xs 5 q2 w0))).trans ?_
  refine ((f55_6 (oK (show (3 : Nat) < 5 by decide) rfl)).trans (congrArg (R 55 10 [some (.ref 3), none] []) (st_hK (L := L) (xs := xs) (n := 5) (t := 104) (N := 4) (a := 3) (b := 10) (ps := q2) (ls := w0) rfl rfl rfl : _ = hK L xs 6 q3 w0))).trans ?_
  refine ((f55_10 (oK (show (3 : Nat) < 6 by decide) rfl)).trans (congrArg (R 55 14 [some (.ref 3), none] []) (st_hK (L := L) (xs := xs) (n := 6) (t := 105) (N := 3) (a := 3) (b := 11) (ps := q3) (ls := w0) rfl rfl rfl : _ = hK L xs 7 q4 w0))).trans ?_
  refine ((f55_14 (oK (show (3 : Nat) < 7 by decide) rfl)).trans (congrArg (R 55 18 [some (.ref 3), none] []) (st_hK (L := L) (xs := xs) (n := 7) (t := 106) (N := 8) (a := 3) (b := 12) (ps := q4) (ls := w0) rfl rfl rfl : _ = hK L xs 8 q5 w0))).trans ?_
  refine ((f55_18 (oK (show (3 : Nat) < 8 by decide) rfl)).trans (congrArg (R 55 22 [some (.ref 3), none] []) (st_hK (L := L) (xs := xs) (n := 8) (t := 107) (N := 6) (a := 3) (b := 13) (ps := q5) (ls := w0) rfl rfl rfl : _ = hK L xs 9 q6 w0))).trans ?_
  refine ((b55_22 _ _ _).trans (congrArg (R 55 24 [some (.ref 3), none] [.ref 9, .ref 3]) (nw_hK (L := L) (xs := xs) (n := 9) (t := 1) (N := 4) (ps := q6) (ls := w0) rfl rfl rfl : _ = hK L xs 10 q6 w0))).trans ?_
  rw [b55_24, K1_9, bk_u, b55_26, (oK (show (3 : Nat) < 13 by decide) rfl), cond_true, wP_hK]
  rw [b55_27]
  show R 55 29 [some (.ref 3), some (.int (nI 0))] [] (hK L xs 13 q10 w0) = _
  refine ((i55_29 (arr := 4) (i := 0) (oK (show (3 : Nat) < 13 by decide) rfl) rfl (show (4 : Nat) < 13 by decide) rfl (by decide)).trans (congrArg (R 55 29 [some (.ref 3), some (.int (nI 1))] []) (st_hK (L := L) (xs := xs) (n := 13) (t := 5) (N := 6) (a := 4) (b := 0) (ps := q10) (ls := w0) rfl rfl rfl : _ = hK L xs 14 q11 w0))).trans ?_
  refine ((i55_29 (arr := 4) (i := 1) (oK (show (3 : Nat) < 14 by decide) rfl) rfl (show (4 : Nat) < 14 by decide) rfl (by decide)).trans (congrArg (R 55 29 [some (.ref 3), some (.int (nI 2))] []) (st_hK (L := L) (xs := xs) (n := 14) (t := 5) (N := 6) (a := 4) (b := 1) (ps := q11) (ls := w0) rfl rfl rfl : _ = hK L xs 15 q12 w0))).trans ?_
  refine ((i55_29 (arr := 4) (i := 2) (oK (show (3 : Nat) < 15 by decide) rfl) rfl (show (4 : Nat) < 15 by decide) rfl (by decide)).trans (congrArg (R 55 29 [some (.ref 3), some (.int (nI 3))] []) (st_hK (L := L) (xs := xs) (n := 15) (t := 5) (N := 6) (a := 4) (b := 2) (ps := q12) (ls := w0) rfl rfl rfl : _ = hK L xs 16 q13 w0))).trans ?_
  refine ((i55_29 (arr := 4) (i := 3) (oK (show (3 : Nat) < 16 by decide) rfl) rfl (show (4 : Nat) < 16 by decide) rfl (by decide)).trans (congrArg (R 55 29 [some (.ref 3), some (.int (nI 4))] []) (st_hK (L := L) (xs := xs) (n := 16) (t := 5) (N := 6) (a := 4) (b := 3) (ps := q13) (ls := w0) rfl rfl rfl : _ = hK L xs 17 q14 w0))).trans ?_
  rw [x55_29]
  refine ((i55_43 (arr := 5) (i := 0) (oK (show (3 : Nat) < 17 by decide) rfl) rfl (show (5 : Nat) < 17 by decide) rfl (by decide)).trans (congrArg (R 55 43 [some (.ref 3), some (.int (nI 1))] []) (st_hK (L := L) (xs := xs) (n := 17) (t := 10) (N := 3) (a := 5) (b := 0) (ps := q14) (ls := w0) rfl rfl rfl : _ = hK L xs 18 q15 w0))).trans ?_
  refine ((i55_43 (arr := 5) (i := 1) (oK (show (3 : Nat) < 18 by decide) rfl) rfl (show (5 : Nat) < 18 by decide) rfl (by decide)).trans (congrArg (R 55 43 [some (.ref 3), some (.int (nI 2))] []) (st_hK (L := L) (xs := xs) (n := 18) (t := 10) (N := 3) (a := 5) (b := 1) (ps := q15) (ls := w0) rfl rfl rfl : _ = hK L xs 19 q16 w0))).trans ?_
  refine ((i55_43 (arr := 5) (i := 2) (oK (show (3 : Nat) < 19 by decide) rfl) rfl (show (5 : Nat) < 19 by decide) rfl (by decide)).trans (congrArg (R 55 43 [some (.ref 3), some (.int (nI 3))] []) (st_hK (L := L) (xs := xs) (n := 19) (t := 10) (N := 3) (a := 5) (b := 2) (ps := q16) (ls := w0) rfl rfl rfl : _ = hK L xs 20 q17 w0))).trans ?_
  refine ((i55_43 (arr := 5) (i := 3) (oK (show (3 : Nat) < 20 by decide) rfl) rfl (show (5 : Nat) < 20 by decide) rfl (by decide)).trans (congrArg (R 55 43 [some (.ref 3), some (.int (nI 4))] []) (st_hK (L := L) (xs := xs) (n := 20) (t := 10) (N := 3) (a := 5) (b := 3) (ps := q17) (ls := w0) rfl rfl rfl : _ = hK L xs 21 q18 w0))).trans ?_
  rw [x55_43]
  refine ((i55_57 (arr := 6) (i := 0) (oK (show (3 : Nat) < 21 by decide) rfl) rfl (show (6 : Nat) < 21 by decide) rfl (by decide)).trans (congrArg (R 55 57 [some (.ref 3), some (.int (nI 1))] []) (st_hK (L := L) (xs := xs) (n := 21) (t := 2) (N := 3) (a := 6) (b := 0) (ps := q18) (ls := w0) rfl rfl rfl : _ = hK L xs 22 q19 w0))).trans ?_
  refine ((i55_57 (arr := 6) (i := 1) (oK (show (3 : Nat) < 22 by decide) rfl) rfl (show (6 : Nat) < 22 by decide) rfl (by decide)).trans (congrArg (R 55 57 [some (.ref 3), some (.int (nI 2))] []) (st_hK (L := L) (xs := xs) (n := 22) (t := 2) (N := 3) (a := 6) (b := 1) (ps := q19) (ls := w0) rfl rfl rfl : _ = hK L xs 23 q20 w0))).trans ?_
  refine ((i55_57 (arr := 6) (i := 2) (oK (show (3 : Nat) < 23 by decide) rfl) rfl (show (6 : Nat) < 23 by decide) rfl (by decide)).trans (congrArg (R 55 57 [some (.ref 3), some (.int (nI 3))] []) (st_hK (L := L) (xs := xs) (n := 23) (t := 2) (N := 3) (a := 6) (b := 2) (ps := q20) (ls := w0) rfl rfl rfl : _ = hK L xs 24 q21 w0))).trans ?_
  rw [x55_57]
  refine ((i55_71 (arr := 7) (i := 0) (oK (show (3 : Nat) < 24 by decide) rfl) rfl (show (7 : Nat) < 24 by decide) rfl (by decide)).trans (congrArg (R 55 71 [some (.ref 3), some (.int (nI 1))] []) (st_hK (L := L) (xs := xs) (n := 24) (t := 3) (N := 7) (a := 7) (b := 0) (ps := q21) (ls := w0) rfl rfl rfl : _ = hK L xs 25 q22 w0))).trans ?_
  refine ((i55_71 (arr := 7) (i := 1) (oK (show (3 : Nat) < 25 by decide) rfl) rfl (show (7 : Nat) < 25 by decide) rfl (by decide)).trans (congrArg (R 55 71 [some (.ref 3), some (.int (nI 2))] []) (st_hK (L := L) (xs := xs) (n := 25) (t := 3) (N := 7) (a := 7) (b := 1) (ps := q22) (ls := w0) rfl rfl rfl : _ = hK L xs 26 q23 w0))).trans ?_
  refine ((i55_71 (arr := 7) (i := 2) (oK (show (3 : Nat) < 26 by decide) rfl) rfl (show (7 : Nat) < 26 by decide) rfl (by decide)).trans (congrArg (R 55 71 [some (.ref 3), some (.int (nI 3))] []) (st_hK (L := L) (xs := xs) (n := 26) (t := 3) (N := 7) (a := 7) (b := 2) (ps := q23) (ls := w0) rfl rfl rfl : _ = hK L xs 27 q24 w0))).trans ?_
  refine ((i55_71 (arr := 7) (i := 3) (oK (show (3 : Nat) < 27 by decide) rfl) rfl (show (7 : Nat) < 27 by decide) rfl (by decide)).trans (congrArg (R 55 71 [some (.ref 3), some (.int (nI 4))] []) (st_hK (L := L) (xs := xs) (n := 27) (t := 3) (N := 7) (a := 7) (b := 3) (ps := q24) (ls := w0) rfl rfl rfl : _ = hK L xs 28 q25 w0))).trans ?_
  refine ((i55_71 (arr := 7) (i := 4) (oK (show (3 : Nat) < 28 by decide) rfl) rfl (show (7 : Nat) < 28 by decide) rfl (by decide)).trans (congrArg (R 55 71 [some (.ref 3), some (.int (nI 5))] []) (st_hK (L := L) (xs := xs) (n := 28) (t := 3) (N := 7) (a := 7) (b := 4) (ps := q25) (ls := w0) rfl rfl rfl : _ = hK L xs 29 q26 w0))).trans ?_
  refine ((i55_71 (arr := 7) (i := 5) (oK (show (3 : Nat) < 29 by decide) rfl) rfl (show (7 : Nat) < 29 by decide) rfl (by decide)).trans (congrArg (R 55 71 [some (.ref 3), some (.int (nI 6))] []) (st_hK (L := L) (xs := xs) (n := 29) (t := 3) (N := 7) (a := 7) (b := 5) (ps := q26) (ls := w0) rfl rfl rfl : _ = hK L xs 30 q27 w0))).trans ?_
  refine ((i55_71 (arr := 7) (i := 6) (oK (show (3 : Nat) < 30 by decide) rfl) rfl (show (7 : Nat) < 30 by decide) rfl (by decide)).trans (congrArg (R 55 71 [some (.ref 3), some (.int (nI 7))] []) (st_hK (L := L) (xs := xs) (n := 30) (t := 3) (N := 7) (a := 7) (b := 6) (ps := q27) (ls := w0) rfl rfl rfl : _ = hK L xs 31 q28 w0))).trans ?_
  refine ((i55_71 (arr := 7) (i := 7) (oK (show (3 : Nat) < 31 by decide) rfl) rfl (show (7 : Nat) < 31 by decide) rfl (by decide)).trans (congrArg (R 55 71 [some (.ref 3), some (.int (nI 8))] []) (st_hK (L := L) (xs := xs) (n := 31) (t := 3) (N := 7) (a := 7) (b := 7) (ps := q28) (ls := w0) rfl rfl rfl : _ = hK L xs 32 q29 w0))).trans ?_
  rw [x55_71]
  refine ((i55_85 (arr := 8) (i := 0) (oK (show (3 : Nat) < 32 by decide) rfl) rfl (show (8 : Nat) < 32 by decide) rfl (by decide)).trans (congrArg (R 55 85 [some (.ref 3), some (.int (nI 1))] []) (st_hK (L := L) (xs := xs) (n := 32) (t := 0) (N := 4) (a := 8) (b := 0) (ps := q29) (ls := w0) rfl rfl rfl : _ = hK L xs 33 q30 w0))).trans ?_
  refine ((i55_85 (arr := 8) (i := 1) (oK (show (3 : Nat) < 33 by decide) rfl) rfl (show (8 : Nat) < 33 by decide) rfl (by decide)).trans (congrArg (R 55 85 [some (.ref 3), some (.int (nI 2))] []) (st_hK (L := L) (xs := xs) (n := 33) (t := 0) (N := 4) (a := 8) (b := 1) (ps := q30) (ls := w0) rfl rfl rfl : _ = hK L xs 34 q31 w0))).trans ?_
  refine ((i55_85 (arr := 8) (i := 2) (oK (show (3 : Nat) < 34 by decide) rfl) rfl (show (8 : Nat) < 34 by decide) rfl (by decide)).trans (congrArg (R 55 85 [some (.ref 3), some (.int (nI 3))] []) (st_hK (L := L) (xs := xs) (n := 34) (t := 0) (N := 4) (a := 8) (b := 2) (ps := q31) (ls := w0) rfl rfl rfl : _ = hK L xs 35 q32 w0))).trans ?_
  refine ((i55_85 (arr := 8) (i := 3) (oK (show (3 : Nat) < 35 by decide) rfl) rfl (show (8 : Nat) < 35 by decide) rfl (by decide)).trans (congrArg (R 55 85 [some (.ref 3), some (.int (nI 4))] []) (st_hK (L := L) (xs := xs) (n := 35) (t := 0) (N := 4) (a := 8) (b := 3) (ps := q32) (ls := w0) rfl rfl rfl : _ = hK L xs 36 q33 w0))).trans ?_
  refine ((i55_85 (arr := 8) (i := 4) (oK (show (3 : Nat) < 36 by decide) rfl) rfl (show (8 : Nat) < 36 by decide) rfl (by decide)).trans (congrArg (R 55 85 [some (.ref 3), some (.int (nI 5))] []) (st_hK (L := L) (xs := xs) (n := 36) (t := 0) (N := 4) (a := 8) (b := 4) (ps := q33) (ls := w0) rfl rfl rfl : _ = hK L xs 37 q34 w0))).trans ?_
  refine ((i55_85 (arr := 8) (i := 5) (oK (show (3 : Nat) < 37 by decide) rfl) rfl (show (8 : Nat) < 37 by decide) rfl (by decide)).trans (congrArg (R 55 85 [some (.ref 3), some (.int (nI 6))] []) (st_hK (L := L) (xs := xs) (n := 37) (t := 0) (N := 4) (a := 8) (b := 5) (ps := q34) (ls := w0) rfl rfl rfl : _ = hK L xs 38 q35 w0))).trans ?_
  exact x55_85
set_option maxRecDepth 16384 in
theorem K21 (L : Nat) (xs : Nat → Int32) : C 21 [.ref 2, .ref 1] (hK L xs 3 q1 w0) = some (some none, (hK L xs 42 q41 w11)) := by
  rw [e21]
  refine ((b21_0 _ _ _).trans (congrArg (R 21 4 [some (.ref 2), some (.ref 1)] [.ref 3, .ref 2]) (nw_hK (L := L) (xs := xs) (n := 3) (t := 9) (N := 15) (ps := q1) (ls := w0) rfl rfl rfl : _ = hK L xs 4 q1 w0))).trans ?_
  rw [b21_4, K55_3, bk_u, b21_6, (oK (show (2 : Nat) < 38 by decide) rfl), cond_true, wP_hK]
  show R 21 7 [some (.ref 2), some (.ref 1)] [] (hK L xs 38 q36 w0) = _
  refine ((f21_7 (oK (show (2 : Nat) < 38 by decide) rfl)).trans (congrArg (R 21 11 [some (.ref 2), some (.ref 1)] []) (st_hK (L := L) (xs := xs) (n := 38) (t := 102) (N := 19) (a := 2) (b := 12) (ps := q36) (ls := w0) rfl rfl rfl : _ = hK L xs 39 q37 w0))).trans ?_
  refine ((f21_11 (oK (show (2 : Nat) < 39 by decide) rfl)).trans (congrArg (R 21 15 [some (.ref 2), some (.ref 1)] []) (st_hK (L := L) (xs := xs) (n := 39) (t := 100) (N := 19) (a := 2) (b := 13) (ps := q37) (ls := w0) rfl rfl rfl : _ = hK L xs 40 q38 w0))).trans ?_
  refine ((f21_15 (oK (show (2 : Nat) < 40 by decide) rfl)).trans (congrArg (R 21 19 [some (.ref 2), some (.ref 1)] []) (st_hK (L := L) (xs := xs) (n := 40) (t := 100) (N := 19) (a := 2) (b := 14) (ps := q38) (ls := w0) rfl rfl rfl : _ = hK L xs 41 q39 w0))).trans ?_
  rw [b21_19, (oK (show (2 : Nat) < 41 by decide) rfl), cond_true, wP_hK]
  show R 21 22 [some (.ref 2), some (.ref 1)] [] (hK L xs 41 q40 w0) = _
  refine ((b21_22 _ _ _).trans (congrArg (R 21 25 [some (.ref 2), some (.ref 1)] [.ref 41, .ref 2]) (nw_hK (L := L) (xs := xs) (n := 41) (t := 102) (N := 11) (ps := q40) (ls := w0) rfl rfl rfl : _ = hK L xs 42 q40 w0))).trans ?_
  rw [b21_25, d284 (x := 1) (by decide) (by decide), bk_v, b21_29]
  rw [show (0 : Int32) = nI 0 from rfl, aK (N := 11) (show (41 : Nat) < 42 by decide) rfl (by decide) (by decide), cond_true, w_cl (by decide), wL_hK]
  show R 21 30 [some (.ref 2), some (.ref 1)] [.ref 41, .ref 2] (hK L xs 42 q40 w1) = _
  rw [b21_30, d284 (x := 2) (by decide) (by decide), bk_v, b21_34]
  rw [show (1 : Int32) = nI 1 from rfl, aK (N := 11) (show (41 : Nat) < 42 by decide) rfl (by decide) (by decide), cond_true, w_cl (by decide), wL_hK]
  show R 21 35 [some (.ref 2), some (.ref 1)] [.ref 41, .ref 2] (hK L xs 42 q40 w2) = _
  rw [b21_35, d284 (x := 3) (by decide) (by decide), bk_v, b21_39]
  rw [show (2 : Int32) = nI 2 from rfl, aK (N := 11) (show (41 : Nat) < 42 by decide) rfl (by decide) (by decide), cond_true, w_cl (by decide), wL_hK]
  show R 21 40 [some (.ref 2), some (.ref 1)] [.ref 41, .ref 2] (hK L xs 42 q40 w3) = _
  rw [b21_40, d284 (x := 4) (by decide) (by decide), bk_v, b21_44]
  rw [show (3 : Int32) = nI 3 from rfl, aK (N := 11) (show (41 : Nat) < 42 by decide) rfl (by decide) (by decide), cond_true, w_cl (by decide), wL_hK]
  show R 21 45 [some (.ref 2), some (.ref 1)] [.ref 41, .ref 2] (hK L xs 42 q40 w4) = _
  rw [b21_45, d284 (x := 5) (by decide) (by decide), bk_v, b21_49]
  rw [show (4 : Int32) = nI 4 from rfl, aK (N := 11) (show (41 : Nat) < 42 by decide) rfl (by decide) (by decide), cond_true, w_cl (by decide), wL_hK]
  show R 21 50 [some (.ref 2), some (.ref 1)] [.ref 41, .ref 2] (hK L xs 42 q40 w5) = _
  rw [b21_50, d284 (x := 6) (by decide) (by decide), bk_v, b21_54]
  rw [show (5 : Int32) = nI 5 from rfl, aK (N := 11) (show (41 : Nat) < 42 by decide) rfl (by decide) (by decide), cond_true, w_cl (by decide), wL_hK]
  show R 21 55 [some (.ref 2), some (.ref 1)] [.ref 41, .ref 2] (hK L xs 42 q40 w6) = _
  rw [b21_55, d284 (x := 7) (by decide) (by decide), bk_v, b21_59]
  rw [show (6 : Int32) = nI 6 from rfl, aK (N := 11) (show (41 : Nat) < 42 by decide) rfl (by decide) (by decide), cond_true, w_cl (by decide), wL_hK]
  show R 21 60 [some (.ref 2), some (.ref 1)] [.ref 41, .ref 2] (hK L xs 42 q40 w7) = _
  rw [b21_60, d284 (x := 8) (by decide) (by decide), bk_v, b21_64]
  rw [show (7 : Int32) = nI 7 from rfl, aK (N := 11) (show (41 : Nat) < 42 by decide) rfl (by decide) (by decide), cond_true, w_cl (by decide), wL_hK]
  show R 21 65 [some (.ref 2), some (.ref 1)] [.ref 41, .ref 2] (hK L xs 42 q40 w8) = _
  rw [b21_65, d284 (x := 9) (by decide) (by decide), bk_v, b21_69]
  rw [show (8 : Int32) = nI 8 from rfl, aK (N := 11) (show (41 : Nat) < 42 by decide) rfl (by decide) (by decide), cond_true, w_cl (by decide), wL_hK]
  show R 21 70 [some (.ref 2), some (.ref 1)] [.ref 41, .ref 2] (hK L xs 42 q40 w9) = _
  rw [b21_70, d284 (x := 10) (by decide) (by decide), bk_v, b21_74]
  rw [show (9 : Int32) = nI 9 from rfl, aK (N := 11) (show (41 : Nat) < 42 by decide) rfl (by decide) (by decide), cond_true, w_cl (by decide), wL_hK]
  show R 21 75 [some (.ref 2), some (.ref 1)] [.ref 41, .ref 2] (hK L xs 42 q40 w10) = _
  rw [b21_75, d284 (x := 11) (by decide) (by decide), bk_v, b21_79]
  rw [show (10 : Int32) = nI 10 from rfl, aK (N := 11) (show (41 : Nat) < 42 by decide) rfl (by decide) (by decide), cond_true, w_cl (by decide), wL_hK]
  show R 21 80 [some (.ref 2), some (.ref 1)] [.ref 41, .ref 2] (hK L xs 42 q40 w11) = _
  rw [b21_80, (oK (show (2 : Nat) < 42 by decide) rfl), cond_true, wP_hK, b21_81]
  rfl
set_option maxRecDepth 16384 in
theorem K1_48 (L : Nat) (xs : Nat → Int32) : C 1 [.ref 48] (hK L xs 49 q47 w11) = some (some none, (hK L xs 52 q50 w11)) := by
  rw [e1]
  refine ((f1_0 (oK (show (48 : Nat) < 49 by decide) rfl)).trans (congrArg (R 1 6 [some (.ref 48)] []) (st_hK (L := L) (xs := xs) (n := 49) (t := 100) (N := 5) (a := 48) (b := 1) (ps := q47) (ls := w11) rfl rfl rfl : _ = hK L xs 50 q48 w11))).trans ?_
  refine ((f1_6 (oK (show (48 : Nat) < 50 by decide) rfl)).trans (congrArg (R 1 10 [some (.ref 48)] []) (st_hK (L := L) (xs := xs) (n := 50) (t := 100) (N := 5) (a := 48) (b := 2) (ps := q48) (ls := w11) rfl rfl rfl : _ = hK L xs 51 q49 w11))).trans ?_
  refine ((f1_10 (oK (show (48 : Nat) < 51 by decide) rfl)).trans (congrArg (R 1 14 [some (.ref 48)] []) (st_hK (L := L) (xs := xs) (n := 51) (t := 100) (N := 5) (a := 48) (b := 3) (ps := q49) (ls := w11) rfl rfl rfl : _ = hK L xs 52 q50 w11))).trans ?_
  exact b1_14 _ _
set_option maxRecDepth 16384 in
theorem K55_42 (L : Nat) (xs : Nat → Int32) : C 55 [.ref 42] (hK L xs 43 q42 w11) = some (some none, (hK L xs 77 q76 w11)) := by
  rw [e55]
  refine ((f55_0 (oK (show (42 : Nat) < 43 by decide) rfl)).trans (congrArg (R 55 6 [some (.ref 42), none] []) (st_hK (L := L) (xs := xs) (n := 43) (t := 103) (N := 4) (a := 42) (b := 9) (ps := q42) (ls := w11) rfl rfl rfl : _ = hK L xs 44 q43 w11))).trans ?_
  refine ((f55_6 (oK (show (42 : Nat) < 44 by decide) rfl)).trans (congrArg (R 55 10 [some (.ref 42), none] []) (st_hK (L := L) (xs := xs) (n := 44) (t := 104) (N := 4) (a := 42) (b := 10) (ps := q43) (ls := w11) rfl rfl rfl : _ = hK L xs 45 q44 w11))).trans ?_
  refine ((f55_10 (oK (show (42 : Nat) < 45 by decide) rfl)).trans (congrArg (R 55 14 [some (.ref 42), none] []) (st_hK (L := L) (xs := xs) (n := 45) (t := 105) (N := 3) (a := 42) (b := 11) (ps := q44) (ls := w11) rfl rfl rfl : _ = hK L xs 46 q45 w11))).trans ?_
  refine ((f55_14 (oK (show (42 : Nat) < 46 by decide) rfl)).trans (congrArg (R 55 18 [some (.ref 42), none] []) (st_hK (L := L) (xs := xs) (n := 46) (t := 106) (N := 8) (a := 42) (b := 12) (ps := q45) (ls := w11) rfl rfl rfl : _ = hK L xs 47 q46 w11))).trans ?_
  refine ((f55_18 (oK (show (42 : Nat) < 47 by decide) rfl)).trans (congrArg (R 55 22 [some (.ref 42), none] []) (st_hK (L := L) (xs := xs) (n := 47) (t := 107) (N := 6) (a := 42) (b := 13) (ps := q46) (ls := w11) rfl rfl rfl : _ = hK L xs 48 q47 w11))).trans ?_
  refine ((b55_22 _ _ _).trans (congrArg (R 55 24 [some (.ref 42), none] [.ref 48, .ref 42]) (nw_hK (L := L) (xs := xs) (n := 48) (t := 1) (N := 4) (ps := q47) (ls := w11) rfl rfl rfl : _ = hK L xs 49 q47 w11))).trans ?_
  rw [b55_24, K1_48, bk_u, b55_26, (oK (show (42 : Nat) < 52 by decide) rfl), cond_true, wP_hK]
  rw [b55_27]
  show R 55 29 [some (.ref 42), some (.int (nI 0))] [] (hK L xs 52 q51 w11) = _
  refine ((i55_29 (arr := 43) (i := 0) (oK (show (42 : Nat) < 52 by decide) rfl) rfl (show (43 : Nat) < 52 by decide) rfl (by decide)).trans (congrArg (R 55 29 [some (.ref 42), some (.int (nI 1))] []) (st_hK (L := L) (xs := xs) (n := 52) (t := 5) (N := 6) (a := 43) (b := 0) (ps := q51) (ls := w11) rfl rfl rfl : _ = hK L xs 53 q52 w11))).trans ?_
  refine ((i55_29 (arr := 43) (i := 1) (oK (show (42 : Nat) < 53 by decide) rfl) rfl (show (43 : Nat) < 53 by decide) rfl (by decide)).trans (congrArg (R 55 29 [some (.ref 42), some (.int (nI 2))] []) (st_hK (L := L) (xs := xs) (n := 53) (t := 5) (N := 6) (a := 43) (b := 1) (ps := q52) (ls := w11) rfl rfl rfl : _ = hK L xs 54 q53 w11))).trans ?_
  refine ((i55_29 (arr := 43) (i := 2) (oK (show (42 : Nat) < 54 by decide) rfl) rfl (show (43 : Nat) < 54 by decide) rfl (by decide)).trans (congrArg (R 55 29 [some (.ref 42), some (.int (nI 3))] []) (st_hK (L := L) (xs := xs) (n := 54) (t := 5) (N := 6) (a := 43) (b := 2) (ps := q53) (ls := w11) rfl rfl rfl : _ = hK L xs 55 q54 w11))).trans ?_
  refine ((i55_29 (arr := 43) (i := 3) (oK (show (42 : Nat) < 55 by decide) rfl) rfl (show (43 : Nat) < 55 by decide) rfl (by decide)).trans (congrArg (R 55 29 [some (.ref 42), some (.int (nI 4))] []) (st_hK (L := L) (xs := xs) (n := 55) (t := 5) (N := 6) (a := 43) (b := 3) (ps := q54) (ls := w11) rfl rfl rfl : _ = hK L xs 56 q55 w11))).trans ?_
  rw [x55_29]
  refine ((i55_43 (arr := 44) (i := 0) (oK (show (42 : Nat) < 56 by decide) rfl) rfl (show (44 : Nat) < 56 by decide) rfl (by decide)).trans (congrArg (R 55 43 [some (.ref 42), some (.int (nI 1))] []) (st_hK (L := L) (xs := xs) (n := 56) (t := 10) (N := 3) (a := 44) (b := 0) (ps := q55) (ls := w11) rfl rfl rfl : _ = hK L xs 57 q56 w11))).trans ?_
  refine ((i55_43 (arr := 44) (i := 1) (oK (show (42 : Nat) < 57 by decide) rfl) rfl (show (44 : Nat) < 57 by decide) rfl (by decide)).trans (congrArg (R 55 43 [some (.ref 42), some (.int (nI 2))] []) (st_hK (L := L) (xs := xs) (n := 57) (t := 10) (N := 3) (a := 44) (b := 1) (ps := q56) (ls := w11) rfl rfl rfl : _ = hK L xs 58 q57 w11))).trans ?_
  refine ((i55_43 (arr := 44) (i := 2) (oK (show (42 : Nat) < 58 by decide) rfl) rfl (show (44 : Nat) < 58 by decide) rfl (by decide)).trans (congrArg (R 55 43 [some (.ref 42), some (.int (nI 3))] []) (st_hK (L := L) (xs := xs) (n := 58) (t := 10) (N := 3) (a := 44) (b := 2) (ps := q57) (ls := w11) rfl rfl rfl : _ = hK L xs 59 q58 w11))).trans ?_
  refine ((i55_43 (arr := 44) (i := 3) (oK (show (42 : Nat) < 59 by decide) rfl) rfl (show (44 : Nat) < 59 by decide) rfl (by decide)).trans (congrArg (R 55 43 [some (.ref 42), some (.int (nI 4))] []) (st_hK (L := L) (xs := xs) (n := 59) (t := 10) (N := 3) (a := 44) (b := 3) (ps := q58) (ls := w11) rfl rfl rfl : _ = hK L xs 60 q59 w11))).trans ?_
  rw [x55_43]
  refine ((i55_57 (arr := 45) (i := 0) (oK (show (42 : Nat) < 60 by decide) rfl) rfl (show (45 : Nat) < 60 by decide) rfl (by decide)).trans (congrArg (R 55 57 [some (.ref 42), some (.int (nI 1))] []) (st_hK (L := L) (xs := xs) (n := 60) (t := 2) (N := 3) (a := 45) (b := 0) (ps := q59) (ls := w11) rfl rfl rfl : _ = hK L xs 61 q60 w11))).trans ?_
  refine ((i55_57 (arr := 45) (i := 1) (oK (show (42 : Nat) < 61 by decide) rfl) rfl (show (45 : Nat) < 61 by decide) rfl (by decide)).trans (congrArg (R 55 57 [some (.ref 42), some (.int (nI 2))] []) (st_hK (L := L) (xs := xs) (n := 61) (t := 2) (N := 3) (a := 45) (b := 1) (ps := q60) (ls := w11) rfl rfl rfl : _ = hK L xs 62 q61 w11))).trans ?_
  refine ((i55_57 (arr := 45) (i := 2) (oK (show (42 : Nat) < 62 by decide) rfl) rfl (show (45 : Nat) < 62 by decide) rfl (by decide)).trans (congrArg (R 55 57 [some (.ref 42), some (.int (nI 3))] []) (st_hK (L := L) (xs := xs) (n := 62) (t := 2) (N := 3) (a := 45) (b := 2) (ps := q61) (ls := w11) rfl rfl rfl : _ = hK L xs 63 q62 w11))).trans ?_
  rw [x55_57]
  refine ((i55_71 (arr := 46) (i := 0) (oK (show (42 : Nat) < 63 by decide) rfl) rfl (show (46 : Nat) < 63 by decide) rfl (by decide)).trans (congrArg (R 55 71 [some (.ref 42), some (.int (nI 1))] []) (st_hK (L := L) (xs := xs) (n := 63) (t := 3) (N := 7) (a := 46) (b := 0) (ps := q62) (ls := w11) rfl rfl rfl : _ = hK L xs 64 q63 w11))).trans ?_
  refine ((i55_71 (arr := 46) (i := 1) (oK (show (42 : Nat) < 64 by decide) rfl) rfl (show (46 : Nat) < 64 by decide) rfl (by decide)).trans (congrArg (R 55 71 [some (.ref 42), some (.int (nI 2))] []) (st_hK (L := L) (xs := xs) (n := 64) (t := 3) (N := 7) (a := 46) (b := 1) (ps := q63) (ls := w11) rfl rfl rfl : _ = hK L xs 65 q64 w11))).trans ?_
  refine ((i55_71 (arr := 46) (i := 2) (oK (show (42 : Nat) < 65 by decide) rfl) rfl (show (46 : Nat) < 65 by decide) rfl (by decide)).trans (congrArg (R 55 71 [some (.ref 42), some (.int (nI 3))] []) (st_hK (L := L) (xs := xs) (n := 65) (t := 3) (N := 7) (a := 46) (b := 2) (ps := q64) (ls := w11) rfl rfl rfl : _ = hK L xs 66 q65 w11))).trans ?_
  refine ((i55_71 (arr := 46) (i := 3) (oK (show (42 : Nat) < 66 by decide) rfl) rfl (show (46 : Nat) < 66 by decide) rfl (by decide)).trans (congrArg (R 55 71 [some (.ref 42), some (.int (nI 4))] []) (st_hK (L := L) (xs := xs) (n := 66) (t := 3) (N := 7) (a := 46) (b := 3) (ps := q65) (ls := w11) rfl rfl rfl : _ = hK L xs 67 q66 w11))).trans ?_
  refine ((i55_71 (arr := 46) (i := 4) (oK (show (42 : Nat) < 67 by decide) rfl) rfl (show (46 : Nat) < 67 by decide) rfl (by decide)).trans (congrArg (R 55 71 [some (.ref 42), some (.int (nI 5))] []) (st_hK (L := L) (xs := xs) (n := 67) (t := 3) (N := 7) (a := 46) (b := 4) (ps := q66) (ls := w11) rfl rfl rfl : _ = hK L xs 68 q67 w11))).trans ?_
  refine ((i55_71 (arr := 46) (i := 5) (oK (show (42 : Nat) < 68 by decide) rfl) rfl (show (46 : Nat) < 68 by decide) rfl (by decide)).trans (congrArg (R 55 71 [some (.ref 42), some (.int (nI 6))] []) (st_hK (L := L) (xs := xs) (n := 68) (t := 3) (N := 7) (a := 46) (b := 5) (ps := q67) (ls := w11) rfl rfl rfl : _ = hK L xs 69 q68 w11))).trans ?_
  refine ((i55_71 (arr := 46) (i := 6) (oK (show (42 : Nat) < 69 by decide) rfl) rfl (show (46 : Nat) < 69 by decide) rfl (by decide)).trans (congrArg (R 55 71 [some (.ref 42), some (.int (nI 7))] []) (st_hK (L := L) (xs := xs) (n := 69) (t := 3) (N := 7) (a := 46) (b := 6) (ps := q68) (ls := w11) rfl rfl rfl : _ = hK L xs 70 q69 w11))).trans ?_
  refine ((i55_71 (arr := 46) (i := 7) (oK (show (42 : Nat) < 70 by decide) rfl) rfl (show (46 : Nat) < 70 by decide) rfl (by decide)).trans (congrArg (R 55 71 [some (.ref 42), some (.int (nI 8))] []) (st_hK (L := L) (xs := xs) (n := 70) (t := 3) (N := 7) (a := 46) (b := 7) (ps := q69) (ls := w11) rfl rfl rfl : _ = hK L xs 71 q70 w11))).trans ?_
  rw [x55_71]
  refine ((i55_85 (arr := 47) (i := 0) (oK (show (42 : Nat) < 71 by decide) rfl) rfl (show (47 : Nat) < 71 by decide) rfl (by decide)).trans (congrArg (R 55 85 [some (.ref 42), some (.int (nI 1))] []) (st_hK (L := L) (xs := xs) (n := 71) (t := 0) (N := 4) (a := 47) (b := 0) (ps := q70) (ls := w11) rfl rfl rfl : _ = hK L xs 72 q71 w11))).trans ?_
  refine ((i55_85 (arr := 47) (i := 1) (oK (show (42 : Nat) < 72 by decide) rfl) rfl (show (47 : Nat) < 72 by decide) rfl (by decide)).trans (congrArg (R 55 85 [some (.ref 42), some (.int (nI 2))] []) (st_hK (L := L) (xs := xs) (n := 72) (t := 0) (N := 4) (a := 47) (b := 1) (ps := q71) (ls := w11) rfl rfl rfl : _ = hK L xs 73 q72 w11))).trans ?_
  refine ((i55_85 (arr := 47) (i := 2) (oK (show (42 : Nat) < 73 by decide) rfl) rfl (show (47 : Nat) < 73 by decide) rfl (by decide)).trans (congrArg (R 55 85 [some (.ref 42), some (.int (nI 3))] []) (st_hK (L := L) (xs := xs) (n := 73) (t := 0) (N := 4) (a := 47) (b := 2) (ps := q72) (ls := w11) rfl rfl rfl : _ = hK L xs 74 q73 w11))).trans ?_
  refine ((i55_85 (arr := 47) (i := 3) (oK (show (42 : Nat) < 74 by decide) rfl) rfl (show (47 : Nat) < 74 by decide) rfl (by decide)).trans (congrArg (R 55 85 [some (.ref 42), some (.int (nI 4))] []) (st_hK (L := L) (xs := xs) (n := 74) (t := 0) (N := 4) (a := 47) (b := 3) (ps := q73) (ls := w11) rfl rfl rfl : _ = hK L xs 75 q74 w11))).trans ?_
  refine ((i55_85 (arr := 47) (i := 4) (oK (show (42 : Nat) < 75 by decide) rfl) rfl (show (47 : Nat) < 75 by decide) rfl (by decide)).trans (congrArg (R 55 85 [some (.ref 42), some (.int (nI 5))] []) (st_hK (L := L) (xs := xs) (n := 75) (t := 0) (N := 4) (a := 47) (b := 4) (ps := q74) (ls := w11) rfl rfl rfl : _ = hK L xs 76 q75 w11))).trans ?_
  refine ((i55_85 (arr := 47) (i := 5) (oK (show (42 : Nat) < 76 by decide) rfl) rfl (show (47 : Nat) < 76 by decide) rfl (by decide)).trans (congrArg (R 55 85 [some (.ref 42), some (.int (nI 6))] []) (st_hK (L := L) (xs := xs) (n := 76) (t := 0) (N := 4) (a := 47) (b := 5) (ps := q75) (ls := w11) rfl rfl rfl : _ = hK L xs 77 q76 w11))).trans ?_
  exact x55_85
set_option maxRecDepth 16384 in
theorem K48_77 (L : Nat) (xs : Nat → Int32) : C 48 [.ref 77] (hK L xs 78 q77 w11) = some (some none, (hK L xs 79 q78 w11)) := by
  rw [ko48 (oK (show (77 : Nat) < 78 by decide) rfl)]
  exact congrArg (fun z => some (some none, z)) (st_hK (L := L) (xs := xs) (n := 78) (t := 100) (N := 4) (a := 77) (b := 5) (ps := q77) (ls := w11) rfl rfl rfl : _ = hK L xs 79 q78 w11)
set_option maxRecDepth 16384 in
theorem K10 (L : Nat) (xs : Nat → Int32) : C 10 [.ref 79] (hK L xs 80 q79 w11) = some (some none, (hK L xs 120 q119 w11)) := by
  rw [e10]
  refine ((f10_0 (oK (show (79 : Nat) < 80 by decide) rfl)).trans (congrArg (R 10 6 [some (.ref 79), none] []) (st_hK (L := L) (xs := xs) (n := 80) (t := 108) (N := 16) (a := 79) (b := 0) (ps := q79) (ls := w11) rfl rfl rfl : _ = hK L xs 81 q80 w11))).trans ?_
  refine ((f10_6 (oK (show (79 : Nat) < 81 by decide) rfl)).trans (congrArg (R 10 10 [some (.ref 79), none] []) (st_hK (L := L) (xs := xs) (n := 81) (t := 108) (N := 3) (a := 79) (b := 3) (ps := q80) (ls := w11) rfl rfl rfl : _ = hK L xs 82 q81 w11))).trans ?_
  rw [b10_10]
  show R 10 12 [some (.ref 79), some (.int (nI 0))] [] (hK L xs 82 q81 w11) = _
  refine ((i10_12 (arr := 80) (i := 0) (oK (show (79 : Nat) < 82 by decide) rfl) rfl (show (80 : Nat) < 82 by decide) rfl (by decide)).trans (congrArg (R 10 12 [some (.ref 79), some (.int (nI 1))] []) (by rw [(nw_hK (L := L) (xs := xs) (n := 82) (t := 8) (N := 6) (ps := q81) (ls := w11) rfl rfl rfl), (nw_hK (L := L) (xs := xs) (n := 83) (t := 100) (N := 4) (ps := q81) (ls := w11) rfl rfl rfl)]; rfl : _ = (hK L xs 84 q83 w11)))).trans ?_
  refine ((i10_12 (arr := 80) (i := 1) (oK (show (79 : Nat) < 84 by decide) rfl) rfl (show (80 : Nat) < 84 by decide) rfl (by decide)).trans (congrArg (R 10 12 [some (.ref 79), some (.int (nI 2))] []) (by rw [(nw_hK (L := L) (xs := xs) (n := 84) (t := 8) (N := 6) (ps := q83) (ls := w11) rfl rfl rfl), (nw_hK (L := L) (xs := xs) (n := 85) (t := 100) (N := 4) (ps := q83) (ls := w11) rfl rfl rfl)]; rfl : _ = (hK L xs 86 q85 w11)))).trans ?_
  refine ((i10_12 (arr := 80) (i := 2) (oK (show (79 : Nat) < 86 by decide) rfl) rfl (show (80 : Nat) < 86 by decide) rfl (by decide)).trans (congrArg (R 10 12 [some (.ref 79), some (.int (nI 3))] []) (by rw [(nw_hK (L := L) (xs := xs) (n := 86) (t := 8) (N := 6) (ps := q85) (ls := w11) rfl rfl rfl), (nw_hK (L := L) (xs := xs) (n := 87) (t := 100) (N := 4) (ps := q85) (ls := w11) rfl rfl rfl)]; rfl : _ = (hK L xs 88 q87 w11)))).trans ?_
  refine ((i10_12 (arr := 80) (i := 3) (oK (show (79 : Nat) < 88 by decide) rfl) rfl (show (80 : Nat) < 88 by decide) rfl (by decide)).trans (congrArg (R 10 12 [some (.ref 79), some (.int (nI 4))] []) (by rw [(nw_hK (L := L) (xs := xs) (n := 88) (t := 8) (N := 6) (ps := q87) (ls := w11) rfl rfl rfl), (nw_hK (L := L) (xs := xs) (n := 89) (t := 100) (N := 4) (ps := q87) (ls := w11) rfl rfl rfl)]; rfl : _ = (hK L xs 90 q89 w11)))).trans ?_
  refine ((i10_12 (arr := 80) (i := 4) (oK (show (79 : Nat) < 90 by decide) rfl) rfl (show (80 : Nat) < 90 by decide) rfl (by decide)).trans (congrArg (R 10 12 [some (.ref 79), some (.int (nI 5))] []) (by rw [(nw_hK (L := L) (xs := xs) (n := 90) (t := 8) (N := 6) (ps := q89) (ls := w11) rfl rfl rfl), (nw_hK (L := L) (xs := xs) (n := 91) (t := 100) (N := 4) (ps := q89) (ls := w11) rfl rfl rfl)]; rfl : _ = (hK L xs 92 q91 w11)))).trans ?_
  refine ((i10_12 (arr := 80) (i := 5) (oK (show (79 : Nat) < 92 by decide) rfl) rfl (show (80 : Nat) < 92 by decide) rfl (by decide)).trans (congrArg (R 10 12 [some (.ref 79), some (.int (nI 6))] []) (by rw [(nw_hK (L := L) (xs := xs) (n := 92) (t := 8) (N := 6) (ps := q91) (ls := w11) rfl rfl rfl), (nw_hK (L := L) (xs := xs) (n := 93) (t := 100) (N := 4) (ps := q91) (ls := w11) rfl rfl rfl)]; rfl : _ = (hK L xs 94 q93 w11)))).trans ?_
  refine ((i10_12 (arr := 80) (i := 6) (oK (show (79 : Nat) < 94 by decide) rfl) rfl (show (80 : Nat) < 94 by decide) rfl (by decide)).trans (congrArg (R 10 12 [some (.ref 79), some (.int (nI 7))] []) (by rw [(nw_hK (L := L) (xs := xs) (n := 94) (t := 8) (N := 6) (ps := q93) (ls := w11) rfl rfl rfl), (nw_hK (L := L) (xs := xs) (n := 95) (t := 100) (N := 4) (ps := q93) (ls := w11) rfl rfl rfl)]; rfl : _ = (hK L xs 96 q95 w11)))).trans ?_
  refine ((i10_12 (arr := 80) (i := 7) (oK (show (79 : Nat) < 96 by decide) rfl) rfl (show (80 : Nat) < 96 by decide) rfl (by decide)).trans (congrArg (R 10 12 [some (.ref 79), some (.int (nI 8))] []) (by rw [(nw_hK (L := L) (xs := xs) (n := 96) (t := 8) (N := 6) (ps := q95) (ls := w11) rfl rfl rfl), (nw_hK (L := L) (xs := xs) (n := 97) (t := 100) (N := 4) (ps := q95) (ls := w11) rfl rfl rfl)]; rfl : _ = (hK L xs 98 q97 w11)))).trans ?_
  refine ((i10_12 (arr := 80) (i := 8) (oK (show (79 : Nat) < 98 by decide) rfl) rfl (show (80 : Nat) < 98 by decide) rfl (by decide)).trans (congrArg (R 10 12 [some (.ref 79), some (.int (nI 9))] []) (by rw [(nw_hK (L := L) (xs := xs) (n := 98) (t := 8) (N := 6) (ps := q97) (ls := w11) rfl rfl rfl), (nw_hK (L := L) (xs := xs) (n := 99) (t := 100) (N := 4) (ps := q97) (ls := w11) rfl rfl rfl)]; rfl : _ = (hK L xs 100 q99 w11)))).trans ?_
  refine ((i10_12 (arr := 80) (i := 9) (oK (show (79 : Nat) < 100 by decide) rfl) rfl (show (80 : Nat) < 100 by decide) rfl (by decide)).trans (congrArg (R 10 12 [some (.ref 79), some (.int (nI 10))] []) (by rw [(nw_hK (L := L) (xs := xs) (n := 100) (t := 8) (N := 6) (ps := q99) (ls := w11) rfl rfl rfl), (nw_hK (L := L) (xs := xs) (n := 101) (t := 100) (N := 4) (ps := q99) (ls := w11) rfl rfl rfl)]; rfl : _ = (hK L xs 102 q101 w11)))).trans ?_
  refine ((i10_12 (arr := 80) (i := 10) (oK (show (79 : Nat) < 102 by decide) rfl) rfl (show (80 : Nat) < 102 by decide) rfl (by decide)).trans (congrArg (R 10 12 [some (.ref 79), some (.int (nI 11))] []) (by rw [(nw_hK (L := L) (xs := xs) (n := 102) (t := 8) (N := 6) (ps := q101) (ls := w11) rfl rfl rfl), (nw_hK (L := L) (xs := xs) (n := 103) (t := 100) (N := 4) (ps := q101) (ls := w11) rfl rfl rfl)]; rfl : _ = (hK L xs 104 q103 w11)))).trans ?_
  refine ((i10_12 (arr := 80) (i := 11) (oK (show (79 : Nat) < 104 by decide) rfl) rfl (show (80 : Nat) < 104 by decide) rfl (by decide)).trans (congrArg (R 10 12 [some (.ref 79), some (.int (nI 12))] []) (by rw [(nw_hK (L := L) (xs := xs) (n := 104) (t := 8) (N := 6) (ps := q103) (ls := w11) rfl rfl rfl), (nw_hK (L := L) (xs := xs) (n := 105) (t := 100) (N := 4) (ps := q103) (ls := w11) rfl rfl rfl)]; rfl : _ = (hK L xs 106 q105 w11)))).trans ?_
  refine ((i10_12 (arr := 80) (i := 12) (oK (show (79 : Nat) < 106 by decide) rfl) rfl (show (80 : Nat) < 106 by decide) rfl (by decide)).trans (congrArg (R 10 12 [some (.ref 79), some (.int (nI 13))] []) (by rw [(nw_hK (L := L) (xs := xs) (n := 106) (t := 8) (N := 6) (ps := q105) (ls := w11) rfl rfl rfl), (nw_hK (L := L) (xs := xs) (n := 107) (t := 100) (N := 4) (ps := q105) (ls := w11) rfl rfl rfl)]; rfl : _ = (hK L xs 108 q107 w11)))).trans ?_
  refine ((i10_12 (arr := 80) (i := 13) (oK (show (79 : Nat) < 108 by decide) rfl) rfl (show (80 : Nat) < 108 by decide) rfl (by decide)).trans (congrArg (R 10 12 [some (.ref 79), some (.int (nI 14))] []) (by rw [(nw_hK (L := L) (xs := xs) (n := 108) (t := 8) (N := 6) (ps := q107) (ls := w11) rfl rfl rfl), (nw_hK (L := L) (xs := xs) (n := 109) (t := 100) (N := 4) (ps := q107) (ls := w11) rfl rfl rfl)]; rfl : _ = (hK L xs 110 q109 w11)))).trans ?_
  refine ((i10_12 (arr := 80) (i := 14) (oK (show (79 : Nat) < 110 by decide) rfl) rfl (show (80 : Nat) < 110 by decide) rfl (by decide)).trans (congrArg (R 10 12 [some (.ref 79), some (.int (nI 15))] []) (by rw [(nw_hK (L := L) (xs := xs) (n := 110) (t := 8) (N := 6) (ps := q109) (ls := w11) rfl rfl rfl), (nw_hK (L := L) (xs := xs) (n := 111) (t := 100) (N := 4) (ps := q109) (ls := w11) rfl rfl rfl)]; rfl : _ = (hK L xs 112 q111 w11)))).trans ?_
  refine ((i10_12 (arr := 80) (i := 15) (oK (show (79 : Nat) < 112 by decide) rfl) rfl (show (80 : Nat) < 112 by decide) rfl (by decide)).trans (congrArg (R 10 12 [some (.ref 79), some (.int (nI 16))] []) (by rw [(nw_hK (L := L) (xs := xs) (n := 112) (t := 8) (N := 6) (ps := q111) (ls := w11) rfl rfl rfl), (nw_hK (L := L) (xs := xs) (n := 113) (t := 100) (N := 4) (ps := q111) (ls := w11) rfl rfl rfl)]; rfl : _ = (hK L xs 114 q113 w11)))).trans ?_
  rw [x10_12]
  refine ((i10_26 (arr := 81) (i := 0) (oK (show (79 : Nat) < 114 by decide) rfl) rfl (show (81 : Nat) < 114 by decide) rfl (by decide)).trans (congrArg (R 10 26 [some (.ref 79), some (.int (nI 1))] []) (by rw [(nw_hK (L := L) (xs := xs) (n := 114) (t := 8) (N := 6) (ps := q113) (ls := w11) rfl rfl rfl), (nw_hK (L := L) (xs := xs) (n := 115) (t := 100) (N := 4) (ps := q113) (ls := w11) rfl rfl rfl)]; rfl : _ = (hK L xs 116 q115 w11)))).trans ?_
  refine ((i10_26 (arr := 81) (i := 1) (oK (show (79 : Nat) < 116 by decide) rfl) rfl (show (81 : Nat) < 116 by decide) rfl (by decide)).trans (congrArg (R 10 26 [some (.ref 79), some (.int (nI 2))] []) (by rw [(nw_hK (L := L) (xs := xs) (n := 116) (t := 8) (N := 6) (ps := q115) (ls := w11) rfl rfl rfl), (nw_hK (L := L) (xs := xs) (n := 117) (t := 100) (N := 4) (ps := q115) (ls := w11) rfl rfl rfl)]; rfl : _ = (hK L xs 118 q117 w11)))).trans ?_
  refine ((i10_26 (arr := 81) (i := 2) (oK (show (79 : Nat) < 118 by decide) rfl) rfl (show (81 : Nat) < 118 by decide) rfl (by decide)).trans (congrArg (R 10 26 [some (.ref 79), some (.int (nI 3))] []) (by rw [(nw_hK (L := L) (xs := xs) (n := 118) (t := 8) (N := 6) (ps := q117) (ls := w11) rfl rfl rfl), (nw_hK (L := L) (xs := xs) (n := 119) (t := 100) (N := 4) (ps := q117) (ls := w11) rfl rfl rfl)]; rfl : _ = (hK L xs 120 q119 w11)))).trans ?_
  exact x10_26
set_option maxRecDepth 16384 in
theorem K48_121 (L : Nat) (xs : Nat → Int32) : C 48 [.ref 121] (hK L xs 122 q120 w11) = some (some none, (hK L xs 123 q121 w11)) := by
  rw [ko48 (oK (show (121 : Nat) < 122 by decide) rfl)]
  exact congrArg (fun z => some (some none, z)) (st_hK (L := L) (xs := xs) (n := 122) (t := 100) (N := 4) (a := 121) (b := 5) (ps := q120) (ls := w11) rfl rfl rfl : _ = hK L xs 123 q121 w11)
set_option maxRecDepth 16384 in
theorem K17 (L : Nat) (xs : Nat → Int32) : C 17 [.ref 120] (hK L xs 121 q120 w11) = some (some none, (hK L xs 124 q123 w11)) := by
  rw [e17]
  refine ((b17_0 _ _).trans (congrArg (R 17 4 [some (.ref 120)] [.ref 121, .ref 120]) (nw_hK (L := L) (xs := xs) (n := 121) (t := 8) (N := 6) (ps := q120) (ls := w11) rfl rfl rfl : _ = hK L xs 122 q120 w11))).trans ?_
  rw [b17_4, K48_121, bk_u, b17_6, (oK (show (120 : Nat) < 123 by decide) rfl), cond_true, wP_hK]
  show R 17 7 [some (.ref 120)] [] (hK L xs 123 q122 w11) = _
  refine ((f17_7 (oK (show (120 : Nat) < 123 by decide) rfl)).trans (congrArg (R 17 11 [some (.ref 120)] []) (st_hK (L := L) (xs := xs) (n := 123) (t := 100) (N := 6) (a := 120) (b := 1) (ps := q122) (ls := w11) rfl rfl rfl : _ = hK L xs 124 q123 w11))).trans ?_
  exact b17_11 _ _
set_option maxRecDepth 16384 in
theorem K74 (L : Nat) (xs : Nat → Int32) : C 74 [.ref 0] (hK L xs 1 q0 w0) = some (some none, (hK L xs 124 q124 w11)) := by
  rw [e74]
  refine ((b74_0 _ _).trans (congrArg (R 74 5 [some (.ref 0)] [.ref 1, .ref 0]) (nw_hK (L := L) (xs := xs) (n := 1) (t := 101) (N := 1100) (ps := q0) (ls := w0) rfl rfl rfl : _ = hK L xs 2 q0 w0))).trans ?_
  rw [b74_5, (oK (show (0 : Nat) < 2 by decide) rfl), cond_true, wP_hK]
  show R 74 6 [some (.ref 0)] [] (hK L xs 2 q1 w0) = _
  refine ((b74_6 _ _).trans (congrArg (R 74 8 [some (.ref 0)] [.ref 2, .ref 0]) (nw_hK (L := L) (xs := xs) (n := 2) (t := 7) (N := 15) (ps := q1) (ls := w0) rfl rfl rfl : _ = hK L xs 3 q1 w0))).trans ?_
  rw [b74_8, (oK (show (0 : Nat) < 3 by decide) rfl), show hP (hK L xs 3 q1 w0) 0 0 = some 1 from rfl, is_some, gd_some, Bool.and_self, cond_true]
  rw [K21, bk_u, b74_12, (oK (show (0 : Nat) < 42 by decide) rfl), cond_true, wP_hK]
  show R 74 13 [some (.ref 0)] [] (hK L xs 42 q42 w11) = _
  refine ((b74_13 _ _).trans (congrArg (R 74 15 [some (.ref 0)] [.ref 42, .ref 0]) (nw_hK (L := L) (xs := xs) (n := 42) (t := 9) (N := 15) (ps := q42) (ls := w11) rfl rfl rfl : _ = hK L xs 43 q42 w11))).trans ?_
  rw [b74_15, K55_42, bk_u, b74_17, (oK (show (0 : Nat) < 77 by decide) rfl), cond_true, wP_hK]
  show R 74 18 [some (.ref 0)] [] (hK L xs 77 q77 w11) = _
  refine ((b74_18 _ _).trans (congrArg (R 74 20 [some (.ref 0)] [.ref 77, .ref 0]) (nw_hK (L := L) (xs := xs) (n := 77) (t := 8) (N := 6) (ps := q77) (ls := w11) rfl rfl rfl : _ = hK L xs 78 q77 w11))).trans ?_
  rw [b74_20, K48_77, bk_u, b74_22, (oK (show (0 : Nat) < 79 by decide) rfl), cond_true, wP_hK]
  show R 74 23 [some (.ref 0)] [] (hK L xs 79 q79 w11) = _
  refine ((b74_23 _ _).trans (congrArg (R 74 25 [some (.ref 0)] [.ref 79, .ref 0]) (nw_hK (L := L) (xs := xs) (n := 79) (t := 4) (N := 5) (ps := q79) (ls := w11) rfl rfl rfl : _ = hK L xs 80 q79 w11))).trans ?_
  rw [b74_25, K10, bk_u, b74_27, (oK (show (0 : Nat) < 120 by decide) rfl), cond_true, wP_hK]
  show R 74 28 [some (.ref 0)] [] (hK L xs 120 q120 w11) = _
  refine ((b74_28 _ _).trans (congrArg (R 74 30 [some (.ref 0)] [.ref 120, .ref 0]) (nw_hK (L := L) (xs := xs) (n := 120) (t := 6) (N := 3) (ps := q120) (ls := w11) rfl rfl rfl : _ = hK L xs 121 q120 w11))).trans ?_
  rw [b74_30, K17, bk_u, b74_32, (oK (show (0 : Nat) < 124 by decide) rfl), cond_true, wP_hK]
  show R 74 33 [some (.ref 0)] [] (hK L xs 124 q124 w11) = _
  exact b74_33 _ _
set_option maxRecDepth 16384 in
theorem st_wI {h : A_H} {t N a b k j : Nat} {v : Int32} (e : ¬ k = hn h) : wP (nw (wI h k j v) t N N) a b (some (hn (wI h k j v))) = wI (wP (nw h t N N) a b (some (hn h))) k j v := by
  unfold wP nw wI
  show (hn h + 1, hs h + N, _, (fun x y => if x = hn h then 0 else (if x = k ∧ y = j then v else hI h x y)), _, _, _) = (hn h + 1, hs h + N, _, (fun x y => if x = k ∧ y = j then v else (if x = hn h then 0 else hI h x y)), _, _, _)
  rw [show (fun (x y : Nat) => if x = hn h then (0 : Int32) else (if x = k ∧ y = j then v else hI h x y)) = (fun x y => if x = k ∧ y = j then v else (if x = hn h then 0 else hI h x y)) from funext (fun x => funext (fun y => by
    by_cases c : x = hn h
    · rw [if_pos c, if_neg (fun q => e (q.1.symm.trans c)), if_pos c]
    · rw [if_neg c]
      by_cases d : x = k ∧ y = j
      · rw [if_pos d, if_pos d]
      · rw [if_neg d, if_neg d, if_neg c]))]
  rfl
set_option maxRecDepth 16384 in
theorem nw_wI {h : A_H} {t N k j : Nat} {v : Int32} (e : ¬ k = hn h) : nw (wI h k j v) t N N = wI (nw h t N N) k j v := by
  unfold nw wI
  show (hn h + 1, hs h + N, _, (fun x y => if x = hn h then 0 else (if x = k ∧ y = j then v else hI h x y)), _, _, _) = (hn h + 1, hs h + N, _, (fun x y => if x = k ∧ y = j then v else (if x = hn h then 0 else hI h x y)), _, _, _)
  rw [show (fun (x y : Nat) => if x = hn h then (0 : Int32) else (if x = k ∧ y = j then v else hI h x y)) = (fun x y => if x = k ∧ y = j then v else (if x = hn h then 0 else hI h x y)) from funext (fun x => funext (fun y => by
    by_cases c : x = hn h
    · rw [if_pos c, if_neg (fun q => e (q.1.symm.trans c)), if_pos c]
    · rw [if_neg c]
      by_cases d : x = k ∧ y = j
      · rw [if_pos d, if_pos d]
      · rw [if_neg d, if_neg d, if_neg c]))]
  rfl
set_option maxRecDepth 16384 in
theorem K153 (L : Nat) (xs : Nat → Int32) : C 153 [.ref 124] (hK L xs 125 q124 w11) = some (some none, (wI (hK L xs 133 q132 w11) 124 2 (-1))) := by
  rw [e153, b153_0, (oK (show (124 : Nat) < 125 by decide) rfl), cond_true]
  refine ((f153_5 (h := wI (hK L xs 125 q124 w11) 124 2 (-1)) (show isO (hK L xs 125 q124 w11) 124 13 = true from (oK (show (124 : Nat) < 125 by decide) rfl))).trans (congrArg (R 153 9 [some (.ref 124)] []) ((st_wI (show ¬ (124 : Nat) = 125 by decide)).trans (congrArg (fun z => wI z 124 2 (-1)) (st_hK (L := L) (xs := xs) (n := 125) (t := 101) (N := 1100) (a := 124) (b := 5) (ps := q124) (ls := w11) rfl rfl rfl : _ = hK L xs 126 q125 w11)) : _ = (wI (hK L xs 126 q125 w11) 124 2 (-1))))).trans ?_
  refine ((f153_9 (h := wI (hK L xs 126 q125 w11) 124 2 (-1)) (show isO (hK L xs 126 q125 w11) 124 13 = true from (oK (show (124 : Nat) < 126 by decide) rfl))).trans (congrArg (R 153 13 [some (.ref 124)] []) ((st_wI (show ¬ (124 : Nat) = 126 by decide)).trans (congrArg (fun z => wI z 124 2 (-1)) (st_hK (L := L) (xs := xs) (n := 126) (t := 100) (N := 18) (a := 124) (b := 15) (ps := q125) (ls := w11) rfl rfl rfl : _ = hK L xs 127 q126 w11)) : _ = (wI (hK L xs 127 q126 w11) 124 2 (-1))))).trans ?_
  refine ((f153_13 (h := wI (hK L xs 127 q126 w11) 124 2 (-1)) (show isO (hK L xs 127 q126 w11) 124 13 = true from (oK (show (124 : Nat) < 127 by decide) rfl))).trans (congrArg (R 153 17 [some (.ref 124)] []) ((st_wI (show ¬ (124 : Nat) = 127 by decide)).trans (congrArg (fun z => wI z 124 2 (-1)) (st_hK (L := L) (xs := xs) (n := 127) (t := 100) (N := 18) (a := 124) (b := 16) (ps := q126) (ls := w11) rfl rfl rfl : _ = hK L xs 128 q127 w11)) : _ = (wI (hK L xs 128 q127 w11) 124 2 (-1))))).trans ?_
  refine ((f153_17 (h := wI (hK L xs 128 q127 w11) 124 2 (-1)) (show isO (hK L xs 128 q127 w11) 124 13 = true from (oK (show (124 : Nat) < 128 by decide) rfl))).trans (congrArg (R 153 21 [some (.ref 124)] []) ((st_wI (show ¬ (124 : Nat) = 128 by decide)).trans (congrArg (fun z => wI z 124 2 (-1)) (st_hK (L := L) (xs := xs) (n := 128) (t := 100) (N := 288) (a := 124) (b := 17) (ps := q127) (ls := w11) rfl rfl rfl : _ = hK L xs 129 q128 w11)) : _ = (wI (hK L xs 129 q128 w11) 124 2 (-1))))).trans ?_
  refine ((f153_21 (h := wI (hK L xs 129 q128 w11) 124 2 (-1)) (show isO (hK L xs 129 q128 w11) 124 13 = true from (oK (show (124 : Nat) < 129 by decide) rfl))).trans (congrArg (R 153 25 [some (.ref 124)] []) ((st_wI (show ¬ (124 : Nat) = 129 by decide)).trans (congrArg (fun z => wI z 124 2 (-1)) (st_hK (L := L) (xs := xs) (n := 129) (t := 100) (N := 54) (a := 124) (b := 18) (ps := q128) (ls := w11) rfl rfl rfl : _ = hK L xs 130 q129 w11)) : _ = (wI (hK L xs 130 q129 w11) 124 2 (-1))))).trans ?_
  refine ((f153_25 (h := wI (hK L xs 130 q129 w11) 124 2 (-1)) (show isO (hK L xs 130 q129 w11) 124 13 = true from (oK (show (124 : Nat) < 130 by decide) rfl))).trans (congrArg (R 153 29 [some (.ref 124)] []) ((st_wI (show ¬ (124 : Nat) = 130 by decide)).trans (congrArg (fun z => wI z 124 2 (-1)) (st_hK (L := L) (xs := xs) (n := 130) (t := 100) (N := 6) (a := 124) (b := 26) (ps := q129) (ls := w11) rfl rfl rfl : _ = hK L xs 131 q130 w11)) : _ = (wI (hK L xs 131 q130 w11) 124 2 (-1))))).trans ?_
  refine ((f153_29 (h := wI (hK L xs 131 q130 w11) 124 2 (-1)) (show isO (hK L xs 131 q130 w11) 124 13 = true from (oK (show (124 : Nat) < 131 by decide) rfl))).trans (congrArg (R 153 33 [some (.ref 124)] []) ((st_wI (show ¬ (124 : Nat) = 131 by decide)).trans (congrArg (fun z => wI z 124 2 (-1)) (st_hK (L := L) (xs := xs) (n := 131) (t := 100) (N := 5) (a := 124) (b := 28) (ps := q130) (ls := w11) rfl rfl rfl : _ = hK L xs 132 q131 w11)) : _ = (wI (hK L xs 132 q131 w11) 124 2 (-1))))).trans ?_
  refine ((f153_33 (h := wI (hK L xs 132 q131 w11) 124 2 (-1)) (show isO (hK L xs 132 q131 w11) 124 13 = true from (oK (show (124 : Nat) < 132 by decide) rfl))).trans (congrArg (R 153 37 [some (.ref 124)] []) ((st_wI (show ¬ (124 : Nat) = 132 by decide)).trans (congrArg (fun z => wI z 124 2 (-1)) (st_hK (L := L) (xs := xs) (n := 132) (t := 100) (N := 5) (a := 124) (b := 29) (ps := q131) (ls := w11) rfl rfl rfl : _ = hK L xs 133 q132 w11)) : _ = (wI (hK L xs 133 q132 w11) 124 2 (-1))))).trans ?_
  exact b153_37 _ _
def hS (L : Nat) (xs : Nat → Int32) : A_H := wI (hK L xs 134 q132 w11) 124 2 (-1)
set_option maxRecDepth 16384 in
theorem start (L : Nat) (xs : Nat → Int32) : C 283 [.float 0] ((0, 0, fun _ => (0, 0), fun _ _ => 0, fun _ _ => 0, fun _ _ => none, (L, xs)) : A_H) = R 283 13 [some (.float 0), some (.ref 0), some (.ref 124), some (.ref 133), some (.int (nI 0)), none, none] [] (hS L xs) := by
  rw [h0_hK, e283]
  refine ((b283_0 _ _ _ _ _ _ _ _).trans (congrArg (R 283 1 [some (.float 0), none, none, none, none, none, none] [.ref 0]) (nw_hK (L := L) (xs := xs) (n := 0) (t := 11) (N := 9) (ps := q0) (ls := w0) rfl rfl rfl : _ = hK L xs 1 q0 w0))).trans ?_
  rw [b283_1, K74, bk_u]
  refine ((b283_3 _ _ _ _ _ _ _ _ _).trans (congrArg (R 283 5 [some (.float 0), some (.ref 0), none, none, none, none, none] [.ref 124]) (nw_hK (L := L) (xs := xs) (n := 124) (t := 13) (N := 31) (ps := q124) (ls := w11) rfl rfl rfl : _ = hK L xs 125 q124 w11))).trans ?_
  rw [b283_5, K153, bk_u]
  refine ((b283_7 _ _ _ _ _ _ _ _ _).trans (congrArg (R 283 10 [some (.float 0), some (.ref 0), some (.ref 124), none, none, none, none] [.ref 133]) ((nw_wI (show ¬ (124 : Nat) = 133 by decide)).trans (congrArg (fun z => wI z 124 2 (-1)) (nw_hK (L := L) (xs := xs) (n := 133) (t := 102) (N := 1) (ps := q132) (ls := w11) rfl rfl rfl : _ = hK L xs 134 q132 w11)) : _ = hS L xs))).trans ?_
  rw [b283_10]
  rfl
