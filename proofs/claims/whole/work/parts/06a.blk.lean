def a_w (k : Nat) : Int64 := a_pkc (a_T.getD k [])
theorem tr {α : Type} {a b c : α} (e : a = b) (e2 : b = c) : a = c := e.trans e2
theorem cgT {α : Type} {g : Bool} {a b c : α} (e : a = b) : cond g a c = cond g b c := by rw [e]
theorem cgB {α : Type} {g : Bool} {a b c d : α} (e : a = b) (e2 : c = d) : cond g a c = cond g b d := by rw [e, e2]
theorem e0 (x0 : Nat) (h : A_H) : C 0 [.ref x0] h = R 0 0 [some (.ref x0)] [] h := rfl
theorem r0_0 (ls : A_V) (st : List Value) (h : A_H) : R 0 0 ls st h = a_do a_nL R R 0 (s_aldl 0 1 ls st h) := a_R_eq ..
theorem r0_1 (ls : A_V) (st : List Value) (h : A_H) : R 0 1 ls st h = a_do a_nL R R 0 (s_oi 2 ls st h) := a_R_eq ..
theorem r0_2 (ls : A_V) (st : List Value) (h : A_H) : R 0 2 ls st h = a_do a_nL R R 0 (s_vret ls st h) := a_R_eq ..
theorem b0_0 (x0 : Nat) (h : A_H) : R 0 0 [some (.ref x0)] [] h = (some (some none, h)) := (tr (r0_0 ..) (tr (r0_1 ..) (r0_2 ..)))
theorem e1 (x0 : Nat) (h : A_H) : C 1 [.ref x0] h = R 1 0 [some (.ref x0)] [] h := rfl
theorem r1_0 (ls : A_V) (st : List Value) (h : A_H) : R 1 0 ls st h = a_do a_nL R R 1 (s_aldl 0 1 ls st h) := a_R_eq ..
theorem r1_1 (ls : A_V) (st : List Value) (h : A_H) : R 1 1 ls st h = a_do a_nL R R 1 (s_oi 2 ls st h) := a_R_eq ..
theorem r1_2 (ls : A_V) (st : List Value) (h : A_H) : R 1 2 ls st h = a_do a_nL R R 1 (s_aldl 0 3 ls st h) := a_R_eq ..
theorem r1_3 (ls : A_V) (st : List Value) (h : A_H) : R 1 3 ls st h = a_do a_nL R R 1 (s_push (.int 5) 4 ls st h) := a_R_eq ..
theorem r1_4 (ls : A_V) (st : List Value) (h : A_H) : R 1 4 ls st h = a_do a_nL R R 1 (s_nar 0 5 ls st h) := a_R_eq ..
theorem r1_5 (ls : A_V) (st : List Value) (h : A_H) : R 1 5 ls st h = a_do a_nL R R 1 (s_putR 1 1 6 ls st h) := a_R_eq ..
theorem r1_6 (ls : A_V) (st : List Value) (h : A_H) : R 1 6 ls st h = a_do a_nL R R 1 (s_aldl 0 7 ls st h) := a_R_eq ..
theorem r1_7 (ls : A_V) (st : List Value) (h : A_H) : R 1 7 ls st h = a_do a_nL R R 1 (s_push (.int 5) 8 ls st h) := a_R_eq ..
theorem r1_8 (ls : A_V) (st : List Value) (h : A_H) : R 1 8 ls st h = a_do a_nL R R 1 (s_nar 0 9 ls st h) := a_R_eq ..
theorem r1_9 (ls : A_V) (st : List Value) (h : A_H) : R 1 9 ls st h = a_do a_nL R R 1 (s_putR 1 2 10 ls st h) := a_R_eq ..
theorem r1_10 (ls : A_V) (st : List Value) (h : A_H) : R 1 10 ls st h = a_do a_nL R R 1 (s_aldl 0 11 ls st h) := a_R_eq ..
theorem r1_11 (ls : A_V) (st : List Value) (h : A_H) : R 1 11 ls st h = a_do a_nL R R 1 (s_push (.int 5) 12 ls st h) := a_R_eq ..
theorem r1_12 (ls : A_V) (st : List Value) (h : A_H) : R 1 12 ls st h = a_do a_nL R R 1 (s_nar 0 13 ls st h) := a_R_eq ..
theorem r1_13 (ls : A_V) (st : List Value) (h : A_H) : R 1 13 ls st h = a_do a_nL R R 1 (s_putR 1 3 14 ls st h) := a_R_eq ..
theorem r1_14 (ls : A_V) (st : List Value) (h : A_H) : R 1 14 ls st h = a_do a_nL R R 1 (s_vret ls st h) := a_R_eq ..
theorem b1_0 (x0 : Nat) (h : A_H) : R 1 0 [some (.ref x0)] [] h = (R 1 5 [some (.ref x0)] [.ref (hn h), .ref x0] (nw h 100 5 5)) := (tr (r1_0 ..) (tr (r1_1 ..) (tr (r1_2 ..) (tr (r1_3 ..) (r1_4 ..)))))
theorem b1_5 (x0 : Nat) (s0 : Nat) (s1 : Nat) (h : A_H) : R 1 5 [some (.ref x0)] [.ref s1, .ref s0] h = (cond (isO h s0 1) (R 1 6 [some (.ref x0)] [] (wP h s0 1 (some s1))) none) := (r1_5 ..)
theorem b1_6 (x0 : Nat) (h : A_H) : R 1 6 [some (.ref x0)] [] h = (R 1 9 [some (.ref x0)] [.ref (hn h), .ref x0] (nw h 100 5 5)) := (tr (r1_6 ..) (tr (r1_7 ..) (r1_8 ..)))
theorem b1_9 (x0 : Nat) (s0 : Nat) (s1 : Nat) (h : A_H) : R 1 9 [some (.ref x0)] [.ref s1, .ref s0] h = (cond (isO h s0 1) (R 1 10 [some (.ref x0)] [] (wP h s0 2 (some s1))) none) := (r1_9 ..)
theorem b1_10 (x0 : Nat) (h : A_H) : R 1 10 [some (.ref x0)] [] h = (R 1 13 [some (.ref x0)] [.ref (hn h), .ref x0] (nw h 100 5 5)) := (tr (r1_10 ..) (tr (r1_11 ..) (r1_12 ..)))
theorem b1_13 (x0 : Nat) (s0 : Nat) (s1 : Nat) (h : A_H) : R 1 13 [some (.ref x0)] [.ref s1, .ref s0] h = (cond (isO h s0 1) (R 1 14 [some (.ref x0)] [] (wP h s0 3 (some s1))) none) := (r1_13 ..)
theorem b1_14 (x0 : Nat) (h : A_H) : R 1 14 [some (.ref x0)] [] h = (some (some none, h)) := (r1_14 ..)
theorem e2 (x0 : Nat) (x1 : Int32) (x2 : Int32) (h : A_H) : C 2 [.ref x0, .int x1, .int x2] h = R 2 0 [some (.ref x0), some (.int x1), some (.int x2)] [] h := rfl
theorem r2_0 (ls : A_V) (st : List Value) (h : A_H) : R 2 0 ls st h = a_do a_nL R R 2 (s_aldl 0 1 ls st h) := a_R_eq ..
theorem r2_1 (ls : A_V) (st : List Value) (h : A_H) : R 2 1 ls st h = a_do a_nL R R 2 (s_getI 1 0 2 ls st h) := a_R_eq ..
theorem r2_2 (ls : A_V) (st : List Value) (h : A_H) : R 2 2 ls st h = a_do a_nL R R 2 (s_push (.int 5) 3 ls st h) := a_R_eq ..
theorem r2_3 (ls : A_V) (st : List Value) (h : A_H) : R 2 3 ls st h = a_do a_nL R R 2 (s_if2 (fun x y => decide (y ≤ x)) 22 4 ls st h) := a_R_eq ..
theorem r2_4 (ls : A_V) (st : List Value) (h : A_H) : R 2 4 ls st h = a_do a_nL R R 2 (s_aldl 0 5 ls st h) := a_R_eq ..
theorem r2_5 (ls : A_V) (st : List Value) (h : A_H) : R 2 5 ls st h = a_do a_nL R R 2 (s_getR 1 1 6 ls st h) := a_R_eq ..
theorem r2_6 (ls : A_V) (st : List Value) (h : A_H) : R 2 6 ls st h = a_do a_nL R R 2 (s_aldl 0 7 ls st h) := a_R_eq ..
theorem r2_7 (ls : A_V) (st : List Value) (h : A_H) : R 2 7 ls st h = a_do a_nL R R 2 (s_getI 1 0 8 ls st h) := a_R_eq ..
theorem r2_8 (ls : A_V) (st : List Value) (h : A_H) : R 2 8 ls st h = a_do a_nL R R 2 (s_ildl 1 9 ls st h) := a_R_eq ..
theorem r2_9 (ls : A_V) (st : List Value) (h : A_H) : R 2 9 ls st h = a_do a_nL R R 2 (s_ias 10 ls st h) := a_R_eq ..
theorem r2_10 (ls : A_V) (st : List Value) (h : A_H) : R 2 10 ls st h = a_do a_nL R R 2 (s_aldl 0 11 ls st h) := a_R_eq ..
theorem r2_11 (ls : A_V) (st : List Value) (h : A_H) : R 2 11 ls st h = a_do a_nL R R 2 (s_getR 1 2 12 ls st h) := a_R_eq ..
theorem r2_12 (ls : A_V) (st : List Value) (h : A_H) : R 2 12 ls st h = a_do a_nL R R 2 (s_aldl 0 13 ls st h) := a_R_eq ..
theorem r2_13 (ls : A_V) (st : List Value) (h : A_H) : R 2 13 ls st h = a_do a_nL R R 2 (s_getI 1 0 14 ls st h) := a_R_eq ..
theorem r2_14 (ls : A_V) (st : List Value) (h : A_H) : R 2 14 ls st h = a_do a_nL R R 2 (s_ildl 2 15 ls st h) := a_R_eq ..
theorem r2_15 (ls : A_V) (st : List Value) (h : A_H) : R 2 15 ls st h = a_do a_nL R R 2 (s_ias 16 ls st h) := a_R_eq ..
theorem r2_16 (ls : A_V) (st : List Value) (h : A_H) : R 2 16 ls st h = a_do a_nL R R 2 (s_aldl 0 17 ls st h) := a_R_eq ..
theorem r2_17 (ls : A_V) (st : List Value) (h : A_H) : R 2 17 ls st h = a_do a_nL R R 2 (s_dup 18 ls st h) := a_R_eq ..
theorem r2_18 (ls : A_V) (st : List Value) (h : A_H) : R 2 18 ls st h = a_do a_nL R R 2 (s_getI 1 0 19 ls st h) := a_R_eq ..
theorem r2_19 (ls : A_V) (st : List Value) (h : A_H) : R 2 19 ls st h = a_do a_nL R R 2 (s_push (.int 1) 20 ls st h) := a_R_eq ..
theorem r2_20 (ls : A_V) (st : List Value) (h : A_H) : R 2 20 ls st h = a_do a_nL R R 2 (s_bi (fun x y => x + y) 21 ls st h) := a_R_eq ..
theorem r2_21 (ls : A_V) (st : List Value) (h : A_H) : R 2 21 ls st h = a_do a_nL R R 2 (s_putI 1 0 22 ls st h) := a_R_eq ..
theorem r2_22 (ls : A_V) (st : List Value) (h : A_H) : R 2 22 ls st h = a_do a_nL R R 2 (s_vret ls st h) := a_R_eq ..
theorem b2_0 (x0 : Nat) (x1 : Int32) (x2 : Int32) (h : A_H) : R 2 0 [some (.ref x0), some (.int x1), some (.int x2)] [] h = (cond (isO h x0 1) (cond (decide ((5 : Int32) ≤ (hI h x0 0))) (some (some none, h)) (cond (isO h x0 1 && (hP h x0 1).isSome) (cond (isO h x0 1) (cond (isA h ((hP h x0 1).getD 0) 0 (hI h x0 0)) (R 2 10 [some (.ref x0), some (.int x1), some (.int x2)] [] (wI h ((hP h x0 1).getD 0) ((hI h x0 0)).toNatClampNeg x1)) none) none) none)) none) := (tr (r2_0 ..) (tr (r2_1 ..) (cgT (tr (r2_2 ..) (tr (r2_3 ..) (cgB (r2_22 ..) (tr (r2_4 ..) (tr (r2_5 ..) (cgT (tr (r2_6 ..) (tr (r2_7 ..) (cgT (tr (r2_8 ..) (r2_9 ..))))))))))))))
theorem b2_10 (x0 : Nat) (x1 : Int32) (x2 : Int32) (h : A_H) : R 2 10 [some (.ref x0), some (.int x1), some (.int x2)] [] h = (cond (isO h x0 1 && (hP h x0 2).isSome) (cond (isO h x0 1) (cond (isA h ((hP h x0 2).getD 0) 0 (hI h x0 0)) (R 2 16 [some (.ref x0), some (.int x1), some (.int x2)] [] (wI h ((hP h x0 2).getD 0) ((hI h x0 0)).toNatClampNeg x2)) none) none) none) := (tr (r2_10 ..) (tr (r2_11 ..) (cgT (tr (r2_12 ..) (tr (r2_13 ..) (cgT (tr (r2_14 ..) (r2_15 ..))))))))
theorem b2_16 (x0 : Nat) (x1 : Int32) (x2 : Int32) (h : A_H) : R 2 16 [some (.ref x0), some (.int x1), some (.int x2)] [] h = (cond (isO h x0 1) (cond (isO h x0 1) (R 2 22 [some (.ref x0), some (.int x1), some (.int x2)] [] (wI h x0 0 ((hI h x0 0) + (1 : Int32)))) none) none) := (tr (r2_16 ..) (tr (r2_17 ..) (tr (r2_18 ..) (cgT (tr (r2_19 ..) (tr (r2_20 ..) (r2_21 ..)))))))
theorem b2_22 (x0 : Nat) (x1 : Int32) (x2 : Int32) (h : A_H) : R 2 22 [some (.ref x0), some (.int x1), some (.int x2)] [] h = (some (some none, h)) := (r2_22 ..)
theorem e3 (x0 : Nat) (x1 : Nat) (h : A_H) : C 3 [.ref x0, .ref x1] h = R 3 0 [some (.ref x0), some (.ref x1), none, none] [] h := rfl
theorem r3_0 (ls : A_V) (st : List Value) (h : A_H) : R 3 0 ls st h = a_do a_nL R R 3 (s_aldl 0 1 ls st h) := a_R_eq ..
theorem r3_1 (ls : A_V) (st : List Value) (h : A_H) : R 3 1 ls st h = a_do a_nL R R 3 (s_aldl 1 2 ls st h) := a_R_eq ..
theorem r3_2 (ls : A_V) (st : List Value) (h : A_H) : R 3 2 ls st h = a_do a_nL R R 3 (s_call 4 5 2 3 false 3 ls st h) := a_R_eq ..
theorem r3_3 (ls : A_V) (st : List Value) (h : A_H) : R 3 3 ls st h = a_do a_nL R R 3 (s_push (.int 0) 4 ls st h) := a_R_eq ..
theorem r3_4 (ls : A_V) (st : List Value) (h : A_H) : R 3 4 ls st h = a_do a_nL R R 3 (s_ist 2 5 ls st h) := a_R_eq ..
theorem r3_5 (ls : A_V) (st : List Value) (h : A_H) : R 3 5 ls st h = a_do a_nL R R 3 (s_push (.int 0) 6 ls st h) := a_R_eq ..
theorem r3_6 (ls : A_V) (st : List Value) (h : A_H) : R 3 6 ls st h = a_do a_nL R R 3 (s_ist 3 7 ls st h) := a_R_eq ..
theorem r3_7 (ls : A_V) (st : List Value) (h : A_H) : R 3 7 ls st h = a_do a_nL R R 3 (s_ildl 3 8 ls st h) := a_R_eq ..
theorem r3_8 (ls : A_V) (st : List Value) (h : A_H) : R 3 8 ls st h = a_do a_nL R R 3 (s_push (.int 1) 9 ls st h) := a_R_eq ..
theorem r3_9 (ls : A_V) (st : List Value) (h : A_H) : R 3 9 ls st h = a_do a_nL R R 3 (s_push (.int 2) 10 ls st h) := a_R_eq ..
theorem r3_10 (ls : A_V) (st : List Value) (h : A_H) : R 3 10 ls st h = a_do a_nL R R 3 (s_aldl 0 11 ls st h) := a_R_eq ..
theorem r3_11 (ls : A_V) (st : List Value) (h : A_H) : R 3 11 ls st h = a_do a_nL R R 3 (s_getI 1 0 12 ls st h) := a_R_eq ..
theorem r3_12 (ls : A_V) (st : List Value) (h : A_H) : R 3 12 ls st h = a_do a_nL R R 3 (s_bi (fun x y => x * y) 13 ls st h) := a_R_eq ..
theorem r3_13 (ls : A_V) (st : List Value) (h : A_H) : R 3 13 ls st h = a_do a_nL R R 3 (s_bi (fun x y => x <<< (y &&& 31)) 14 ls st h) := a_R_eq ..
theorem r3_14 (ls : A_V) (st : List Value) (h : A_H) : R 3 14 ls st h = a_do a_nL R R 3 (s_if2 (fun x y => decide (y ≤ x)) 22 15 ls st h) := a_R_eq ..
theorem r3_15 (ls : A_V) (st : List Value) (h : A_H) : R 3 15 ls st h = a_do a_nL R R 3 (s_aldl 0 16 ls st h) := a_R_eq ..
theorem r3_16 (ls : A_V) (st : List Value) (h : A_H) : R 3 16 ls st h = a_do a_nL R R 3 (s_ildl 3 17 ls st h) := a_R_eq ..
theorem r3_17 (ls : A_V) (st : List Value) (h : A_H) : R 3 17 ls st h = a_do a_nL R R 3 (s_call 4 7 2 5 true 18 ls st h) := a_R_eq ..
theorem r3_18 (ls : A_V) (st : List Value) (h : A_H) : R 3 18 ls st h = a_do a_nL R R 3 (s_if1 (fun x => decide (x = 0)) 20 19 ls st h) := a_R_eq ..
theorem r3_19 (ls : A_V) (st : List Value) (h : A_H) : R 3 19 ls st h = a_do a_nL R R 3 (s_inc 2 1 20 ls st h) := a_R_eq ..
theorem r3_20 (ls : A_V) (st : List Value) (h : A_H) : R 3 20 ls st h = a_do a_nL R R 3 (s_inc 3 1 21 ls st h) := a_R_eq ..
theorem r3_21 (ls : A_V) (st : List Value) (h : A_H) : R 3 21 ls st h = a_do a_nL R R 3 (s_goto 7 ls st h) := a_R_eq ..
theorem r3_22 (ls : A_V) (st : List Value) (h : A_H) : R 3 22 ls st h = a_do a_nL R R 3 (s_ildl 2 23 ls st h) := a_R_eq ..
theorem r3_23 (ls : A_V) (st : List Value) (h : A_H) : R 3 23 ls st h = a_do a_nL R R 3 (s_iret ls st h) := a_R_eq ..
theorem b3_0 (x0 : Nat) (x1 : Nat) (l2 : Option Value) (l3 : Option Value) (h : A_H) : R 3 0 [some (.ref x0), some (.ref x1), l2, l3] [] h = (cond (isO h x0 1) (a_back R 3 (5, [.ref x0, .ref x1], h, false, none, 3, [some (.ref x0), some (.ref x1), l2, l3], []) (C 5 [.ref x0, .ref x1] h)) none) := (tr (r3_0 ..) (tr (r3_1 ..) (r3_2 ..)))
theorem b3_3 (x0 : Nat) (x1 : Nat) (l2 : Option Value) (l3 : Option Value) (h : A_H) : R 3 3 [some (.ref x0), some (.ref x1), l2, l3] [] h = (R 3 7 [some (.ref x0), some (.ref x1), some (.int (0 : Int32)), some (.int (0 : Int32))] [] h) := (tr (r3_3 ..) (tr (r3_4 ..) (tr (r3_5 ..) (r3_6 ..))))
theorem b3_7 (x0 : Nat) (x1 : Nat) (x2 : Int32) (x3 : Int32) (h : A_H) : R 3 7 [some (.ref x0), some (.ref x1), some (.int x2), some (.int x3)] [] h = (cond (isO h x0 1) (cond (decide (((1 : Int32) <<< (((2 : Int32) * (hI h x0 0)) &&& 31)) ≤ x3)) (some (some (some (.int x2)), h)) (cond (isO h x0 1) (a_back R 3 (7, [.ref x0, .int x3], h, true, none, 18, [some (.ref x0), some (.ref x1), some (.int x2), some (.int x3)], []) (C 7 [.ref x0, .int x3] h)) none)) none) := (tr (r3_7 ..) (tr (r3_8 ..) (tr (r3_9 ..) (tr (r3_10 ..) (tr (r3_11 ..) (cgT (tr (r3_12 ..) (tr (r3_13 ..) (tr (r3_14 ..) (cgB (tr (r3_22 ..) (r3_23 ..)) (tr (r3_15 ..) (tr (r3_16 ..) (r3_17 ..)))))))))))))
theorem b3_18 (x0 : Nat) (x1 : Nat) (x2 : Int32) (x3 : Int32) (s0 : Int32) (h : A_H) : R 3 18 [some (.ref x0), some (.ref x1), some (.int x2), some (.int x3)] [.int s0] h = (cond (decide (s0 = 0)) (R 3 7 [some (.ref x0), some (.ref x1), some (.int x2), some (.int (x3 + 1))] [] h) (R 3 7 [some (.ref x0), some (.ref x1), some (.int (x2 + 1)), some (.int (x3 + 1))] [] h)) := (tr (r3_18 ..) (cgB (tr (r3_20 ..) (r3_21 ..)) (tr (r3_19 ..) (tr (r3_20 ..) (r3_21 ..)))))
theorem e4 (x0 : Nat) (x1 : Nat) (x2 : Int32) (h : A_H) : C 4 [.ref x0, .ref x1, .int x2] h = R 4 0 [some (.ref x0), some (.ref x1), some (.int x2), none, none] [] h := rfl
theorem r4_0 (ls : A_V) (st : List Value) (h : A_H) : R 4 0 ls st h = a_do a_nL R R 4 (s_aldl 0 1 ls st h) := a_R_eq ..
theorem r4_1 (ls : A_V) (st : List Value) (h : A_H) : R 4 1 ls st h = a_do a_nL R R 4 (s_aldl 1 2 ls st h) := a_R_eq ..
theorem r4_2 (ls : A_V) (st : List Value) (h : A_H) : R 4 2 ls st h = a_do a_nL R R 4 (s_call 4 5 2 3 false 3 ls st h) := a_R_eq ..
theorem r4_3 (ls : A_V) (st : List Value) (h : A_H) : R 4 3 ls st h = a_do a_nL R R 4 (s_push (.int 0) 4 ls st h) := a_R_eq ..
theorem r4_4 (ls : A_V) (st : List Value) (h : A_H) : R 4 4 ls st h = a_do a_nL R R 4 (s_ist 3 5 ls st h) := a_R_eq ..
theorem r4_5 (ls : A_V) (st : List Value) (h : A_H) : R 4 5 ls st h = a_do a_nL R R 4 (s_push (.int 0) 6 ls st h) := a_R_eq ..
theorem r4_6 (ls : A_V) (st : List Value) (h : A_H) : R 4 6 ls st h = a_do a_nL R R 4 (s_ist 4 7 ls st h) := a_R_eq ..
theorem r4_7 (ls : A_V) (st : List Value) (h : A_H) : R 4 7 ls st h = a_do a_nL R R 4 (s_ildl 4 8 ls st h) := a_R_eq ..
theorem r4_8 (ls : A_V) (st : List Value) (h : A_H) : R 4 8 ls st h = a_do a_nL R R 4 (s_push (.int 1) 9 ls st h) := a_R_eq ..
theorem r4_9 (ls : A_V) (st : List Value) (h : A_H) : R 4 9 ls st h = a_do a_nL R R 4 (s_push (.int 2) 10 ls st h) := a_R_eq ..
theorem r4_10 (ls : A_V) (st : List Value) (h : A_H) : R 4 10 ls st h = a_do a_nL R R 4 (s_aldl 0 11 ls st h) := a_R_eq ..
theorem r4_11 (ls : A_V) (st : List Value) (h : A_H) : R 4 11 ls st h = a_do a_nL R R 4 (s_getI 1 0 12 ls st h) := a_R_eq ..
theorem r4_12 (ls : A_V) (st : List Value) (h : A_H) : R 4 12 ls st h = a_do a_nL R R 4 (s_bi (fun x y => x * y) 13 ls st h) := a_R_eq ..
theorem r4_13 (ls : A_V) (st : List Value) (h : A_H) : R 4 13 ls st h = a_do a_nL R R 4 (s_bi (fun x y => x <<< (y &&& 31)) 14 ls st h) := a_R_eq ..
theorem r4_14 (ls : A_V) (st : List Value) (h : A_H) : R 4 14 ls st h = a_do a_nL R R 4 (s_if2 (fun x y => decide (y ≤ x)) 29 15 ls st h) := a_R_eq ..
theorem r4_15 (ls : A_V) (st : List Value) (h : A_H) : R 4 15 ls st h = a_do a_nL R R 4 (s_aldl 0 16 ls st h) := a_R_eq ..
theorem r4_16 (ls : A_V) (st : List Value) (h : A_H) : R 4 16 ls st h = a_do a_nL R R 4 (s_ildl 4 17 ls st h) := a_R_eq ..
theorem r4_17 (ls : A_V) (st : List Value) (h : A_H) : R 4 17 ls st h = a_do a_nL R R 4 (s_call 4 7 2 5 true 18 ls st h) := a_R_eq ..
theorem r4_18 (ls : A_V) (st : List Value) (h : A_H) : R 4 18 ls st h = a_do a_nL R R 4 (s_if1 (fun x => decide (x = 0)) 27 19 ls st h) := a_R_eq ..
theorem r4_19 (ls : A_V) (st : List Value) (h : A_H) : R 4 19 ls st h = a_do a_nL R R 4 (s_ildl 3 20 ls st h) := a_R_eq ..
theorem r4_20 (ls : A_V) (st : List Value) (h : A_H) : R 4 20 ls st h = a_do a_nL R R 4 (s_push (.int 1) 21 ls st h) := a_R_eq ..
theorem r4_21 (ls : A_V) (st : List Value) (h : A_H) : R 4 21 ls st h = a_do a_nL R R 4 (s_ildl 4 22 ls st h) := a_R_eq ..
theorem r4_22 (ls : A_V) (st : List Value) (h : A_H) : R 4 22 ls st h = a_do a_nL R R 4 (s_ildl 2 23 ls st h) := a_R_eq ..
theorem r4_23 (ls : A_V) (st : List Value) (h : A_H) : R 4 23 ls st h = a_do a_nL R R 4 (s_call 0 6 2 2 true 24 ls st h) := a_R_eq ..
theorem r4_24 (ls : A_V) (st : List Value) (h : A_H) : R 4 24 ls st h = a_do a_nL R R 4 (s_bi (fun x y => x <<< (y &&& 31)) 25 ls st h) := a_R_eq ..
theorem r4_25 (ls : A_V) (st : List Value) (h : A_H) : R 4 25 ls st h = a_do a_nL R R 4 (s_bi (fun x y => x ||| y) 26 ls st h) := a_R_eq ..
theorem r4_26 (ls : A_V) (st : List Value) (h : A_H) : R 4 26 ls st h = a_do a_nL R R 4 (s_ist 3 27 ls st h) := a_R_eq ..
theorem r4_27 (ls : A_V) (st : List Value) (h : A_H) : R 4 27 ls st h = a_do a_nL R R 4 (s_inc 4 1 28 ls st h) := a_R_eq ..
theorem r4_28 (ls : A_V) (st : List Value) (h : A_H) : R 4 28 ls st h = a_do a_nL R R 4 (s_goto 7 ls st h) := a_R_eq ..
theorem r4_29 (ls : A_V) (st : List Value) (h : A_H) : R 4 29 ls st h = a_do a_nL R R 4 (s_ildl 3 30 ls st h) := a_R_eq ..
theorem r4_30 (ls : A_V) (st : List Value) (h : A_H) : R 4 30 ls st h = a_do a_nL R R 4 (s_iret ls st h) := a_R_eq ..
theorem b4_0 (x0 : Nat) (x1 : Nat) (x2 : Int32) (l3 : Option Value) (l4 : Option Value) (h : A_H) : R 4 0 [some (.ref x0), some (.ref x1), some (.int x2), l3, l4] [] h = (cond (isO h x0 1) (a_back R 4 (5, [.ref x0, .ref x1], h, false, none, 3, [some (.ref x0), some (.ref x1), some (.int x2), l3, l4], []) (C 5 [.ref x0, .ref x1] h)) none) := (tr (r4_0 ..) (tr (r4_1 ..) (r4_2 ..)))
theorem b4_3 (x0 : Nat) (x1 : Nat) (x2 : Int32) (l3 : Option Value) (l4 : Option Value) (h : A_H) : R 4 3 [some (.ref x0), some (.ref x1), some (.int x2), l3, l4] [] h = (R 4 7 [some (.ref x0), some (.ref x1), some (.int x2), some (.int (0 : Int32)), some (.int (0 : Int32))] [] h) := (tr (r4_3 ..) (tr (r4_4 ..) (tr (r4_5 ..) (r4_6 ..))))
theorem b4_7 (x0 : Nat) (x1 : Nat) (x2 : Int32) (x3 : Int32) (x4 : Int32) (h : A_H) : R 4 7 [some (.ref x0), some (.ref x1), some (.int x2), some (.int x3), some (.int x4)] [] h = (cond (isO h x0 1) (cond (decide (((1 : Int32) <<< (((2 : Int32) * (hI h x0 0)) &&& 31)) ≤ x4)) (some (some (some (.int x3)), h)) (cond (isO h x0 1) (a_back R 4 (7, [.ref x0, .int x4], h, true, none, 18, [some (.ref x0), some (.ref x1), some (.int x2), some (.int x3), some (.int x4)], []) (C 7 [.ref x0, .int x4] h)) none)) none) := (tr (r4_7 ..) (tr (r4_8 ..) (tr (r4_9 ..) (tr (r4_10 ..) (tr (r4_11 ..) (cgT (tr (r4_12 ..) (tr (r4_13 ..) (tr (r4_14 ..) (cgB (tr (r4_29 ..) (r4_30 ..)) (tr (r4_15 ..) (tr (r4_16 ..) (r4_17 ..)))))))))))))
theorem b4_18 (x0 : Nat) (x1 : Nat) (x2 : Int32) (x3 : Int32) (x4 : Int32) (s0 : Int32) (h : A_H) : R 4 18 [some (.ref x0), some (.ref x1), some (.int x2), some (.int x3), some (.int x4)] [.int s0] h = (cond (decide (s0 = 0)) (R 4 7 [some (.ref x0), some (.ref x1), some (.int x2), some (.int x3), some (.int (x4 + 1))] [] h) (a_back R 4 (6, [.int x4, .int x2], h, true, none, 24, [some (.ref x0), some (.ref x1), some (.int x2), some (.int x3), some (.int x4)], [.int (1 : Int32), .int x3]) (C 6 [.int x4, .int x2] h))) := (tr (r4_18 ..) (cgB (tr (r4_27 ..) (r4_28 ..)) (tr (r4_19 ..) (tr (r4_20 ..) (tr (r4_21 ..) (tr (r4_22 ..) (r4_23 ..)))))))
theorem b4_24 (x0 : Nat) (x1 : Nat) (x2 : Int32) (x3 : Int32) (x4 : Int32) (s0 : Int32) (s1 : Int32) (s2 : Int32) (h : A_H) : R 4 24 [some (.ref x0), some (.ref x1), some (.int x2), some (.int x3), some (.int x4)] [.int s2, .int s1, .int s0] h = (R 4 7 [some (.ref x0), some (.ref x1), some (.int x2), some (.int (s0 ||| (s1 <<< (s2 &&& 31)))), some (.int (x4 + 1))] [] h) := (tr (r4_24 ..) (tr (r4_25 ..) (tr (r4_26 ..) (tr (r4_27 ..) (r4_28 ..)))))
theorem e5 (x0 : Nat) (x1 : Nat) (h : A_H) : C 5 [.ref x0, .ref x1] h = R 5 0 [some (.ref x0), some (.ref x1), none] [] h := rfl
theorem r5_0 (ls : A_V) (st : List Value) (h : A_H) : R 5 0 ls st h = a_do a_nL R R 5 (s_push (.int 0) 1 ls st h) := a_R_eq ..
theorem r5_1 (ls : A_V) (st : List Value) (h : A_H) : R 5 1 ls st h = a_do a_nL R R 5 (s_ist 2 2 ls st h) := a_R_eq ..
theorem r5_2 (ls : A_V) (st : List Value) (h : A_H) : R 5 2 ls st h = a_do a_nL R R 5 (s_ildl 2 3 ls st h) := a_R_eq ..
theorem r5_3 (ls : A_V) (st : List Value) (h : A_H) : R 5 3 ls st h = a_do a_nL R R 5 (s_aldl 0 4 ls st h) := a_R_eq ..
theorem r5_4 (ls : A_V) (st : List Value) (h : A_H) : R 5 4 ls st h = a_do a_nL R R 5 (s_getI 1 0 5 ls st h) := a_R_eq ..
theorem r5_5 (ls : A_V) (st : List Value) (h : A_H) : R 5 5 ls st h = a_do a_nL R R 5 (s_if2 (fun x y => decide (y ≤ x)) 22 6 ls st h) := a_R_eq ..
theorem r5_6 (ls : A_V) (st : List Value) (h : A_H) : R 5 6 ls st h = a_do a_nL R R 5 (s_aldl 0 7 ls st h) := a_R_eq ..
theorem r5_7 (ls : A_V) (st : List Value) (h : A_H) : R 5 7 ls st h = a_do a_nL R R 5 (s_getR 1 3 8 ls st h) := a_R_eq ..
theorem r5_8 (ls : A_V) (st : List Value) (h : A_H) : R 5 8 ls st h = a_do a_nL R R 5 (s_ildl 2 9 ls st h) := a_R_eq ..
theorem r5_9 (ls : A_V) (st : List Value) (h : A_H) : R 5 9 ls st h = a_do a_nL R R 5 (s_aldl 1 10 ls st h) := a_R_eq ..
theorem r5_10 (ls : A_V) (st : List Value) (h : A_H) : R 5 10 ls st h = a_do a_nL R R 5 (s_aldl 0 11 ls st h) := a_R_eq ..
theorem r5_11 (ls : A_V) (st : List Value) (h : A_H) : R 5 11 ls st h = a_do a_nL R R 5 (s_getR 1 1 12 ls st h) := a_R_eq ..
theorem r5_12 (ls : A_V) (st : List Value) (h : A_H) : R 5 12 ls st h = a_do a_nL R R 5 (s_ildl 2 13 ls st h) := a_R_eq ..
theorem r5_13 (ls : A_V) (st : List Value) (h : A_H) : R 5 13 ls st h = a_do a_nL R R 5 (s_ial 0 14 ls st h) := a_R_eq ..
theorem r5_14 (ls : A_V) (st : List Value) (h : A_H) : R 5 14 ls st h = a_do a_nL R R 5 (s_aldl 0 15 ls st h) := a_R_eq ..
theorem r5_15 (ls : A_V) (st : List Value) (h : A_H) : R 5 15 ls st h = a_do a_nL R R 5 (s_getR 1 2 16 ls st h) := a_R_eq ..
theorem r5_16 (ls : A_V) (st : List Value) (h : A_H) : R 5 16 ls st h = a_do a_nL R R 5 (s_ildl 2 17 ls st h) := a_R_eq ..
theorem r5_17 (ls : A_V) (st : List Value) (h : A_H) : R 5 17 ls st h = a_do a_nL R R 5 (s_ial 0 18 ls st h) := a_R_eq ..
theorem r5_18 (ls : A_V) (st : List Value) (h : A_H) : R 5 18 ls st h = a_do a_nL R R 5 (s_call 12 66 3 5 true 19 ls st h) := a_R_eq ..
theorem r5_19 (ls : A_V) (st : List Value) (h : A_H) : R 5 19 ls st h = a_do a_nL R R 5 (s_ias 20 ls st h) := a_R_eq ..
theorem r5_20 (ls : A_V) (st : List Value) (h : A_H) : R 5 20 ls st h = a_do a_nL R R 5 (s_inc 2 1 21 ls st h) := a_R_eq ..
theorem r5_21 (ls : A_V) (st : List Value) (h : A_H) : R 5 21 ls st h = a_do a_nL R R 5 (s_goto 2 ls st h) := a_R_eq ..
theorem r5_22 (ls : A_V) (st : List Value) (h : A_H) : R 5 22 ls st h = a_do a_nL R R 5 (s_vret ls st h) := a_R_eq ..
theorem b5_0 (x0 : Nat) (x1 : Nat) (l2 : Option Value) (h : A_H) : R 5 0 [some (.ref x0), some (.ref x1), l2] [] h = (R 5 2 [some (.ref x0), some (.ref x1), some (.int (0 : Int32))] [] h) := (tr (r5_0 ..) (r5_1 ..))
theorem b5_2 (x0 : Nat) (x1 : Nat) (x2 : Int32) (h : A_H) : R 5 2 [some (.ref x0), some (.ref x1), some (.int x2)] [] h = (cond (isO h x0 1) (cond (decide ((hI h x0 0) ≤ x2)) (some (some none, h)) (cond (isO h x0 1 && (hP h x0 3).isSome) (cond (isO h x0 1 && (hP h x0 1).isSome) (cond (isA h ((hP h x0 1).getD 0) 0 x2) (cond (isO h x0 1 && (hP h x0 2).isSome) (cond (isA h ((hP h x0 2).getD 0) 0 x2) (cond (isO h x1 9) (a_back R 5 (66, [.ref x1, .int (hI h ((hP h x0 1).getD 0) (x2).toNatClampNeg), .int (hI h ((hP h x0 2).getD 0) (x2).toNatClampNeg)], h, true, none, 19, [some (.ref x0), some (.ref x1), some (.int x2)], [.int x2, .ref ((hP h x0 3).getD 0)]) (C 66 [.ref x1, .int (hI h ((hP h x0 1).getD 0) (x2).toNatClampNeg), .int (hI h ((hP h x0 2).getD 0) (x2).toNatClampNeg)] h)) none) none) none) none) none) none)) none) := (tr (r5_2 ..) (tr (r5_3 ..) (tr (r5_4 ..) (cgT (tr (r5_5 ..) (cgB (r5_22 ..) (tr (r5_6 ..) (tr (r5_7 ..) (cgT (tr (r5_8 ..) (tr (r5_9 ..) (tr (r5_10 ..) (tr (r5_11 ..) (cgT (tr (r5_12 ..) (tr (r5_13 ..) (cgT (tr (r5_14 ..) (tr (r5_15 ..) (cgT (tr (r5_16 ..) (tr (r5_17 ..) (cgT (r5_18 ..))))))))))))))))))))))))
theorem b5_19 (x0 : Nat) (x1 : Nat) (x2 : Int32) (s0 : Nat) (s1 : Int32) (s2 : Int32) (h : A_H) : R 5 19 [some (.ref x0), some (.ref x1), some (.int x2)] [.int s2, .int s1, .ref s0] h = (cond (isA h s0 0 s1) (R 5 20 [some (.ref x0), some (.ref x1), some (.int x2)] [] (wI h s0 (s1).toNatClampNeg s2)) none) := (r5_19 ..)
theorem b5_20 (x0 : Nat) (x1 : Nat) (x2 : Int32) (h : A_H) : R 5 20 [some (.ref x0), some (.ref x1), some (.int x2)] [] h = (R 5 2 [some (.ref x0), some (.ref x1), some (.int (x2 + 1))] [] h) := (tr (r5_20 ..) (r5_21 ..))
theorem e6 (x0 : Int32) (x1 : Int32) (h : A_H) : C 6 [.int x0, .int x1] h = R 6 0 [some (.int x0), some (.int x1)] [] h := rfl
theorem r6_0 (ls : A_V) (st : List Value) (h : A_H) : R 6 0 ls st h = a_do a_nL R R 6 (s_ildl 0 1 ls st h) := a_R_eq ..
theorem r6_1 (ls : A_V) (st : List Value) (h : A_H) : R 6 1 ls st h = a_do a_nL R R 6 (s_push (.int 2) 2 ls st h) := a_R_eq ..
theorem r6_2 (ls : A_V) (st : List Value) (h : A_H) : R 6 2 ls st h = a_do a_nL R R 6 (s_ildl 1 3 ls st h) := a_R_eq ..
theorem r6_3 (ls : A_V) (st : List Value) (h : A_H) : R 6 3 ls st h = a_do a_nL R R 6 (s_bi (fun x y => x * y) 4 ls st h) := a_R_eq ..
theorem r6_4 (ls : A_V) (st : List Value) (h : A_H) : R 6 4 ls st h = a_do a_nL R R 6 (s_bi (fun x y => x >>> (y &&& 31)) 5 ls st h) := a_R_eq ..
theorem r6_5 (ls : A_V) (st : List Value) (h : A_H) : R 6 5 ls st h = a_do a_nL R R 6 (s_push (.int 3) 6 ls st h) := a_R_eq ..
theorem r6_6 (ls : A_V) (st : List Value) (h : A_H) : R 6 6 ls st h = a_do a_nL R R 6 (s_bi (fun x y => x &&& y) 7 ls st h) := a_R_eq ..
theorem r6_7 (ls : A_V) (st : List Value) (h : A_H) : R 6 7 ls st h = a_do a_nL R R 6 (s_iret ls st h) := a_R_eq ..
theorem b6_0 (x0 : Int32) (x1 : Int32) (h : A_H) : R 6 0 [some (.int x0), some (.int x1)] [] h = (some (some (some (.int ((x0 >>> (((2 : Int32) * x1) &&& 31)) &&& (3 : Int32)))), h)) := (tr (r6_0 ..) (tr (r6_1 ..) (tr (r6_2 ..) (tr (r6_3 ..) (tr (r6_4 ..) (tr (r6_5 ..) (tr (r6_6 ..) (r6_7 ..))))))))
theorem e7 (x0 : Nat) (x1 : Int32) (h : A_H) : C 7 [.ref x0, .int x1] h = R 7 0 [some (.ref x0), some (.int x1), none, none, none] [] h := rfl
theorem r7_0 (ls : A_V) (st : List Value) (h : A_H) : R 7 0 ls st h = a_do a_nL R R 7 (s_push (.int 0) 1 ls st h) := a_R_eq ..
theorem r7_1 (ls : A_V) (st : List Value) (h : A_H) : R 7 1 ls st h = a_do a_nL R R 7 (s_ist 2 2 ls st h) := a_R_eq ..
theorem r7_2 (ls : A_V) (st : List Value) (h : A_H) : R 7 2 ls st h = a_do a_nL R R 7 (s_ildl 2 3 ls st h) := a_R_eq ..
theorem r7_3 (ls : A_V) (st : List Value) (h : A_H) : R 7 3 ls st h = a_do a_nL R R 7 (s_aldl 0 4 ls st h) := a_R_eq ..
theorem r7_4 (ls : A_V) (st : List Value) (h : A_H) : R 7 4 ls st h = a_do a_nL R R 7 (s_getI 1 0 5 ls st h) := a_R_eq ..
theorem r7_5 (ls : A_V) (st : List Value) (h : A_H) : R 7 5 ls st h = a_do a_nL R R 7 (s_if2 (fun x y => decide (y ≤ x)) 46 6 ls st h) := a_R_eq ..
theorem r7_6 (ls : A_V) (st : List Value) (h : A_H) : R 7 6 ls st h = a_do a_nL R R 7 (s_ildl 1 7 ls st h) := a_R_eq ..
theorem r7_7 (ls : A_V) (st : List Value) (h : A_H) : R 7 7 ls st h = a_do a_nL R R 7 (s_ildl 2 8 ls st h) := a_R_eq ..
theorem r7_8 (ls : A_V) (st : List Value) (h : A_H) : R 7 8 ls st h = a_do a_nL R R 7 (s_call 0 6 2 2 true 9 ls st h) := a_R_eq ..
theorem r7_9 (ls : A_V) (st : List Value) (h : A_H) : R 7 9 ls st h = a_do a_nL R R 7 (s_ist 3 10 ls st h) := a_R_eq ..
theorem r7_10 (ls : A_V) (st : List Value) (h : A_H) : R 7 10 ls st h = a_do a_nL R R 7 (s_aldl 0 11 ls st h) := a_R_eq ..
theorem r7_11 (ls : A_V) (st : List Value) (h : A_H) : R 7 11 ls st h = a_do a_nL R R 7 (s_getR 1 3 12 ls st h) := a_R_eq ..
theorem r7_12 (ls : A_V) (st : List Value) (h : A_H) : R 7 12 ls st h = a_do a_nL R R 7 (s_ildl 2 13 ls st h) := a_R_eq ..
theorem r7_13 (ls : A_V) (st : List Value) (h : A_H) : R 7 13 ls st h = a_do a_nL R R 7 (s_ial 0 14 ls st h) := a_R_eq ..
theorem r7_14 (ls : A_V) (st : List Value) (h : A_H) : R 7 14 ls st h = a_do a_nL R R 7 (s_ildl 3 15 ls st h) := a_R_eq ..
theorem r7_15 (ls : A_V) (st : List Value) (h : A_H) : R 7 15 ls st h = a_do a_nL R R 7 (s_bi (fun x y => x >>> (y &&& 31)) 16 ls st h) := a_R_eq ..
theorem r7_16 (ls : A_V) (st : List Value) (h : A_H) : R 7 16 ls st h = a_do a_nL R R 7 (s_push (.int 1) 17 ls st h) := a_R_eq ..
theorem r7_17 (ls : A_V) (st : List Value) (h : A_H) : R 7 17 ls st h = a_do a_nL R R 7 (s_bi (fun x y => x &&& y) 18 ls st h) := a_R_eq ..
theorem r7_18 (ls : A_V) (st : List Value) (h : A_H) : R 7 18 ls st h = a_do a_nL R R 7 (s_if1 (fun x => !decide (x = 0)) 21 19 ls st h) := a_R_eq ..
theorem r7_19 (ls : A_V) (st : List Value) (h : A_H) : R 7 19 ls st h = a_do a_nL R R 7 (s_push (.int 0) 20 ls st h) := a_R_eq ..
theorem r7_20 (ls : A_V) (st : List Value) (h : A_H) : R 7 20 ls st h = a_do a_nL R R 7 (s_zret ls st h) := a_R_eq ..
theorem r7_21 (ls : A_V) (st : List Value) (h : A_H) : R 7 21 ls st h = a_do a_nL R R 7 (s_push (.int 0) 22 ls st h) := a_R_eq ..
theorem r7_22 (ls : A_V) (st : List Value) (h : A_H) : R 7 22 ls st h = a_do a_nL R R 7 (s_ist 4 23 ls st h) := a_R_eq ..
theorem r7_23 (ls : A_V) (st : List Value) (h : A_H) : R 7 23 ls st h = a_do a_nL R R 7 (s_ildl 4 24 ls st h) := a_R_eq ..
theorem r7_24 (ls : A_V) (st : List Value) (h : A_H) : R 7 24 ls st h = a_do a_nL R R 7 (s_ildl 2 25 ls st h) := a_R_eq ..
theorem r7_25 (ls : A_V) (st : List Value) (h : A_H) : R 7 25 ls st h = a_do a_nL R R 7 (s_if2 (fun x y => decide (y ≤ x)) 44 26 ls st h) := a_R_eq ..
theorem r7_26 (ls : A_V) (st : List Value) (h : A_H) : R 7 26 ls st h = a_do a_nL R R 7 (s_aldl 0 27 ls st h) := a_R_eq ..
theorem r7_27 (ls : A_V) (st : List Value) (h : A_H) : R 7 27 ls st h = a_do a_nL R R 7 (s_getR 1 2 28 ls st h) := a_R_eq ..
theorem r7_28 (ls : A_V) (st : List Value) (h : A_H) : R 7 28 ls st h = a_do a_nL R R 7 (s_ildl 4 29 ls st h) := a_R_eq ..
theorem r7_29 (ls : A_V) (st : List Value) (h : A_H) : R 7 29 ls st h = a_do a_nL R R 7 (s_ial 0 30 ls st h) := a_R_eq ..
theorem r7_30 (ls : A_V) (st : List Value) (h : A_H) : R 7 30 ls st h = a_do a_nL R R 7 (s_aldl 0 31 ls st h) := a_R_eq ..
theorem r7_31 (ls : A_V) (st : List Value) (h : A_H) : R 7 31 ls st h = a_do a_nL R R 7 (s_getR 1 2 32 ls st h) := a_R_eq ..
theorem r7_32 (ls : A_V) (st : List Value) (h : A_H) : R 7 32 ls st h = a_do a_nL R R 7 (s_ildl 2 33 ls st h) := a_R_eq ..
theorem r7_33 (ls : A_V) (st : List Value) (h : A_H) : R 7 33 ls st h = a_do a_nL R R 7 (s_ial 0 34 ls st h) := a_R_eq ..
theorem r7_34 (ls : A_V) (st : List Value) (h : A_H) : R 7 34 ls st h = a_do a_nL R R 7 (s_if2 (fun x y => !decide (x = y)) 42 35 ls st h) := a_R_eq ..
theorem r7_35 (ls : A_V) (st : List Value) (h : A_H) : R 7 35 ls st h = a_do a_nL R R 7 (s_ildl 1 36 ls st h) := a_R_eq ..
theorem r7_36 (ls : A_V) (st : List Value) (h : A_H) : R 7 36 ls st h = a_do a_nL R R 7 (s_ildl 4 37 ls st h) := a_R_eq ..
theorem r7_37 (ls : A_V) (st : List Value) (h : A_H) : R 7 37 ls st h = a_do a_nL R R 7 (s_call 0 6 2 2 true 38 ls st h) := a_R_eq ..
theorem r7_38 (ls : A_V) (st : List Value) (h : A_H) : R 7 38 ls st h = a_do a_nL R R 7 (s_ildl 3 39 ls st h) := a_R_eq ..
theorem r7_39 (ls : A_V) (st : List Value) (h : A_H) : R 7 39 ls st h = a_do a_nL R R 7 (s_if2 (fun x y => !decide (x = y)) 42 40 ls st h) := a_R_eq ..
theorem r7_40 (ls : A_V) (st : List Value) (h : A_H) : R 7 40 ls st h = a_do a_nL R R 7 (s_push (.int 0) 41 ls st h) := a_R_eq ..
theorem r7_41 (ls : A_V) (st : List Value) (h : A_H) : R 7 41 ls st h = a_do a_nL R R 7 (s_zret ls st h) := a_R_eq ..
theorem r7_42 (ls : A_V) (st : List Value) (h : A_H) : R 7 42 ls st h = a_do a_nL R R 7 (s_inc 4 1 43 ls st h) := a_R_eq ..
theorem r7_43 (ls : A_V) (st : List Value) (h : A_H) : R 7 43 ls st h = a_do a_nL R R 7 (s_goto 23 ls st h) := a_R_eq ..
theorem r7_44 (ls : A_V) (st : List Value) (h : A_H) : R 7 44 ls st h = a_do a_nL R R 7 (s_inc 2 1 45 ls st h) := a_R_eq ..
theorem r7_45 (ls : A_V) (st : List Value) (h : A_H) : R 7 45 ls st h = a_do a_nL R R 7 (s_goto 2 ls st h) := a_R_eq ..
theorem r7_46 (ls : A_V) (st : List Value) (h : A_H) : R 7 46 ls st h = a_do a_nL R R 7 (s_push (.int 1) 47 ls st h) := a_R_eq ..
theorem r7_47 (ls : A_V) (st : List Value) (h : A_H) : R 7 47 ls st h = a_do a_nL R R 7 (s_zret ls st h) := a_R_eq ..
theorem b7_0 (x0 : Nat) (x1 : Int32) (l2 : Option Value) (l3 : Option Value) (l4 : Option Value) (h : A_H) : R 7 0 [some (.ref x0), some (.int x1), l2, l3, l4] [] h = (R 7 2 [some (.ref x0), some (.int x1), some (.int (0 : Int32)), l3, l4] [] h) := (tr (r7_0 ..) (r7_1 ..))
theorem b7_2 (x0 : Nat) (x1 : Int32) (x2 : Int32) (l3 : Option Value) (l4 : Option Value) (h : A_H) : R 7 2 [some (.ref x0), some (.int x1), some (.int x2), l3, l4] [] h = (cond (isO h x0 1) (cond (decide ((hI h x0 0) ≤ x2)) (cond (decide ((1 : Int32) = 0) || decide ((1 : Int32) = 1)) (some (some (some (.int (1 : Int32))), h)) none) (a_back R 7 (6, [.int x1, .int x2], h, true, none, 9, [some (.ref x0), some (.int x1), some (.int x2), l3, l4], []) (C 6 [.int x1, .int x2] h))) none) := (tr (r7_2 ..) (tr (r7_3 ..) (tr (r7_4 ..) (cgT (tr (r7_5 ..) (cgB (tr (r7_46 ..) (r7_47 ..)) (tr (r7_6 ..) (tr (r7_7 ..) (r7_8 ..)))))))))
theorem b7_9 (x0 : Nat) (x1 : Int32) (x2 : Int32) (l3 : Option Value) (l4 : Option Value) (s0 : Int32) (h : A_H) : R 7 9 [some (.ref x0), some (.int x1), some (.int x2), l3, l4] [.int s0] h = (cond (isO h x0 1 && (hP h x0 3).isSome) (cond (isA h ((hP h x0 3).getD 0) 0 x2) (cond (!decide ((((hI h ((hP h x0 3).getD 0) (x2).toNatClampNeg) >>> (s0 &&& 31)) &&& (1 : Int32)) = 0)) (R 7 23 [some (.ref x0), some (.int x1), some (.int x2), some (.int s0), some (.int (0 : Int32))] [] h) (cond (decide ((0 : Int32) = 0) || decide ((0 : Int32) = 1)) (some (some (some (.int (0 : Int32))), h)) none)) none) none) := (tr (r7_9 ..) (tr (r7_10 ..) (tr (r7_11 ..) (cgT (tr (r7_12 ..) (tr (r7_13 ..) (cgT (tr (r7_14 ..) (tr (r7_15 ..) (tr (r7_16 ..) (tr (r7_17 ..) (tr (r7_18 ..) (cgB (tr (r7_21 ..) (r7_22 ..)) (tr (r7_19 ..) (r7_20 ..)))))))))))))))
theorem b7_23 (x0 : Nat) (x1 : Int32) (x2 : Int32) (x3 : Int32) (x4 : Int32) (h : A_H) : R 7 23 [some (.ref x0), some (.int x1), some (.int x2), some (.int x3), some (.int x4)] [] h = (cond (decide (x2 ≤ x4)) (R 7 2 [some (.ref x0), some (.int x1), some (.int (x2 + 1)), some (.int x3), some (.int x4)] [] h) (cond (isO h x0 1 && (hP h x0 2).isSome) (cond (isA h ((hP h x0 2).getD 0) 0 x4) (cond (isO h x0 1 && (hP h x0 2).isSome) (cond (isA h ((hP h x0 2).getD 0) 0 x2) (cond (!decide ((hI h ((hP h x0 2).getD 0) (x4).toNatClampNeg) = (hI h ((hP h x0 2).getD 0) (x2).toNatClampNeg))) (R 7 23 [some (.ref x0), some (.int x1), some (.int x2), some (.int x3), some (.int (x4 + 1))] [] h) (a_back R 7 (6, [.int x1, .int x4], h, true, none, 38, [some (.ref x0), some (.int x1), some (.int x2), some (.int x3), some (.int x4)], []) (C 6 [.int x1, .int x4] h))) none) none) none) none)) := (tr (r7_23 ..) (tr (r7_24 ..) (tr (r7_25 ..) (cgB (tr (r7_44 ..) (r7_45 ..)) (tr (r7_26 ..) (tr (r7_27 ..) (cgT (tr (r7_28 ..) (tr (r7_29 ..) (cgT (tr (r7_30 ..) (tr (r7_31 ..) (cgT (tr (r7_32 ..) (tr (r7_33 ..) (cgT (tr (r7_34 ..) (cgB (tr (r7_42 ..) (r7_43 ..)) (tr (r7_35 ..) (tr (r7_36 ..) (r7_37 ..)))))))))))))))))))))
theorem b7_38 (x0 : Nat) (x1 : Int32) (x2 : Int32) (x3 : Int32) (x4 : Int32) (s0 : Int32) (h : A_H) : R 7 38 [some (.ref x0), some (.int x1), some (.int x2), some (.int x3), some (.int x4)] [.int s0] h = (cond (!decide (s0 = x3)) (R 7 23 [some (.ref x0), some (.int x1), some (.int x2), some (.int x3), some (.int (x4 + 1))] [] h) (cond (decide ((0 : Int32) = 0) || decide ((0 : Int32) = 1)) (some (some (some (.int (0 : Int32))), h)) none)) := (tr (r7_38 ..) (tr (r7_39 ..) (cgB (tr (r7_42 ..) (r7_43 ..)) (tr (r7_40 ..) (r7_41 ..)))))
theorem e8 (x0 : Nat) (h : A_H) : C 8 [.ref x0] h = R 8 0 [some (.ref x0)] [] h := rfl
theorem r8_0 (ls : A_V) (st : List Value) (h : A_H) : R 8 0 ls st h = a_do a_nL R R 8 (s_aldl 0 1 ls st h) := a_R_eq ..
theorem r8_1 (ls : A_V) (st : List Value) (h : A_H) : R 8 1 ls st h = a_do a_nL R R 8 (s_oi 2 ls st h) := a_R_eq ..
theorem r8_2 (ls : A_V) (st : List Value) (h : A_H) : R 8 2 ls st h = a_do a_nL R R 8 (s_vret ls st h) := a_R_eq ..
theorem b8_0 (x0 : Nat) (h : A_H) : R 8 0 [some (.ref x0)] [] h = (some (some none, h)) := (tr (r8_0 ..) (tr (r8_1 ..) (r8_2 ..)))
theorem e9 (x0 : Nat) (h : A_H) : C 9 [.ref x0] h = R 9 0 [some (.ref x0)] [] h := rfl
theorem r9_0 (ls : A_V) (st : List Value) (h : A_H) : R 9 0 ls st h = a_do a_nL R R 9 (s_aldl 0 1 ls st h) := a_R_eq ..
theorem r9_1 (ls : A_V) (st : List Value) (h : A_H) : R 9 1 ls st h = a_do a_nL R R 9 (s_oi 2 ls st h) := a_R_eq ..
theorem r9_2 (ls : A_V) (st : List Value) (h : A_H) : R 9 2 ls st h = a_do a_nL R R 9 (s_vret ls st h) := a_R_eq ..
theorem b9_0 (x0 : Nat) (h : A_H) : R 9 0 [some (.ref x0)] [] h = (some (some none, h)) := (tr (r9_0 ..) (tr (r9_1 ..) (r9_2 ..)))
theorem e10 (x0 : Nat) (h : A_H) : C 10 [.ref x0] h = R 10 0 [some (.ref x0), none] [] h := rfl
theorem r10_0 (ls : A_V) (st : List Value) (h : A_H) : R 10 0 ls st h = a_do a_nL R R 10 (s_aldl 0 1 ls st h) := a_R_eq ..
theorem r10_1 (ls : A_V) (st : List Value) (h : A_H) : R 10 1 ls st h = a_do a_nL R R 10 (s_oi 2 ls st h) := a_R_eq ..
theorem r10_2 (ls : A_V) (st : List Value) (h : A_H) : R 10 2 ls st h = a_do a_nL R R 10 (s_aldl 0 3 ls st h) := a_R_eq ..
theorem r10_3 (ls : A_V) (st : List Value) (h : A_H) : R 10 3 ls st h = a_do a_nL R R 10 (s_push (.int 16) 4 ls st h) := a_R_eq ..
theorem r10_4 (ls : A_V) (st : List Value) (h : A_H) : R 10 4 ls st h = a_do a_nL R R 10 (s_nar 8 5 ls st h) := a_R_eq ..
theorem r10_5 (ls : A_V) (st : List Value) (h : A_H) : R 10 5 ls st h = a_do a_nL R R 10 (s_putR 4 0 6 ls st h) := a_R_eq ..
theorem r10_6 (ls : A_V) (st : List Value) (h : A_H) : R 10 6 ls st h = a_do a_nL R R 10 (s_aldl 0 7 ls st h) := a_R_eq ..
theorem r10_7 (ls : A_V) (st : List Value) (h : A_H) : R 10 7 ls st h = a_do a_nL R R 10 (s_push (.int 3) 8 ls st h) := a_R_eq ..
theorem r10_8 (ls : A_V) (st : List Value) (h : A_H) : R 10 8 ls st h = a_do a_nL R R 10 (s_nar 8 9 ls st h) := a_R_eq ..
theorem r10_9 (ls : A_V) (st : List Value) (h : A_H) : R 10 9 ls st h = a_do a_nL R R 10 (s_putR 4 3 10 ls st h) := a_R_eq ..
theorem r10_10 (ls : A_V) (st : List Value) (h : A_H) : R 10 10 ls st h = a_do a_nL R R 10 (s_push (.int 0) 11 ls st h) := a_R_eq ..
theorem r10_11 (ls : A_V) (st : List Value) (h : A_H) : R 10 11 ls st h = a_do a_nL R R 10 (s_ist 1 12 ls st h) := a_R_eq ..
theorem r10_12 (ls : A_V) (st : List Value) (h : A_H) : R 10 12 ls st h = a_do a_nL R R 10 (s_ildl 1 13 ls st h) := a_R_eq ..
theorem r10_13 (ls : A_V) (st : List Value) (h : A_H) : R 10 13 ls st h = a_do a_nL R R 10 (s_push (.int 16) 14 ls st h) := a_R_eq ..
theorem r10_14 (ls : A_V) (st : List Value) (h : A_H) : R 10 14 ls st h = a_do a_nL R R 10 (s_if2 (fun x y => decide (y ≤ x)) 24 15 ls st h) := a_R_eq ..
theorem r10_15 (ls : A_V) (st : List Value) (h : A_H) : R 10 15 ls st h = a_do a_nL R R 10 (s_aldl 0 16 ls st h) := a_R_eq ..
theorem r10_16 (ls : A_V) (st : List Value) (h : A_H) : R 10 16 ls st h = a_do a_nL R R 10 (s_getR 4 0 17 ls st h) := a_R_eq ..
theorem r10_17 (ls : A_V) (st : List Value) (h : A_H) : R 10 17 ls st h = a_do a_nL R R 10 (s_ildl 1 18 ls st h) := a_R_eq ..
theorem r10_18 (ls : A_V) (st : List Value) (h : A_H) : R 10 18 ls st h = a_do a_nL R R 10 (s_new 8 6 19 ls st h) := a_R_eq ..
theorem r10_19 (ls : A_V) (st : List Value) (h : A_H) : R 10 19 ls st h = a_do a_nL R R 10 (s_dup 20 ls st h) := a_R_eq ..
theorem r10_20 (ls : A_V) (st : List Value) (h : A_H) : R 10 20 ls st h = a_do a_nL R R 10 (s_call 1 48 1 1 false 21 ls st h) := a_R_eq ..
theorem r10_21 (ls : A_V) (st : List Value) (h : A_H) : R 10 21 ls st h = a_do a_nL R R 10 (s_aas 8 8 22 ls st h) := a_R_eq ..
theorem r10_22 (ls : A_V) (st : List Value) (h : A_H) : R 10 22 ls st h = a_do a_nL R R 10 (s_inc 1 1 23 ls st h) := a_R_eq ..
theorem r10_23 (ls : A_V) (st : List Value) (h : A_H) : R 10 23 ls st h = a_do a_nL R R 10 (s_goto 12 ls st h) := a_R_eq ..
theorem r10_24 (ls : A_V) (st : List Value) (h : A_H) : R 10 24 ls st h = a_do a_nL R R 10 (s_push (.int 0) 25 ls st h) := a_R_eq ..
theorem r10_25 (ls : A_V) (st : List Value) (h : A_H) : R 10 25 ls st h = a_do a_nL R R 10 (s_ist 1 26 ls st h) := a_R_eq ..
theorem r10_26 (ls : A_V) (st : List Value) (h : A_H) : R 10 26 ls st h = a_do a_nL R R 10 (s_ildl 1 27 ls st h) := a_R_eq ..
theorem r10_27 (ls : A_V) (st : List Value) (h : A_H) : R 10 27 ls st h = a_do a_nL R R 10 (s_push (.int 3) 28 ls st h) := a_R_eq ..
theorem r10_28 (ls : A_V) (st : List Value) (h : A_H) : R 10 28 ls st h = a_do a_nL R R 10 (s_if2 (fun x y => decide (y ≤ x)) 38 29 ls st h) := a_R_eq ..
theorem r10_29 (ls : A_V) (st : List Value) (h : A_H) : R 10 29 ls st h = a_do a_nL R R 10 (s_aldl 0 30 ls st h) := a_R_eq ..
theorem r10_30 (ls : A_V) (st : List Value) (h : A_H) : R 10 30 ls st h = a_do a_nL R R 10 (s_getR 4 3 31 ls st h) := a_R_eq ..
theorem r10_31 (ls : A_V) (st : List Value) (h : A_H) : R 10 31 ls st h = a_do a_nL R R 10 (s_ildl 1 32 ls st h) := a_R_eq ..
theorem r10_32 (ls : A_V) (st : List Value) (h : A_H) : R 10 32 ls st h = a_do a_nL R R 10 (s_new 8 6 33 ls st h) := a_R_eq ..
theorem r10_33 (ls : A_V) (st : List Value) (h : A_H) : R 10 33 ls st h = a_do a_nL R R 10 (s_dup 34 ls st h) := a_R_eq ..
theorem r10_34 (ls : A_V) (st : List Value) (h : A_H) : R 10 34 ls st h = a_do a_nL R R 10 (s_call 1 48 1 1 false 35 ls st h) := a_R_eq ..
theorem r10_35 (ls : A_V) (st : List Value) (h : A_H) : R 10 35 ls st h = a_do a_nL R R 10 (s_aas 8 8 36 ls st h) := a_R_eq ..
theorem r10_36 (ls : A_V) (st : List Value) (h : A_H) : R 10 36 ls st h = a_do a_nL R R 10 (s_inc 1 1 37 ls st h) := a_R_eq ..
theorem r10_37 (ls : A_V) (st : List Value) (h : A_H) : R 10 37 ls st h = a_do a_nL R R 10 (s_goto 26 ls st h) := a_R_eq ..
theorem r10_38 (ls : A_V) (st : List Value) (h : A_H) : R 10 38 ls st h = a_do a_nL R R 10 (s_vret ls st h) := a_R_eq ..
theorem b10_0 (x0 : Nat) (l1 : Option Value) (h : A_H) : R 10 0 [some (.ref x0), l1] [] h = (R 10 5 [some (.ref x0), l1] [.ref (hn h), .ref x0] (nw h 108 16 16)) := (tr (r10_0 ..) (tr (r10_1 ..) (tr (r10_2 ..) (tr (r10_3 ..) (r10_4 ..)))))
theorem b10_5 (x0 : Nat) (l1 : Option Value) (s0 : Nat) (s1 : Nat) (h : A_H) : R 10 5 [some (.ref x0), l1] [.ref s1, .ref s0] h = (cond (isO h s0 4) (R 10 6 [some (.ref x0), l1] [] (wP h s0 0 (some s1))) none) := (r10_5 ..)
theorem b10_6 (x0 : Nat) (l1 : Option Value) (h : A_H) : R 10 6 [some (.ref x0), l1] [] h = (R 10 9 [some (.ref x0), l1] [.ref (hn h), .ref x0] (nw h 108 3 3)) := (tr (r10_6 ..) (tr (r10_7 ..) (r10_8 ..)))
theorem b10_9 (x0 : Nat) (l1 : Option Value) (s0 : Nat) (s1 : Nat) (h : A_H) : R 10 9 [some (.ref x0), l1] [.ref s1, .ref s0] h = (cond (isO h s0 4) (R 10 10 [some (.ref x0), l1] [] (wP h s0 3 (some s1))) none) := (r10_9 ..)
theorem b10_10 (x0 : Nat) (l1 : Option Value) (h : A_H) : R 10 10 [some (.ref x0), l1] [] h = (R 10 12 [some (.ref x0), some (.int (0 : Int32))] [] h) := (tr (r10_10 ..) (r10_11 ..))
theorem b10_12 (x0 : Nat) (x1 : Int32) (h : A_H) : R 10 12 [some (.ref x0), some (.int x1)] [] h = (cond (decide ((16 : Int32) ≤ x1)) (R 10 26 [some (.ref x0), some (.int (0 : Int32))] [] h) (cond (isO h x0 4 && (hP h x0 0).isSome) (R 10 19 [some (.ref x0), some (.int x1)] [.ref (hn h), .int x1, .ref ((hP h x0 0).getD 0)] (nw h 8 6 6)) none)) := (tr (r10_12 ..) (tr (r10_13 ..) (tr (r10_14 ..) (cgB (tr (r10_24 ..) (r10_25 ..)) (tr (r10_15 ..) (tr (r10_16 ..) (cgT (tr (r10_17 ..) (r10_18 ..)))))))))
theorem b10_19 (x0 : Nat) (x1 : Int32) (s0 : Nat) (s1 : Int32) (s2 : Nat) (h : A_H) : R 10 19 [some (.ref x0), some (.int x1)] [.ref s2, .int s1, .ref s0] h = (a_back R 10 (48, [.ref s2], h, false, none, 21, [some (.ref x0), some (.int x1)], [.ref s2, .int s1, .ref s0]) (C 48 [.ref s2] h)) := (tr (r10_19 ..) (r10_20 ..))
theorem b10_21 (x0 : Nat) (x1 : Int32) (s0 : Nat) (s1 : Int32) (s2 : Nat) (h : A_H) : R 10 21 [some (.ref x0), some (.int x1)] [.ref s2, .int s1, .ref s0] h = (cond (isA h s0 8 s1 && isO h s2 8) (R 10 22 [some (.ref x0), some (.int x1)] [] (wP h s0 (s1).toNatClampNeg (some s2))) none) := (r10_21 ..)
theorem b10_22 (x0 : Nat) (x1 : Int32) (h : A_H) : R 10 22 [some (.ref x0), some (.int x1)] [] h = (R 10 12 [some (.ref x0), some (.int (x1 + 1))] [] h) := (tr (r10_22 ..) (r10_23 ..))
theorem b10_26 (x0 : Nat) (x1 : Int32) (h : A_H) : R 10 26 [some (.ref x0), some (.int x1)] [] h = (cond (decide ((3 : Int32) ≤ x1)) (some (some none, h)) (cond (isO h x0 4 && (hP h x0 3).isSome) (R 10 33 [some (.ref x0), some (.int x1)] [.ref (hn h), .int x1, .ref ((hP h x0 3).getD 0)] (nw h 8 6 6)) none)) := (tr (r10_26 ..) (tr (r10_27 ..) (tr (r10_28 ..) (cgB (r10_38 ..) (tr (r10_29 ..) (tr (r10_30 ..) (cgT (tr (r10_31 ..) (r10_32 ..)))))))))
theorem b10_33 (x0 : Nat) (x1 : Int32) (s0 : Nat) (s1 : Int32) (s2 : Nat) (h : A_H) : R 10 33 [some (.ref x0), some (.int x1)] [.ref s2, .int s1, .ref s0] h = (a_back R 10 (48, [.ref s2], h, false, none, 35, [some (.ref x0), some (.int x1)], [.ref s2, .int s1, .ref s0]) (C 48 [.ref s2] h)) := (tr (r10_33 ..) (r10_34 ..))
theorem b10_35 (x0 : Nat) (x1 : Int32) (s0 : Nat) (s1 : Int32) (s2 : Nat) (h : A_H) : R 10 35 [some (.ref x0), some (.int x1)] [.ref s2, .int s1, .ref s0] h = (cond (isA h s0 8 s1 && isO h s2 8) (R 10 36 [some (.ref x0), some (.int x1)] [] (wP h s0 (s1).toNatClampNeg (some s2))) none) := (r10_35 ..)
theorem b10_36 (x0 : Nat) (x1 : Int32) (h : A_H) : R 10 36 [some (.ref x0), some (.int x1)] [] h = (R 10 26 [some (.ref x0), some (.int (x1 + 1))] [] h) := (tr (r10_36 ..) (r10_37 ..))
theorem e11 (x0 : Nat) (h : A_H) : C 11 [.ref x0] h = R 11 0 [some (.ref x0)] [] h := rfl
theorem r11_0 (ls : A_V) (st : List Value) (h : A_H) : R 11 0 ls st h = a_do a_nL R R 11 (s_aldl 0 1 ls st h) := a_R_eq ..
theorem r11_1 (ls : A_V) (st : List Value) (h : A_H) : R 11 1 ls st h = a_do a_nL R R 11 (s_push (.int 0) 2 ls st h) := a_R_eq ..
theorem r11_2 (ls : A_V) (st : List Value) (h : A_H) : R 11 2 ls st h = a_do a_nL R R 11 (s_putI 4 2 3 ls st h) := a_R_eq ..
theorem r11_3 (ls : A_V) (st : List Value) (h : A_H) : R 11 3 ls st h = a_do a_nL R R 11 (s_aldl 0 4 ls st h) := a_R_eq ..
theorem r11_4 (ls : A_V) (st : List Value) (h : A_H) : R 11 4 ls st h = a_do a_nL R R 11 (s_push (.int 0) 5 ls st h) := a_R_eq ..
theorem r11_5 (ls : A_V) (st : List Value) (h : A_H) : R 11 5 ls st h = a_do a_nL R R 11 (s_putI 4 4 6 ls st h) := a_R_eq ..
theorem r11_6 (ls : A_V) (st : List Value) (h : A_H) : R 11 6 ls st h = a_do a_nL R R 11 (s_vret ls st h) := a_R_eq ..
theorem b11_0 (x0 : Nat) (h : A_H) : R 11 0 [some (.ref x0)] [] h = (cond (isO h x0 4) (R 11 3 [some (.ref x0)] [] (wI h x0 2 (0 : Int32))) none) := (tr (r11_0 ..) (tr (r11_1 ..) (r11_2 ..)))
theorem b11_3 (x0 : Nat) (h : A_H) : R 11 3 [some (.ref x0)] [] h = (cond (isO h x0 4) (R 11 6 [some (.ref x0)] [] (wI h x0 4 (0 : Int32))) none) := (tr (r11_3 ..) (tr (r11_4 ..) (r11_5 ..)))
theorem b11_6 (x0 : Nat) (h : A_H) : R 11 6 [some (.ref x0)] [] h = (some (some none, h)) := (r11_6 ..)
theorem e12 (x0 : Nat) (x1 : Nat) (h : A_H) : C 12 [.ref x0, .ref x1] h = R 12 0 [some (.ref x0), some (.ref x1)] [] h := rfl
theorem r12_0 (ls : A_V) (st : List Value) (h : A_H) : R 12 0 ls st h = a_do a_nL R R 12 (s_aldl 0 1 ls st h) := a_R_eq ..
theorem r12_1 (ls : A_V) (st : List Value) (h : A_H) : R 12 1 ls st h = a_do a_nL R R 12 (s_getI 4 2 2 ls st h) := a_R_eq ..
theorem r12_2 (ls : A_V) (st : List Value) (h : A_H) : R 12 2 ls st h = a_do a_nL R R 12 (s_push (.int 16) 3 ls st h) := a_R_eq ..
theorem r12_3 (ls : A_V) (st : List Value) (h : A_H) : R 12 3 ls st h = a_do a_nL R R 12 (s_if2 (fun x y => !decide (x = y)) 18 4 ls st h) := a_R_eq ..
theorem r12_4 (ls : A_V) (st : List Value) (h : A_H) : R 12 4 ls st h = a_do a_nL R R 12 (s_aldl 0 5 ls st h) := a_R_eq ..
theorem r12_5 (ls : A_V) (st : List Value) (h : A_H) : R 12 5 ls st h = a_do a_nL R R 12 (s_aldl 0 6 ls st h) := a_R_eq ..
theorem r12_6 (ls : A_V) (st : List Value) (h : A_H) : R 12 6 ls st h = a_do a_nL R R 12 (s_getI 4 1 7 ls st h) := a_R_eq ..
theorem r12_7 (ls : A_V) (st : List Value) (h : A_H) : R 12 7 ls st h = a_do a_nL R R 12 (s_push (.int 1) 8 ls st h) := a_R_eq ..
theorem r12_8 (ls : A_V) (st : List Value) (h : A_H) : R 12 8 ls st h = a_do a_nL R R 12 (s_bi (fun x y => x + y) 9 ls st h) := a_R_eq ..
theorem r12_9 (ls : A_V) (st : List Value) (h : A_H) : R 12 9 ls st h = a_do a_nL R R 12 (s_push (.int 16) 10 ls st h) := a_R_eq ..
theorem r12_10 (ls : A_V) (st : List Value) (h : A_H) : R 12 10 ls st h = a_do a_nL R R 12 (s_bid (fun x y => x - x / y * y) 11 ls st h) := a_R_eq ..
theorem r12_11 (ls : A_V) (st : List Value) (h : A_H) : R 12 11 ls st h = a_do a_nL R R 12 (s_putI 4 1 12 ls st h) := a_R_eq ..
theorem r12_12 (ls : A_V) (st : List Value) (h : A_H) : R 12 12 ls st h = a_do a_nL R R 12 (s_aldl 0 13 ls st h) := a_R_eq ..
theorem r12_13 (ls : A_V) (st : List Value) (h : A_H) : R 12 13 ls st h = a_do a_nL R R 12 (s_dup 14 ls st h) := a_R_eq ..
theorem r12_14 (ls : A_V) (st : List Value) (h : A_H) : R 12 14 ls st h = a_do a_nL R R 12 (s_getI 4 2 15 ls st h) := a_R_eq ..
theorem r12_15 (ls : A_V) (st : List Value) (h : A_H) : R 12 15 ls st h = a_do a_nL R R 12 (s_push (.int 1) 16 ls st h) := a_R_eq ..
theorem r12_16 (ls : A_V) (st : List Value) (h : A_H) : R 12 16 ls st h = a_do a_nL R R 12 (s_bi (fun x y => x - y) 17 ls st h) := a_R_eq ..
theorem r12_17 (ls : A_V) (st : List Value) (h : A_H) : R 12 17 ls st h = a_do a_nL R R 12 (s_putI 4 2 18 ls st h) := a_R_eq ..
theorem r12_18 (ls : A_V) (st : List Value) (h : A_H) : R 12 18 ls st h = a_do a_nL R R 12 (s_aldl 0 19 ls st h) := a_R_eq ..
theorem r12_19 (ls : A_V) (st : List Value) (h : A_H) : R 12 19 ls st h = a_do a_nL R R 12 (s_getR 4 0 20 ls st h) := a_R_eq ..
theorem r12_20 (ls : A_V) (st : List Value) (h : A_H) : R 12 20 ls st h = a_do a_nL R R 12 (s_aldl 0 21 ls st h) := a_R_eq ..
theorem r12_21 (ls : A_V) (st : List Value) (h : A_H) : R 12 21 ls st h = a_do a_nL R R 12 (s_getI 4 1 22 ls st h) := a_R_eq ..
theorem r12_22 (ls : A_V) (st : List Value) (h : A_H) : R 12 22 ls st h = a_do a_nL R R 12 (s_aldl 0 23 ls st h) := a_R_eq ..
theorem r12_23 (ls : A_V) (st : List Value) (h : A_H) : R 12 23 ls st h = a_do a_nL R R 12 (s_getI 4 2 24 ls st h) := a_R_eq ..
theorem r12_24 (ls : A_V) (st : List Value) (h : A_H) : R 12 24 ls st h = a_do a_nL R R 12 (s_bi (fun x y => x + y) 25 ls st h) := a_R_eq ..
theorem r12_25 (ls : A_V) (st : List Value) (h : A_H) : R 12 25 ls st h = a_do a_nL R R 12 (s_push (.int 16) 26 ls st h) := a_R_eq ..
theorem r12_26 (ls : A_V) (st : List Value) (h : A_H) : R 12 26 ls st h = a_do a_nL R R 12 (s_bid (fun x y => x - x / y * y) 27 ls st h) := a_R_eq ..
theorem r12_27 (ls : A_V) (st : List Value) (h : A_H) : R 12 27 ls st h = a_do a_nL R R 12 (s_aal 8 28 ls st h) := a_R_eq ..
theorem r12_28 (ls : A_V) (st : List Value) (h : A_H) : R 12 28 ls st h = a_do a_nL R R 12 (s_aldl 1 29 ls st h) := a_R_eq ..
theorem r12_29 (ls : A_V) (st : List Value) (h : A_H) : R 12 29 ls st h = a_do a_nL R R 12 (s_call 11 50 2 3 false 30 ls st h) := a_R_eq ..
theorem r12_30 (ls : A_V) (st : List Value) (h : A_H) : R 12 30 ls st h = a_do a_nL R R 12 (s_aldl 0 31 ls st h) := a_R_eq ..
theorem r12_31 (ls : A_V) (st : List Value) (h : A_H) : R 12 31 ls st h = a_do a_nL R R 12 (s_dup 32 ls st h) := a_R_eq ..
theorem r12_32 (ls : A_V) (st : List Value) (h : A_H) : R 12 32 ls st h = a_do a_nL R R 12 (s_getI 4 2 33 ls st h) := a_R_eq ..
theorem r12_33 (ls : A_V) (st : List Value) (h : A_H) : R 12 33 ls st h = a_do a_nL R R 12 (s_push (.int 1) 34 ls st h) := a_R_eq ..
theorem r12_34 (ls : A_V) (st : List Value) (h : A_H) : R 12 34 ls st h = a_do a_nL R R 12 (s_bi (fun x y => x + y) 35 ls st h) := a_R_eq ..
theorem r12_35 (ls : A_V) (st : List Value) (h : A_H) : R 12 35 ls st h = a_do a_nL R R 12 (s_putI 4 2 36 ls st h) := a_R_eq ..
theorem r12_36 (ls : A_V) (st : List Value) (h : A_H) : R 12 36 ls st h = a_do a_nL R R 12 (s_vret ls st h) := a_R_eq ..
theorem b12_0 (x0 : Nat) (x1 : Nat) (h : A_H) : R 12 0 [some (.ref x0), some (.ref x1)] [] h = (cond (isO h x0 4) (cond (!decide ((hI h x0 2) = (16 : Int32))) (cond (isO h x0 4 && (hP h x0 0).isSome) (cond (isO h x0 4) (cond (isO h x0 4) (cond (isA h ((hP h x0 0).getD 0) 8 (((hI h x0 1) + (hI h x0 2)) - ((hI h x0 1) + (hI h x0 2)) / (16 : Int32) * (16 : Int32)) && (hP h ((hP h x0 0).getD 0) ((((hI h x0 1) + (hI h x0 2)) - ((hI h x0 1) + (hI h x0 2)) / (16 : Int32) * (16 : Int32))).toNatClampNeg).isSome) (cond (isO h ((hP h ((hP h x0 0).getD 0) ((((hI h x0 1) + (hI h x0 2)) - ((hI h x0 1) + (hI h x0 2)) / (16 : Int32) * (16 : Int32))).toNatClampNeg).getD 0) 8) (a_back R 12 (50, [.ref ((hP h ((hP h x0 0).getD 0) ((((hI h x0 1) + (hI h x0 2)) - ((hI h x0 1) + (hI h x0 2)) / (16 : Int32) * (16 : Int32))).toNatClampNeg).getD 0), .ref x1], h, false, none, 30, [some (.ref x0), some (.ref x1)], []) (C 50 [.ref ((hP h ((hP h x0 0).getD 0) ((((hI h x0 1) + (hI h x0 2)) - ((hI h x0 1) + (hI h x0 2)) / (16 : Int32) * (16 : Int32))).toNatClampNeg).getD 0), .ref x1] h)) none) none) none) none) none) (cond (isO h x0 4) (cond (isO h x0 4) (R 12 12 [some (.ref x0), some (.ref x1)] [] (wI h x0 1 (((hI h x0 1) + (1 : Int32)) - ((hI h x0 1) + (1 : Int32)) / (16 : Int32) * (16 : Int32)))) none) none)) none) := (tr (r12_0 ..) (tr (r12_1 ..) (cgT (tr (r12_2 ..) (tr (r12_3 ..) (cgB (tr (r12_18 ..) (tr (r12_19 ..) (cgT (tr (r12_20 ..) (tr (r12_21 ..) (cgT (tr (r12_22 ..) (tr (r12_23 ..) (cgT (tr (r12_24 ..) (tr (r12_25 ..) (tr (r12_26 ..) (tr (r12_27 ..) (cgT (tr (r12_28 ..) (r12_29 ..)))))))))))))))) (tr (r12_4 ..) (tr (r12_5 ..) (tr (r12_6 ..) (cgT (tr (r12_7 ..) (tr (r12_8 ..) (tr (r12_9 ..) (tr (r12_10 ..) (r12_11 ..)))))))))))))))
theorem b12_12 (x0 : Nat) (x1 : Nat) (h : A_H) : R 12 12 [some (.ref x0), some (.ref x1)] [] h = (cond (isO h x0 4) (cond (isO h x0 4) (R 12 18 [some (.ref x0), some (.ref x1)] [] (wI h x0 2 ((hI h x0 2) - (1 : Int32)))) none) none) := (tr (r12_12 ..) (tr (r12_13 ..) (tr (r12_14 ..) (cgT (tr (r12_15 ..) (tr (r12_16 ..) (r12_17 ..)))))))
theorem b12_18 (x0 : Nat) (x1 : Nat) (h : A_H) : R 12 18 [some (.ref x0), some (.ref x1)] [] h = (cond (isO h x0 4 && (hP h x0 0).isSome) (cond (isO h x0 4) (cond (isO h x0 4) (cond (isA h ((hP h x0 0).getD 0) 8 (((hI h x0 1) + (hI h x0 2)) - ((hI h x0 1) + (hI h x0 2)) / (16 : Int32) * (16 : Int32)) && (hP h ((hP h x0 0).getD 0) ((((hI h x0 1) + (hI h x0 2)) - ((hI h x0 1) + (hI h x0 2)) / (16 : Int32) * (16 : Int32))).toNatClampNeg).isSome) (cond (isO h ((hP h ((hP h x0 0).getD 0) ((((hI h x0 1) + (hI h x0 2)) - ((hI h x0 1) + (hI h x0 2)) / (16 : Int32) * (16 : Int32))).toNatClampNeg).getD 0) 8) (a_back R 12 (50, [.ref ((hP h ((hP h x0 0).getD 0) ((((hI h x0 1) + (hI h x0 2)) - ((hI h x0 1) + (hI h x0 2)) / (16 : Int32) * (16 : Int32))).toNatClampNeg).getD 0), .ref x1], h, false, none, 30, [some (.ref x0), some (.ref x1)], []) (C 50 [.ref ((hP h ((hP h x0 0).getD 0) ((((hI h x0 1) + (hI h x0 2)) - ((hI h x0 1) + (hI h x0 2)) / (16 : Int32) * (16 : Int32))).toNatClampNeg).getD 0), .ref x1] h)) none) none) none) none) none) := (tr (r12_18 ..) (tr (r12_19 ..) (cgT (tr (r12_20 ..) (tr (r12_21 ..) (cgT (tr (r12_22 ..) (tr (r12_23 ..) (cgT (tr (r12_24 ..) (tr (r12_25 ..) (tr (r12_26 ..) (tr (r12_27 ..) (cgT (tr (r12_28 ..) (r12_29 ..))))))))))))))))
theorem b12_30 (x0 : Nat) (x1 : Nat) (h : A_H) : R 12 30 [some (.ref x0), some (.ref x1)] [] h = (cond (isO h x0 4) (cond (isO h x0 4) (R 12 36 [some (.ref x0), some (.ref x1)] [] (wI h x0 2 ((hI h x0 2) + (1 : Int32)))) none) none) := (tr (r12_30 ..) (tr (r12_31 ..) (tr (r12_32 ..) (cgT (tr (r12_33 ..) (tr (r12_34 ..) (r12_35 ..)))))))
theorem b12_36 (x0 : Nat) (x1 : Nat) (h : A_H) : R 12 36 [some (.ref x0), some (.ref x1)] [] h = (some (some none, h)) := (r12_36 ..)
theorem e13 (x0 : Nat) (x1 : Nat) (h : A_H) : C 13 [.ref x0, .ref x1] h = R 13 0 [some (.ref x0), some (.ref x1)] [] h := rfl
theorem r13_0 (ls : A_V) (st : List Value) (h : A_H) : R 13 0 ls st h = a_do a_nL R R 13 (s_aldl 0 1 ls st h) := a_R_eq ..
theorem r13_1 (ls : A_V) (st : List Value) (h : A_H) : R 13 1 ls st h = a_do a_nL R R 13 (s_getI 4 2 2 ls st h) := a_R_eq ..
theorem r13_2 (ls : A_V) (st : List Value) (h : A_H) : R 13 2 ls st h = a_do a_nL R R 13 (s_if1 (fun x => !decide (x = 0)) 5 3 ls st h) := a_R_eq ..
theorem r13_3 (ls : A_V) (st : List Value) (h : A_H) : R 13 3 ls st h = a_do a_nL R R 13 (s_push (.int 0) 4 ls st h) := a_R_eq ..
theorem r13_4 (ls : A_V) (st : List Value) (h : A_H) : R 13 4 ls st h = a_do a_nL R R 13 (s_zret ls st h) := a_R_eq ..
theorem r13_5 (ls : A_V) (st : List Value) (h : A_H) : R 13 5 ls st h = a_do a_nL R R 13 (s_aldl 0 6 ls st h) := a_R_eq ..
theorem r13_6 (ls : A_V) (st : List Value) (h : A_H) : R 13 6 ls st h = a_do a_nL R R 13 (s_dup 7 ls st h) := a_R_eq ..
theorem r13_7 (ls : A_V) (st : List Value) (h : A_H) : R 13 7 ls st h = a_do a_nL R R 13 (s_getI 4 2 8 ls st h) := a_R_eq ..
theorem r13_8 (ls : A_V) (st : List Value) (h : A_H) : R 13 8 ls st h = a_do a_nL R R 13 (s_push (.int 1) 9 ls st h) := a_R_eq ..
theorem r13_9 (ls : A_V) (st : List Value) (h : A_H) : R 13 9 ls st h = a_do a_nL R R 13 (s_bi (fun x y => x - y) 10 ls st h) := a_R_eq ..
theorem r13_10 (ls : A_V) (st : List Value) (h : A_H) : R 13 10 ls st h = a_do a_nL R R 13 (s_putI 4 2 11 ls st h) := a_R_eq ..
theorem r13_11 (ls : A_V) (st : List Value) (h : A_H) : R 13 11 ls st h = a_do a_nL R R 13 (s_aldl 1 12 ls st h) := a_R_eq ..
theorem r13_12 (ls : A_V) (st : List Value) (h : A_H) : R 13 12 ls st h = a_do a_nL R R 13 (s_aldl 0 13 ls st h) := a_R_eq ..
theorem r13_13 (ls : A_V) (st : List Value) (h : A_H) : R 13 13 ls st h = a_do a_nL R R 13 (s_getR 4 0 14 ls st h) := a_R_eq ..
theorem r13_14 (ls : A_V) (st : List Value) (h : A_H) : R 13 14 ls st h = a_do a_nL R R 13 (s_aldl 0 15 ls st h) := a_R_eq ..
theorem r13_15 (ls : A_V) (st : List Value) (h : A_H) : R 13 15 ls st h = a_do a_nL R R 13 (s_getI 4 1 16 ls st h) := a_R_eq ..
theorem r13_16 (ls : A_V) (st : List Value) (h : A_H) : R 13 16 ls st h = a_do a_nL R R 13 (s_aldl 0 17 ls st h) := a_R_eq ..
theorem r13_17 (ls : A_V) (st : List Value) (h : A_H) : R 13 17 ls st h = a_do a_nL R R 13 (s_getI 4 2 18 ls st h) := a_R_eq ..
theorem r13_18 (ls : A_V) (st : List Value) (h : A_H) : R 13 18 ls st h = a_do a_nL R R 13 (s_bi (fun x y => x + y) 19 ls st h) := a_R_eq ..
theorem r13_19 (ls : A_V) (st : List Value) (h : A_H) : R 13 19 ls st h = a_do a_nL R R 13 (s_push (.int 16) 20 ls st h) := a_R_eq ..
theorem r13_20 (ls : A_V) (st : List Value) (h : A_H) : R 13 20 ls st h = a_do a_nL R R 13 (s_bid (fun x y => x - x / y * y) 21 ls st h) := a_R_eq ..
theorem r13_21 (ls : A_V) (st : List Value) (h : A_H) : R 13 21 ls st h = a_do a_nL R R 13 (s_aal 8 22 ls st h) := a_R_eq ..
theorem r13_22 (ls : A_V) (st : List Value) (h : A_H) : R 13 22 ls st h = a_do a_nL R R 13 (s_call 11 50 2 3 false 23 ls st h) := a_R_eq ..
theorem r13_23 (ls : A_V) (st : List Value) (h : A_H) : R 13 23 ls st h = a_do a_nL R R 13 (s_push (.int 1) 24 ls st h) := a_R_eq ..
theorem r13_24 (ls : A_V) (st : List Value) (h : A_H) : R 13 24 ls st h = a_do a_nL R R 13 (s_zret ls st h) := a_R_eq ..
theorem b13_0 (x0 : Nat) (x1 : Nat) (h : A_H) : R 13 0 [some (.ref x0), some (.ref x1)] [] h = (cond (isO h x0 4) (cond (!decide ((hI h x0 2) = 0)) (cond (isO h x0 4) (cond (isO h x0 4) (R 13 11 [some (.ref x0), some (.ref x1)] [] (wI h x0 2 ((hI h x0 2) - (1 : Int32)))) none) none) (cond (decide ((0 : Int32) = 0) || decide ((0 : Int32) = 1)) (some (some (some (.int (0 : Int32))), h)) none)) none) := (tr (r13_0 ..) (tr (r13_1 ..) (cgT (tr (r13_2 ..) (cgB (tr (r13_5 ..) (tr (r13_6 ..) (tr (r13_7 ..) (cgT (tr (r13_8 ..) (tr (r13_9 ..) (r13_10 ..))))))) (tr (r13_3 ..) (r13_4 ..)))))))
theorem b13_11 (x0 : Nat) (x1 : Nat) (h : A_H) : R 13 11 [some (.ref x0), some (.ref x1)] [] h = (cond (isO h x0 4 && (hP h x0 0).isSome) (cond (isO h x0 4) (cond (isO h x0 4) (cond (isA h ((hP h x0 0).getD 0) 8 (((hI h x0 1) + (hI h x0 2)) - ((hI h x0 1) + (hI h x0 2)) / (16 : Int32) * (16 : Int32)) && (hP h ((hP h x0 0).getD 0) ((((hI h x0 1) + (hI h x0 2)) - ((hI h x0 1) + (hI h x0 2)) / (16 : Int32) * (16 : Int32))).toNatClampNeg).isSome) (cond (isO h x1 8) (a_back R 13 (50, [.ref x1, .ref ((hP h ((hP h x0 0).getD 0) ((((hI h x0 1) + (hI h x0 2)) - ((hI h x0 1) + (hI h x0 2)) / (16 : Int32) * (16 : Int32))).toNatClampNeg).getD 0)], h, false, none, 23, [some (.ref x0), some (.ref x1)], []) (C 50 [.ref x1, .ref ((hP h ((hP h x0 0).getD 0) ((((hI h x0 1) + (hI h x0 2)) - ((hI h x0 1) + (hI h x0 2)) / (16 : Int32) * (16 : Int32))).toNatClampNeg).getD 0)] h)) none) none) none) none) none) := (tr (r13_11 ..) (tr (r13_12 ..) (tr (r13_13 ..) (cgT (tr (r13_14 ..) (tr (r13_15 ..) (cgT (tr (r13_16 ..) (tr (r13_17 ..) (cgT (tr (r13_18 ..) (tr (r13_19 ..) (tr (r13_20 ..) (tr (r13_21 ..) (cgT (r13_22 ..))))))))))))))))
theorem b13_23 (x0 : Nat) (x1 : Nat) (h : A_H) : R 13 23 [some (.ref x0), some (.ref x1)] [] h = (cond (decide ((1 : Int32) = 0) || decide ((1 : Int32) = 1)) (some (some (some (.int (1 : Int32))), h)) none) := (tr (r13_23 ..) (r13_24 ..))
theorem e14 (x0 : Nat) (x1 : Nat) (h : A_H) : C 14 [.ref x0, .ref x1] h = R 14 0 [some (.ref x0), some (.ref x1)] [] h := rfl
theorem r14_0 (ls : A_V) (st : List Value) (h : A_H) : R 14 0 ls st h = a_do a_nL R R 14 (s_aldl 0 1 ls st h) := a_R_eq ..
theorem r14_1 (ls : A_V) (st : List Value) (h : A_H) : R 14 1 ls st h = a_do a_nL R R 14 (s_getI 4 4 2 ls st h) := a_R_eq ..
theorem r14_2 (ls : A_V) (st : List Value) (h : A_H) : R 14 2 ls st h = a_do a_nL R R 14 (s_push (.int 3) 3 ls st h) := a_R_eq ..
theorem r14_3 (ls : A_V) (st : List Value) (h : A_H) : R 14 3 ls st h = a_do a_nL R R 14 (s_if2 (fun x y => decide (x < y)) 6 4 ls st h) := a_R_eq ..
theorem r14_4 (ls : A_V) (st : List Value) (h : A_H) : R 14 4 ls st h = a_do a_nL R R 14 (s_push (.int (-1)) 5 ls st h) := a_R_eq ..
theorem r14_5 (ls : A_V) (st : List Value) (h : A_H) : R 14 5 ls st h = a_do a_nL R R 14 (s_iret ls st h) := a_R_eq ..
theorem r14_6 (ls : A_V) (st : List Value) (h : A_H) : R 14 6 ls st h = a_do a_nL R R 14 (s_aldl 0 7 ls st h) := a_R_eq ..
theorem r14_7 (ls : A_V) (st : List Value) (h : A_H) : R 14 7 ls st h = a_do a_nL R R 14 (s_getR 4 3 8 ls st h) := a_R_eq ..
theorem r14_8 (ls : A_V) (st : List Value) (h : A_H) : R 14 8 ls st h = a_do a_nL R R 14 (s_aldl 0 9 ls st h) := a_R_eq ..
theorem r14_9 (ls : A_V) (st : List Value) (h : A_H) : R 14 9 ls st h = a_do a_nL R R 14 (s_getI 4 4 10 ls st h) := a_R_eq ..
theorem r14_10 (ls : A_V) (st : List Value) (h : A_H) : R 14 10 ls st h = a_do a_nL R R 14 (s_aal 8 11 ls st h) := a_R_eq ..
theorem r14_11 (ls : A_V) (st : List Value) (h : A_H) : R 14 11 ls st h = a_do a_nL R R 14 (s_aldl 1 12 ls st h) := a_R_eq ..
theorem r14_12 (ls : A_V) (st : List Value) (h : A_H) : R 14 12 ls st h = a_do a_nL R R 14 (s_call 11 50 2 3 false 13 ls st h) := a_R_eq ..
theorem r14_13 (ls : A_V) (st : List Value) (h : A_H) : R 14 13 ls st h = a_do a_nL R R 14 (s_aldl 0 14 ls st h) := a_R_eq ..
theorem r14_14 (ls : A_V) (st : List Value) (h : A_H) : R 14 14 ls st h = a_do a_nL R R 14 (s_dup 15 ls st h) := a_R_eq ..
theorem r14_15 (ls : A_V) (st : List Value) (h : A_H) : R 14 15 ls st h = a_do a_nL R R 14 (s_getI 4 4 16 ls st h) := a_R_eq ..
theorem r14_16 (ls : A_V) (st : List Value) (h : A_H) : R 14 16 ls st h = a_do a_nL R R 14 (s_push (.int 1) 17 ls st h) := a_R_eq ..
theorem r14_17 (ls : A_V) (st : List Value) (h : A_H) : R 14 17 ls st h = a_do a_nL R R 14 (s_bi (fun x y => x + y) 18 ls st h) := a_R_eq ..
theorem r14_18 (ls : A_V) (st : List Value) (h : A_H) : R 14 18 ls st h = a_do a_nL R R 14 (s_putI 4 4 19 ls st h) := a_R_eq ..
theorem r14_19 (ls : A_V) (st : List Value) (h : A_H) : R 14 19 ls st h = a_do a_nL R R 14 (s_aldl 0 20 ls st h) := a_R_eq ..
theorem r14_20 (ls : A_V) (st : List Value) (h : A_H) : R 14 20 ls st h = a_do a_nL R R 14 (s_getI 4 4 21 ls st h) := a_R_eq ..
theorem r14_21 (ls : A_V) (st : List Value) (h : A_H) : R 14 21 ls st h = a_do a_nL R R 14 (s_push (.int 1) 22 ls st h) := a_R_eq ..
theorem r14_22 (ls : A_V) (st : List Value) (h : A_H) : R 14 22 ls st h = a_do a_nL R R 14 (s_bi (fun x y => x - y) 23 ls st h) := a_R_eq ..
theorem r14_23 (ls : A_V) (st : List Value) (h : A_H) : R 14 23 ls st h = a_do a_nL R R 14 (s_iret ls st h) := a_R_eq ..
theorem b14_0 (x0 : Nat) (x1 : Nat) (h : A_H) : R 14 0 [some (.ref x0), some (.ref x1)] [] h = (cond (isO h x0 4) (cond (decide ((hI h x0 4) < (3 : Int32))) (cond (isO h x0 4 && (hP h x0 3).isSome) (cond (isO h x0 4) (cond (isA h ((hP h x0 3).getD 0) 8 (hI h x0 4) && (hP h ((hP h x0 3).getD 0) ((hI h x0 4)).toNatClampNeg).isSome) (cond (isO h ((hP h ((hP h x0 3).getD 0) ((hI h x0 4)).toNatClampNeg).getD 0) 8) (a_back R 14 (50, [.ref ((hP h ((hP h x0 3).getD 0) ((hI h x0 4)).toNatClampNeg).getD 0), .ref x1], h, false, none, 13, [some (.ref x0), some (.ref x1)], []) (C 50 [.ref ((hP h ((hP h x0 3).getD 0) ((hI h x0 4)).toNatClampNeg).getD 0), .ref x1] h)) none) none) none) none) (some (some (some (.int (-1 : Int32))), h))) none) := (tr (r14_0 ..) (tr (r14_1 ..) (cgT (tr (r14_2 ..) (tr (r14_3 ..) (cgB (tr (r14_6 ..) (tr (r14_7 ..) (cgT (tr (r14_8 ..) (tr (r14_9 ..) (cgT (tr (r14_10 ..) (cgT (tr (r14_11 ..) (r14_12 ..)))))))))) (tr (r14_4 ..) (r14_5 ..))))))))
theorem b14_13 (x0 : Nat) (x1 : Nat) (h : A_H) : R 14 13 [some (.ref x0), some (.ref x1)] [] h = (cond (isO h x0 4) (cond (isO h x0 4) (R 14 19 [some (.ref x0), some (.ref x1)] [] (wI h x0 4 ((hI h x0 4) + (1 : Int32)))) none) none) := (tr (r14_13 ..) (tr (r14_14 ..) (tr (r14_15 ..) (cgT (tr (r14_16 ..) (tr (r14_17 ..) (r14_18 ..)))))))
theorem b14_19 (x0 : Nat) (x1 : Nat) (h : A_H) : R 14 19 [some (.ref x0), some (.ref x1)] [] h = (cond (isO h x0 4) (some (some (some (.int ((hI h x0 4) - (1 : Int32)))), h)) none) := (tr (r14_19 ..) (tr (r14_20 ..) (cgT (tr (r14_21 ..) (tr (r14_22 ..) (r14_23 ..))))))
theorem e15 (x0 : Nat) (x1 : Int32) (x2 : Nat) (h : A_H) : C 15 [.ref x0, .int x1, .ref x2] h = R 15 0 [some (.ref x0), some (.int x1), some (.ref x2)] [] h := rfl
theorem r15_0 (ls : A_V) (st : List Value) (h : A_H) : R 15 0 ls st h = a_do a_nL R R 15 (s_ildl 1 1 ls st h) := a_R_eq ..
theorem r15_1 (ls : A_V) (st : List Value) (h : A_H) : R 15 1 ls st h = a_do a_nL R R 15 (s_if1 (fun x => decide (x < 0)) 6 2 ls st h) := a_R_eq ..
theorem r15_2 (ls : A_V) (st : List Value) (h : A_H) : R 15 2 ls st h = a_do a_nL R R 15 (s_ildl 1 3 ls st h) := a_R_eq ..
theorem r15_3 (ls : A_V) (st : List Value) (h : A_H) : R 15 3 ls st h = a_do a_nL R R 15 (s_aldl 0 4 ls st h) := a_R_eq ..
theorem r15_4 (ls : A_V) (st : List Value) (h : A_H) : R 15 4 ls st h = a_do a_nL R R 15 (s_getI 4 4 5 ls st h) := a_R_eq ..
theorem r15_5 (ls : A_V) (st : List Value) (h : A_H) : R 15 5 ls st h = a_do a_nL R R 15 (s_if2 (fun x y => decide (x < y)) 8 6 ls st h) := a_R_eq ..
theorem r15_6 (ls : A_V) (st : List Value) (h : A_H) : R 15 6 ls st h = a_do a_nL R R 15 (s_push (.int 0) 7 ls st h) := a_R_eq ..
theorem r15_7 (ls : A_V) (st : List Value) (h : A_H) : R 15 7 ls st h = a_do a_nL R R 15 (s_zret ls st h) := a_R_eq ..
theorem r15_8 (ls : A_V) (st : List Value) (h : A_H) : R 15 8 ls st h = a_do a_nL R R 15 (s_aldl 2 9 ls st h) := a_R_eq ..
theorem r15_9 (ls : A_V) (st : List Value) (h : A_H) : R 15 9 ls st h = a_do a_nL R R 15 (s_aldl 0 10 ls st h) := a_R_eq ..
theorem r15_10 (ls : A_V) (st : List Value) (h : A_H) : R 15 10 ls st h = a_do a_nL R R 15 (s_getR 4 3 11 ls st h) := a_R_eq ..
theorem r15_11 (ls : A_V) (st : List Value) (h : A_H) : R 15 11 ls st h = a_do a_nL R R 15 (s_ildl 1 12 ls st h) := a_R_eq ..
theorem r15_12 (ls : A_V) (st : List Value) (h : A_H) : R 15 12 ls st h = a_do a_nL R R 15 (s_aal 8 13 ls st h) := a_R_eq ..
theorem r15_13 (ls : A_V) (st : List Value) (h : A_H) : R 15 13 ls st h = a_do a_nL R R 15 (s_call 11 50 2 3 false 14 ls st h) := a_R_eq ..
theorem r15_14 (ls : A_V) (st : List Value) (h : A_H) : R 15 14 ls st h = a_do a_nL R R 15 (s_aldl 0 15 ls st h) := a_R_eq ..
theorem r15_15 (ls : A_V) (st : List Value) (h : A_H) : R 15 15 ls st h = a_do a_nL R R 15 (s_push (.int 0) 16 ls st h) := a_R_eq ..
theorem r15_16 (ls : A_V) (st : List Value) (h : A_H) : R 15 16 ls st h = a_do a_nL R R 15 (s_putI 4 2 17 ls st h) := a_R_eq ..
theorem r15_17 (ls : A_V) (st : List Value) (h : A_H) : R 15 17 ls st h = a_do a_nL R R 15 (s_push (.int 1) 18 ls st h) := a_R_eq ..
theorem r15_18 (ls : A_V) (st : List Value) (h : A_H) : R 15 18 ls st h = a_do a_nL R R 15 (s_zret ls st h) := a_R_eq ..
theorem b15_0 (x0 : Nat) (x1 : Int32) (x2 : Nat) (h : A_H) : R 15 0 [some (.ref x0), some (.int x1), some (.ref x2)] [] h = (cond (decide (x1 < 0)) (cond (decide ((0 : Int32) = 0) || decide ((0 : Int32) = 1)) (some (some (some (.int (0 : Int32))), h)) none) (cond (isO h x0 4) (cond (decide (x1 < (hI h x0 4))) (cond (isO h x0 4 && (hP h x0 3).isSome) (cond (isA h ((hP h x0 3).getD 0) 8 x1 && (hP h ((hP h x0 3).getD 0) (x1).toNatClampNeg).isSome) (cond (isO h x2 8) (a_back R 15 (50, [.ref x2, .ref ((hP h ((hP h x0 3).getD 0) (x1).toNatClampNeg).getD 0)], h, false, none, 14, [some (.ref x0), some (.int x1), some (.ref x2)], []) (C 50 [.ref x2, .ref ((hP h ((hP h x0 3).getD 0) (x1).toNatClampNeg).getD 0)] h)) none) none) none) (cond (decide ((0 : Int32) = 0) || decide ((0 : Int32) = 1)) (some (some (some (.int (0 : Int32))), h)) none)) none)) := (tr (r15_0 ..) (tr (r15_1 ..) (cgB (tr (r15_6 ..) (r15_7 ..)) (tr (r15_2 ..) (tr (r15_3 ..) (tr (r15_4 ..) (cgT (tr (r15_5 ..) (cgB (tr (r15_8 ..) (tr (r15_9 ..) (tr (r15_10 ..) (cgT (tr (r15_11 ..) (tr (r15_12 ..) (cgT (r15_13 ..)))))))) (tr (r15_6 ..) (r15_7 ..)))))))))))
theorem b15_14 (x0 : Nat) (x1 : Int32) (x2 : Nat) (h : A_H) : R 15 14 [some (.ref x0), some (.int x1), some (.ref x2)] [] h = (cond (isO h x0 4) (R 15 17 [some (.ref x0), some (.int x1), some (.ref x2)] [] (wI h x0 2 (0 : Int32))) none) := (tr (r15_14 ..) (tr (r15_15 ..) (r15_16 ..)))
theorem b15_17 (x0 : Nat) (x1 : Int32) (x2 : Nat) (h : A_H) : R 15 17 [some (.ref x0), some (.int x1), some (.ref x2)] [] h = (cond (decide ((1 : Int32) = 0) || decide ((1 : Int32) = 1)) (some (some (some (.int (1 : Int32))), h)) none) := (tr (r15_17 ..) (r15_18 ..))
theorem e16 (x0 : Nat) (h : A_H) : C 16 [.ref x0] h = R 16 0 [some (.ref x0)] [] h := rfl
theorem r16_0 (ls : A_V) (st : List Value) (h : A_H) : R 16 0 ls st h = a_do a_nL R R 16 (s_aldl 0 1 ls st h) := a_R_eq ..
theorem r16_1 (ls : A_V) (st : List Value) (h : A_H) : R 16 1 ls st h = a_do a_nL R R 16 (s_oi 2 ls st h) := a_R_eq ..
theorem r16_2 (ls : A_V) (st : List Value) (h : A_H) : R 16 2 ls st h = a_do a_nL R R 16 (s_vret ls st h) := a_R_eq ..
theorem b16_0 (x0 : Nat) (h : A_H) : R 16 0 [some (.ref x0)] [] h = (some (some none, h)) := (tr (r16_0 ..) (tr (r16_1 ..) (r16_2 ..)))
theorem e17 (x0 : Nat) (h : A_H) : C 17 [.ref x0] h = R 17 0 [some (.ref x0)] [] h := rfl
theorem r17_0 (ls : A_V) (st : List Value) (h : A_H) : R 17 0 ls st h = a_do a_nL R R 17 (s_aldl 0 1 ls st h) := a_R_eq ..
theorem r17_1 (ls : A_V) (st : List Value) (h : A_H) : R 17 1 ls st h = a_do a_nL R R 17 (s_oi 2 ls st h) := a_R_eq ..
theorem r17_2 (ls : A_V) (st : List Value) (h : A_H) : R 17 2 ls st h = a_do a_nL R R 17 (s_aldl 0 3 ls st h) := a_R_eq ..
theorem r17_3 (ls : A_V) (st : List Value) (h : A_H) : R 17 3 ls st h = a_do a_nL R R 17 (s_new 8 6 4 ls st h) := a_R_eq ..
theorem r17_4 (ls : A_V) (st : List Value) (h : A_H) : R 17 4 ls st h = a_do a_nL R R 17 (s_dup 5 ls st h) := a_R_eq ..
theorem r17_5 (ls : A_V) (st : List Value) (h : A_H) : R 17 5 ls st h = a_do a_nL R R 17 (s_call 1 48 1 1 false 6 ls st h) := a_R_eq ..
theorem r17_6 (ls : A_V) (st : List Value) (h : A_H) : R 17 6 ls st h = a_do a_nL R R 17 (s_putR 6 0 7 ls st h) := a_R_eq ..
theorem r17_7 (ls : A_V) (st : List Value) (h : A_H) : R 17 7 ls st h = a_do a_nL R R 17 (s_aldl 0 8 ls st h) := a_R_eq ..
theorem r17_8 (ls : A_V) (st : List Value) (h : A_H) : R 17 8 ls st h = a_do a_nL R R 17 (s_push (.int 6) 9 ls st h) := a_R_eq ..
theorem r17_9 (ls : A_V) (st : List Value) (h : A_H) : R 17 9 ls st h = a_do a_nL R R 17 (s_nar 0 10 ls st h) := a_R_eq ..
theorem r17_10 (ls : A_V) (st : List Value) (h : A_H) : R 17 10 ls st h = a_do a_nL R R 17 (s_putR 6 1 11 ls st h) := a_R_eq ..
theorem r17_11 (ls : A_V) (st : List Value) (h : A_H) : R 17 11 ls st h = a_do a_nL R R 17 (s_vret ls st h) := a_R_eq ..
theorem b17_0 (x0 : Nat) (h : A_H) : R 17 0 [some (.ref x0)] [] h = (R 17 4 [some (.ref x0)] [.ref (hn h), .ref x0] (nw h 8 6 6)) := (tr (r17_0 ..) (tr (r17_1 ..) (tr (r17_2 ..) (r17_3 ..))))
theorem b17_4 (x0 : Nat) (s0 : Nat) (s1 : Nat) (h : A_H) : R 17 4 [some (.ref x0)] [.ref s1, .ref s0] h = (a_back R 17 (48, [.ref s1], h, false, none, 6, [some (.ref x0)], [.ref s1, .ref s0]) (C 48 [.ref s1] h)) := (tr (r17_4 ..) (r17_5 ..))
theorem b17_6 (x0 : Nat) (s0 : Nat) (s1 : Nat) (h : A_H) : R 17 6 [some (.ref x0)] [.ref s1, .ref s0] h = (cond (isO h s0 6) (R 17 7 [some (.ref x0)] [] (wP h s0 0 (some s1))) none) := (r17_6 ..)
theorem b17_7 (x0 : Nat) (h : A_H) : R 17 7 [some (.ref x0)] [] h = (R 17 10 [some (.ref x0)] [.ref (hn h), .ref x0] (nw h 100 6 6)) := (tr (r17_7 ..) (tr (r17_8 ..) (r17_9 ..)))
theorem b17_10 (x0 : Nat) (s0 : Nat) (s1 : Nat) (h : A_H) : R 17 10 [some (.ref x0)] [.ref s1, .ref s0] h = (cond (isO h s0 6) (R 17 11 [some (.ref x0)] [] (wP h s0 1 (some s1))) none) := (r17_10 ..)
theorem b17_11 (x0 : Nat) (h : A_H) : R 17 11 [some (.ref x0)] [] h = (some (some none, h)) := (r17_11 ..)
theorem e18 (x0 : Nat) (x1 : Nat) (x2 : Int32) (h : A_H) : C 18 [.ref x0, .ref x1, .int x2] h = R 18 0 [some (.ref x0), some (.ref x1), some (.int x2), none, none] [] h := rfl
theorem r18_0 (ls : A_V) (st : List Value) (h : A_H) : R 18 0 ls st h = a_do a_nL R R 18 (s_aldl 0 1 ls st h) := a_R_eq ..
theorem r18_1 (ls : A_V) (st : List Value) (h : A_H) : R 18 1 ls st h = a_do a_nL R R 18 (s_getR 6 0 2 ls st h) := a_R_eq ..
theorem r18_2 (ls : A_V) (st : List Value) (h : A_H) : R 18 2 ls st h = a_do a_nL R R 18 (s_aldl 1 3 ls st h) := a_R_eq ..
theorem r18_3 (ls : A_V) (st : List Value) (h : A_H) : R 18 3 ls st h = a_do a_nL R R 18 (s_call 11 49 2 3 false 4 ls st h) := a_R_eq ..
theorem r18_4 (ls : A_V) (st : List Value) (h : A_H) : R 18 4 ls st h = a_do a_nL R R 18 (s_push (.int 0) 5 ls st h) := a_R_eq ..
theorem r18_5 (ls : A_V) (st : List Value) (h : A_H) : R 18 5 ls st h = a_do a_nL R R 18 (s_ist 3 6 ls st h) := a_R_eq ..
theorem r18_6 (ls : A_V) (st : List Value) (h : A_H) : R 18 6 ls st h = a_do a_nL R R 18 (s_ildl 3 7 ls st h) := a_R_eq ..
theorem r18_7 (ls : A_V) (st : List Value) (h : A_H) : R 18 7 ls st h = a_do a_nL R R 18 (s_aldl 1 8 ls st h) := a_R_eq ..
theorem r18_8 (ls : A_V) (st : List Value) (h : A_H) : R 18 8 ls st h = a_do a_nL R R 18 (s_getI 9 6 9 ls st h) := a_R_eq ..
theorem r18_9 (ls : A_V) (st : List Value) (h : A_H) : R 18 9 ls st h = a_do a_nL R R 18 (s_if2 (fun x y => decide (y ≤ x)) 32 10 ls st h) := a_R_eq ..
theorem r18_10 (ls : A_V) (st : List Value) (h : A_H) : R 18 10 ls st h = a_do a_nL R R 18 (s_aldl 1 11 ls st h) := a_R_eq ..
theorem r18_11 (ls : A_V) (st : List Value) (h : A_H) : R 18 11 ls st h = a_do a_nL R R 18 (s_getR 9 13 12 ls st h) := a_R_eq ..
theorem r18_12 (ls : A_V) (st : List Value) (h : A_H) : R 18 12 ls st h = a_do a_nL R R 18 (s_ildl 3 13 ls st h) := a_R_eq ..
theorem r18_13 (ls : A_V) (st : List Value) (h : A_H) : R 18 13 ls st h = a_do a_nL R R 18 (s_aal 7 14 ls st h) := a_R_eq ..
theorem r18_14 (ls : A_V) (st : List Value) (h : A_H) : R 18 14 ls st h = a_do a_nL R R 18 (s_ast 4 15 ls st h) := a_R_eq ..
theorem r18_15 (ls : A_V) (st : List Value) (h : A_H) : R 18 15 ls st h = a_do a_nL R R 18 (s_aldl 0 16 ls st h) := a_R_eq ..
theorem r18_16 (ls : A_V) (st : List Value) (h : A_H) : R 18 16 ls st h = a_do a_nL R R 18 (s_getR 6 1 17 ls st h) := a_R_eq ..
theorem r18_17 (ls : A_V) (st : List Value) (h : A_H) : R 18 17 ls st h = a_do a_nL R R 18 (s_ildl 3 18 ls st h) := a_R_eq ..
theorem r18_18 (ls : A_V) (st : List Value) (h : A_H) : R 18 18 ls st h = a_do a_nL R R 18 (s_aldl 1 19 ls st h) := a_R_eq ..
theorem r18_19 (ls : A_V) (st : List Value) (h : A_H) : R 18 19 ls st h = a_do a_nL R R 18 (s_aldl 4 20 ls st h) := a_R_eq ..
theorem r18_20 (ls : A_V) (st : List Value) (h : A_H) : R 18 20 ls st h = a_do a_nL R R 18 (s_call 12 72 2 3 true 21 ls st h) := a_R_eq ..
theorem r18_21 (ls : A_V) (st : List Value) (h : A_H) : R 18 21 ls st h = a_do a_nL R R 18 (s_if1 (fun x => decide (x = 0)) 28 22 ls st h) := a_R_eq ..
theorem r18_22 (ls : A_V) (st : List Value) (h : A_H) : R 18 22 ls st h = a_do a_nL R R 18 (s_aldl 0 23 ls st h) := a_R_eq ..
theorem r18_23 (ls : A_V) (st : List Value) (h : A_H) : R 18 23 ls st h = a_do a_nL R R 18 (s_aldl 1 24 ls st h) := a_R_eq ..
theorem r18_24 (ls : A_V) (st : List Value) (h : A_H) : R 18 24 ls st h = a_do a_nL R R 18 (s_aldl 4 25 ls st h) := a_R_eq ..
theorem r18_25 (ls : A_V) (st : List Value) (h : A_H) : R 18 25 ls st h = a_do a_nL R R 18 (s_ildl 2 26 ls st h) := a_R_eq ..
theorem r18_26 (ls : A_V) (st : List Value) (h : A_H) : R 18 26 ls st h = a_do a_nL R R 18 (s_call 9 19 4 7 true 27 ls st h) := a_R_eq ..
theorem r18_27 (ls : A_V) (st : List Value) (h : A_H) : R 18 27 ls st h = a_do a_nL R R 18 (s_goto 29 ls st h) := a_R_eq ..
theorem r18_28 (ls : A_V) (st : List Value) (h : A_H) : R 18 28 ls st h = a_do a_nL R R 18 (s_push (.int (-2)) 29 ls st h) := a_R_eq ..
theorem r18_29 (ls : A_V) (st : List Value) (h : A_H) : R 18 29 ls st h = a_do a_nL R R 18 (s_ias 30 ls st h) := a_R_eq ..
theorem r18_30 (ls : A_V) (st : List Value) (h : A_H) : R 18 30 ls st h = a_do a_nL R R 18 (s_inc 3 1 31 ls st h) := a_R_eq ..
theorem r18_31 (ls : A_V) (st : List Value) (h : A_H) : R 18 31 ls st h = a_do a_nL R R 18 (s_goto 6 ls st h) := a_R_eq ..
theorem r18_32 (ls : A_V) (st : List Value) (h : A_H) : R 18 32 ls st h = a_do a_nL R R 18 (s_vret ls st h) := a_R_eq ..
theorem b18_0 (x0 : Nat) (x1 : Nat) (x2 : Int32) (l3 : Option Value) (l4 : Option Value) (h : A_H) : R 18 0 [some (.ref x0), some (.ref x1), some (.int x2), l3, l4] [] h = (cond (isO h x0 6 && (hP h x0 0).isSome) (cond (isO h ((hP h x0 0).getD 0) 8) (a_back R 18 (49, [.ref ((hP h x0 0).getD 0), .ref x1], h, false, none, 4, [some (.ref x0), some (.ref x1), some (.int x2), l3, l4], []) (C 49 [.ref ((hP h x0 0).getD 0), .ref x1] h)) none) none) := (tr (r18_0 ..) (tr (r18_1 ..) (cgT (tr (r18_2 ..) (r18_3 ..)))))
theorem b18_4 (x0 : Nat) (x1 : Nat) (x2 : Int32) (l3 : Option Value) (l4 : Option Value) (h : A_H) : R 18 4 [some (.ref x0), some (.ref x1), some (.int x2), l3, l4] [] h = (R 18 6 [some (.ref x0), some (.ref x1), some (.int x2), some (.int (0 : Int32)), l4] [] h) := (tr (r18_4 ..) (r18_5 ..))
theorem b18_6 (x0 : Nat) (x1 : Nat) (x2 : Int32) (x3 : Int32) (l4 : Option Value) (h : A_H) : R 18 6 [some (.ref x0), some (.ref x1), some (.int x2), some (.int x3), l4] [] h = (cond (isO h x1 9) (cond (decide ((hI h x1 6) ≤ x3)) (some (some none, h)) (cond (isO h x1 9 && (hP h x1 13).isSome) (cond (isA h ((hP h x1 13).getD 0) 7 x3 && (hP h ((hP h x1 13).getD 0) (x3).toNatClampNeg).isSome) (cond (isO h x0 6 && (hP h x0 1).isSome) (cond (isO h x1 9) (a_back R 18 (72, [.ref x1, .ref ((hP h ((hP h x1 13).getD 0) (x3).toNatClampNeg).getD 0)], h, true, none, 21, [some (.ref x0), some (.ref x1), some (.int x2), some (.int x3), some (.ref ((hP h ((hP h x1 13).getD 0) (x3).toNatClampNeg).getD 0))], [.int x3, .ref ((hP h x0 1).getD 0)]) (C 72 [.ref x1, .ref ((hP h ((hP h x1 13).getD 0) (x3).toNatClampNeg).getD 0)] h)) none) none) none) none)) none) := (tr (r18_6 ..) (tr (r18_7 ..) (tr (r18_8 ..) (cgT (tr (r18_9 ..) (cgB (r18_32 ..) (tr (r18_10 ..) (tr (r18_11 ..) (cgT (tr (r18_12 ..) (tr (r18_13 ..) (cgT (tr (r18_14 ..) (tr (r18_15 ..) (tr (r18_16 ..) (cgT (tr (r18_17 ..) (tr (r18_18 ..) (tr (r18_19 ..) (r18_20 ..))))))))))))))))))))
theorem b18_21 (x0 : Nat) (x1 : Nat) (x2 : Int32) (x3 : Int32) (x4 : Nat) (s0 : Nat) (s1 : Int32) (s2 : Int32) (h : A_H) : R 18 21 [some (.ref x0), some (.ref x1), some (.int x2), some (.int x3), some (.ref x4)] [.int s2, .int s1, .ref s0] h = (cond (decide (s2 = 0)) (cond (isA h s0 0 s1) (R 18 30 [some (.ref x0), some (.ref x1), some (.int x2), some (.int x3), some (.ref x4)] [] (wI h s0 (s1).toNatClampNeg (-2 : Int32))) none) (cond (isO h x0 6) (a_back R 18 (19, [.ref x0, .ref x1, .ref x4, .int x2], h, true, none, 27, [some (.ref x0), some (.ref x1), some (.int x2), some (.int x3), some (.ref x4)], [.int s1, .ref s0]) (C 19 [.ref x0, .ref x1, .ref x4, .int x2] h)) none)) := (tr (r18_21 ..) (cgB (tr (r18_28 ..) (r18_29 ..)) (tr (r18_22 ..) (tr (r18_23 ..) (tr (r18_24 ..) (tr (r18_25 ..) (r18_26 ..)))))))
theorem b18_27 (x0 : Nat) (x1 : Nat) (x2 : Int32) (x3 : Int32) (x4 : Nat) (s0 : Nat) (s1 : Int32) (s2 : Int32) (h : A_H) : R 18 27 [some (.ref x0), some (.ref x1), some (.int x2), some (.int x3), some (.ref x4)] [.int s2, .int s1, .ref s0] h = (cond (isA h s0 0 s1) (R 18 30 [some (.ref x0), some (.ref x1), some (.int x2), some (.int x3), some (.ref x4)] [] (wI h s0 (s1).toNatClampNeg s2)) none) := (tr (r18_27 ..) (r18_29 ..))
theorem b18_30 (x0 : Nat) (x1 : Nat) (x2 : Int32) (x3 : Int32) (x4 : Nat) (h : A_H) : R 18 30 [some (.ref x0), some (.ref x1), some (.int x2), some (.int x3), some (.ref x4)] [] h = (R 18 6 [some (.ref x0), some (.ref x1), some (.int x2), some (.int (x3 + 1)), some (.ref x4)] [] h) := (tr (r18_30 ..) (r18_31 ..))
theorem e19 (x0 : Nat) (x1 : Nat) (x2 : Nat) (x3 : Int32) (h : A_H) : C 19 [.ref x0, .ref x1, .ref x2, .int x3] h = R 19 0 [some (.ref x0), some (.ref x1), some (.ref x2), some (.int x3), none, none, none] [] h := rfl
theorem r19_0 (ls : A_V) (st : List Value) (h : A_H) : R 19 0 ls st h = a_do a_nL R R 19 (s_aldl 1 1 ls st h) := a_R_eq ..
theorem r19_1 (ls : A_V) (st : List Value) (h : A_H) : R 19 1 ls st h = a_do a_nL R R 19 (s_getR 9 10 2 ls st h) := a_R_eq ..
theorem r19_2 (ls : A_V) (st : List Value) (h : A_H) : R 19 2 ls st h = a_do a_nL R R 19 (s_aldl 2 3 ls st h) := a_R_eq ..
theorem r19_3 (ls : A_V) (st : List Value) (h : A_H) : R 19 3 ls st h = a_do a_nL R R 19 (s_getI 0 0 4 ls st h) := a_R_eq ..
theorem r19_4 (ls : A_V) (st : List Value) (h : A_H) : R 19 4 ls st h = a_do a_nL R R 19 (s_aal 4 5 ls st h) := a_R_eq ..
theorem r19_5 (ls : A_V) (st : List Value) (h : A_H) : R 19 5 ls st h = a_do a_nL R R 19 (s_getI 10 2 6 ls st h) := a_R_eq ..
theorem r19_6 (ls : A_V) (st : List Value) (h : A_H) : R 19 6 ls st h = a_do a_nL R R 19 (s_aldl 0 7 ls st h) := a_R_eq ..
theorem r19_7 (ls : A_V) (st : List Value) (h : A_H) : R 19 7 ls st h = a_do a_nL R R 19 (s_getR 6 0 8 ls st h) := a_R_eq ..
theorem r19_8 (ls : A_V) (st : List Value) (h : A_H) : R 19 8 ls st h = a_do a_nL R R 19 (s_call 11 51 1 1 true 9 ls st h) := a_R_eq ..
theorem r19_9 (ls : A_V) (st : List Value) (h : A_H) : R 19 9 ls st h = a_do a_nL R R 19 (s_push (.int (-1)) 10 ls st h) := a_R_eq ..
theorem r19_10 (ls : A_V) (st : List Value) (h : A_H) : R 19 10 ls st h = a_do a_nL R R 19 (s_bi (fun x y => x ^^^ y) 11 ls st h) := a_R_eq ..
theorem r19_11 (ls : A_V) (st : List Value) (h : A_H) : R 19 11 ls st h = a_do a_nL R R 19 (s_bi (fun x y => x &&& y) 12 ls st h) := a_R_eq ..
theorem r19_12 (ls : A_V) (st : List Value) (h : A_H) : R 19 12 ls st h = a_do a_nL R R 19 (s_ist 4 13 ls st h) := a_R_eq ..
theorem r19_13 (ls : A_V) (st : List Value) (h : A_H) : R 19 13 ls st h = a_do a_nL R R 19 (s_ildl 3 14 ls st h) := a_R_eq ..
theorem r19_14 (ls : A_V) (st : List Value) (h : A_H) : R 19 14 ls st h = a_do a_nL R R 19 (s_if1 (fun x => decide (x = 0)) 22 15 ls st h) := a_R_eq ..
theorem r19_15 (ls : A_V) (st : List Value) (h : A_H) : R 19 15 ls st h = a_do a_nL R R 19 (s_aldl 0 16 ls st h) := a_R_eq ..
theorem r19_16 (ls : A_V) (st : List Value) (h : A_H) : R 19 16 ls st h = a_do a_nL R R 19 (s_aldl 1 17 ls st h) := a_R_eq ..
theorem r19_17 (ls : A_V) (st : List Value) (h : A_H) : R 19 17 ls st h = a_do a_nL R R 19 (s_aldl 2 18 ls st h) := a_R_eq ..
theorem r19_18 (ls : A_V) (st : List Value) (h : A_H) : R 19 18 ls st h = a_do a_nL R R 19 (s_getI 0 2 19 ls st h) := a_R_eq ..
theorem r19_19 (ls : A_V) (st : List Value) (h : A_H) : R 19 19 ls st h = a_do a_nL R R 19 (s_ildl 4 20 ls st h) := a_R_eq ..
theorem r19_20 (ls : A_V) (st : List Value) (h : A_H) : R 19 20 ls st h = a_do a_nL R R 19 (s_call 9 20 4 6 true 21 ls st h) := a_R_eq ..
theorem r19_21 (ls : A_V) (st : List Value) (h : A_H) : R 19 21 ls st h = a_do a_nL R R 19 (s_goto 32 ls st h) := a_R_eq ..
theorem r19_22 (ls : A_V) (st : List Value) (h : A_H) : R 19 22 ls st h = a_do a_nL R R 19 (s_aldl 1 23 ls st h) := a_R_eq ..
theorem r19_23 (ls : A_V) (st : List Value) (h : A_H) : R 19 23 ls st h = a_do a_nL R R 19 (s_aldl 2 24 ls st h) := a_R_eq ..
theorem r19_24 (ls : A_V) (st : List Value) (h : A_H) : R 19 24 ls st h = a_do a_nL R R 19 (s_getI 0 1 25 ls st h) := a_R_eq ..
theorem r19_25 (ls : A_V) (st : List Value) (h : A_H) : R 19 25 ls st h = a_do a_nL R R 19 (s_aldl 2 26 ls st h) := a_R_eq ..
theorem r19_26 (ls : A_V) (st : List Value) (h : A_H) : R 19 26 ls st h = a_do a_nL R R 19 (s_getI 0 2 27 ls st h) := a_R_eq ..
theorem r19_27 (ls : A_V) (st : List Value) (h : A_H) : R 19 27 ls st h = a_do a_nL R R 19 (s_ildl 4 28 ls st h) := a_R_eq ..
theorem r19_28 (ls : A_V) (st : List Value) (h : A_H) : R 19 28 ls st h = a_do a_nL R R 19 (s_aldl 0 29 ls st h) := a_R_eq ..
theorem r19_29 (ls : A_V) (st : List Value) (h : A_H) : R 19 29 ls st h = a_do a_nL R R 19 (s_getR 6 0 30 ls st h) := a_R_eq ..
theorem r19_30 (ls : A_V) (st : List Value) (h : A_H) : R 19 30 ls st h = a_do a_nL R R 19 (s_getI 8 4 31 ls st h) := a_R_eq ..
theorem r19_31 (ls : A_V) (st : List Value) (h : A_H) : R 19 31 ls st h = a_do a_nL R R 19 (s_call 12 69 5 8 true 32 ls st h) := a_R_eq ..
theorem r19_32 (ls : A_V) (st : List Value) (h : A_H) : R 19 32 ls st h = a_do a_nL R R 19 (s_ist 5 33 ls st h) := a_R_eq ..
theorem r19_33 (ls : A_V) (st : List Value) (h : A_H) : R 19 33 ls st h = a_do a_nL R R 19 (s_aldl 1 34 ls st h) := a_R_eq ..
theorem r19_34 (ls : A_V) (st : List Value) (h : A_H) : R 19 34 ls st h = a_do a_nL R R 19 (s_aldl 2 35 ls st h) := a_R_eq ..
theorem r19_35 (ls : A_V) (st : List Value) (h : A_H) : R 19 35 ls st h = a_do a_nL R R 19 (s_getI 0 0 36 ls st h) := a_R_eq ..
theorem r19_36 (ls : A_V) (st : List Value) (h : A_H) : R 19 36 ls st h = a_do a_nL R R 19 (s_ildl 5 37 ls st h) := a_R_eq ..
theorem r19_37 (ls : A_V) (st : List Value) (h : A_H) : R 19 37 ls st h = a_do a_nL R R 19 (s_ildl 4 38 ls st h) := a_R_eq ..
theorem r19_38 (ls : A_V) (st : List Value) (h : A_H) : R 19 38 ls st h = a_do a_nL R R 19 (s_aldl 0 39 ls st h) := a_R_eq ..
theorem r19_39 (ls : A_V) (st : List Value) (h : A_H) : R 19 39 ls st h = a_do a_nL R R 19 (s_getR 6 0 40 ls st h) := a_R_eq ..
theorem r19_40 (ls : A_V) (st : List Value) (h : A_H) : R 19 40 ls st h = a_do a_nL R R 19 (s_getI 8 4 41 ls st h) := a_R_eq ..
theorem r19_41 (ls : A_V) (st : List Value) (h : A_H) : R 19 41 ls st h = a_do a_nL R R 19 (s_push (.int (-1)) 42 ls st h) := a_R_eq ..
theorem r19_42 (ls : A_V) (st : List Value) (h : A_H) : R 19 42 ls st h = a_do a_nL R R 19 (s_bi (fun x y => x ^^^ y) 43 ls st h) := a_R_eq ..
theorem r19_43 (ls : A_V) (st : List Value) (h : A_H) : R 19 43 ls st h = a_do a_nL R R 19 (s_bi (fun x y => x &&& y) 44 ls st h) := a_R_eq ..
theorem r19_44 (ls : A_V) (st : List Value) (h : A_H) : R 19 44 ls st h = a_do a_nL R R 19 (s_aldl 2 45 ls st h) := a_R_eq ..
theorem r19_45 (ls : A_V) (st : List Value) (h : A_H) : R 19 45 ls st h = a_do a_nL R R 19 (s_getI 0 2 46 ls st h) := a_R_eq ..
theorem r19_46 (ls : A_V) (st : List Value) (h : A_H) : R 19 46 ls st h = a_do a_nL R R 19 (s_push (.int 0) 47 ls st h) := a_R_eq ..
theorem r19_47 (ls : A_V) (st : List Value) (h : A_H) : R 19 47 ls st h = a_do a_nL R R 19 (s_call 12 70 6 7 true 48 ls st h) := a_R_eq ..
theorem r19_48 (ls : A_V) (st : List Value) (h : A_H) : R 19 48 ls st h = a_do a_nL R R 19 (s_ist 6 49 ls st h) := a_R_eq ..
theorem r19_49 (ls : A_V) (st : List Value) (h : A_H) : R 19 49 ls st h = a_do a_nL R R 19 (s_aldl 0 50 ls st h) := a_R_eq ..
theorem r19_50 (ls : A_V) (st : List Value) (h : A_H) : R 19 50 ls st h = a_do a_nL R R 19 (s_getR 6 0 51 ls st h) := a_R_eq ..
theorem r19_51 (ls : A_V) (st : List Value) (h : A_H) : R 19 51 ls st h = a_do a_nL R R 19 (s_aldl 2 52 ls st h) := a_R_eq ..
theorem r19_52 (ls : A_V) (st : List Value) (h : A_H) : R 19 52 ls st h = a_do a_nL R R 19 (s_getI 0 0 53 ls st h) := a_R_eq ..
theorem r19_53 (ls : A_V) (st : List Value) (h : A_H) : R 19 53 ls st h = a_do a_nL R R 19 (s_ildl 4 54 ls st h) := a_R_eq ..
theorem r19_54 (ls : A_V) (st : List Value) (h : A_H) : R 19 54 ls st h = a_do a_nL R R 19 (s_ildl 5 55 ls st h) := a_R_eq ..
theorem r19_55 (ls : A_V) (st : List Value) (h : A_H) : R 19 55 ls st h = a_do a_nL R R 19 (s_ildl 6 56 ls st h) := a_R_eq ..
theorem r19_56 (ls : A_V) (st : List Value) (h : A_H) : R 19 56 ls st h = a_do a_nL R R 19 (s_call 11 53 5 5 false 57 ls st h) := a_R_eq ..
theorem r19_57 (ls : A_V) (st : List Value) (h : A_H) : R 19 57 ls st h = a_do a_nL R R 19 (s_ildl 6 58 ls st h) := a_R_eq ..
theorem r19_58 (ls : A_V) (st : List Value) (h : A_H) : R 19 58 ls st h = a_do a_nL R R 19 (s_iret ls st h) := a_R_eq ..
theorem b19_0 (x0 : Nat) (x1 : Nat) (x2 : Nat) (x3 : Int32) (l4 : Option Value) (l5 : Option Value) (l6 : Option Value) (h : A_H) : R 19 0 [some (.ref x0), some (.ref x1), some (.ref x2), some (.int x3), l4, l5, l6] [] h = (cond (isO h x1 9 && (hP h x1 10).isSome) (cond (isO h x2 0) (cond (isA h ((hP h x1 10).getD 0) 4 (hI h x2 0) && (hP h ((hP h x1 10).getD 0) ((hI h x2 0)).toNatClampNeg).isSome) (cond (isO h ((hP h ((hP h x1 10).getD 0) ((hI h x2 0)).toNatClampNeg).getD 0) 10) (cond (isO h x0 6 && (hP h x0 0).isSome) (cond (isO h ((hP h x0 0).getD 0) 8) (a_back R 19 (51, [.ref ((hP h x0 0).getD 0)], h, true, none, 9, [some (.ref x0), some (.ref x1), some (.ref x2), some (.int x3), l4, l5, l6], [.int (hI h ((hP h ((hP h x1 10).getD 0) ((hI h x2 0)).toNatClampNeg).getD 0) 2)]) (C 51 [.ref ((hP h x0 0).getD 0)] h)) none) none) none) none) none) none) := (tr (r19_0 ..) (tr (r19_1 ..) (cgT (tr (r19_2 ..) (tr (r19_3 ..) (cgT (tr (r19_4 ..) (cgT (tr (r19_5 ..) (cgT (tr (r19_6 ..) (tr (r19_7 ..) (cgT (r19_8 ..))))))))))))))
theorem b19_9 (x0 : Nat) (x1 : Nat) (x2 : Nat) (x3 : Int32) (l4 : Option Value) (l5 : Option Value) (l6 : Option Value) (s0 : Int32) (s1 : Int32) (h : A_H) : R 19 9 [some (.ref x0), some (.ref x1), some (.ref x2), some (.int x3), l4, l5, l6] [.int s1, .int s0] h = (cond (decide (x3 = 0)) (cond (isO h x2 0) (cond (isO h x2 0) (cond (isO h x0 6 && (hP h x0 0).isSome) (cond (isO h ((hP h x0 0).getD 0) 8) (cond (isO h x1 9) (a_back R 19 (69, [.ref x1, .int (hI h x2 1), .int (hI h x2 2), .int (s0 &&& (s1 ^^^ (-1 : Int32))), .int (hI h ((hP h x0 0).getD 0) 4)], h, true, none, 32, [some (.ref x0), some (.ref x1), some (.ref x2), some (.int x3), some (.int (s0 &&& (s1 ^^^ (-1 : Int32)))), l5, l6], []) (C 69 [.ref x1, .int (hI h x2 1), .int (hI h x2 2), .int (s0 &&& (s1 ^^^ (-1 : Int32))), .int (hI h ((hP h x0 0).getD 0) 4)] h)) none) none) none) none) none) (cond (isO h x2 0) (cond (isO h x0 6) (a_back R 19 (20, [.ref x0, .ref x1, .int (hI h x2 2), .int (s0 &&& (s1 ^^^ (-1 : Int32)))], h, true, none, 21, [some (.ref x0), some (.ref x1), some (.ref x2), some (.int x3), some (.int (s0 &&& (s1 ^^^ (-1 : Int32)))), l5, l6], []) (C 20 [.ref x0, .ref x1, .int (hI h x2 2), .int (s0 &&& (s1 ^^^ (-1 : Int32)))] h)) none) none)) := (tr (r19_9 ..) (tr (r19_10 ..) (tr (r19_11 ..) (tr (r19_12 ..) (tr (r19_13 ..) (tr (r19_14 ..) (cgB (tr (r19_22 ..) (tr (r19_23 ..) (tr (r19_24 ..) (cgT (tr (r19_25 ..) (tr (r19_26 ..) (cgT (tr (r19_27 ..) (tr (r19_28 ..) (tr (r19_29 ..) (cgT (tr (r19_30 ..) (cgT (r19_31 ..)))))))))))))) (tr (r19_15 ..) (tr (r19_16 ..) (tr (r19_17 ..) (tr (r19_18 ..) (cgT (tr (r19_19 ..) (r19_20 ..))))))))))))))
theorem b19_21 (x0 : Nat) (x1 : Nat) (x2 : Nat) (x3 : Int32) (x4 : Int32) (l5 : Option Value) (l6 : Option Value) (s0 : Int32) (h : A_H) : R 19 21 [some (.ref x0), some (.ref x1), some (.ref x2), some (.int x3), some (.int x4), l5, l6] [.int s0] h = (cond (isO h x2 0) (cond (isO h x0 6 && (hP h x0 0).isSome) (cond (isO h ((hP h x0 0).getD 0) 8) (cond (isO h x2 0) (cond (isO h x1 9) (a_back R 19 (70, [.ref x1, .int (hI h x2 0), .int s0, .int (x4 &&& ((hI h ((hP h x0 0).getD 0) 4) ^^^ (-1 : Int32))), .int (hI h x2 2), .int (0 : Int32)], h, true, none, 48, [some (.ref x0), some (.ref x1), some (.ref x2), some (.int x3), some (.int x4), some (.int s0), l6], []) (C 70 [.ref x1, .int (hI h x2 0), .int s0, .int (x4 &&& ((hI h ((hP h x0 0).getD 0) 4) ^^^ (-1 : Int32))), .int (hI h x2 2), .int (0 : Int32)] h)) none) none) none) none) none) := (tr (r19_21 ..) (tr (r19_32 ..) (tr (r19_33 ..) (tr (r19_34 ..) (tr (r19_35 ..) (cgT (tr (r19_36 ..) (tr (r19_37 ..) (tr (r19_38 ..) (tr (r19_39 ..) (cgT (tr (r19_40 ..) (cgT (tr (r19_41 ..) (tr (r19_42 ..) (tr (r19_43 ..) (tr (r19_44 ..) (tr (r19_45 ..) (cgT (tr (r19_46 ..) (r19_47 ..)))))))))))))))))))))
theorem b19_32 (x0 : Nat) (x1 : Nat) (x2 : Nat) (x3 : Int32) (x4 : Int32) (l5 : Option Value) (l6 : Option Value) (s0 : Int32) (h : A_H) : R 19 32 [some (.ref x0), some (.ref x1), some (.ref x2), some (.int x3), some (.int x4), l5, l6] [.int s0] h = (cond (isO h x2 0) (cond (isO h x0 6 && (hP h x0 0).isSome) (cond (isO h ((hP h x0 0).getD 0) 8) (cond (isO h x2 0) (cond (isO h x1 9) (a_back R 19 (70, [.ref x1, .int (hI h x2 0), .int s0, .int (x4 &&& ((hI h ((hP h x0 0).getD 0) 4) ^^^ (-1 : Int32))), .int (hI h x2 2), .int (0 : Int32)], h, true, none, 48, [some (.ref x0), some (.ref x1), some (.ref x2), some (.int x3), some (.int x4), some (.int s0), l6], []) (C 70 [.ref x1, .int (hI h x2 0), .int s0, .int (x4 &&& ((hI h ((hP h x0 0).getD 0) 4) ^^^ (-1 : Int32))), .int (hI h x2 2), .int (0 : Int32)] h)) none) none) none) none) none) := (tr (r19_32 ..) (tr (r19_33 ..) (tr (r19_34 ..) (tr (r19_35 ..) (cgT (tr (r19_36 ..) (tr (r19_37 ..) (tr (r19_38 ..) (tr (r19_39 ..) (cgT (tr (r19_40 ..) (cgT (tr (r19_41 ..) (tr (r19_42 ..) (tr (r19_43 ..) (tr (r19_44 ..) (tr (r19_45 ..) (cgT (tr (r19_46 ..) (r19_47 ..))))))))))))))))))))
theorem b19_48 (x0 : Nat) (x1 : Nat) (x2 : Nat) (x3 : Int32) (x4 : Int32) (x5 : Int32) (l6 : Option Value) (s0 : Int32) (h : A_H) : R 19 48 [some (.ref x0), some (.ref x1), some (.ref x2), some (.int x3), some (.int x4), some (.int x5), l6] [.int s0] h = (cond (isO h x0 6 && (hP h x0 0).isSome) (cond (isO h x2 0) (cond (isO h ((hP h x0 0).getD 0) 8) (a_back R 19 (53, [.ref ((hP h x0 0).getD 0), .int (hI h x2 0), .int x4, .int x5, .int s0], h, false, none, 57, [some (.ref x0), some (.ref x1), some (.ref x2), some (.int x3), some (.int x4), some (.int x5), some (.int s0)], []) (C 53 [.ref ((hP h x0 0).getD 0), .int (hI h x2 0), .int x4, .int x5, .int s0] h)) none) none) none) := (tr (r19_48 ..) (tr (r19_49 ..) (tr (r19_50 ..) (cgT (tr (r19_51 ..) (tr (r19_52 ..) (cgT (tr (r19_53 ..) (tr (r19_54 ..) (tr (r19_55 ..) (r19_56 ..)))))))))))
theorem b19_57 (x0 : Nat) (x1 : Nat) (x2 : Nat) (x3 : Int32) (x4 : Int32) (x5 : Int32) (x6 : Int32) (h : A_H) : R 19 57 [some (.ref x0), some (.ref x1), some (.ref x2), some (.int x3), some (.int x4), some (.int x5), some (.int x6)] [] h = (some (some (some (.int x6)), h)) := (tr (r19_57 ..) (r19_58 ..))
theorem e20 (x0 : Nat) (x1 : Nat) (x2 : Int32) (x3 : Int32) (h : A_H) : C 20 [.ref x0, .ref x1, .int x2, .int x3] h = R 20 0 [some (.ref x0), some (.ref x1), some (.int x2), some (.int x3), none, none] [] h := rfl
theorem r20_0 (ls : A_V) (st : List Value) (h : A_H) : R 20 0 ls st h = a_do a_nL R R 20 (s_push (.int 0) 1 ls st h) := a_R_eq ..
theorem r20_1 (ls : A_V) (st : List Value) (h : A_H) : R 20 1 ls st h = a_do a_nL R R 20 (s_ist 4 2 ls st h) := a_R_eq ..
theorem r20_2 (ls : A_V) (st : List Value) (h : A_H) : R 20 2 ls st h = a_do a_nL R R 20 (s_push (.int 0) 3 ls st h) := a_R_eq ..
theorem r20_3 (ls : A_V) (st : List Value) (h : A_H) : R 20 3 ls st h = a_do a_nL R R 20 (s_ist 5 4 ls st h) := a_R_eq ..
theorem r20_4 (ls : A_V) (st : List Value) (h : A_H) : R 20 4 ls st h = a_do a_nL R R 20 (s_ildl 5 5 ls st h) := a_R_eq ..
theorem r20_5 (ls : A_V) (st : List Value) (h : A_H) : R 20 5 ls st h = a_do a_nL R R 20 (s_aldl 1 6 ls st h) := a_R_eq ..
theorem r20_6 (ls : A_V) (st : List Value) (h : A_H) : R 20 6 ls st h = a_do a_nL R R 20 (s_getI 9 5 7 ls st h) := a_R_eq ..
theorem r20_7 (ls : A_V) (st : List Value) (h : A_H) : R 20 7 ls st h = a_do a_nL R R 20 (s_if2 (fun x y => decide (y ≤ x)) 46 8 ls st h) := a_R_eq ..
theorem r20_8 (ls : A_V) (st : List Value) (h : A_H) : R 20 8 ls st h = a_do a_nL R R 20 (s_ildl 3 9 ls st h) := a_R_eq ..
theorem r20_9 (ls : A_V) (st : List Value) (h : A_H) : R 20 9 ls st h = a_do a_nL R R 20 (s_aldl 0 10 ls st h) := a_R_eq ..
theorem r20_10 (ls : A_V) (st : List Value) (h : A_H) : R 20 10 ls st h = a_do a_nL R R 20 (s_getR 6 0 11 ls st h) := a_R_eq ..
theorem r20_11 (ls : A_V) (st : List Value) (h : A_H) : R 20 11 ls st h = a_do a_nL R R 20 (s_getI 8 4 12 ls st h) := a_R_eq ..
theorem r20_12 (ls : A_V) (st : List Value) (h : A_H) : R 20 12 ls st h = a_do a_nL R R 20 (s_bi (fun x y => x &&& y) 13 ls st h) := a_R_eq ..
theorem r20_13 (ls : A_V) (st : List Value) (h : A_H) : R 20 13 ls st h = a_do a_nL R R 20 (s_push (.int 1) 14 ls st h) := a_R_eq ..
theorem r20_14 (ls : A_V) (st : List Value) (h : A_H) : R 20 14 ls st h = a_do a_nL R R 20 (s_ildl 5 15 ls st h) := a_R_eq ..
theorem r20_15 (ls : A_V) (st : List Value) (h : A_H) : R 20 15 ls st h = a_do a_nL R R 20 (s_bi (fun x y => x <<< (y &&& 31)) 16 ls st h) := a_R_eq ..
theorem r20_16 (ls : A_V) (st : List Value) (h : A_H) : R 20 16 ls st h = a_do a_nL R R 20 (s_bi (fun x y => x &&& y) 17 ls st h) := a_R_eq ..
theorem r20_17 (ls : A_V) (st : List Value) (h : A_H) : R 20 17 ls st h = a_do a_nL R R 20 (s_if1 (fun x => decide (x = 0)) 44 18 ls st h) := a_R_eq ..
theorem r20_18 (ls : A_V) (st : List Value) (h : A_H) : R 20 18 ls st h = a_do a_nL R R 20 (s_aldl 0 19 ls st h) := a_R_eq ..
theorem r20_19 (ls : A_V) (st : List Value) (h : A_H) : R 20 19 ls st h = a_do a_nL R R 20 (s_push (.int 75) 20 ls st h) := a_R_eq ..
theorem r20_20 (ls : A_V) (st : List Value) (h : A_H) : R 20 20 ls st h = a_do a_nL R R 20 (s_aldl 0 21 ls st h) := a_R_eq ..
theorem r20_21 (ls : A_V) (st : List Value) (h : A_H) : R 20 21 ls st h = a_do a_nL R R 20 (s_getI 6 2 22 ls st h) := a_R_eq ..
theorem r20_22 (ls : A_V) (st : List Value) (h : A_H) : R 20 22 ls st h = a_do a_nL R R 20 (s_bi (fun x y => x * y) 23 ls st h) := a_R_eq ..
theorem r20_23 (ls : A_V) (st : List Value) (h : A_H) : R 20 23 ls st h = a_do a_nL R R 20 (s_push (.int 74) 24 ls st h) := a_R_eq ..
theorem r20_24 (ls : A_V) (st : List Value) (h : A_H) : R 20 24 ls st h = a_do a_nL R R 20 (s_bi (fun x y => x + y) 25 ls st h) := a_R_eq ..
theorem r20_25 (ls : A_V) (st : List Value) (h : A_H) : R 20 25 ls st h = a_do a_nL R R 20 (s_push (.int 65537) 26 ls st h) := a_R_eq ..
theorem r20_26 (ls : A_V) (st : List Value) (h : A_H) : R 20 26 ls st h = a_do a_nL R R 20 (s_bid (fun x y => x - x / y * y) 27 ls st h) := a_R_eq ..
theorem r20_27 (ls : A_V) (st : List Value) (h : A_H) : R 20 27 ls st h = a_do a_nL R R 20 (s_putI 6 2 28 ls st h) := a_R_eq ..
theorem r20_28 (ls : A_V) (st : List Value) (h : A_H) : R 20 28 ls st h = a_do a_nL R R 20 (s_aldl 0 29 ls st h) := a_R_eq ..
theorem r20_29 (ls : A_V) (st : List Value) (h : A_H) : R 20 29 ls st h = a_do a_nL R R 20 (s_getI 6 2 30 ls st h) := a_R_eq ..
theorem r20_30 (ls : A_V) (st : List Value) (h : A_H) : R 20 30 ls st h = a_do a_nL R R 20 (s_push (.int 100) 31 ls st h) := a_R_eq ..
theorem r20_31 (ls : A_V) (st : List Value) (h : A_H) : R 20 31 ls st h = a_do a_nL R R 20 (s_bid (fun x y => x - x / y * y) 32 ls st h) := a_R_eq ..
theorem r20_32 (ls : A_V) (st : List Value) (h : A_H) : R 20 32 ls st h = a_do a_nL R R 20 (s_aldl 1 33 ls st h) := a_R_eq ..
theorem r20_33 (ls : A_V) (st : List Value) (h : A_H) : R 20 33 ls st h = a_do a_nL R R 20 (s_ildl 5 34 ls st h) := a_R_eq ..
theorem r20_34 (ls : A_V) (st : List Value) (h : A_H) : R 20 34 ls st h = a_do a_nL R R 20 (s_ildl 2 35 ls st h) := a_R_eq ..
theorem r20_35 (ls : A_V) (st : List Value) (h : A_H) : R 20 35 ls st h = a_do a_nL R R 20 (s_ildl 3 36 ls st h) := a_R_eq ..
theorem r20_36 (ls : A_V) (st : List Value) (h : A_H) : R 20 36 ls st h = a_do a_nL R R 20 (s_call 12 62 4 7 true 37 ls st h) := a_R_eq ..
theorem r20_37 (ls : A_V) (st : List Value) (h : A_H) : R 20 37 ls st h = a_do a_nL R R 20 (s_if2 (fun x y => decide (y ≤ x)) 44 38 ls st h) := a_R_eq ..
theorem r20_38 (ls : A_V) (st : List Value) (h : A_H) : R 20 38 ls st h = a_do a_nL R R 20 (s_ildl 4 39 ls st h) := a_R_eq ..
theorem r20_39 (ls : A_V) (st : List Value) (h : A_H) : R 20 39 ls st h = a_do a_nL R R 20 (s_push (.int 1) 40 ls st h) := a_R_eq ..
theorem r20_40 (ls : A_V) (st : List Value) (h : A_H) : R 20 40 ls st h = a_do a_nL R R 20 (s_ildl 5 41 ls st h) := a_R_eq ..
theorem r20_41 (ls : A_V) (st : List Value) (h : A_H) : R 20 41 ls st h = a_do a_nL R R 20 (s_bi (fun x y => x <<< (y &&& 31)) 42 ls st h) := a_R_eq ..
theorem r20_42 (ls : A_V) (st : List Value) (h : A_H) : R 20 42 ls st h = a_do a_nL R R 20 (s_bi (fun x y => x ||| y) 43 ls st h) := a_R_eq ..
theorem r20_43 (ls : A_V) (st : List Value) (h : A_H) : R 20 43 ls st h = a_do a_nL R R 20 (s_ist 4 44 ls st h) := a_R_eq ..
theorem r20_44 (ls : A_V) (st : List Value) (h : A_H) : R 20 44 ls st h = a_do a_nL R R 20 (s_inc 5 1 45 ls st h) := a_R_eq ..
theorem r20_45 (ls : A_V) (st : List Value) (h : A_H) : R 20 45 ls st h = a_do a_nL R R 20 (s_goto 4 ls st h) := a_R_eq ..
theorem r20_46 (ls : A_V) (st : List Value) (h : A_H) : R 20 46 ls st h = a_do a_nL R R 20 (s_ildl 4 47 ls st h) := a_R_eq ..
theorem r20_47 (ls : A_V) (st : List Value) (h : A_H) : R 20 47 ls st h = a_do a_nL R R 20 (s_iret ls st h) := a_R_eq ..
theorem b20_0 (x0 : Nat) (x1 : Nat) (x2 : Int32) (x3 : Int32) (l4 : Option Value) (l5 : Option Value) (h : A_H) : R 20 0 [some (.ref x0), some (.ref x1), some (.int x2), some (.int x3), l4, l5] [] h = (R 20 4 [some (.ref x0), some (.ref x1), some (.int x2), some (.int x3), some (.int (0 : Int32)), some (.int (0 : Int32))] [] h) := (tr (r20_0 ..) (tr (r20_1 ..) (tr (r20_2 ..) (r20_3 ..))))
theorem b20_4 (x0 : Nat) (x1 : Nat) (x2 : Int32) (x3 : Int32) (x4 : Int32) (x5 : Int32) (h : A_H) : R 20 4 [some (.ref x0), some (.ref x1), some (.int x2), some (.int x3), some (.int x4), some (.int x5)] [] h = (cond (isO h x1 9) (cond (decide ((hI h x1 5) ≤ x5)) (some (some (some (.int x4)), h)) (cond (isO h x0 6 && (hP h x0 0).isSome) (cond (isO h ((hP h x0 0).getD 0) 8) (cond (decide (((x3 &&& (hI h ((hP h x0 0).getD 0) 4)) &&& ((1 : Int32) <<< (x5 &&& 31))) = 0)) (R 20 4 [some (.ref x0), some (.ref x1), some (.int x2), some (.int x3), some (.int x4), some (.int (x5 + 1))] [] h) (cond (isO h x0 6) (cond (isO h x0 6) (R 20 28 [some (.ref x0), some (.ref x1), some (.int x2), some (.int x3), some (.int x4), some (.int x5)] [] (wI h x0 2 ((((75 : Int32) * (hI h x0 2)) + (74 : Int32)) - (((75 : Int32) * (hI h x0 2)) + (74 : Int32)) / (65537 : Int32) * (65537 : Int32)))) none) none)) none) none)) none) := (tr (r20_4 ..) (tr (r20_5 ..) (tr (r20_6 ..) (cgT (tr (r20_7 ..) (cgB (tr (r20_46 ..) (r20_47 ..)) (tr (r20_8 ..) (tr (r20_9 ..) (tr (r20_10 ..) (cgT (tr (r20_11 ..) (cgT (tr (r20_12 ..) (tr (r20_13 ..) (tr (r20_14 ..) (tr (r20_15 ..) (tr (r20_16 ..) (tr (r20_17 ..) (cgB (tr (r20_44 ..) (r20_45 ..)) (tr (r20_18 ..) (tr (r20_19 ..) (tr (r20_20 ..) (tr (r20_21 ..) (cgT (tr (r20_22 ..) (tr (r20_23 ..) (tr (r20_24 ..) (tr (r20_25 ..) (tr (r20_26 ..) (r20_27 ..))))))))))))))))))))))))))))))
theorem b20_28 (x0 : Nat) (x1 : Nat) (x2 : Int32) (x3 : Int32) (x4 : Int32) (x5 : Int32) (h : A_H) : R 20 28 [some (.ref x0), some (.ref x1), some (.int x2), some (.int x3), some (.int x4), some (.int x5)] [] h = (cond (isO h x0 6) (cond (isO h x1 9) (a_back R 20 (62, [.ref x1, .int x5, .int x2, .int x3], h, true, none, 37, [some (.ref x0), some (.ref x1), some (.int x2), some (.int x3), some (.int x4), some (.int x5)], [.int ((hI h x0 2) - (hI h x0 2) / (100 : Int32) * (100 : Int32))]) (C 62 [.ref x1, .int x5, .int x2, .int x3] h)) none) none) := (tr (r20_28 ..) (tr (r20_29 ..) (cgT (tr (r20_30 ..) (tr (r20_31 ..) (tr (r20_32 ..) (tr (r20_33 ..) (tr (r20_34 ..) (tr (r20_35 ..) (r20_36 ..))))))))))
theorem b20_37 (x0 : Nat) (x1 : Nat) (x2 : Int32) (x3 : Int32) (x4 : Int32) (x5 : Int32) (s0 : Int32) (s1 : Int32) (h : A_H) : R 20 37 [some (.ref x0), some (.ref x1), some (.int x2), some (.int x3), some (.int x4), some (.int x5)] [.int s1, .int s0] h = (cond (decide (s1 ≤ s0)) (R 20 4 [some (.ref x0), some (.ref x1), some (.int x2), some (.int x3), some (.int x4), some (.int (x5 + 1))] [] h) (R 20 4 [some (.ref x0), some (.ref x1), some (.int x2), some (.int x3), some (.int (x4 ||| ((1 : Int32) <<< (x5 &&& 31)))), some (.int (x5 + 1))] [] h)) := (tr (r20_37 ..) (cgB (tr (r20_44 ..) (r20_45 ..)) (tr (r20_38 ..) (tr (r20_39 ..) (tr (r20_40 ..) (tr (r20_41 ..) (tr (r20_42 ..) (tr (r20_43 ..) (tr (r20_44 ..) (r20_45 ..))))))))))
theorem e48 (x0 : Nat) (h : A_H) : C 48 [.ref x0] h = R 48 0 [some (.ref x0)] [] h := rfl
theorem r48_0 (ls : A_V) (st : List Value) (h : A_H) : R 48 0 ls st h = a_do a_nL R R 48 (s_aldl 0 1 ls st h) := a_R_eq ..
theorem r48_1 (ls : A_V) (st : List Value) (h : A_H) : R 48 1 ls st h = a_do a_nL R R 48 (s_oi 2 ls st h) := a_R_eq ..
theorem r48_2 (ls : A_V) (st : List Value) (h : A_H) : R 48 2 ls st h = a_do a_nL R R 48 (s_aldl 0 3 ls st h) := a_R_eq ..
theorem r48_3 (ls : A_V) (st : List Value) (h : A_H) : R 48 3 ls st h = a_do a_nL R R 48 (s_push (.int 4) 4 ls st h) := a_R_eq ..
theorem r48_4 (ls : A_V) (st : List Value) (h : A_H) : R 48 4 ls st h = a_do a_nL R R 48 (s_nar 0 5 ls st h) := a_R_eq ..
theorem r48_5 (ls : A_V) (st : List Value) (h : A_H) : R 48 5 ls st h = a_do a_nL R R 48 (s_putR 8 5 6 ls st h) := a_R_eq ..
theorem r48_6 (ls : A_V) (st : List Value) (h : A_H) : R 48 6 ls st h = a_do a_nL R R 48 (s_vret ls st h) := a_R_eq ..
theorem b48_0 (x0 : Nat) (h : A_H) : R 48 0 [some (.ref x0)] [] h = (R 48 5 [some (.ref x0)] [.ref (hn h), .ref x0] (nw h 100 4 4)) := (tr (r48_0 ..) (tr (r48_1 ..) (tr (r48_2 ..) (tr (r48_3 ..) (r48_4 ..)))))
theorem b48_5 (x0 : Nat) (s0 : Nat) (s1 : Nat) (h : A_H) : R 48 5 [some (.ref x0)] [.ref s1, .ref s0] h = (cond (isO h s0 8) (R 48 6 [some (.ref x0)] [] (wP h s0 5 (some s1))) none) := (r48_5 ..)
theorem b48_6 (x0 : Nat) (h : A_H) : R 48 6 [some (.ref x0)] [] h = (some (some none, h)) := (r48_6 ..)
theorem e49 (x0 : Nat) (x1 : Nat) (h : A_H) : C 49 [.ref x0, .ref x1] h = R 49 0 [some (.ref x0), some (.ref x1), none] [] h := rfl
theorem r49_0 (ls : A_V) (st : List Value) (h : A_H) : R 49 0 ls st h = a_do a_nL R R 49 (s_aldl 0 1 ls st h) := a_R_eq ..
theorem r49_1 (ls : A_V) (st : List Value) (h : A_H) : R 49 1 ls st h = a_do a_nL R R 49 (s_push (.int 0) 2 ls st h) := a_R_eq ..
theorem r49_2 (ls : A_V) (st : List Value) (h : A_H) : R 49 2 ls st h = a_do a_nL R R 49 (s_putI 8 0 3 ls st h) := a_R_eq ..
theorem r49_3 (ls : A_V) (st : List Value) (h : A_H) : R 49 3 ls st h = a_do a_nL R R 49 (s_aldl 0 4 ls st h) := a_R_eq ..
theorem r49_4 (ls : A_V) (st : List Value) (h : A_H) : R 49 4 ls st h = a_do a_nL R R 49 (s_push (.int 0) 5 ls st h) := a_R_eq ..
theorem r49_5 (ls : A_V) (st : List Value) (h : A_H) : R 49 5 ls st h = a_do a_nL R R 49 (s_putI 8 1 6 ls st h) := a_R_eq ..
theorem r49_6 (ls : A_V) (st : List Value) (h : A_H) : R 49 6 ls st h = a_do a_nL R R 49 (s_aldl 0 7 ls st h) := a_R_eq ..
theorem r49_7 (ls : A_V) (st : List Value) (h : A_H) : R 49 7 ls st h = a_do a_nL R R 49 (s_push (.int 0) 8 ls st h) := a_R_eq ..
theorem r49_8 (ls : A_V) (st : List Value) (h : A_H) : R 49 8 ls st h = a_do a_nL R R 49 (s_putI 8 2 9 ls st h) := a_R_eq ..
theorem r49_9 (ls : A_V) (st : List Value) (h : A_H) : R 49 9 ls st h = a_do a_nL R R 49 (s_aldl 0 10 ls st h) := a_R_eq ..
theorem r49_10 (ls : A_V) (st : List Value) (h : A_H) : R 49 10 ls st h = a_do a_nL R R 49 (s_push (.int 0) 11 ls st h) := a_R_eq ..
theorem r49_11 (ls : A_V) (st : List Value) (h : A_H) : R 49 11 ls st h = a_do a_nL R R 49 (s_putI 8 3 12 ls st h) := a_R_eq ..
theorem r49_12 (ls : A_V) (st : List Value) (h : A_H) : R 49 12 ls st h = a_do a_nL R R 49 (s_aldl 0 13 ls st h) := a_R_eq ..
theorem r49_13 (ls : A_V) (st : List Value) (h : A_H) : R 49 13 ls st h = a_do a_nL R R 49 (s_aldl 1 14 ls st h) := a_R_eq ..
theorem r49_14 (ls : A_V) (st : List Value) (h : A_H) : R 49 14 ls st h = a_do a_nL R R 49 (s_getI 9 8 15 ls st h) := a_R_eq ..
theorem r49_15 (ls : A_V) (st : List Value) (h : A_H) : R 49 15 ls st h = a_do a_nL R R 49 (s_putI 8 4 16 ls st h) := a_R_eq ..
theorem r49_16 (ls : A_V) (st : List Value) (h : A_H) : R 49 16 ls st h = a_do a_nL R R 49 (s_push (.int 0) 17 ls st h) := a_R_eq ..
theorem r49_17 (ls : A_V) (st : List Value) (h : A_H) : R 49 17 ls st h = a_do a_nL R R 49 (s_ist 2 18 ls st h) := a_R_eq ..
theorem r49_18 (ls : A_V) (st : List Value) (h : A_H) : R 49 18 ls st h = a_do a_nL R R 49 (s_ildl 2 19 ls st h) := a_R_eq ..
theorem r49_19 (ls : A_V) (st : List Value) (h : A_H) : R 49 19 ls st h = a_do a_nL R R 49 (s_push (.int 4) 20 ls st h) := a_R_eq ..
theorem r49_20 (ls : A_V) (st : List Value) (h : A_H) : R 49 20 ls st h = a_do a_nL R R 49 (s_if2 (fun x y => decide (y ≤ x)) 28 21 ls st h) := a_R_eq ..
theorem r49_21 (ls : A_V) (st : List Value) (h : A_H) : R 49 21 ls st h = a_do a_nL R R 49 (s_aldl 0 22 ls st h) := a_R_eq ..
theorem r49_22 (ls : A_V) (st : List Value) (h : A_H) : R 49 22 ls st h = a_do a_nL R R 49 (s_getR 8 5 23 ls st h) := a_R_eq ..
theorem r49_23 (ls : A_V) (st : List Value) (h : A_H) : R 49 23 ls st h = a_do a_nL R R 49 (s_ildl 2 24 ls st h) := a_R_eq ..
theorem r49_24 (ls : A_V) (st : List Value) (h : A_H) : R 49 24 ls st h = a_do a_nL R R 49 (s_push (.int 0) 25 ls st h) := a_R_eq ..
theorem r49_25 (ls : A_V) (st : List Value) (h : A_H) : R 49 25 ls st h = a_do a_nL R R 49 (s_ias 26 ls st h) := a_R_eq ..
theorem r49_26 (ls : A_V) (st : List Value) (h : A_H) : R 49 26 ls st h = a_do a_nL R R 49 (s_inc 2 1 27 ls st h) := a_R_eq ..
theorem r49_27 (ls : A_V) (st : List Value) (h : A_H) : R 49 27 ls st h = a_do a_nL R R 49 (s_goto 18 ls st h) := a_R_eq ..
theorem r49_28 (ls : A_V) (st : List Value) (h : A_H) : R 49 28 ls st h = a_do a_nL R R 49 (s_vret ls st h) := a_R_eq ..
theorem b49_0 (x0 : Nat) (x1 : Nat) (l2 : Option Value) (h : A_H) : R 49 0 [some (.ref x0), some (.ref x1), l2] [] h = (cond (isO h x0 8) (R 49 3 [some (.ref x0), some (.ref x1), l2] [] (wI h x0 0 (0 : Int32))) none) := (tr (r49_0 ..) (tr (r49_1 ..) (r49_2 ..)))
theorem b49_3 (x0 : Nat) (x1 : Nat) (l2 : Option Value) (h : A_H) : R 49 3 [some (.ref x0), some (.ref x1), l2] [] h = (cond (isO h x0 8) (R 49 6 [some (.ref x0), some (.ref x1), l2] [] (wI h x0 1 (0 : Int32))) none) := (tr (r49_3 ..) (tr (r49_4 ..) (r49_5 ..)))
theorem b49_6 (x0 : Nat) (x1 : Nat) (l2 : Option Value) (h : A_H) : R 49 6 [some (.ref x0), some (.ref x1), l2] [] h = (cond (isO h x0 8) (R 49 9 [some (.ref x0), some (.ref x1), l2] [] (wI h x0 2 (0 : Int32))) none) := (tr (r49_6 ..) (tr (r49_7 ..) (r49_8 ..)))
theorem b49_9 (x0 : Nat) (x1 : Nat) (l2 : Option Value) (h : A_H) : R 49 9 [some (.ref x0), some (.ref x1), l2] [] h = (cond (isO h x0 8) (R 49 12 [some (.ref x0), some (.ref x1), l2] [] (wI h x0 3 (0 : Int32))) none) := (tr (r49_9 ..) (tr (r49_10 ..) (r49_11 ..)))
theorem b49_12 (x0 : Nat) (x1 : Nat) (l2 : Option Value) (h : A_H) : R 49 12 [some (.ref x0), some (.ref x1), l2] [] h = (cond (isO h x1 9) (cond (isO h x0 8) (R 49 16 [some (.ref x0), some (.ref x1), l2] [] (wI h x0 4 (hI h x1 8))) none) none) := (tr (r49_12 ..) (tr (r49_13 ..) (tr (r49_14 ..) (cgT (r49_15 ..)))))
theorem b49_16 (x0 : Nat) (x1 : Nat) (l2 : Option Value) (h : A_H) : R 49 16 [some (.ref x0), some (.ref x1), l2] [] h = (R 49 18 [some (.ref x0), some (.ref x1), some (.int (0 : Int32))] [] h) := (tr (r49_16 ..) (r49_17 ..))
theorem b49_18 (x0 : Nat) (x1 : Nat) (x2 : Int32) (h : A_H) : R 49 18 [some (.ref x0), some (.ref x1), some (.int x2)] [] h = (cond (decide ((4 : Int32) ≤ x2)) (some (some none, h)) (cond (isO h x0 8 && (hP h x0 5).isSome) (cond (isA h ((hP h x0 5).getD 0) 0 x2) (R 49 26 [some (.ref x0), some (.ref x1), some (.int x2)] [] (wI h ((hP h x0 5).getD 0) (x2).toNatClampNeg (0 : Int32))) none) none)) := (tr (r49_18 ..) (tr (r49_19 ..) (tr (r49_20 ..) (cgB (r49_28 ..) (tr (r49_21 ..) (tr (r49_22 ..) (cgT (tr (r49_23 ..) (tr (r49_24 ..) (r49_25 ..))))))))))
theorem b49_26 (x0 : Nat) (x1 : Nat) (x2 : Int32) (h : A_H) : R 49 26 [some (.ref x0), some (.ref x1), some (.int x2)] [] h = (R 49 18 [some (.ref x0), some (.ref x1), some (.int (x2 + 1))] [] h) := (tr (r49_26 ..) (r49_27 ..))
theorem e50 (x0 : Nat) (x1 : Nat) (h : A_H) : C 50 [.ref x0, .ref x1] h = R 50 0 [some (.ref x0), some (.ref x1), none] [] h := rfl
theorem r50_0 (ls : A_V) (st : List Value) (h : A_H) : R 50 0 ls st h = a_do a_nL R R 50 (s_aldl 0 1 ls st h) := a_R_eq ..
theorem r50_1 (ls : A_V) (st : List Value) (h : A_H) : R 50 1 ls st h = a_do a_nL R R 50 (s_aldl 1 2 ls st h) := a_R_eq ..
theorem r50_2 (ls : A_V) (st : List Value) (h : A_H) : R 50 2 ls st h = a_do a_nL R R 50 (s_getI 8 0 3 ls st h) := a_R_eq ..
theorem r50_3 (ls : A_V) (st : List Value) (h : A_H) : R 50 3 ls st h = a_do a_nL R R 50 (s_putI 8 0 4 ls st h) := a_R_eq ..
theorem r50_4 (ls : A_V) (st : List Value) (h : A_H) : R 50 4 ls st h = a_do a_nL R R 50 (s_aldl 0 5 ls st h) := a_R_eq ..
theorem r50_5 (ls : A_V) (st : List Value) (h : A_H) : R 50 5 ls st h = a_do a_nL R R 50 (s_aldl 1 6 ls st h) := a_R_eq ..
theorem r50_6 (ls : A_V) (st : List Value) (h : A_H) : R 50 6 ls st h = a_do a_nL R R 50 (s_getI 8 1 7 ls st h) := a_R_eq ..
theorem r50_7 (ls : A_V) (st : List Value) (h : A_H) : R 50 7 ls st h = a_do a_nL R R 50 (s_putI 8 1 8 ls st h) := a_R_eq ..
theorem r50_8 (ls : A_V) (st : List Value) (h : A_H) : R 50 8 ls st h = a_do a_nL R R 50 (s_aldl 0 9 ls st h) := a_R_eq ..
theorem r50_9 (ls : A_V) (st : List Value) (h : A_H) : R 50 9 ls st h = a_do a_nL R R 50 (s_aldl 1 10 ls st h) := a_R_eq ..
theorem r50_10 (ls : A_V) (st : List Value) (h : A_H) : R 50 10 ls st h = a_do a_nL R R 50 (s_getI 8 2 11 ls st h) := a_R_eq ..
theorem r50_11 (ls : A_V) (st : List Value) (h : A_H) : R 50 11 ls st h = a_do a_nL R R 50 (s_putI 8 2 12 ls st h) := a_R_eq ..
theorem r50_12 (ls : A_V) (st : List Value) (h : A_H) : R 50 12 ls st h = a_do a_nL R R 50 (s_aldl 0 13 ls st h) := a_R_eq ..
theorem r50_13 (ls : A_V) (st : List Value) (h : A_H) : R 50 13 ls st h = a_do a_nL R R 50 (s_aldl 1 14 ls st h) := a_R_eq ..
theorem r50_14 (ls : A_V) (st : List Value) (h : A_H) : R 50 14 ls st h = a_do a_nL R R 50 (s_getI 8 3 15 ls st h) := a_R_eq ..
theorem r50_15 (ls : A_V) (st : List Value) (h : A_H) : R 50 15 ls st h = a_do a_nL R R 50 (s_putI 8 3 16 ls st h) := a_R_eq ..
theorem r50_16 (ls : A_V) (st : List Value) (h : A_H) : R 50 16 ls st h = a_do a_nL R R 50 (s_aldl 0 17 ls st h) := a_R_eq ..
theorem r50_17 (ls : A_V) (st : List Value) (h : A_H) : R 50 17 ls st h = a_do a_nL R R 50 (s_aldl 1 18 ls st h) := a_R_eq ..
theorem r50_18 (ls : A_V) (st : List Value) (h : A_H) : R 50 18 ls st h = a_do a_nL R R 50 (s_getI 8 4 19 ls st h) := a_R_eq ..
theorem r50_19 (ls : A_V) (st : List Value) (h : A_H) : R 50 19 ls st h = a_do a_nL R R 50 (s_putI 8 4 20 ls st h) := a_R_eq ..
theorem r50_20 (ls : A_V) (st : List Value) (h : A_H) : R 50 20 ls st h = a_do a_nL R R 50 (s_push (.int 0) 21 ls st h) := a_R_eq ..
theorem r50_21 (ls : A_V) (st : List Value) (h : A_H) : R 50 21 ls st h = a_do a_nL R R 50 (s_ist 2 22 ls st h) := a_R_eq ..
theorem r50_22 (ls : A_V) (st : List Value) (h : A_H) : R 50 22 ls st h = a_do a_nL R R 50 (s_ildl 2 23 ls st h) := a_R_eq ..
theorem r50_23 (ls : A_V) (st : List Value) (h : A_H) : R 50 23 ls st h = a_do a_nL R R 50 (s_push (.int 4) 24 ls st h) := a_R_eq ..
theorem r50_24 (ls : A_V) (st : List Value) (h : A_H) : R 50 24 ls st h = a_do a_nL R R 50 (s_if2 (fun x y => decide (y ≤ x)) 35 25 ls st h) := a_R_eq ..
theorem r50_25 (ls : A_V) (st : List Value) (h : A_H) : R 50 25 ls st h = a_do a_nL R R 50 (s_aldl 0 26 ls st h) := a_R_eq ..
theorem r50_26 (ls : A_V) (st : List Value) (h : A_H) : R 50 26 ls st h = a_do a_nL R R 50 (s_getR 8 5 27 ls st h) := a_R_eq ..
theorem r50_27 (ls : A_V) (st : List Value) (h : A_H) : R 50 27 ls st h = a_do a_nL R R 50 (s_ildl 2 28 ls st h) := a_R_eq ..
theorem r50_28 (ls : A_V) (st : List Value) (h : A_H) : R 50 28 ls st h = a_do a_nL R R 50 (s_aldl 1 29 ls st h) := a_R_eq ..
theorem r50_29 (ls : A_V) (st : List Value) (h : A_H) : R 50 29 ls st h = a_do a_nL R R 50 (s_getR 8 5 30 ls st h) := a_R_eq ..
theorem r50_30 (ls : A_V) (st : List Value) (h : A_H) : R 50 30 ls st h = a_do a_nL R R 50 (s_ildl 2 31 ls st h) := a_R_eq ..
theorem r50_31 (ls : A_V) (st : List Value) (h : A_H) : R 50 31 ls st h = a_do a_nL R R 50 (s_ial 0 32 ls st h) := a_R_eq ..
theorem r50_32 (ls : A_V) (st : List Value) (h : A_H) : R 50 32 ls st h = a_do a_nL R R 50 (s_ias 33 ls st h) := a_R_eq ..
theorem r50_33 (ls : A_V) (st : List Value) (h : A_H) : R 50 33 ls st h = a_do a_nL R R 50 (s_inc 2 1 34 ls st h) := a_R_eq ..
theorem r50_34 (ls : A_V) (st : List Value) (h : A_H) : R 50 34 ls st h = a_do a_nL R R 50 (s_goto 22 ls st h) := a_R_eq ..
theorem r50_35 (ls : A_V) (st : List Value) (h : A_H) : R 50 35 ls st h = a_do a_nL R R 50 (s_vret ls st h) := a_R_eq ..
theorem b50_0 (x0 : Nat) (x1 : Nat) (l2 : Option Value) (h : A_H) : R 50 0 [some (.ref x0), some (.ref x1), l2] [] h = (cond (isO h x1 8) (cond (isO h x0 8) (R 50 4 [some (.ref x0), some (.ref x1), l2] [] (wI h x0 0 (hI h x1 0))) none) none) := (tr (r50_0 ..) (tr (r50_1 ..) (tr (r50_2 ..) (cgT (r50_3 ..)))))
theorem b50_4 (x0 : Nat) (x1 : Nat) (l2 : Option Value) (h : A_H) : R 50 4 [some (.ref x0), some (.ref x1), l2] [] h = (cond (isO h x1 8) (cond (isO h x0 8) (R 50 8 [some (.ref x0), some (.ref x1), l2] [] (wI h x0 1 (hI h x1 1))) none) none) := (tr (r50_4 ..) (tr (r50_5 ..) (tr (r50_6 ..) (cgT (r50_7 ..)))))
theorem b50_8 (x0 : Nat) (x1 : Nat) (l2 : Option Value) (h : A_H) : R 50 8 [some (.ref x0), some (.ref x1), l2] [] h = (cond (isO h x1 8) (cond (isO h x0 8) (R 50 12 [some (.ref x0), some (.ref x1), l2] [] (wI h x0 2 (hI h x1 2))) none) none) := (tr (r50_8 ..) (tr (r50_9 ..) (tr (r50_10 ..) (cgT (r50_11 ..)))))
theorem b50_12 (x0 : Nat) (x1 : Nat) (l2 : Option Value) (h : A_H) : R 50 12 [some (.ref x0), some (.ref x1), l2] [] h = (cond (isO h x1 8) (cond (isO h x0 8) (R 50 16 [some (.ref x0), some (.ref x1), l2] [] (wI h x0 3 (hI h x1 3))) none) none) := (tr (r50_12 ..) (tr (r50_13 ..) (tr (r50_14 ..) (cgT (r50_15 ..)))))
theorem b50_16 (x0 : Nat) (x1 : Nat) (l2 : Option Value) (h : A_H) : R 50 16 [some (.ref x0), some (.ref x1), l2] [] h = (cond (isO h x1 8) (cond (isO h x0 8) (R 50 20 [some (.ref x0), some (.ref x1), l2] [] (wI h x0 4 (hI h x1 4))) none) none) := (tr (r50_16 ..) (tr (r50_17 ..) (tr (r50_18 ..) (cgT (r50_19 ..)))))
theorem b50_20 (x0 : Nat) (x1 : Nat) (l2 : Option Value) (h : A_H) : R 50 20 [some (.ref x0), some (.ref x1), l2] [] h = (R 50 22 [some (.ref x0), some (.ref x1), some (.int (0 : Int32))] [] h) := (tr (r50_20 ..) (r50_21 ..))
theorem b50_22 (x0 : Nat) (x1 : Nat) (x2 : Int32) (h : A_H) : R 50 22 [some (.ref x0), some (.ref x1), some (.int x2)] [] h = (cond (decide ((4 : Int32) ≤ x2)) (some (some none, h)) (cond (isO h x0 8 && (hP h x0 5).isSome) (cond (isO h x1 8 && (hP h x1 5).isSome) (cond (isA h ((hP h x1 5).getD 0) 0 x2) (cond (isA h ((hP h x0 5).getD 0) 0 x2) (R 50 33 [some (.ref x0), some (.ref x1), some (.int x2)] [] (wI h ((hP h x0 5).getD 0) (x2).toNatClampNeg (hI h ((hP h x1 5).getD 0) (x2).toNatClampNeg))) none) none) none) none)) := (tr (r50_22 ..) (tr (r50_23 ..) (tr (r50_24 ..) (cgB (r50_35 ..) (tr (r50_25 ..) (tr (r50_26 ..) (cgT (tr (r50_27 ..) (tr (r50_28 ..) (tr (r50_29 ..) (cgT (tr (r50_30 ..) (tr (r50_31 ..) (cgT (r50_32 ..)))))))))))))))
theorem b50_33 (x0 : Nat) (x1 : Nat) (x2 : Int32) (h : A_H) : R 50 33 [some (.ref x0), some (.ref x1), some (.int x2)] [] h = (R 50 22 [some (.ref x0), some (.ref x1), some (.int (x2 + 1))] [] h) := (tr (r50_33 ..) (r50_34 ..))
theorem e51 (x0 : Nat) (h : A_H) : C 51 [.ref x0] h = R 51 0 [some (.ref x0)] [] h := rfl
theorem r51_0 (ls : A_V) (st : List Value) (h : A_H) : R 51 0 ls st h = a_do a_nL R R 51 (s_aldl 0 1 ls st h) := a_R_eq ..
theorem r51_1 (ls : A_V) (st : List Value) (h : A_H) : R 51 1 ls st h = a_do a_nL R R 51 (s_getI 8 1 2 ls st h) := a_R_eq ..
theorem r51_2 (ls : A_V) (st : List Value) (h : A_H) : R 51 2 ls st h = a_do a_nL R R 51 (s_aldl 0 3 ls st h) := a_R_eq ..
theorem r51_3 (ls : A_V) (st : List Value) (h : A_H) : R 51 3 ls st h = a_do a_nL R R 51 (s_getI 8 2 4 ls st h) := a_R_eq ..
theorem r51_4 (ls : A_V) (st : List Value) (h : A_H) : R 51 4 ls st h = a_do a_nL R R 51 (s_bi (fun x y => x ||| y) 5 ls st h) := a_R_eq ..
theorem r51_5 (ls : A_V) (st : List Value) (h : A_H) : R 51 5 ls st h = a_do a_nL R R 51 (s_aldl 0 6 ls st h) := a_R_eq ..
theorem r51_6 (ls : A_V) (st : List Value) (h : A_H) : R 51 6 ls st h = a_do a_nL R R 51 (s_getI 8 3 7 ls st h) := a_R_eq ..
theorem r51_7 (ls : A_V) (st : List Value) (h : A_H) : R 51 7 ls st h = a_do a_nL R R 51 (s_bi (fun x y => x ||| y) 8 ls st h) := a_R_eq ..
theorem r51_8 (ls : A_V) (st : List Value) (h : A_H) : R 51 8 ls st h = a_do a_nL R R 51 (s_iret ls st h) := a_R_eq ..
theorem b51_0 (x0 : Nat) (h : A_H) : R 51 0 [some (.ref x0)] [] h = (cond (isO h x0 8) (cond (isO h x0 8) (cond (isO h x0 8) (some (some (some (.int (((hI h x0 1) ||| (hI h x0 2)) ||| (hI h x0 3)))), h)) none) none) none) := (tr (r51_0 ..) (tr (r51_1 ..) (cgT (tr (r51_2 ..) (tr (r51_3 ..) (cgT (tr (r51_4 ..) (tr (r51_5 ..) (tr (r51_6 ..) (cgT (tr (r51_7 ..) (r51_8 ..))))))))))))
theorem e52 (x0 : Nat) (x1 : Int32) (h : A_H) : C 52 [.ref x0, .int x1] h = R 52 0 [some (.ref x0), some (.int x1), none] [] h := rfl
theorem r52_0 (ls : A_V) (st : List Value) (h : A_H) : R 52 0 ls st h = a_do a_nL R R 52 (s_push (.int 1) 1 ls st h) := a_R_eq ..
theorem r52_1 (ls : A_V) (st : List Value) (h : A_H) : R 52 1 ls st h = a_do a_nL R R 52 (s_ildl 1 2 ls st h) := a_R_eq ..
theorem r52_2 (ls : A_V) (st : List Value) (h : A_H) : R 52 2 ls st h = a_do a_nL R R 52 (s_bi (fun x y => x <<< (y &&& 31)) 3 ls st h) := a_R_eq ..
theorem r52_3 (ls : A_V) (st : List Value) (h : A_H) : R 52 3 ls st h = a_do a_nL R R 52 (s_ist 2 4 ls st h) := a_R_eq ..
theorem r52_4 (ls : A_V) (st : List Value) (h : A_H) : R 52 4 ls st h = a_do a_nL R R 52 (s_aldl 0 5 ls st h) := a_R_eq ..
theorem r52_5 (ls : A_V) (st : List Value) (h : A_H) : R 52 5 ls st h = a_do a_nL R R 52 (s_getI 8 1 6 ls st h) := a_R_eq ..
theorem r52_6 (ls : A_V) (st : List Value) (h : A_H) : R 52 6 ls st h = a_do a_nL R R 52 (s_ildl 2 7 ls st h) := a_R_eq ..
theorem r52_7 (ls : A_V) (st : List Value) (h : A_H) : R 52 7 ls st h = a_do a_nL R R 52 (s_bi (fun x y => x &&& y) 8 ls st h) := a_R_eq ..
theorem r52_8 (ls : A_V) (st : List Value) (h : A_H) : R 52 8 ls st h = a_do a_nL R R 52 (s_if1 (fun x => decide (x = 0)) 11 9 ls st h) := a_R_eq ..
theorem r52_9 (ls : A_V) (st : List Value) (h : A_H) : R 52 9 ls st h = a_do a_nL R R 52 (s_push (.int 1) 10 ls st h) := a_R_eq ..
theorem r52_10 (ls : A_V) (st : List Value) (h : A_H) : R 52 10 ls st h = a_do a_nL R R 52 (s_iret ls st h) := a_R_eq ..
theorem r52_11 (ls : A_V) (st : List Value) (h : A_H) : R 52 11 ls st h = a_do a_nL R R 52 (s_aldl 0 12 ls st h) := a_R_eq ..
theorem r52_12 (ls : A_V) (st : List Value) (h : A_H) : R 52 12 ls st h = a_do a_nL R R 52 (s_getI 8 2 13 ls st h) := a_R_eq ..
theorem r52_13 (ls : A_V) (st : List Value) (h : A_H) : R 52 13 ls st h = a_do a_nL R R 52 (s_ildl 2 14 ls st h) := a_R_eq ..
theorem r52_14 (ls : A_V) (st : List Value) (h : A_H) : R 52 14 ls st h = a_do a_nL R R 52 (s_bi (fun x y => x &&& y) 15 ls st h) := a_R_eq ..
theorem r52_15 (ls : A_V) (st : List Value) (h : A_H) : R 52 15 ls st h = a_do a_nL R R 52 (s_if1 (fun x => decide (x = 0)) 18 16 ls st h) := a_R_eq ..
theorem r52_16 (ls : A_V) (st : List Value) (h : A_H) : R 52 16 ls st h = a_do a_nL R R 52 (s_push (.int 2) 17 ls st h) := a_R_eq ..
theorem r52_17 (ls : A_V) (st : List Value) (h : A_H) : R 52 17 ls st h = a_do a_nL R R 52 (s_iret ls st h) := a_R_eq ..
theorem r52_18 (ls : A_V) (st : List Value) (h : A_H) : R 52 18 ls st h = a_do a_nL R R 52 (s_aldl 0 19 ls st h) := a_R_eq ..
theorem r52_19 (ls : A_V) (st : List Value) (h : A_H) : R 52 19 ls st h = a_do a_nL R R 52 (s_getI 8 3 20 ls st h) := a_R_eq ..
theorem r52_20 (ls : A_V) (st : List Value) (h : A_H) : R 52 20 ls st h = a_do a_nL R R 52 (s_ildl 2 21 ls st h) := a_R_eq ..
theorem r52_21 (ls : A_V) (st : List Value) (h : A_H) : R 52 21 ls st h = a_do a_nL R R 52 (s_bi (fun x y => x &&& y) 22 ls st h) := a_R_eq ..
theorem r52_22 (ls : A_V) (st : List Value) (h : A_H) : R 52 22 ls st h = a_do a_nL R R 52 (s_if1 (fun x => decide (x = 0)) 25 23 ls st h) := a_R_eq ..
theorem r52_23 (ls : A_V) (st : List Value) (h : A_H) : R 52 23 ls st h = a_do a_nL R R 52 (s_push (.int 3) 24 ls st h) := a_R_eq ..
theorem r52_24 (ls : A_V) (st : List Value) (h : A_H) : R 52 24 ls st h = a_do a_nL R R 52 (s_goto 26 ls st h) := a_R_eq ..
theorem r52_25 (ls : A_V) (st : List Value) (h : A_H) : R 52 25 ls st h = a_do a_nL R R 52 (s_push (.int 0) 26 ls st h) := a_R_eq ..
theorem r52_26 (ls : A_V) (st : List Value) (h : A_H) : R 52 26 ls st h = a_do a_nL R R 52 (s_iret ls st h) := a_R_eq ..
theorem b52_0 (x0 : Nat) (x1 : Int32) (l2 : Option Value) (h : A_H) : R 52 0 [some (.ref x0), some (.int x1), l2] [] h = (cond (isO h x0 8) (cond (decide (((hI h x0 1) &&& ((1 : Int32) <<< (x1 &&& 31))) = 0)) (cond (isO h x0 8) (cond (decide (((hI h x0 2) &&& ((1 : Int32) <<< (x1 &&& 31))) = 0)) (cond (isO h x0 8) (cond (decide (((hI h x0 3) &&& ((1 : Int32) <<< (x1 &&& 31))) = 0)) (some (some (some (.int (0 : Int32))), h)) (some (some (some (.int (3 : Int32))), h))) none) (some (some (some (.int (2 : Int32))), h))) none) (some (some (some (.int (1 : Int32))), h))) none) := (tr (r52_0 ..) (tr (r52_1 ..) (tr (r52_2 ..) (tr (r52_3 ..) (tr (r52_4 ..) (tr (r52_5 ..) (cgT (tr (r52_6 ..) (tr (r52_7 ..) (tr (r52_8 ..) (cgB (tr (r52_11 ..) (tr (r52_12 ..) (cgT (tr (r52_13 ..) (tr (r52_14 ..) (tr (r52_15 ..) (cgB (tr (r52_18 ..) (tr (r52_19 ..) (cgT (tr (r52_20 ..) (tr (r52_21 ..) (tr (r52_22 ..) (cgB (tr (r52_25 ..) (r52_26 ..)) (tr (r52_23 ..) (tr (r52_24 ..) (r52_26 ..)))))))))) (tr (r52_16 ..) (r52_17 ..))))))))) (tr (r52_9 ..) (r52_10 ..)))))))))))))
theorem e53 (x0 : Nat) (x1 : Int32) (x2 : Int32) (x3 : Int32) (x4 : Int32) (h : A_H) : C 53 [.ref x0, .int x1, .int x2, .int x3, .int x4] h = R 53 0 [some (.ref x0), some (.int x1), some (.int x2), some (.int x3), some (.int x4)] [] h := rfl
theorem r53_0 (ls : A_V) (st : List Value) (h : A_H) : R 53 0 ls st h = a_do a_nL R R 53 (s_aldl 0 1 ls st h) := a_R_eq ..
theorem r53_1 (ls : A_V) (st : List Value) (h : A_H) : R 53 1 ls st h = a_do a_nL R R 53 (s_dup 2 ls st h) := a_R_eq ..
theorem r53_2 (ls : A_V) (st : List Value) (h : A_H) : R 53 2 ls st h = a_do a_nL R R 53 (s_getI 8 3 3 ls st h) := a_R_eq ..
theorem r53_3 (ls : A_V) (st : List Value) (h : A_H) : R 53 3 ls st h = a_do a_nL R R 53 (s_ildl 3 4 ls st h) := a_R_eq ..
theorem r53_4 (ls : A_V) (st : List Value) (h : A_H) : R 53 4 ls st h = a_do a_nL R R 53 (s_bi (fun x y => x ||| y) 5 ls st h) := a_R_eq ..
theorem r53_5 (ls : A_V) (st : List Value) (h : A_H) : R 53 5 ls st h = a_do a_nL R R 53 (s_putI 8 3 6 ls st h) := a_R_eq ..
theorem r53_6 (ls : A_V) (st : List Value) (h : A_H) : R 53 6 ls st h = a_do a_nL R R 53 (s_aldl 0 7 ls st h) := a_R_eq ..
theorem r53_7 (ls : A_V) (st : List Value) (h : A_H) : R 53 7 ls st h = a_do a_nL R R 53 (s_dup 8 ls st h) := a_R_eq ..
theorem r53_8 (ls : A_V) (st : List Value) (h : A_H) : R 53 8 ls st h = a_do a_nL R R 53 (s_getI 8 2 9 ls st h) := a_R_eq ..
theorem r53_9 (ls : A_V) (st : List Value) (h : A_H) : R 53 9 ls st h = a_do a_nL R R 53 (s_ildl 2 10 ls st h) := a_R_eq ..
theorem r53_10 (ls : A_V) (st : List Value) (h : A_H) : R 53 10 ls st h = a_do a_nL R R 53 (s_ildl 3 11 ls st h) := a_R_eq ..
theorem r53_11 (ls : A_V) (st : List Value) (h : A_H) : R 53 11 ls st h = a_do a_nL R R 53 (s_push (.int (-1)) 12 ls st h) := a_R_eq ..
theorem r53_12 (ls : A_V) (st : List Value) (h : A_H) : R 53 12 ls st h = a_do a_nL R R 53 (s_bi (fun x y => x ^^^ y) 13 ls st h) := a_R_eq ..
theorem r53_13 (ls : A_V) (st : List Value) (h : A_H) : R 53 13 ls st h = a_do a_nL R R 53 (s_bi (fun x y => x &&& y) 14 ls st h) := a_R_eq ..
theorem r53_14 (ls : A_V) (st : List Value) (h : A_H) : R 53 14 ls st h = a_do a_nL R R 53 (s_bi (fun x y => x ||| y) 15 ls st h) := a_R_eq ..
theorem r53_15 (ls : A_V) (st : List Value) (h : A_H) : R 53 15 ls st h = a_do a_nL R R 53 (s_putI 8 2 16 ls st h) := a_R_eq ..
theorem r53_16 (ls : A_V) (st : List Value) (h : A_H) : R 53 16 ls st h = a_do a_nL R R 53 (s_aldl 0 17 ls st h) := a_R_eq ..
theorem r53_17 (ls : A_V) (st : List Value) (h : A_H) : R 53 17 ls st h = a_do a_nL R R 53 (s_getR 8 5 18 ls st h) := a_R_eq ..
theorem r53_18 (ls : A_V) (st : List Value) (h : A_H) : R 53 18 ls st h = a_do a_nL R R 53 (s_ildl 1 19 ls st h) := a_R_eq ..
theorem r53_19 (ls : A_V) (st : List Value) (h : A_H) : R 53 19 ls st h = a_do a_nL R R 53 (s_dup2 20 ls st h) := a_R_eq ..
theorem r53_20 (ls : A_V) (st : List Value) (h : A_H) : R 53 20 ls st h = a_do a_nL R R 53 (s_ial 0 21 ls st h) := a_R_eq ..
theorem r53_21 (ls : A_V) (st : List Value) (h : A_H) : R 53 21 ls st h = a_do a_nL R R 53 (s_ildl 4 22 ls st h) := a_R_eq ..
theorem r53_22 (ls : A_V) (st : List Value) (h : A_H) : R 53 22 ls st h = a_do a_nL R R 53 (s_bi (fun x y => x + y) 23 ls st h) := a_R_eq ..
theorem r53_23 (ls : A_V) (st : List Value) (h : A_H) : R 53 23 ls st h = a_do a_nL R R 53 (s_ias 24 ls st h) := a_R_eq ..
theorem r53_24 (ls : A_V) (st : List Value) (h : A_H) : R 53 24 ls st h = a_do a_nL R R 53 (s_vret ls st h) := a_R_eq ..
theorem b53_0 (x0 : Nat) (x1 : Int32) (x2 : Int32) (x3 : Int32) (x4 : Int32) (h : A_H) : R 53 0 [some (.ref x0), some (.int x1), some (.int x2), some (.int x3), some (.int x4)] [] h = (cond (isO h x0 8) (cond (isO h x0 8) (R 53 6 [some (.ref x0), some (.int x1), some (.int x2), some (.int x3), some (.int x4)] [] (wI h x0 3 ((hI h x0 3) ||| x3))) none) none) := (tr (r53_0 ..) (tr (r53_1 ..) (tr (r53_2 ..) (cgT (tr (r53_3 ..) (tr (r53_4 ..) (r53_5 ..)))))))
theorem b53_6 (x0 : Nat) (x1 : Int32) (x2 : Int32) (x3 : Int32) (x4 : Int32) (h : A_H) : R 53 6 [some (.ref x0), some (.int x1), some (.int x2), some (.int x3), some (.int x4)] [] h = (cond (isO h x0 8) (cond (isO h x0 8) (R 53 16 [some (.ref x0), some (.int x1), some (.int x2), some (.int x3), some (.int x4)] [] (wI h x0 2 ((hI h x0 2) ||| (x2 &&& (x3 ^^^ (-1 : Int32)))))) none) none) := (tr (r53_6 ..) (tr (r53_7 ..) (tr (r53_8 ..) (cgT (tr (r53_9 ..) (tr (r53_10 ..) (tr (r53_11 ..) (tr (r53_12 ..) (tr (r53_13 ..) (tr (r53_14 ..) (r53_15 ..)))))))))))
theorem b53_16 (x0 : Nat) (x1 : Int32) (x2 : Int32) (x3 : Int32) (x4 : Int32) (h : A_H) : R 53 16 [some (.ref x0), some (.int x1), some (.int x2), some (.int x3), some (.int x4)] [] h = (cond (isO h x0 8 && (hP h x0 5).isSome) (cond (isA h ((hP h x0 5).getD 0) 0 x1) (cond (isA h ((hP h x0 5).getD 0) 0 x1) (R 53 24 [some (.ref x0), some (.int x1), some (.int x2), some (.int x3), some (.int x4)] [] (wI h ((hP h x0 5).getD 0) (x1).toNatClampNeg ((hI h ((hP h x0 5).getD 0) (x1).toNatClampNeg) + x4))) none) none) none) := (tr (r53_16 ..) (tr (r53_17 ..) (cgT (tr (r53_18 ..) (tr (r53_19 ..) (tr (r53_20 ..) (cgT (tr (r53_21 ..) (tr (r53_22 ..) (r53_23 ..))))))))))
theorem b53_24 (x0 : Nat) (x1 : Int32) (x2 : Int32) (x3 : Int32) (x4 : Int32) (h : A_H) : R 53 24 [some (.ref x0), some (.int x1), some (.int x2), some (.int x3), some (.int x4)] [] h = (some (some none, h)) := (r53_24 ..)
theorem e54 (x0 : Nat) (h : A_H) : C 54 [.ref x0] h = R 54 0 [some (.ref x0), none, none] [] h := rfl
theorem r54_0 (ls : A_V) (st : List Value) (h : A_H) : R 54 0 ls st h = a_do a_nL R R 54 (s_push (.int 0) 1 ls st h) := a_R_eq ..
theorem r54_1 (ls : A_V) (st : List Value) (h : A_H) : R 54 1 ls st h = a_do a_nL R R 54 (s_ist 1 2 ls st h) := a_R_eq ..
theorem r54_2 (ls : A_V) (st : List Value) (h : A_H) : R 54 2 ls st h = a_do a_nL R R 54 (s_push (.int 0) 3 ls st h) := a_R_eq ..
theorem r54_3 (ls : A_V) (st : List Value) (h : A_H) : R 54 3 ls st h = a_do a_nL R R 54 (s_ist 2 4 ls st h) := a_R_eq ..
theorem r54_4 (ls : A_V) (st : List Value) (h : A_H) : R 54 4 ls st h = a_do a_nL R R 54 (s_ildl 2 5 ls st h) := a_R_eq ..
theorem r54_5 (ls : A_V) (st : List Value) (h : A_H) : R 54 5 ls st h = a_do a_nL R R 54 (s_push (.int 4) 6 ls st h) := a_R_eq ..
theorem r54_6 (ls : A_V) (st : List Value) (h : A_H) : R 54 6 ls st h = a_do a_nL R R 54 (s_if2 (fun x y => decide (y ≤ x)) 16 7 ls st h) := a_R_eq ..
theorem r54_7 (ls : A_V) (st : List Value) (h : A_H) : R 54 7 ls st h = a_do a_nL R R 54 (s_ildl 1 8 ls st h) := a_R_eq ..
theorem r54_8 (ls : A_V) (st : List Value) (h : A_H) : R 54 8 ls st h = a_do a_nL R R 54 (s_aldl 0 9 ls st h) := a_R_eq ..
theorem r54_9 (ls : A_V) (st : List Value) (h : A_H) : R 54 9 ls st h = a_do a_nL R R 54 (s_getR 8 5 10 ls st h) := a_R_eq ..
theorem r54_10 (ls : A_V) (st : List Value) (h : A_H) : R 54 10 ls st h = a_do a_nL R R 54 (s_ildl 2 11 ls st h) := a_R_eq ..
theorem r54_11 (ls : A_V) (st : List Value) (h : A_H) : R 54 11 ls st h = a_do a_nL R R 54 (s_ial 0 12 ls st h) := a_R_eq ..
theorem r54_12 (ls : A_V) (st : List Value) (h : A_H) : R 54 12 ls st h = a_do a_nL R R 54 (s_bi (fun x y => x + y) 13 ls st h) := a_R_eq ..
theorem r54_13 (ls : A_V) (st : List Value) (h : A_H) : R 54 13 ls st h = a_do a_nL R R 54 (s_ist 1 14 ls st h) := a_R_eq ..
theorem r54_14 (ls : A_V) (st : List Value) (h : A_H) : R 54 14 ls st h = a_do a_nL R R 54 (s_inc 2 1 15 ls st h) := a_R_eq ..
theorem r54_15 (ls : A_V) (st : List Value) (h : A_H) : R 54 15 ls st h = a_do a_nL R R 54 (s_goto 4 ls st h) := a_R_eq ..
theorem r54_16 (ls : A_V) (st : List Value) (h : A_H) : R 54 16 ls st h = a_do a_nL R R 54 (s_ildl 1 17 ls st h) := a_R_eq ..
theorem r54_17 (ls : A_V) (st : List Value) (h : A_H) : R 54 17 ls st h = a_do a_nL R R 54 (s_iret ls st h) := a_R_eq ..
theorem b54_0 (x0 : Nat) (l1 : Option Value) (l2 : Option Value) (h : A_H) : R 54 0 [some (.ref x0), l1, l2] [] h = (R 54 4 [some (.ref x0), some (.int (0 : Int32)), some (.int (0 : Int32))] [] h) := (tr (r54_0 ..) (tr (r54_1 ..) (tr (r54_2 ..) (r54_3 ..))))
theorem b54_4 (x0 : Nat) (x1 : Int32) (x2 : Int32) (h : A_H) : R 54 4 [some (.ref x0), some (.int x1), some (.int x2)] [] h = (cond (decide ((4 : Int32) ≤ x2)) (some (some (some (.int x1)), h)) (cond (isO h x0 8 && (hP h x0 5).isSome) (cond (isA h ((hP h x0 5).getD 0) 0 x2) (R 54 4 [some (.ref x0), some (.int (x1 + (hI h ((hP h x0 5).getD 0) (x2).toNatClampNeg))), some (.int (x2 + 1))] [] h) none) none)) := (tr (r54_4 ..) (tr (r54_5 ..) (tr (r54_6 ..) (cgB (tr (r54_16 ..) (r54_17 ..)) (tr (r54_7 ..) (tr (r54_8 ..) (tr (r54_9 ..) (cgT (tr (r54_10 ..) (tr (r54_11 ..) (cgT (tr (r54_12 ..) (tr (r54_13 ..) (tr (r54_14 ..) (r54_15 ..)))))))))))))))
theorem e55 (x0 : Nat) (h : A_H) : C 55 [.ref x0] h = R 55 0 [some (.ref x0), none] [] h := rfl
theorem r55_0 (ls : A_V) (st : List Value) (h : A_H) : R 55 0 ls st h = a_do a_nL R R 55 (s_aldl 0 1 ls st h) := a_R_eq ..
theorem r55_1 (ls : A_V) (st : List Value) (h : A_H) : R 55 1 ls st h = a_do a_nL R R 55 (s_oi 2 ls st h) := a_R_eq ..
theorem r55_2 (ls : A_V) (st : List Value) (h : A_H) : R 55 2 ls st h = a_do a_nL R R 55 (s_aldl 0 3 ls st h) := a_R_eq ..
theorem r55_3 (ls : A_V) (st : List Value) (h : A_H) : R 55 3 ls st h = a_do a_nL R R 55 (s_push (.int 4) 4 ls st h) := a_R_eq ..
theorem r55_4 (ls : A_V) (st : List Value) (h : A_H) : R 55 4 ls st h = a_do a_nL R R 55 (s_nar 3 5 ls st h) := a_R_eq ..
theorem r55_5 (ls : A_V) (st : List Value) (h : A_H) : R 55 5 ls st h = a_do a_nL R R 55 (s_putR 9 9 6 ls st h) := a_R_eq ..
theorem r55_6 (ls : A_V) (st : List Value) (h : A_H) : R 55 6 ls st h = a_do a_nL R R 55 (s_aldl 0 7 ls st h) := a_R_eq ..
theorem r55_7 (ls : A_V) (st : List Value) (h : A_H) : R 55 7 ls st h = a_do a_nL R R 55 (s_push (.int 4) 8 ls st h) := a_R_eq ..
theorem r55_8 (ls : A_V) (st : List Value) (h : A_H) : R 55 8 ls st h = a_do a_nL R R 55 (s_nar 4 9 ls st h) := a_R_eq ..
theorem r55_9 (ls : A_V) (st : List Value) (h : A_H) : R 55 9 ls st h = a_do a_nL R R 55 (s_putR 9 10 10 ls st h) := a_R_eq ..
theorem r55_10 (ls : A_V) (st : List Value) (h : A_H) : R 55 10 ls st h = a_do a_nL R R 55 (s_aldl 0 11 ls st h) := a_R_eq ..
theorem r55_11 (ls : A_V) (st : List Value) (h : A_H) : R 55 11 ls st h = a_do a_nL R R 55 (s_push (.int 3) 12 ls st h) := a_R_eq ..
theorem r55_12 (ls : A_V) (st : List Value) (h : A_H) : R 55 12 ls st h = a_do a_nL R R 55 (s_nar 5 13 ls st h) := a_R_eq ..
theorem r55_13 (ls : A_V) (st : List Value) (h : A_H) : R 55 13 ls st h = a_do a_nL R R 55 (s_putR 9 11 14 ls st h) := a_R_eq ..
theorem r55_14 (ls : A_V) (st : List Value) (h : A_H) : R 55 14 ls st h = a_do a_nL R R 55 (s_aldl 0 15 ls st h) := a_R_eq ..
theorem r55_15 (ls : A_V) (st : List Value) (h : A_H) : R 55 15 ls st h = a_do a_nL R R 55 (s_push (.int 8) 16 ls st h) := a_R_eq ..
theorem r55_16 (ls : A_V) (st : List Value) (h : A_H) : R 55 16 ls st h = a_do a_nL R R 55 (s_nar 6 17 ls st h) := a_R_eq ..
theorem r55_17 (ls : A_V) (st : List Value) (h : A_H) : R 55 17 ls st h = a_do a_nL R R 55 (s_putR 9 12 18 ls st h) := a_R_eq ..
theorem r55_18 (ls : A_V) (st : List Value) (h : A_H) : R 55 18 ls st h = a_do a_nL R R 55 (s_aldl 0 19 ls st h) := a_R_eq ..
theorem r55_19 (ls : A_V) (st : List Value) (h : A_H) : R 55 19 ls st h = a_do a_nL R R 55 (s_push (.int 6) 20 ls st h) := a_R_eq ..
theorem r55_20 (ls : A_V) (st : List Value) (h : A_H) : R 55 20 ls st h = a_do a_nL R R 55 (s_nar 7 21 ls st h) := a_R_eq ..
theorem r55_21 (ls : A_V) (st : List Value) (h : A_H) : R 55 21 ls st h = a_do a_nL R R 55 (s_putR 9 13 22 ls st h) := a_R_eq ..
theorem r55_22 (ls : A_V) (st : List Value) (h : A_H) : R 55 22 ls st h = a_do a_nL R R 55 (s_aldl 0 23 ls st h) := a_R_eq ..
theorem r55_23 (ls : A_V) (st : List Value) (h : A_H) : R 55 23 ls st h = a_do a_nL R R 55 (s_new 1 4 24 ls st h) := a_R_eq ..
theorem r55_24 (ls : A_V) (st : List Value) (h : A_H) : R 55 24 ls st h = a_do a_nL R R 55 (s_dup 25 ls st h) := a_R_eq ..
theorem r55_25 (ls : A_V) (st : List Value) (h : A_H) : R 55 25 ls st h = a_do a_nL R R 55 (s_call 1 1 1 1 false 26 ls st h) := a_R_eq ..
theorem r55_26 (ls : A_V) (st : List Value) (h : A_H) : R 55 26 ls st h = a_do a_nL R R 55 (s_putR 9 14 27 ls st h) := a_R_eq ..
theorem r55_27 (ls : A_V) (st : List Value) (h : A_H) : R 55 27 ls st h = a_do a_nL R R 55 (s_push (.int 0) 28 ls st h) := a_R_eq ..
theorem r55_28 (ls : A_V) (st : List Value) (h : A_H) : R 55 28 ls st h = a_do a_nL R R 55 (s_ist 1 29 ls st h) := a_R_eq ..
theorem r55_29 (ls : A_V) (st : List Value) (h : A_H) : R 55 29 ls st h = a_do a_nL R R 55 (s_ildl 1 30 ls st h) := a_R_eq ..
theorem r55_30 (ls : A_V) (st : List Value) (h : A_H) : R 55 30 ls st h = a_do a_nL R R 55 (s_push (.int 4) 31 ls st h) := a_R_eq ..
theorem r55_31 (ls : A_V) (st : List Value) (h : A_H) : R 55 31 ls st h = a_do a_nL R R 55 (s_if2 (fun x y => decide (y ≤ x)) 41 32 ls st h) := a_R_eq ..
theorem r55_32 (ls : A_V) (st : List Value) (h : A_H) : R 55 32 ls st h = a_do a_nL R R 55 (s_aldl 0 33 ls st h) := a_R_eq ..
theorem r55_33 (ls : A_V) (st : List Value) (h : A_H) : R 55 33 ls st h = a_do a_nL R R 55 (s_getR 9 9 34 ls st h) := a_R_eq ..
theorem r55_34 (ls : A_V) (st : List Value) (h : A_H) : R 55 34 ls st h = a_do a_nL R R 55 (s_ildl 1 35 ls st h) := a_R_eq ..
theorem r55_35 (ls : A_V) (st : List Value) (h : A_H) : R 55 35 ls st h = a_do a_nL R R 55 (s_new 5 6 36 ls st h) := a_R_eq ..
theorem r55_36 (ls : A_V) (st : List Value) (h : A_H) : R 55 36 ls st h = a_do a_nL R R 55 (s_dup 37 ls st h) := a_R_eq ..
theorem r55_37 (ls : A_V) (st : List Value) (h : A_H) : R 55 37 ls st h = a_do a_nL R R 55 (s_call 1 16 1 1 false 38 ls st h) := a_R_eq ..
theorem r55_38 (ls : A_V) (st : List Value) (h : A_H) : R 55 38 ls st h = a_do a_nL R R 55 (s_aas 3 5 39 ls st h) := a_R_eq ..
theorem r55_39 (ls : A_V) (st : List Value) (h : A_H) : R 55 39 ls st h = a_do a_nL R R 55 (s_inc 1 1 40 ls st h) := a_R_eq ..
theorem r55_40 (ls : A_V) (st : List Value) (h : A_H) : R 55 40 ls st h = a_do a_nL R R 55 (s_goto 29 ls st h) := a_R_eq ..
theorem r55_41 (ls : A_V) (st : List Value) (h : A_H) : R 55 41 ls st h = a_do a_nL R R 55 (s_push (.int 0) 42 ls st h) := a_R_eq ..
theorem r55_42 (ls : A_V) (st : List Value) (h : A_H) : R 55 42 ls st h = a_do a_nL R R 55 (s_ist 1 43 ls st h) := a_R_eq ..
theorem r55_43 (ls : A_V) (st : List Value) (h : A_H) : R 55 43 ls st h = a_do a_nL R R 55 (s_ildl 1 44 ls st h) := a_R_eq ..
theorem r55_44 (ls : A_V) (st : List Value) (h : A_H) : R 55 44 ls st h = a_do a_nL R R 55 (s_push (.int 4) 45 ls st h) := a_R_eq ..
theorem r55_45 (ls : A_V) (st : List Value) (h : A_H) : R 55 45 ls st h = a_do a_nL R R 55 (s_if2 (fun x y => decide (y ≤ x)) 55 46 ls st h) := a_R_eq ..
theorem r55_46 (ls : A_V) (st : List Value) (h : A_H) : R 55 46 ls st h = a_do a_nL R R 55 (s_aldl 0 47 ls st h) := a_R_eq ..
theorem r55_47 (ls : A_V) (st : List Value) (h : A_H) : R 55 47 ls st h = a_do a_nL R R 55 (s_getR 9 10 48 ls st h) := a_R_eq ..
theorem r55_48 (ls : A_V) (st : List Value) (h : A_H) : R 55 48 ls st h = a_do a_nL R R 55 (s_ildl 1 49 ls st h) := a_R_eq ..
theorem r55_49 (ls : A_V) (st : List Value) (h : A_H) : R 55 49 ls st h = a_do a_nL R R 55 (s_new 10 3 50 ls st h) := a_R_eq ..
theorem r55_50 (ls : A_V) (st : List Value) (h : A_H) : R 55 50 ls st h = a_do a_nL R R 55 (s_dup 51 ls st h) := a_R_eq ..
theorem r55_51 (ls : A_V) (st : List Value) (h : A_H) : R 55 51 ls st h = a_do a_nL R R 55 (s_call 1 73 1 1 false 52 ls st h) := a_R_eq ..
theorem r55_52 (ls : A_V) (st : List Value) (h : A_H) : R 55 52 ls st h = a_do a_nL R R 55 (s_aas 4 10 53 ls st h) := a_R_eq ..
theorem r55_53 (ls : A_V) (st : List Value) (h : A_H) : R 55 53 ls st h = a_do a_nL R R 55 (s_inc 1 1 54 ls st h) := a_R_eq ..
theorem r55_54 (ls : A_V) (st : List Value) (h : A_H) : R 55 54 ls st h = a_do a_nL R R 55 (s_goto 43 ls st h) := a_R_eq ..
theorem r55_55 (ls : A_V) (st : List Value) (h : A_H) : R 55 55 ls st h = a_do a_nL R R 55 (s_push (.int 0) 56 ls st h) := a_R_eq ..
theorem r55_56 (ls : A_V) (st : List Value) (h : A_H) : R 55 56 ls st h = a_do a_nL R R 55 (s_ist 1 57 ls st h) := a_R_eq ..
theorem r55_57 (ls : A_V) (st : List Value) (h : A_H) : R 55 57 ls st h = a_do a_nL R R 55 (s_ildl 1 58 ls st h) := a_R_eq ..
theorem r55_58 (ls : A_V) (st : List Value) (h : A_H) : R 55 58 ls st h = a_do a_nL R R 55 (s_push (.int 3) 59 ls st h) := a_R_eq ..
theorem r55_59 (ls : A_V) (st : List Value) (h : A_H) : R 55 59 ls st h = a_do a_nL R R 55 (s_if2 (fun x y => decide (y ≤ x)) 69 60 ls st h) := a_R_eq ..
theorem r55_60 (ls : A_V) (st : List Value) (h : A_H) : R 55 60 ls st h = a_do a_nL R R 55 (s_aldl 0 61 ls st h) := a_R_eq ..
theorem r55_61 (ls : A_V) (st : List Value) (h : A_H) : R 55 61 ls st h = a_do a_nL R R 55 (s_getR 9 11 62 ls st h) := a_R_eq ..
theorem r55_62 (ls : A_V) (st : List Value) (h : A_H) : R 55 62 ls st h = a_do a_nL R R 55 (s_ildl 1 63 ls st h) := a_R_eq ..
theorem r55_63 (ls : A_V) (st : List Value) (h : A_H) : R 55 63 ls st h = a_do a_nL R R 55 (s_new 2 3 64 ls st h) := a_R_eq ..
theorem r55_64 (ls : A_V) (st : List Value) (h : A_H) : R 55 64 ls st h = a_do a_nL R R 55 (s_dup 65 ls st h) := a_R_eq ..
theorem r55_65 (ls : A_V) (st : List Value) (h : A_H) : R 55 65 ls st h = a_do a_nL R R 55 (s_call 1 8 1 1 false 66 ls st h) := a_R_eq ..
theorem r55_66 (ls : A_V) (st : List Value) (h : A_H) : R 55 66 ls st h = a_do a_nL R R 55 (s_aas 5 2 67 ls st h) := a_R_eq ..
theorem r55_67 (ls : A_V) (st : List Value) (h : A_H) : R 55 67 ls st h = a_do a_nL R R 55 (s_inc 1 1 68 ls st h) := a_R_eq ..
theorem r55_68 (ls : A_V) (st : List Value) (h : A_H) : R 55 68 ls st h = a_do a_nL R R 55 (s_goto 57 ls st h) := a_R_eq ..
theorem r55_69 (ls : A_V) (st : List Value) (h : A_H) : R 55 69 ls st h = a_do a_nL R R 55 (s_push (.int 0) 70 ls st h) := a_R_eq ..
theorem r55_70 (ls : A_V) (st : List Value) (h : A_H) : R 55 70 ls st h = a_do a_nL R R 55 (s_ist 1 71 ls st h) := a_R_eq ..
theorem r55_71 (ls : A_V) (st : List Value) (h : A_H) : R 55 71 ls st h = a_do a_nL R R 55 (s_ildl 1 72 ls st h) := a_R_eq ..
theorem r55_72 (ls : A_V) (st : List Value) (h : A_H) : R 55 72 ls st h = a_do a_nL R R 55 (s_push (.int 8) 73 ls st h) := a_R_eq ..
theorem r55_73 (ls : A_V) (st : List Value) (h : A_H) : R 55 73 ls st h = a_do a_nL R R 55 (s_if2 (fun x y => decide (y ≤ x)) 83 74 ls st h) := a_R_eq ..
theorem r55_74 (ls : A_V) (st : List Value) (h : A_H) : R 55 74 ls st h = a_do a_nL R R 55 (s_aldl 0 75 ls st h) := a_R_eq ..
theorem r55_75 (ls : A_V) (st : List Value) (h : A_H) : R 55 75 ls st h = a_do a_nL R R 55 (s_getR 9 12 76 ls st h) := a_R_eq ..
theorem r55_76 (ls : A_V) (st : List Value) (h : A_H) : R 55 76 ls st h = a_do a_nL R R 55 (s_ildl 1 77 ls st h) := a_R_eq ..
theorem r55_77 (ls : A_V) (st : List Value) (h : A_H) : R 55 77 ls st h = a_do a_nL R R 55 (s_new 3 7 78 ls st h) := a_R_eq ..
theorem r55_78 (ls : A_V) (st : List Value) (h : A_H) : R 55 78 ls st h = a_do a_nL R R 55 (s_dup 79 ls st h) := a_R_eq ..
theorem r55_79 (ls : A_V) (st : List Value) (h : A_H) : R 55 79 ls st h = a_do a_nL R R 55 (s_call 1 9 1 1 false 80 ls st h) := a_R_eq ..
theorem r55_80 (ls : A_V) (st : List Value) (h : A_H) : R 55 80 ls st h = a_do a_nL R R 55 (s_aas 6 3 81 ls st h) := a_R_eq ..
theorem r55_81 (ls : A_V) (st : List Value) (h : A_H) : R 55 81 ls st h = a_do a_nL R R 55 (s_inc 1 1 82 ls st h) := a_R_eq ..
theorem r55_82 (ls : A_V) (st : List Value) (h : A_H) : R 55 82 ls st h = a_do a_nL R R 55 (s_goto 71 ls st h) := a_R_eq ..
theorem r55_83 (ls : A_V) (st : List Value) (h : A_H) : R 55 83 ls st h = a_do a_nL R R 55 (s_push (.int 0) 84 ls st h) := a_R_eq ..
theorem r55_84 (ls : A_V) (st : List Value) (h : A_H) : R 55 84 ls st h = a_do a_nL R R 55 (s_ist 1 85 ls st h) := a_R_eq ..
theorem r55_85 (ls : A_V) (st : List Value) (h : A_H) : R 55 85 ls st h = a_do a_nL R R 55 (s_ildl 1 86 ls st h) := a_R_eq ..
theorem r55_86 (ls : A_V) (st : List Value) (h : A_H) : R 55 86 ls st h = a_do a_nL R R 55 (s_push (.int 6) 87 ls st h) := a_R_eq ..
theorem r55_87 (ls : A_V) (st : List Value) (h : A_H) : R 55 87 ls st h = a_do a_nL R R 55 (s_if2 (fun x y => decide (y ≤ x)) 97 88 ls st h) := a_R_eq ..
theorem r55_88 (ls : A_V) (st : List Value) (h : A_H) : R 55 88 ls st h = a_do a_nL R R 55 (s_aldl 0 89 ls st h) := a_R_eq ..
theorem r55_89 (ls : A_V) (st : List Value) (h : A_H) : R 55 89 ls st h = a_do a_nL R R 55 (s_getR 9 13 90 ls st h) := a_R_eq ..
theorem r55_90 (ls : A_V) (st : List Value) (h : A_H) : R 55 90 ls st h = a_do a_nL R R 55 (s_ildl 1 91 ls st h) := a_R_eq ..
theorem r55_91 (ls : A_V) (st : List Value) (h : A_H) : R 55 91 ls st h = a_do a_nL R R 55 (s_new 0 4 92 ls st h) := a_R_eq ..
theorem r55_92 (ls : A_V) (st : List Value) (h : A_H) : R 55 92 ls st h = a_do a_nL R R 55 (s_dup 93 ls st h) := a_R_eq ..
theorem r55_93 (ls : A_V) (st : List Value) (h : A_H) : R 55 93 ls st h = a_do a_nL R R 55 (s_call 1 0 1 1 false 94 ls st h) := a_R_eq ..
theorem r55_94 (ls : A_V) (st : List Value) (h : A_H) : R 55 94 ls st h = a_do a_nL R R 55 (s_aas 7 0 95 ls st h) := a_R_eq ..
theorem r55_95 (ls : A_V) (st : List Value) (h : A_H) : R 55 95 ls st h = a_do a_nL R R 55 (s_inc 1 1 96 ls st h) := a_R_eq ..
theorem r55_96 (ls : A_V) (st : List Value) (h : A_H) : R 55 96 ls st h = a_do a_nL R R 55 (s_goto 85 ls st h) := a_R_eq ..
theorem r55_97 (ls : A_V) (st : List Value) (h : A_H) : R 55 97 ls st h = a_do a_nL R R 55 (s_vret ls st h) := a_R_eq ..
theorem b55_0 (x0 : Nat) (l1 : Option Value) (h : A_H) : R 55 0 [some (.ref x0), l1] [] h = (R 55 5 [some (.ref x0), l1] [.ref (hn h), .ref x0] (nw h 103 4 4)) := (tr (r55_0 ..) (tr (r55_1 ..) (tr (r55_2 ..) (tr (r55_3 ..) (r55_4 ..)))))
theorem b55_5 (x0 : Nat) (l1 : Option Value) (s0 : Nat) (s1 : Nat) (h : A_H) : R 55 5 [some (.ref x0), l1] [.ref s1, .ref s0] h = (cond (isO h s0 9) (R 55 6 [some (.ref x0), l1] [] (wP h s0 9 (some s1))) none) := (r55_5 ..)
theorem b55_6 (x0 : Nat) (l1 : Option Value) (h : A_H) : R 55 6 [some (.ref x0), l1] [] h = (R 55 9 [some (.ref x0), l1] [.ref (hn h), .ref x0] (nw h 104 4 4)) := (tr (r55_6 ..) (tr (r55_7 ..) (r55_8 ..)))
theorem b55_9 (x0 : Nat) (l1 : Option Value) (s0 : Nat) (s1 : Nat) (h : A_H) : R 55 9 [some (.ref x0), l1] [.ref s1, .ref s0] h = (cond (isO h s0 9) (R 55 10 [some (.ref x0), l1] [] (wP h s0 10 (some s1))) none) := (r55_9 ..)
theorem b55_10 (x0 : Nat) (l1 : Option Value) (h : A_H) : R 55 10 [some (.ref x0), l1] [] h = (R 55 13 [some (.ref x0), l1] [.ref (hn h), .ref x0] (nw h 105 3 3)) := (tr (r55_10 ..) (tr (r55_11 ..) (r55_12 ..)))
theorem b55_13 (x0 : Nat) (l1 : Option Value) (s0 : Nat) (s1 : Nat) (h : A_H) : R 55 13 [some (.ref x0), l1] [.ref s1, .ref s0] h = (cond (isO h s0 9) (R 55 14 [some (.ref x0), l1] [] (wP h s0 11 (some s1))) none) := (r55_13 ..)
theorem b55_14 (x0 : Nat) (l1 : Option Value) (h : A_H) : R 55 14 [some (.ref x0), l1] [] h = (R 55 17 [some (.ref x0), l1] [.ref (hn h), .ref x0] (nw h 106 8 8)) := (tr (r55_14 ..) (tr (r55_15 ..) (r55_16 ..)))
theorem b55_17 (x0 : Nat) (l1 : Option Value) (s0 : Nat) (s1 : Nat) (h : A_H) : R 55 17 [some (.ref x0), l1] [.ref s1, .ref s0] h = (cond (isO h s0 9) (R 55 18 [some (.ref x0), l1] [] (wP h s0 12 (some s1))) none) := (r55_17 ..)
theorem b55_18 (x0 : Nat) (l1 : Option Value) (h : A_H) : R 55 18 [some (.ref x0), l1] [] h = (R 55 21 [some (.ref x0), l1] [.ref (hn h), .ref x0] (nw h 107 6 6)) := (tr (r55_18 ..) (tr (r55_19 ..) (r55_20 ..)))
theorem b55_21 (x0 : Nat) (l1 : Option Value) (s0 : Nat) (s1 : Nat) (h : A_H) : R 55 21 [some (.ref x0), l1] [.ref s1, .ref s0] h = (cond (isO h s0 9) (R 55 22 [some (.ref x0), l1] [] (wP h s0 13 (some s1))) none) := (r55_21 ..)
theorem b55_22 (x0 : Nat) (l1 : Option Value) (h : A_H) : R 55 22 [some (.ref x0), l1] [] h = (R 55 24 [some (.ref x0), l1] [.ref (hn h), .ref x0] (nw h 1 4 4)) := (tr (r55_22 ..) (r55_23 ..))
theorem b55_24 (x0 : Nat) (l1 : Option Value) (s0 : Nat) (s1 : Nat) (h : A_H) : R 55 24 [some (.ref x0), l1] [.ref s1, .ref s0] h = (a_back R 55 (1, [.ref s1], h, false, none, 26, [some (.ref x0), l1], [.ref s1, .ref s0]) (C 1 [.ref s1] h)) := (tr (r55_24 ..) (r55_25 ..))
theorem b55_26 (x0 : Nat) (l1 : Option Value) (s0 : Nat) (s1 : Nat) (h : A_H) : R 55 26 [some (.ref x0), l1] [.ref s1, .ref s0] h = (cond (isO h s0 9) (R 55 27 [some (.ref x0), l1] [] (wP h s0 14 (some s1))) none) := (r55_26 ..)
theorem b55_27 (x0 : Nat) (l1 : Option Value) (h : A_H) : R 55 27 [some (.ref x0), l1] [] h = (R 55 29 [some (.ref x0), some (.int (0 : Int32))] [] h) := (tr (r55_27 ..) (r55_28 ..))
theorem b55_29 (x0 : Nat) (x1 : Int32) (h : A_H) : R 55 29 [some (.ref x0), some (.int x1)] [] h = (cond (decide ((4 : Int32) ≤ x1)) (R 55 43 [some (.ref x0), some (.int (0 : Int32))] [] h) (cond (isO h x0 9 && (hP h x0 9).isSome) (R 55 36 [some (.ref x0), some (.int x1)] [.ref (hn h), .int x1, .ref ((hP h x0 9).getD 0)] (nw h 5 6 6)) none)) := (tr (r55_29 ..) (tr (r55_30 ..) (tr (r55_31 ..) (cgB (tr (r55_41 ..) (r55_42 ..)) (tr (r55_32 ..) (tr (r55_33 ..) (cgT (tr (r55_34 ..) (r55_35 ..)))))))))
theorem b55_36 (x0 : Nat) (x1 : Int32) (s0 : Nat) (s1 : Int32) (s2 : Nat) (h : A_H) : R 55 36 [some (.ref x0), some (.int x1)] [.ref s2, .int s1, .ref s0] h = (a_back R 55 (16, [.ref s2], h, false, none, 38, [some (.ref x0), some (.int x1)], [.ref s2, .int s1, .ref s0]) (C 16 [.ref s2] h)) := (tr (r55_36 ..) (r55_37 ..))
theorem b55_38 (x0 : Nat) (x1 : Int32) (s0 : Nat) (s1 : Int32) (s2 : Nat) (h : A_H) : R 55 38 [some (.ref x0), some (.int x1)] [.ref s2, .int s1, .ref s0] h = (cond (isA h s0 3 s1 && isO h s2 5) (R 55 39 [some (.ref x0), some (.int x1)] [] (wP h s0 (s1).toNatClampNeg (some s2))) none) := (r55_38 ..)
theorem b55_39 (x0 : Nat) (x1 : Int32) (h : A_H) : R 55 39 [some (.ref x0), some (.int x1)] [] h = (R 55 29 [some (.ref x0), some (.int (x1 + 1))] [] h) := (tr (r55_39 ..) (r55_40 ..))
theorem b55_43 (x0 : Nat) (x1 : Int32) (h : A_H) : R 55 43 [some (.ref x0), some (.int x1)] [] h = (cond (decide ((4 : Int32) ≤ x1)) (R 55 57 [some (.ref x0), some (.int (0 : Int32))] [] h) (cond (isO h x0 9 && (hP h x0 10).isSome) (R 55 50 [some (.ref x0), some (.int x1)] [.ref (hn h), .int x1, .ref ((hP h x0 10).getD 0)] (nw h 10 3 3)) none)) := (tr (r55_43 ..) (tr (r55_44 ..) (tr (r55_45 ..) (cgB (tr (r55_55 ..) (r55_56 ..)) (tr (r55_46 ..) (tr (r55_47 ..) (cgT (tr (r55_48 ..) (r55_49 ..)))))))))
theorem b55_50 (x0 : Nat) (x1 : Int32) (s0 : Nat) (s1 : Int32) (s2 : Nat) (h : A_H) : R 55 50 [some (.ref x0), some (.int x1)] [.ref s2, .int s1, .ref s0] h = (a_back R 55 (73, [.ref s2], h, false, none, 52, [some (.ref x0), some (.int x1)], [.ref s2, .int s1, .ref s0]) (C 73 [.ref s2] h)) := (tr (r55_50 ..) (r55_51 ..))
theorem b55_52 (x0 : Nat) (x1 : Int32) (s0 : Nat) (s1 : Int32) (s2 : Nat) (h : A_H) : R 55 52 [some (.ref x0), some (.int x1)] [.ref s2, .int s1, .ref s0] h = (cond (isA h s0 4 s1 && isO h s2 10) (R 55 53 [some (.ref x0), some (.int x1)] [] (wP h s0 (s1).toNatClampNeg (some s2))) none) := (r55_52 ..)
theorem b55_53 (x0 : Nat) (x1 : Int32) (h : A_H) : R 55 53 [some (.ref x0), some (.int x1)] [] h = (R 55 43 [some (.ref x0), some (.int (x1 + 1))] [] h) := (tr (r55_53 ..) (r55_54 ..))
theorem b55_57 (x0 : Nat) (x1 : Int32) (h : A_H) : R 55 57 [some (.ref x0), some (.int x1)] [] h = (cond (decide ((3 : Int32) ≤ x1)) (R 55 71 [some (.ref x0), some (.int (0 : Int32))] [] h) (cond (isO h x0 9 && (hP h x0 11).isSome) (R 55 64 [some (.ref x0), some (.int x1)] [.ref (hn h), .int x1, .ref ((hP h x0 11).getD 0)] (nw h 2 3 3)) none)) := (tr (r55_57 ..) (tr (r55_58 ..) (tr (r55_59 ..) (cgB (tr (r55_69 ..) (r55_70 ..)) (tr (r55_60 ..) (tr (r55_61 ..) (cgT (tr (r55_62 ..) (r55_63 ..)))))))))
theorem b55_64 (x0 : Nat) (x1 : Int32) (s0 : Nat) (s1 : Int32) (s2 : Nat) (h : A_H) : R 55 64 [some (.ref x0), some (.int x1)] [.ref s2, .int s1, .ref s0] h = (a_back R 55 (8, [.ref s2], h, false, none, 66, [some (.ref x0), some (.int x1)], [.ref s2, .int s1, .ref s0]) (C 8 [.ref s2] h)) := (tr (r55_64 ..) (r55_65 ..))
theorem b55_66 (x0 : Nat) (x1 : Int32) (s0 : Nat) (s1 : Int32) (s2 : Nat) (h : A_H) : R 55 66 [some (.ref x0), some (.int x1)] [.ref s2, .int s1, .ref s0] h = (cond (isA h s0 5 s1 && isO h s2 2) (R 55 67 [some (.ref x0), some (.int x1)] [] (wP h s0 (s1).toNatClampNeg (some s2))) none) := (r55_66 ..)
theorem b55_67 (x0 : Nat) (x1 : Int32) (h : A_H) : R 55 67 [some (.ref x0), some (.int x1)] [] h = (R 55 57 [some (.ref x0), some (.int (x1 + 1))] [] h) := (tr (r55_67 ..) (r55_68 ..))
theorem b55_71 (x0 : Nat) (x1 : Int32) (h : A_H) : R 55 71 [some (.ref x0), some (.int x1)] [] h = (cond (decide ((8 : Int32) ≤ x1)) (R 55 85 [some (.ref x0), some (.int (0 : Int32))] [] h) (cond (isO h x0 9 && (hP h x0 12).isSome) (R 55 78 [some (.ref x0), some (.int x1)] [.ref (hn h), .int x1, .ref ((hP h x0 12).getD 0)] (nw h 3 7 7)) none)) := (tr (r55_71 ..) (tr (r55_72 ..) (tr (r55_73 ..) (cgB (tr (r55_83 ..) (r55_84 ..)) (tr (r55_74 ..) (tr (r55_75 ..) (cgT (tr (r55_76 ..) (r55_77 ..)))))))))
theorem b55_78 (x0 : Nat) (x1 : Int32) (s0 : Nat) (s1 : Int32) (s2 : Nat) (h : A_H) : R 55 78 [some (.ref x0), some (.int x1)] [.ref s2, .int s1, .ref s0] h = (a_back R 55 (9, [.ref s2], h, false, none, 80, [some (.ref x0), some (.int x1)], [.ref s2, .int s1, .ref s0]) (C 9 [.ref s2] h)) := (tr (r55_78 ..) (r55_79 ..))
theorem b55_80 (x0 : Nat) (x1 : Int32) (s0 : Nat) (s1 : Int32) (s2 : Nat) (h : A_H) : R 55 80 [some (.ref x0), some (.int x1)] [.ref s2, .int s1, .ref s0] h = (cond (isA h s0 6 s1 && isO h s2 3) (R 55 81 [some (.ref x0), some (.int x1)] [] (wP h s0 (s1).toNatClampNeg (some s2))) none) := (r55_80 ..)
theorem b55_81 (x0 : Nat) (x1 : Int32) (h : A_H) : R 55 81 [some (.ref x0), some (.int x1)] [] h = (R 55 71 [some (.ref x0), some (.int (x1 + 1))] [] h) := (tr (r55_81 ..) (r55_82 ..))
theorem b55_85 (x0 : Nat) (x1 : Int32) (h : A_H) : R 55 85 [some (.ref x0), some (.int x1)] [] h = (cond (decide ((6 : Int32) ≤ x1)) (some (some none, h)) (cond (isO h x0 9 && (hP h x0 13).isSome) (R 55 92 [some (.ref x0), some (.int x1)] [.ref (hn h), .int x1, .ref ((hP h x0 13).getD 0)] (nw h 0 4 4)) none)) := (tr (r55_85 ..) (tr (r55_86 ..) (tr (r55_87 ..) (cgB (r55_97 ..) (tr (r55_88 ..) (tr (r55_89 ..) (cgT (tr (r55_90 ..) (r55_91 ..)))))))))
theorem b55_92 (x0 : Nat) (x1 : Int32) (s0 : Nat) (s1 : Int32) (s2 : Nat) (h : A_H) : R 55 92 [some (.ref x0), some (.int x1)] [.ref s2, .int s1, .ref s0] h = (a_back R 55 (0, [.ref s2], h, false, none, 94, [some (.ref x0), some (.int x1)], [.ref s2, .int s1, .ref s0]) (C 0 [.ref s2] h)) := (tr (r55_92 ..) (r55_93 ..))
theorem b55_94 (x0 : Nat) (x1 : Int32) (s0 : Nat) (s1 : Int32) (s2 : Nat) (h : A_H) : R 55 94 [some (.ref x0), some (.int x1)] [.ref s2, .int s1, .ref s0] h = (cond (isA h s0 7 s1 && isO h s2 0) (R 55 95 [some (.ref x0), some (.int x1)] [] (wP h s0 (s1).toNatClampNeg (some s2))) none) := (r55_94 ..)
theorem b55_95 (x0 : Nat) (x1 : Int32) (h : A_H) : R 55 95 [some (.ref x0), some (.int x1)] [] h = (R 55 85 [some (.ref x0), some (.int (x1 + 1))] [] h) := (tr (r55_95 ..) (r55_96 ..))
theorem e56 (x0 : Nat) (h : A_H) : C 56 [.ref x0] h = R 56 0 [some (.ref x0), none] [] h := rfl
theorem r56_0 (ls : A_V) (st : List Value) (h : A_H) : R 56 0 ls st h = a_do a_nL R R 56 (s_aldl 0 1 ls st h) := a_R_eq ..
theorem r56_1 (ls : A_V) (st : List Value) (h : A_H) : R 56 1 ls st h = a_do a_nL R R 56 (s_push (.int 0) 2 ls st h) := a_R_eq ..
theorem r56_2 (ls : A_V) (st : List Value) (h : A_H) : R 56 2 ls st h = a_do a_nL R R 56 (s_putI 9 2 3 ls st h) := a_R_eq ..
theorem r56_3 (ls : A_V) (st : List Value) (h : A_H) : R 56 3 ls st h = a_do a_nL R R 56 (s_aldl 0 4 ls st h) := a_R_eq ..
theorem r56_4 (ls : A_V) (st : List Value) (h : A_H) : R 56 4 ls st h = a_do a_nL R R 56 (s_push (.int 0) 5 ls st h) := a_R_eq ..
theorem r56_5 (ls : A_V) (st : List Value) (h : A_H) : R 56 5 ls st h = a_do a_nL R R 56 (s_putI 9 3 6 ls st h) := a_R_eq ..
theorem r56_6 (ls : A_V) (st : List Value) (h : A_H) : R 56 6 ls st h = a_do a_nL R R 56 (s_aldl 0 7 ls st h) := a_R_eq ..
theorem r56_7 (ls : A_V) (st : List Value) (h : A_H) : R 56 7 ls st h = a_do a_nL R R 56 (s_push (.int 0) 8 ls st h) := a_R_eq ..
theorem r56_8 (ls : A_V) (st : List Value) (h : A_H) : R 56 8 ls st h = a_do a_nL R R 56 (s_putI 9 4 9 ls st h) := a_R_eq ..
theorem r56_9 (ls : A_V) (st : List Value) (h : A_H) : R 56 9 ls st h = a_do a_nL R R 56 (s_aldl 0 10 ls st h) := a_R_eq ..
theorem r56_10 (ls : A_V) (st : List Value) (h : A_H) : R 56 10 ls st h = a_do a_nL R R 56 (s_push (.int 0) 11 ls st h) := a_R_eq ..
theorem r56_11 (ls : A_V) (st : List Value) (h : A_H) : R 56 11 ls st h = a_do a_nL R R 56 (s_putI 9 5 12 ls st h) := a_R_eq ..
theorem r56_12 (ls : A_V) (st : List Value) (h : A_H) : R 56 12 ls st h = a_do a_nL R R 56 (s_aldl 0 13 ls st h) := a_R_eq ..
theorem r56_13 (ls : A_V) (st : List Value) (h : A_H) : R 56 13 ls st h = a_do a_nL R R 56 (s_push (.int 0) 14 ls st h) := a_R_eq ..
theorem r56_14 (ls : A_V) (st : List Value) (h : A_H) : R 56 14 ls st h = a_do a_nL R R 56 (s_putI 9 6 15 ls st h) := a_R_eq ..
theorem r56_15 (ls : A_V) (st : List Value) (h : A_H) : R 56 15 ls st h = a_do a_nL R R 56 (s_aldl 0 16 ls st h) := a_R_eq ..
theorem r56_16 (ls : A_V) (st : List Value) (h : A_H) : R 56 16 ls st h = a_do a_nL R R 56 (s_push (.int 0) 17 ls st h) := a_R_eq ..
theorem r56_17 (ls : A_V) (st : List Value) (h : A_H) : R 56 17 ls st h = a_do a_nL R R 56 (s_putI 9 7 18 ls st h) := a_R_eq ..
theorem r56_18 (ls : A_V) (st : List Value) (h : A_H) : R 56 18 ls st h = a_do a_nL R R 56 (s_aldl 0 19 ls st h) := a_R_eq ..
theorem r56_19 (ls : A_V) (st : List Value) (h : A_H) : R 56 19 ls st h = a_do a_nL R R 56 (s_push (.int 0) 20 ls st h) := a_R_eq ..
theorem r56_20 (ls : A_V) (st : List Value) (h : A_H) : R 56 20 ls st h = a_do a_nL R R 56 (s_putI 9 8 21 ls st h) := a_R_eq ..
theorem r56_21 (ls : A_V) (st : List Value) (h : A_H) : R 56 21 ls st h = a_do a_nL R R 56 (s_aldl 0 22 ls st h) := a_R_eq ..
theorem r56_22 (ls : A_V) (st : List Value) (h : A_H) : R 56 22 ls st h = a_do a_nL R R 56 (s_getR 9 14 23 ls st h) := a_R_eq ..
theorem r56_23 (ls : A_V) (st : List Value) (h : A_H) : R 56 23 ls st h = a_do a_nL R R 56 (s_push (.int 0) 24 ls st h) := a_R_eq ..
theorem r56_24 (ls : A_V) (st : List Value) (h : A_H) : R 56 24 ls st h = a_do a_nL R R 56 (s_putI 1 0 25 ls st h) := a_R_eq ..
theorem r56_25 (ls : A_V) (st : List Value) (h : A_H) : R 56 25 ls st h = a_do a_nL R R 56 (s_push (.int 0) 26 ls st h) := a_R_eq ..
theorem r56_26 (ls : A_V) (st : List Value) (h : A_H) : R 56 26 ls st h = a_do a_nL R R 56 (s_ist 1 27 ls st h) := a_R_eq ..
theorem r56_27 (ls : A_V) (st : List Value) (h : A_H) : R 56 27 ls st h = a_do a_nL R R 56 (s_ildl 1 28 ls st h) := a_R_eq ..
theorem r56_28 (ls : A_V) (st : List Value) (h : A_H) : R 56 28 ls st h = a_do a_nL R R 56 (s_push (.int 4) 29 ls st h) := a_R_eq ..
theorem r56_29 (ls : A_V) (st : List Value) (h : A_H) : R 56 29 ls st h = a_do a_nL R R 56 (s_if2 (fun x y => decide (y ≤ x)) 38 30 ls st h) := a_R_eq ..
theorem r56_30 (ls : A_V) (st : List Value) (h : A_H) : R 56 30 ls st h = a_do a_nL R R 56 (s_aldl 0 31 ls st h) := a_R_eq ..
theorem r56_31 (ls : A_V) (st : List Value) (h : A_H) : R 56 31 ls st h = a_do a_nL R R 56 (s_getR 9 9 32 ls st h) := a_R_eq ..
theorem r56_32 (ls : A_V) (st : List Value) (h : A_H) : R 56 32 ls st h = a_do a_nL R R 56 (s_ildl 1 33 ls st h) := a_R_eq ..
theorem r56_33 (ls : A_V) (st : List Value) (h : A_H) : R 56 33 ls st h = a_do a_nL R R 56 (s_aal 3 34 ls st h) := a_R_eq ..
theorem r56_34 (ls : A_V) (st : List Value) (h : A_H) : R 56 34 ls st h = a_do a_nL R R 56 (s_push (.int 0) 35 ls st h) := a_R_eq ..
theorem r56_35 (ls : A_V) (st : List Value) (h : A_H) : R 56 35 ls st h = a_do a_nL R R 56 (s_putZ 5 3 36 ls st h) := a_R_eq ..
theorem r56_36 (ls : A_V) (st : List Value) (h : A_H) : R 56 36 ls st h = a_do a_nL R R 56 (s_inc 1 1 37 ls st h) := a_R_eq ..
theorem r56_37 (ls : A_V) (st : List Value) (h : A_H) : R 56 37 ls st h = a_do a_nL R R 56 (s_goto 27 ls st h) := a_R_eq ..
theorem r56_38 (ls : A_V) (st : List Value) (h : A_H) : R 56 38 ls st h = a_do a_nL R R 56 (s_push (.int 0) 39 ls st h) := a_R_eq ..
theorem r56_39 (ls : A_V) (st : List Value) (h : A_H) : R 56 39 ls st h = a_do a_nL R R 56 (s_ist 1 40 ls st h) := a_R_eq ..
theorem r56_40 (ls : A_V) (st : List Value) (h : A_H) : R 56 40 ls st h = a_do a_nL R R 56 (s_ildl 1 41 ls st h) := a_R_eq ..
theorem r56_41 (ls : A_V) (st : List Value) (h : A_H) : R 56 41 ls st h = a_do a_nL R R 56 (s_push (.int 4) 42 ls st h) := a_R_eq ..
theorem r56_42 (ls : A_V) (st : List Value) (h : A_H) : R 56 42 ls st h = a_do a_nL R R 56 (s_if2 (fun x y => decide (y ≤ x)) 51 43 ls st h) := a_R_eq ..
theorem r56_43 (ls : A_V) (st : List Value) (h : A_H) : R 56 43 ls st h = a_do a_nL R R 56 (s_aldl 0 44 ls st h) := a_R_eq ..
theorem r56_44 (ls : A_V) (st : List Value) (h : A_H) : R 56 44 ls st h = a_do a_nL R R 56 (s_getR 9 10 45 ls st h) := a_R_eq ..
theorem r56_45 (ls : A_V) (st : List Value) (h : A_H) : R 56 45 ls st h = a_do a_nL R R 56 (s_ildl 1 46 ls st h) := a_R_eq ..
theorem r56_46 (ls : A_V) (st : List Value) (h : A_H) : R 56 46 ls st h = a_do a_nL R R 56 (s_aal 4 47 ls st h) := a_R_eq ..
theorem r56_47 (ls : A_V) (st : List Value) (h : A_H) : R 56 47 ls st h = a_do a_nL R R 56 (s_push (.int 0) 48 ls st h) := a_R_eq ..
theorem r56_48 (ls : A_V) (st : List Value) (h : A_H) : R 56 48 ls st h = a_do a_nL R R 56 (s_putI 10 2 49 ls st h) := a_R_eq ..
theorem r56_49 (ls : A_V) (st : List Value) (h : A_H) : R 56 49 ls st h = a_do a_nL R R 56 (s_inc 1 1 50 ls st h) := a_R_eq ..
theorem r56_50 (ls : A_V) (st : List Value) (h : A_H) : R 56 50 ls st h = a_do a_nL R R 56 (s_goto 40 ls st h) := a_R_eq ..
theorem r56_51 (ls : A_V) (st : List Value) (h : A_H) : R 56 51 ls st h = a_do a_nL R R 56 (s_vret ls st h) := a_R_eq ..
theorem b56_0 (x0 : Nat) (l1 : Option Value) (h : A_H) : R 56 0 [some (.ref x0), l1] [] h = (cond (isO h x0 9) (R 56 3 [some (.ref x0), l1] [] (wI h x0 2 (0 : Int32))) none) := (tr (r56_0 ..) (tr (r56_1 ..) (r56_2 ..)))
theorem b56_3 (x0 : Nat) (l1 : Option Value) (h : A_H) : R 56 3 [some (.ref x0), l1] [] h = (cond (isO h x0 9) (R 56 6 [some (.ref x0), l1] [] (wI h x0 3 (0 : Int32))) none) := (tr (r56_3 ..) (tr (r56_4 ..) (r56_5 ..)))
theorem b56_6 (x0 : Nat) (l1 : Option Value) (h : A_H) : R 56 6 [some (.ref x0), l1] [] h = (cond (isO h x0 9) (R 56 9 [some (.ref x0), l1] [] (wI h x0 4 (0 : Int32))) none) := (tr (r56_6 ..) (tr (r56_7 ..) (r56_8 ..)))
theorem b56_9 (x0 : Nat) (l1 : Option Value) (h : A_H) : R 56 9 [some (.ref x0), l1] [] h = (cond (isO h x0 9) (R 56 12 [some (.ref x0), l1] [] (wI h x0 5 (0 : Int32))) none) := (tr (r56_9 ..) (tr (r56_10 ..) (r56_11 ..)))
theorem b56_12 (x0 : Nat) (l1 : Option Value) (h : A_H) : R 56 12 [some (.ref x0), l1] [] h = (cond (isO h x0 9) (R 56 15 [some (.ref x0), l1] [] (wI h x0 6 (0 : Int32))) none) := (tr (r56_12 ..) (tr (r56_13 ..) (r56_14 ..)))
theorem b56_15 (x0 : Nat) (l1 : Option Value) (h : A_H) : R 56 15 [some (.ref x0), l1] [] h = (cond (isO h x0 9) (R 56 18 [some (.ref x0), l1] [] (wI h x0 7 (0 : Int32))) none) := (tr (r56_15 ..) (tr (r56_16 ..) (r56_17 ..)))
theorem b56_18 (x0 : Nat) (l1 : Option Value) (h : A_H) : R 56 18 [some (.ref x0), l1] [] h = (cond (isO h x0 9) (R 56 21 [some (.ref x0), l1] [] (wI h x0 8 (0 : Int32))) none) := (tr (r56_18 ..) (tr (r56_19 ..) (r56_20 ..)))
theorem b56_21 (x0 : Nat) (l1 : Option Value) (h : A_H) : R 56 21 [some (.ref x0), l1] [] h = (cond (isO h x0 9 && (hP h x0 14).isSome) (cond (isO h ((hP h x0 14).getD 0) 1) (R 56 25 [some (.ref x0), l1] [] (wI h ((hP h x0 14).getD 0) 0 (0 : Int32))) none) none) := (tr (r56_21 ..) (tr (r56_22 ..) (cgT (tr (r56_23 ..) (r56_24 ..)))))
theorem b56_25 (x0 : Nat) (l1 : Option Value) (h : A_H) : R 56 25 [some (.ref x0), l1] [] h = (R 56 27 [some (.ref x0), some (.int (0 : Int32))] [] h) := (tr (r56_25 ..) (r56_26 ..))
theorem b56_27 (x0 : Nat) (x1 : Int32) (h : A_H) : R 56 27 [some (.ref x0), some (.int x1)] [] h = (cond (decide ((4 : Int32) ≤ x1)) (R 56 40 [some (.ref x0), some (.int (0 : Int32))] [] h) (cond (isO h x0 9 && (hP h x0 9).isSome) (cond (isA h ((hP h x0 9).getD 0) 3 x1 && (hP h ((hP h x0 9).getD 0) (x1).toNatClampNeg).isSome) (cond (isO h ((hP h ((hP h x0 9).getD 0) (x1).toNatClampNeg).getD 0) 5 && (decide ((0 : Int32) = 0) || decide ((0 : Int32) = 1))) (R 56 36 [some (.ref x0), some (.int x1)] [] (wI h ((hP h ((hP h x0 9).getD 0) (x1).toNatClampNeg).getD 0) 3 (0 : Int32))) none) none) none)) := (tr (r56_27 ..) (tr (r56_28 ..) (tr (r56_29 ..) (cgB (tr (r56_38 ..) (r56_39 ..)) (tr (r56_30 ..) (tr (r56_31 ..) (cgT (tr (r56_32 ..) (tr (r56_33 ..) (cgT (tr (r56_34 ..) (r56_35 ..))))))))))))
theorem b56_36 (x0 : Nat) (x1 : Int32) (h : A_H) : R 56 36 [some (.ref x0), some (.int x1)] [] h = (R 56 27 [some (.ref x0), some (.int (x1 + 1))] [] h) := (tr (r56_36 ..) (r56_37 ..))
theorem b56_40 (x0 : Nat) (x1 : Int32) (h : A_H) : R 56 40 [some (.ref x0), some (.int x1)] [] h = (cond (decide ((4 : Int32) ≤ x1)) (some (some none, h)) (cond (isO h x0 9 && (hP h x0 10).isSome) (cond (isA h ((hP h x0 10).getD 0) 4 x1 && (hP h ((hP h x0 10).getD 0) (x1).toNatClampNeg).isSome) (cond (isO h ((hP h ((hP h x0 10).getD 0) (x1).toNatClampNeg).getD 0) 10) (R 56 49 [some (.ref x0), some (.int x1)] [] (wI h ((hP h ((hP h x0 10).getD 0) (x1).toNatClampNeg).getD 0) 2 (0 : Int32))) none) none) none)) := (tr (r56_40 ..) (tr (r56_41 ..) (tr (r56_42 ..) (cgB (r56_51 ..) (tr (r56_43 ..) (tr (r56_44 ..) (cgT (tr (r56_45 ..) (tr (r56_46 ..) (cgT (tr (r56_47 ..) (r56_48 ..))))))))))))
theorem b56_49 (x0 : Nat) (x1 : Int32) (h : A_H) : R 56 49 [some (.ref x0), some (.int x1)] [] h = (R 56 40 [some (.ref x0), some (.int (x1 + 1))] [] h) := (tr (r56_49 ..) (r56_50 ..))
theorem e57 (x0 : Nat) (x1 : Int32) (x2 : Int32) (h : A_H) : C 57 [.ref x0, .int x1, .int x2] h = R 57 0 [some (.ref x0), some (.int x1), some (.int x2)] [] h := rfl
theorem r57_0 (ls : A_V) (st : List Value) (h : A_H) : R 57 0 ls st h = a_do a_nL R R 57 (s_aldl 0 1 ls st h) := a_R_eq ..
theorem r57_1 (ls : A_V) (st : List Value) (h : A_H) : R 57 1 ls st h = a_do a_nL R R 57 (s_getR 9 12 2 ls st h) := a_R_eq ..
theorem r57_2 (ls : A_V) (st : List Value) (h : A_H) : R 57 2 ls st h = a_do a_nL R R 57 (s_ildl 1 3 ls st h) := a_R_eq ..
theorem r57_3 (ls : A_V) (st : List Value) (h : A_H) : R 57 3 ls st h = a_do a_nL R R 57 (s_aal 6 4 ls st h) := a_R_eq ..
theorem r57_4 (ls : A_V) (st : List Value) (h : A_H) : R 57 4 ls st h = a_do a_nL R R 57 (s_getI 3 3 5 ls st h) := a_R_eq ..
theorem r57_5 (ls : A_V) (st : List Value) (h : A_H) : R 57 5 ls st h = a_do a_nL R R 57 (s_ildl 2 6 ls st h) := a_R_eq ..
theorem r57_6 (ls : A_V) (st : List Value) (h : A_H) : R 57 6 ls st h = a_do a_nL R R 57 (s_bi (fun x y => x + y) 7 ls st h) := a_R_eq ..
theorem r57_7 (ls : A_V) (st : List Value) (h : A_H) : R 57 7 ls st h = a_do a_nL R R 57 (s_iret ls st h) := a_R_eq ..
theorem b57_0 (x0 : Nat) (x1 : Int32) (x2 : Int32) (h : A_H) : R 57 0 [some (.ref x0), some (.int x1), some (.int x2)] [] h = (cond (isO h x0 9 && (hP h x0 12).isSome) (cond (isA h ((hP h x0 12).getD 0) 6 x1 && (hP h ((hP h x0 12).getD 0) (x1).toNatClampNeg).isSome) (cond (isO h ((hP h ((hP h x0 12).getD 0) (x1).toNatClampNeg).getD 0) 3) (some (some (some (.int ((hI h ((hP h ((hP h x0 12).getD 0) (x1).toNatClampNeg).getD 0) 3) + x2))), h)) none) none) none) := (tr (r57_0 ..) (tr (r57_1 ..) (cgT (tr (r57_2 ..) (tr (r57_3 ..) (cgT (tr (r57_4 ..) (cgT (tr (r57_5 ..) (tr (r57_6 ..) (r57_7 ..)))))))))))
theorem e58 (x0 : Nat) (x1 : Int32) (x2 : Int32) (h : A_H) : C 58 [.ref x0, .int x1, .int x2] h = R 58 0 [some (.ref x0), some (.int x1), some (.int x2)] [] h := rfl
theorem r58_0 (ls : A_V) (st : List Value) (h : A_H) : R 58 0 ls st h = a_do a_nL R R 58 (s_aldl 0 1 ls st h) := a_R_eq ..
theorem r58_1 (ls : A_V) (st : List Value) (h : A_H) : R 58 1 ls st h = a_do a_nL R R 58 (s_ildl 1 2 ls st h) := a_R_eq ..
theorem r58_2 (ls : A_V) (st : List Value) (h : A_H) : R 58 2 ls st h = a_do a_nL R R 58 (s_ildl 2 3 ls st h) := a_R_eq ..
theorem r58_3 (ls : A_V) (st : List Value) (h : A_H) : R 58 3 ls st h = a_do a_nL R R 58 (s_call 12 57 3 3 true 4 ls st h) := a_R_eq ..
theorem r58_4 (ls : A_V) (st : List Value) (h : A_H) : R 58 4 ls st h = a_do a_nL R R 58 (s_push (.int 10) 5 ls st h) := a_R_eq ..
theorem r58_5 (ls : A_V) (st : List Value) (h : A_H) : R 58 5 ls st h = a_do a_nL R R 58 (s_bid (fun x y => x / y) 6 ls st h) := a_R_eq ..
theorem r58_6 (ls : A_V) (st : List Value) (h : A_H) : R 58 6 ls st h = a_do a_nL R R 58 (s_iret ls st h) := a_R_eq ..
theorem b58_0 (x0 : Nat) (x1 : Int32) (x2 : Int32) (h : A_H) : R 58 0 [some (.ref x0), some (.int x1), some (.int x2)] [] h = (cond (isO h x0 9) (a_back R 58 (57, [.ref x0, .int x1, .int x2], h, true, none, 4, [some (.ref x0), some (.int x1), some (.int x2)], []) (C 57 [.ref x0, .int x1, .int x2] h)) none) := (tr (r58_0 ..) (tr (r58_1 ..) (tr (r58_2 ..) (r58_3 ..))))
theorem b58_4 (x0 : Nat) (x1 : Int32) (x2 : Int32) (s0 : Int32) (h : A_H) : R 58 4 [some (.ref x0), some (.int x1), some (.int x2)] [.int s0] h = (some (some (some (.int (s0 / (10 : Int32)))), h)) := (tr (r58_4 ..) (tr (r58_5 ..) (r58_6 ..)))
theorem e59 (x0 : Nat) (x1 : Int32) (x2 : Int32) (h : A_H) : C 59 [.ref x0, .int x1, .int x2] h = R 59 0 [some (.ref x0), some (.int x1), some (.int x2), none] [] h := rfl
theorem r59_0 (ls : A_V) (st : List Value) (h : A_H) : R 59 0 ls st h = a_do a_nL R R 59 (s_aldl 0 1 ls st h) := a_R_eq ..
theorem r59_1 (ls : A_V) (st : List Value) (h : A_H) : R 59 1 ls st h = a_do a_nL R R 59 (s_getR 9 12 2 ls st h) := a_R_eq ..
theorem r59_2 (ls : A_V) (st : List Value) (h : A_H) : R 59 2 ls st h = a_do a_nL R R 59 (s_ildl 1 3 ls st h) := a_R_eq ..
theorem r59_3 (ls : A_V) (st : List Value) (h : A_H) : R 59 3 ls st h = a_do a_nL R R 59 (s_aal 6 4 ls st h) := a_R_eq ..
theorem r59_4 (ls : A_V) (st : List Value) (h : A_H) : R 59 4 ls st h = a_do a_nL R R 59 (s_ast 3 5 ls st h) := a_R_eq ..
theorem r59_5 (ls : A_V) (st : List Value) (h : A_H) : R 59 5 ls st h = a_do a_nL R R 59 (s_aldl 3 6 ls st h) := a_R_eq ..
theorem r59_6 (ls : A_V) (st : List Value) (h : A_H) : R 59 6 ls st h = a_do a_nL R R 59 (s_getI 3 4 7 ls st h) := a_R_eq ..
theorem r59_7 (ls : A_V) (st : List Value) (h : A_H) : R 59 7 ls st h = a_do a_nL R R 59 (s_push (.int (-2)) 8 ls st h) := a_R_eq ..
theorem r59_8 (ls : A_V) (st : List Value) (h : A_H) : R 59 8 ls st h = a_do a_nL R R 59 (s_if2 (fun x y => decide (x = y)) 18 9 ls st h) := a_R_eq ..
theorem r59_9 (ls : A_V) (st : List Value) (h : A_H) : R 59 9 ls st h = a_do a_nL R R 59 (s_aldl 3 10 ls st h) := a_R_eq ..
theorem r59_10 (ls : A_V) (st : List Value) (h : A_H) : R 59 10 ls st h = a_do a_nL R R 59 (s_getI 3 3 11 ls st h) := a_R_eq ..
theorem r59_11 (ls : A_V) (st : List Value) (h : A_H) : R 59 11 ls st h = a_do a_nL R R 59 (s_ildl 2 12 ls st h) := a_R_eq ..
theorem r59_12 (ls : A_V) (st : List Value) (h : A_H) : R 59 12 ls st h = a_do a_nL R R 59 (s_bi (fun x y => x + y) 13 ls st h) := a_R_eq ..
theorem r59_13 (ls : A_V) (st : List Value) (h : A_H) : R 59 13 ls st h = a_do a_nL R R 59 (s_aldl 3 14 ls st h) := a_R_eq ..
theorem r59_14 (ls : A_V) (st : List Value) (h : A_H) : R 59 14 ls st h = a_do a_nL R R 59 (s_getI 3 4 15 ls st h) := a_R_eq ..
theorem r59_15 (ls : A_V) (st : List Value) (h : A_H) : R 59 15 ls st h = a_do a_nL R R 59 (s_if2 (fun x y => decide (x ≤ y)) 18 16 ls st h) := a_R_eq ..
theorem r59_16 (ls : A_V) (st : List Value) (h : A_H) : R 59 16 ls st h = a_do a_nL R R 59 (s_push (.int 1) 17 ls st h) := a_R_eq ..
theorem r59_17 (ls : A_V) (st : List Value) (h : A_H) : R 59 17 ls st h = a_do a_nL R R 59 (s_goto 19 ls st h) := a_R_eq ..
theorem r59_18 (ls : A_V) (st : List Value) (h : A_H) : R 59 18 ls st h = a_do a_nL R R 59 (s_push (.int 0) 19 ls st h) := a_R_eq ..
theorem r59_19 (ls : A_V) (st : List Value) (h : A_H) : R 59 19 ls st h = a_do a_nL R R 59 (s_zret ls st h) := a_R_eq ..
theorem b59_0 (x0 : Nat) (x1 : Int32) (x2 : Int32) (l3 : Option Value) (h : A_H) : R 59 0 [some (.ref x0), some (.int x1), some (.int x2), l3] [] h = (cond (isO h x0 9 && (hP h x0 12).isSome) (cond (isA h ((hP h x0 12).getD 0) 6 x1 && (hP h ((hP h x0 12).getD 0) (x1).toNatClampNeg).isSome) (cond (isO h ((hP h ((hP h x0 12).getD 0) (x1).toNatClampNeg).getD 0) 3) (cond (decide ((hI h ((hP h ((hP h x0 12).getD 0) (x1).toNatClampNeg).getD 0) 4) = (-2 : Int32))) (cond (decide ((0 : Int32) = 0) || decide ((0 : Int32) = 1)) (some (some (some (.int (0 : Int32))), h)) none) (cond (isO h ((hP h ((hP h x0 12).getD 0) (x1).toNatClampNeg).getD 0) 3) (cond (isO h ((hP h ((hP h x0 12).getD 0) (x1).toNatClampNeg).getD 0) 3) (cond (decide (((hI h ((hP h ((hP h x0 12).getD 0) (x1).toNatClampNeg).getD 0) 3) + x2) ≤ (hI h ((hP h ((hP h x0 12).getD 0) (x1).toNatClampNeg).getD 0) 4))) (cond (decide ((0 : Int32) = 0) || decide ((0 : Int32) = 1)) (some (some (some (.int (0 : Int32))), h)) none) (cond (decide ((1 : Int32) = 0) || decide ((1 : Int32) = 1)) (some (some (some (.int (1 : Int32))), h)) none)) none) none)) none) none) none) := (tr (r59_0 ..) (tr (r59_1 ..) (cgT (tr (r59_2 ..) (tr (r59_3 ..) (cgT (tr (r59_4 ..) (tr (r59_5 ..) (tr (r59_6 ..) (cgT (tr (r59_7 ..) (tr (r59_8 ..) (cgB (tr (r59_18 ..) (r59_19 ..)) (tr (r59_9 ..) (tr (r59_10 ..) (cgT (tr (r59_11 ..) (tr (r59_12 ..) (tr (r59_13 ..) (tr (r59_14 ..) (cgT (tr (r59_15 ..) (cgB (tr (r59_18 ..) (r59_19 ..)) (tr (r59_16 ..) (tr (r59_17 ..) (r59_19 ..))))))))))))))))))))))))))
theorem e60 (x0 : Nat) (x1 : Int32) (x2 : Int32) (h : A_H) : C 60 [.ref x0, .int x1, .int x2] h = R 60 0 [some (.ref x0), some (.int x1), some (.int x2), none] [] h := rfl
theorem r60_0 (ls : A_V) (st : List Value) (h : A_H) : R 60 0 ls st h = a_do a_nL R R 60 (s_aldl 0 1 ls st h) := a_R_eq ..
theorem r60_1 (ls : A_V) (st : List Value) (h : A_H) : R 60 1 ls st h = a_do a_nL R R 60 (s_ildl 1 2 ls st h) := a_R_eq ..
theorem r60_2 (ls : A_V) (st : List Value) (h : A_H) : R 60 2 ls st h = a_do a_nL R R 60 (s_ildl 2 3 ls st h) := a_R_eq ..
theorem r60_3 (ls : A_V) (st : List Value) (h : A_H) : R 60 3 ls st h = a_do a_nL R R 60 (s_call 12 59 3 4 true 4 ls st h) := a_R_eq ..
theorem r60_4 (ls : A_V) (st : List Value) (h : A_H) : R 60 4 ls st h = a_do a_nL R R 60 (s_if1 (fun x => decide (x = 0)) 7 5 ls st h) := a_R_eq ..
theorem r60_5 (ls : A_V) (st : List Value) (h : A_H) : R 60 5 ls st h = a_do a_nL R R 60 (s_push (.int 0) 6 ls st h) := a_R_eq ..
theorem r60_6 (ls : A_V) (st : List Value) (h : A_H) : R 60 6 ls st h = a_do a_nL R R 60 (s_iret ls st h) := a_R_eq ..
theorem r60_7 (ls : A_V) (st : List Value) (h : A_H) : R 60 7 ls st h = a_do a_nL R R 60 (s_aldl 0 8 ls st h) := a_R_eq ..
theorem r60_8 (ls : A_V) (st : List Value) (h : A_H) : R 60 8 ls st h = a_do a_nL R R 60 (s_getR 9 12 9 ls st h) := a_R_eq ..
theorem r60_9 (ls : A_V) (st : List Value) (h : A_H) : R 60 9 ls st h = a_do a_nL R R 60 (s_ildl 1 10 ls st h) := a_R_eq ..
theorem r60_10 (ls : A_V) (st : List Value) (h : A_H) : R 60 10 ls st h = a_do a_nL R R 60 (s_aal 6 11 ls st h) := a_R_eq ..
theorem r60_11 (ls : A_V) (st : List Value) (h : A_H) : R 60 11 ls st h = a_do a_nL R R 60 (s_ast 3 12 ls st h) := a_R_eq ..
theorem r60_12 (ls : A_V) (st : List Value) (h : A_H) : R 60 12 ls st h = a_do a_nL R R 60 (s_aldl 3 13 ls st h) := a_R_eq ..
theorem r60_13 (ls : A_V) (st : List Value) (h : A_H) : R 60 13 ls st h = a_do a_nL R R 60 (s_getI 3 0 14 ls st h) := a_R_eq ..
theorem r60_14 (ls : A_V) (st : List Value) (h : A_H) : R 60 14 ls st h = a_do a_nL R R 60 (s_push (.int 2) 15 ls st h) := a_R_eq ..
theorem r60_15 (ls : A_V) (st : List Value) (h : A_H) : R 60 15 ls st h = a_do a_nL R R 60 (s_if2 (fun x y => !decide (x = y)) 24 16 ls st h) := a_R_eq ..
theorem r60_16 (ls : A_V) (st : List Value) (h : A_H) : R 60 16 ls st h = a_do a_nL R R 60 (s_aldl 3 17 ls st h) := a_R_eq ..
theorem r60_17 (ls : A_V) (st : List Value) (h : A_H) : R 60 17 ls st h = a_do a_nL R R 60 (s_getI 3 6 18 ls st h) := a_R_eq ..
theorem r60_18 (ls : A_V) (st : List Value) (h : A_H) : R 60 18 ls st h = a_do a_nL R R 60 (s_aldl 0 19 ls st h) := a_R_eq ..
theorem r60_19 (ls : A_V) (st : List Value) (h : A_H) : R 60 19 ls st h = a_do a_nL R R 60 (s_ildl 1 20 ls st h) := a_R_eq ..
theorem r60_20 (ls : A_V) (st : List Value) (h : A_H) : R 60 20 ls st h = a_do a_nL R R 60 (s_ildl 2 21 ls st h) := a_R_eq ..
theorem r60_21 (ls : A_V) (st : List Value) (h : A_H) : R 60 21 ls st h = a_do a_nL R R 60 (s_call 12 58 3 3 true 22 ls st h) := a_R_eq ..
theorem r60_22 (ls : A_V) (st : List Value) (h : A_H) : R 60 22 ls st h = a_do a_nL R R 60 (s_bi (fun x y => x + y) 23 ls st h) := a_R_eq ..
theorem r60_23 (ls : A_V) (st : List Value) (h : A_H) : R 60 23 ls st h = a_do a_nL R R 60 (s_goto 26 ls st h) := a_R_eq ..
theorem r60_24 (ls : A_V) (st : List Value) (h : A_H) : R 60 24 ls st h = a_do a_nL R R 60 (s_aldl 3 25 ls st h) := a_R_eq ..
theorem r60_25 (ls : A_V) (st : List Value) (h : A_H) : R 60 25 ls st h = a_do a_nL R R 60 (s_getI 3 6 26 ls st h) := a_R_eq ..
theorem r60_26 (ls : A_V) (st : List Value) (h : A_H) : R 60 26 ls st h = a_do a_nL R R 60 (s_iret ls st h) := a_R_eq ..
theorem b60_0 (x0 : Nat) (x1 : Int32) (x2 : Int32) (l3 : Option Value) (h : A_H) : R 60 0 [some (.ref x0), some (.int x1), some (.int x2), l3] [] h = (cond (isO h x0 9) (a_back R 60 (59, [.ref x0, .int x1, .int x2], h, true, none, 4, [some (.ref x0), some (.int x1), some (.int x2), l3], []) (C 59 [.ref x0, .int x1, .int x2] h)) none) := (tr (r60_0 ..) (tr (r60_1 ..) (tr (r60_2 ..) (r60_3 ..))))
theorem b60_4 (x0 : Nat) (x1 : Int32) (x2 : Int32) (l3 : Option Value) (s0 : Int32) (h : A_H) : R 60 4 [some (.ref x0), some (.int x1), some (.int x2), l3] [.int s0] h = (cond (decide (s0 = 0)) (cond (isO h x0 9 && (hP h x0 12).isSome) (cond (isA h ((hP h x0 12).getD 0) 6 x1 && (hP h ((hP h x0 12).getD 0) (x1).toNatClampNeg).isSome) (cond (isO h ((hP h ((hP h x0 12).getD 0) (x1).toNatClampNeg).getD 0) 3) (cond (!decide ((hI h ((hP h ((hP h x0 12).getD 0) (x1).toNatClampNeg).getD 0) 0) = (2 : Int32))) (cond (isO h ((hP h ((hP h x0 12).getD 0) (x1).toNatClampNeg).getD 0) 3) (some (some (some (.int (hI h ((hP h ((hP h x0 12).getD 0) (x1).toNatClampNeg).getD 0) 6))), h)) none) (cond (isO h ((hP h ((hP h x0 12).getD 0) (x1).toNatClampNeg).getD 0) 3) (cond (isO h x0 9) (a_back R 60 (58, [.ref x0, .int x1, .int x2], h, true, none, 22, [some (.ref x0), some (.int x1), some (.int x2), some (.ref ((hP h ((hP h x0 12).getD 0) (x1).toNatClampNeg).getD 0))], [.int (hI h ((hP h ((hP h x0 12).getD 0) (x1).toNatClampNeg).getD 0) 6)]) (C 58 [.ref x0, .int x1, .int x2] h)) none) none)) none) none) none) (some (some (some (.int (0 : Int32))), h))) := (tr (r60_4 ..) (cgB (tr (r60_7 ..) (tr (r60_8 ..) (cgT (tr (r60_9 ..) (tr (r60_10 ..) (cgT (tr (r60_11 ..) (tr (r60_12 ..) (tr (r60_13 ..) (cgT (tr (r60_14 ..) (tr (r60_15 ..) (cgB (tr (r60_24 ..) (tr (r60_25 ..) (cgT (r60_26 ..)))) (tr (r60_16 ..) (tr (r60_17 ..) (cgT (tr (r60_18 ..) (tr (r60_19 ..) (tr (r60_20 ..) (r60_21 ..)))))))))))))))))))) (tr (r60_5 ..) (r60_6 ..))))
theorem b60_22 (x0 : Nat) (x1 : Int32) (x2 : Int32) (x3 : Nat) (s0 : Int32) (s1 : Int32) (h : A_H) : R 60 22 [some (.ref x0), some (.int x1), some (.int x2), some (.ref x3)] [.int s1, .int s0] h = (some (some (some (.int (s0 + s1))), h)) := (tr (r60_22 ..) (tr (r60_23 ..) (r60_26 ..)))
theorem e61 (x0 : Nat) (x1 : Int32) (x2 : Int32) (x3 : Int32) (h : A_H) : C 61 [.ref x0, .int x1, .int x2, .int x3] h = R 61 0 [some (.ref x0), some (.int x1), some (.int x2), some (.int x3), none, none] [] h := rfl
theorem r61_0 (ls : A_V) (st : List Value) (h : A_H) : R 61 0 ls st h = a_do a_nL R R 61 (s_aldl 0 1 ls st h) := a_R_eq ..
theorem r61_1 (ls : A_V) (st : List Value) (h : A_H) : R 61 1 ls st h = a_do a_nL R R 61 (s_getR 9 12 2 ls st h) := a_R_eq ..
theorem r61_2 (ls : A_V) (st : List Value) (h : A_H) : R 61 2 ls st h = a_do a_nL R R 61 (s_ildl 1 3 ls st h) := a_R_eq ..
theorem r61_3 (ls : A_V) (st : List Value) (h : A_H) : R 61 3 ls st h = a_do a_nL R R 61 (s_aal 6 4 ls st h) := a_R_eq ..
theorem r61_4 (ls : A_V) (st : List Value) (h : A_H) : R 61 4 ls st h = a_do a_nL R R 61 (s_ast 4 5 ls st h) := a_R_eq ..
theorem r61_5 (ls : A_V) (st : List Value) (h : A_H) : R 61 5 ls st h = a_do a_nL R R 61 (s_aldl 4 6 ls st h) := a_R_eq ..
theorem r61_6 (ls : A_V) (st : List Value) (h : A_H) : R 61 6 ls st h = a_do a_nL R R 61 (s_getI 3 0 7 ls st h) := a_R_eq ..
theorem r61_7 (ls : A_V) (st : List Value) (h : A_H) : R 61 7 ls st h = a_do a_nL R R 61 (s_if1 (fun x => decide (x = 0)) 13 8 ls st h) := a_R_eq ..
theorem r61_8 (ls : A_V) (st : List Value) (h : A_H) : R 61 8 ls st h = a_do a_nL R R 61 (s_aldl 0 9 ls st h) := a_R_eq ..
theorem r61_9 (ls : A_V) (st : List Value) (h : A_H) : R 61 9 ls st h = a_do a_nL R R 61 (s_ildl 1 10 ls st h) := a_R_eq ..
theorem r61_10 (ls : A_V) (st : List Value) (h : A_H) : R 61 10 ls st h = a_do a_nL R R 61 (s_ildl 2 11 ls st h) := a_R_eq ..
theorem r61_11 (ls : A_V) (st : List Value) (h : A_H) : R 61 11 ls st h = a_do a_nL R R 61 (s_call 12 59 3 4 true 12 ls st h) := a_R_eq ..
theorem r61_12 (ls : A_V) (st : List Value) (h : A_H) : R 61 12 ls st h = a_do a_nL R R 61 (s_if1 (fun x => decide (x = 0)) 15 13 ls st h) := a_R_eq ..
theorem r61_13 (ls : A_V) (st : List Value) (h : A_H) : R 61 13 ls st h = a_do a_nL R R 61 (s_push (.int 0) 14 ls st h) := a_R_eq ..
theorem r61_14 (ls : A_V) (st : List Value) (h : A_H) : R 61 14 ls st h = a_do a_nL R R 61 (s_iret ls st h) := a_R_eq ..
theorem r61_15 (ls : A_V) (st : List Value) (h : A_H) : R 61 15 ls st h = a_do a_nL R R 61 (s_aldl 0 16 ls st h) := a_R_eq ..
theorem r61_16 (ls : A_V) (st : List Value) (h : A_H) : R 61 16 ls st h = a_do a_nL R R 61 (s_getR 9 9 17 ls st h) := a_R_eq ..
theorem r61_17 (ls : A_V) (st : List Value) (h : A_H) : R 61 17 ls st h = a_do a_nL R R 61 (s_aldl 4 18 ls st h) := a_R_eq ..
theorem r61_18 (ls : A_V) (st : List Value) (h : A_H) : R 61 18 ls st h = a_do a_nL R R 61 (s_getI 3 1 19 ls st h) := a_R_eq ..
theorem r61_19 (ls : A_V) (st : List Value) (h : A_H) : R 61 19 ls st h = a_do a_nL R R 61 (s_aal 3 20 ls st h) := a_R_eq ..
theorem r61_20 (ls : A_V) (st : List Value) (h : A_H) : R 61 20 ls st h = a_do a_nL R R 61 (s_ast 5 21 ls st h) := a_R_eq ..
theorem r61_21 (ls : A_V) (st : List Value) (h : A_H) : R 61 21 ls st h = a_do a_nL R R 61 (s_aldl 4 22 ls st h) := a_R_eq ..
theorem r61_22 (ls : A_V) (st : List Value) (h : A_H) : R 61 22 ls st h = a_do a_nL R R 61 (s_getI 3 5 23 ls st h) := a_R_eq ..
theorem r61_23 (ls : A_V) (st : List Value) (h : A_H) : R 61 23 ls st h = a_do a_nL R R 61 (s_ildl 3 24 ls st h) := a_R_eq ..
theorem r61_24 (ls : A_V) (st : List Value) (h : A_H) : R 61 24 ls st h = a_do a_nL R R 61 (s_if1 (fun x => decide (x = 0)) 28 25 ls st h) := a_R_eq ..
theorem r61_25 (ls : A_V) (st : List Value) (h : A_H) : R 61 25 ls st h = a_do a_nL R R 61 (s_aldl 5 26 ls st h) := a_R_eq ..
theorem r61_26 (ls : A_V) (st : List Value) (h : A_H) : R 61 26 ls st h = a_do a_nL R R 61 (s_getI 5 1 27 ls st h) := a_R_eq ..
theorem r61_27 (ls : A_V) (st : List Value) (h : A_H) : R 61 27 ls st h = a_do a_nL R R 61 (s_goto 30 ls st h) := a_R_eq ..
theorem r61_28 (ls : A_V) (st : List Value) (h : A_H) : R 61 28 ls st h = a_do a_nL R R 61 (s_aldl 5 29 ls st h) := a_R_eq ..
theorem r61_29 (ls : A_V) (st : List Value) (h : A_H) : R 61 29 ls st h = a_do a_nL R R 61 (s_getI 5 0 30 ls st h) := a_R_eq ..
theorem r61_30 (ls : A_V) (st : List Value) (h : A_H) : R 61 30 ls st h = a_do a_nL R R 61 (s_bi (fun x y => x * y) 31 ls st h) := a_R_eq ..
theorem r61_31 (ls : A_V) (st : List Value) (h : A_H) : R 61 31 ls st h = a_do a_nL R R 61 (s_aldl 0 32 ls st h) := a_R_eq ..
theorem r61_32 (ls : A_V) (st : List Value) (h : A_H) : R 61 32 ls st h = a_do a_nL R R 61 (s_ildl 1 33 ls st h) := a_R_eq ..
theorem r61_33 (ls : A_V) (st : List Value) (h : A_H) : R 61 33 ls st h = a_do a_nL R R 61 (s_ildl 2 34 ls st h) := a_R_eq ..
theorem r61_34 (ls : A_V) (st : List Value) (h : A_H) : R 61 34 ls st h = a_do a_nL R R 61 (s_call 12 58 3 3 true 35 ls st h) := a_R_eq ..
theorem r61_35 (ls : A_V) (st : List Value) (h : A_H) : R 61 35 ls st h = a_do a_nL R R 61 (s_bi (fun x y => x * y) 36 ls st h) := a_R_eq ..
theorem r61_36 (ls : A_V) (st : List Value) (h : A_H) : R 61 36 ls st h = a_do a_nL R R 61 (s_iret ls st h) := a_R_eq ..
theorem b61_0 (x0 : Nat) (x1 : Int32) (x2 : Int32) (x3 : Int32) (l4 : Option Value) (l5 : Option Value) (h : A_H) : R 61 0 [some (.ref x0), some (.int x1), some (.int x2), some (.int x3), l4, l5] [] h = (cond (isO h x0 9 && (hP h x0 12).isSome) (cond (isA h ((hP h x0 12).getD 0) 6 x1 && (hP h ((hP h x0 12).getD 0) (x1).toNatClampNeg).isSome) (cond (isO h ((hP h ((hP h x0 12).getD 0) (x1).toNatClampNeg).getD 0) 3) (cond (decide ((hI h ((hP h ((hP h x0 12).getD 0) (x1).toNatClampNeg).getD 0) 0) = 0)) (some (some (some (.int (0 : Int32))), h)) (cond (isO h x0 9) (a_back R 61 (59, [.ref x0, .int x1, .int x2], h, true, none, 12, [some (.ref x0), some (.int x1), some (.int x2), some (.int x3), some (.ref ((hP h ((hP h x0 12).getD 0) (x1).toNatClampNeg).getD 0)), l5], []) (C 59 [.ref x0, .int x1, .int x2] h)) none)) none) none) none) := (tr (r61_0 ..) (tr (r61_1 ..) (cgT (tr (r61_2 ..) (tr (r61_3 ..) (cgT (tr (r61_4 ..) (tr (r61_5 ..) (tr (r61_6 ..) (cgT (tr (r61_7 ..) (cgB (tr (r61_13 ..) (r61_14 ..)) (tr (r61_8 ..) (tr (r61_9 ..) (tr (r61_10 ..) (r61_11 ..))))))))))))))))
theorem b61_12 (x0 : Nat) (x1 : Int32) (x2 : Int32) (x3 : Int32) (x4 : Nat) (l5 : Option Value) (s0 : Int32) (h : A_H) : R 61 12 [some (.ref x0), some (.int x1), some (.int x2), some (.int x3), some (.ref x4), l5] [.int s0] h = (cond (decide (s0 = 0)) (cond (isO h x0 9 && (hP h x0 9).isSome) (cond (isO h x4 3) (cond (isA h ((hP h x0 9).getD 0) 3 (hI h x4 1) && (hP h ((hP h x0 9).getD 0) ((hI h x4 1)).toNatClampNeg).isSome) (cond (isO h x4 3) (cond (decide (x3 = 0)) (cond (isO h ((hP h ((hP h x0 9).getD 0) ((hI h x4 1)).toNatClampNeg).getD 0) 5) (cond (isO h x0 9) (a_back R 61 (58, [.ref x0, .int x1, .int x2], h, true, none, 35, [some (.ref x0), some (.int x1), some (.int x2), some (.int x3), some (.ref x4), some (.ref ((hP h ((hP h x0 9).getD 0) ((hI h x4 1)).toNatClampNeg).getD 0))], [.int ((hI h x4 5) * (hI h ((hP h ((hP h x0 9).getD 0) ((hI h x4 1)).toNatClampNeg).getD 0) 0))]) (C 58 [.ref x0, .int x1, .int x2] h)) none) none) (cond (isO h ((hP h ((hP h x0 9).getD 0) ((hI h x4 1)).toNatClampNeg).getD 0) 5) (cond (isO h x0 9) (a_back R 61 (58, [.ref x0, .int x1, .int x2], h, true, none, 35, [some (.ref x0), some (.int x1), some (.int x2), some (.int x3), some (.ref x4), some (.ref ((hP h ((hP h x0 9).getD 0) ((hI h x4 1)).toNatClampNeg).getD 0))], [.int ((hI h x4 5) * (hI h ((hP h ((hP h x0 9).getD 0) ((hI h x4 1)).toNatClampNeg).getD 0) 1))]) (C 58 [.ref x0, .int x1, .int x2] h)) none) none)) none) none) none) none) (some (some (some (.int (0 : Int32))), h))) := (tr (r61_12 ..) (cgB (tr (r61_15 ..) (tr (r61_16 ..) (cgT (tr (r61_17 ..) (tr (r61_18 ..) (cgT (tr (r61_19 ..) (cgT (tr (r61_20 ..) (tr (r61_21 ..) (tr (r61_22 ..) (cgT (tr (r61_23 ..) (tr (r61_24 ..) (cgB (tr (r61_28 ..) (tr (r61_29 ..) (cgT (tr (r61_30 ..) (tr (r61_31 ..) (tr (r61_32 ..) (tr (r61_33 ..) (r61_34 ..)))))))) (tr (r61_25 ..) (tr (r61_26 ..) (cgT (tr (r61_27 ..) (tr (r61_30 ..) (tr (r61_31 ..) (tr (r61_32 ..) (tr (r61_33 ..) (r61_34 ..)))))))))))))))))))))))) (tr (r61_13 ..) (r61_14 ..))))
theorem b61_35 (x0 : Nat) (x1 : Int32) (x2 : Int32) (x3 : Int32) (x4 : Nat) (x5 : Nat) (s0 : Int32) (s1 : Int32) (h : A_H) : R 61 35 [some (.ref x0), some (.int x1), some (.int x2), some (.int x3), some (.ref x4), some (.ref x5)] [.int s1, .int s0] h = (some (some (some (.int (s0 * s1))), h)) := (tr (r61_35 ..) (r61_36 ..))
theorem e62 (x0 : Nat) (x1 : Int32) (x2 : Int32) (x3 : Int32) (h : A_H) : C 62 [.ref x0, .int x1, .int x2, .int x3] h = R 62 0 [some (.ref x0), some (.int x1), some (.int x2), some (.int x3), none, none, none] [] h := rfl
theorem r62_0 (ls : A_V) (st : List Value) (h : A_H) : R 62 0 ls st h = a_do a_nL R R 62 (s_aldl 0 1 ls st h) := a_R_eq ..
theorem r62_1 (ls : A_V) (st : List Value) (h : A_H) : R 62 1 ls st h = a_do a_nL R R 62 (s_getR 9 12 2 ls st h) := a_R_eq ..
theorem r62_2 (ls : A_V) (st : List Value) (h : A_H) : R 62 2 ls st h = a_do a_nL R R 62 (s_ildl 1 3 ls st h) := a_R_eq ..
theorem r62_3 (ls : A_V) (st : List Value) (h : A_H) : R 62 3 ls st h = a_do a_nL R R 62 (s_aal 6 4 ls st h) := a_R_eq ..
theorem r62_4 (ls : A_V) (st : List Value) (h : A_H) : R 62 4 ls st h = a_do a_nL R R 62 (s_ast 4 5 ls st h) := a_R_eq ..
theorem r62_5 (ls : A_V) (st : List Value) (h : A_H) : R 62 5 ls st h = a_do a_nL R R 62 (s_aldl 4 6 ls st h) := a_R_eq ..
theorem r62_6 (ls : A_V) (st : List Value) (h : A_H) : R 62 6 ls st h = a_do a_nL R R 62 (s_getI 3 5 7 ls st h) := a_R_eq ..
theorem r62_7 (ls : A_V) (st : List Value) (h : A_H) : R 62 7 ls st h = a_do a_nL R R 62 (s_aldl 0 8 ls st h) := a_R_eq ..
theorem r62_8 (ls : A_V) (st : List Value) (h : A_H) : R 62 8 ls st h = a_do a_nL R R 62 (s_ildl 1 9 ls st h) := a_R_eq ..
theorem r62_9 (ls : A_V) (st : List Value) (h : A_H) : R 62 9 ls st h = a_do a_nL R R 62 (s_ildl 2 10 ls st h) := a_R_eq ..
theorem r62_10 (ls : A_V) (st : List Value) (h : A_H) : R 62 10 ls st h = a_do a_nL R R 62 (s_call 12 58 3 3 true 11 ls st h) := a_R_eq ..
theorem r62_11 (ls : A_V) (st : List Value) (h : A_H) : R 62 11 ls st h = a_do a_nL R R 62 (s_bi (fun x y => x + y) 12 ls st h) := a_R_eq ..
theorem r62_12 (ls : A_V) (st : List Value) (h : A_H) : R 62 12 ls st h = a_do a_nL R R 62 (s_ist 5 13 ls st h) := a_R_eq ..
theorem r62_13 (ls : A_V) (st : List Value) (h : A_H) : R 62 13 ls st h = a_do a_nL R R 62 (s_aldl 4 14 ls st h) := a_R_eq ..
theorem r62_14 (ls : A_V) (st : List Value) (h : A_H) : R 62 14 ls st h = a_do a_nL R R 62 (s_getI 3 0 15 ls st h) := a_R_eq ..
theorem r62_15 (ls : A_V) (st : List Value) (h : A_H) : R 62 15 ls st h = a_do a_nL R R 62 (s_push (.int 3) 16 ls st h) := a_R_eq ..
theorem r62_16 (ls : A_V) (st : List Value) (h : A_H) : R 62 16 ls st h = a_do a_nL R R 62 (s_if2 (fun x y => !decide (x = y)) 21 17 ls st h) := a_R_eq ..
theorem r62_17 (ls : A_V) (st : List Value) (h : A_H) : R 62 17 ls st h = a_do a_nL R R 62 (s_ildl 5 18 ls st h) := a_R_eq ..
theorem r62_18 (ls : A_V) (st : List Value) (h : A_H) : R 62 18 ls st h = a_do a_nL R R 62 (s_push (.int 2) 19 ls st h) := a_R_eq ..
theorem r62_19 (ls : A_V) (st : List Value) (h : A_H) : R 62 19 ls st h = a_do a_nL R R 62 (s_bi (fun x y => x * y) 20 ls st h) := a_R_eq ..
theorem r62_20 (ls : A_V) (st : List Value) (h : A_H) : R 62 20 ls st h = a_do a_nL R R 62 (s_ist 5 21 ls st h) := a_R_eq ..
theorem r62_21 (ls : A_V) (st : List Value) (h : A_H) : R 62 21 ls st h = a_do a_nL R R 62 (s_aldl 0 22 ls st h) := a_R_eq ..
theorem r62_22 (ls : A_V) (st : List Value) (h : A_H) : R 62 22 ls st h = a_do a_nL R R 62 (s_ildl 2 23 ls st h) := a_R_eq ..
theorem r62_23 (ls : A_V) (st : List Value) (h : A_H) : R 62 23 ls st h = a_do a_nL R R 62 (s_ildl 3 24 ls st h) := a_R_eq ..
theorem r62_24 (ls : A_V) (st : List Value) (h : A_H) : R 62 24 ls st h = a_do a_nL R R 62 (s_aldl 0 25 ls st h) := a_R_eq ..
theorem r62_25 (ls : A_V) (st : List Value) (h : A_H) : R 62 25 ls st h = a_do a_nL R R 62 (s_getR 9 10 26 ls st h) := a_R_eq ..
theorem r62_26 (ls : A_V) (st : List Value) (h : A_H) : R 62 26 ls st h = a_do a_nL R R 62 (s_aldl 4 27 ls st h) := a_R_eq ..
theorem r62_27 (ls : A_V) (st : List Value) (h : A_H) : R 62 27 ls st h = a_do a_nL R R 62 (s_getI 3 2 28 ls st h) := a_R_eq ..
theorem r62_28 (ls : A_V) (st : List Value) (h : A_H) : R 62 28 ls st h = a_do a_nL R R 62 (s_aal 4 29 ls st h) := a_R_eq ..
theorem r62_29 (ls : A_V) (st : List Value) (h : A_H) : R 62 29 ls st h = a_do a_nL R R 62 (s_getI 10 2 30 ls st h) := a_R_eq ..
theorem r62_30 (ls : A_V) (st : List Value) (h : A_H) : R 62 30 ls st h = a_do a_nL R R 62 (s_bi (fun x y => x &&& y) 31 ls st h) := a_R_eq ..
theorem r62_31 (ls : A_V) (st : List Value) (h : A_H) : R 62 31 ls st h = a_do a_nL R R 62 (s_push (.int 1) 32 ls st h) := a_R_eq ..
theorem r62_32 (ls : A_V) (st : List Value) (h : A_H) : R 62 32 ls st h = a_do a_nL R R 62 (s_ildl 1 33 ls st h) := a_R_eq ..
theorem r62_33 (ls : A_V) (st : List Value) (h : A_H) : R 62 33 ls st h = a_do a_nL R R 62 (s_bi (fun x y => x <<< (y &&& 31)) 34 ls st h) := a_R_eq ..
theorem r62_34 (ls : A_V) (st : List Value) (h : A_H) : R 62 34 ls st h = a_do a_nL R R 62 (s_push (.int (-1)) 35 ls st h) := a_R_eq ..
theorem r62_35 (ls : A_V) (st : List Value) (h : A_H) : R 62 35 ls st h = a_do a_nL R R 62 (s_bi (fun x y => x ^^^ y) 36 ls st h) := a_R_eq ..
theorem r62_36 (ls : A_V) (st : List Value) (h : A_H) : R 62 36 ls st h = a_do a_nL R R 62 (s_bi (fun x y => x &&& y) 37 ls st h) := a_R_eq ..
theorem r62_37 (ls : A_V) (st : List Value) (h : A_H) : R 62 37 ls st h = a_do a_nL R R 62 (s_call 12 63 3 5 true 38 ls st h) := a_R_eq ..
theorem r62_38 (ls : A_V) (st : List Value) (h : A_H) : R 62 38 ls st h = a_do a_nL R R 62 (s_ist 6 39 ls st h) := a_R_eq ..
theorem r62_39 (ls : A_V) (st : List Value) (h : A_H) : R 62 39 ls st h = a_do a_nL R R 62 (s_push (.int 0) 40 ls st h) := a_R_eq ..
theorem r62_40 (ls : A_V) (st : List Value) (h : A_H) : R 62 40 ls st h = a_do a_nL R R 62 (s_ildl 5 41 ls st h) := a_R_eq ..
theorem r62_41 (ls : A_V) (st : List Value) (h : A_H) : R 62 41 ls st h = a_do a_nL R R 62 (s_push (.int 2) 42 ls st h) := a_R_eq ..
theorem r62_42 (ls : A_V) (st : List Value) (h : A_H) : R 62 42 ls st h = a_do a_nL R R 62 (s_ildl 6 43 ls st h) := a_R_eq ..
theorem r62_43 (ls : A_V) (st : List Value) (h : A_H) : R 62 43 ls st h = a_do a_nL R R 62 (s_bi (fun x y => x * y) 44 ls st h) := a_R_eq ..
theorem r62_44 (ls : A_V) (st : List Value) (h : A_H) : R 62 44 ls st h = a_do a_nL R R 62 (s_bi (fun x y => x - y) 45 ls st h) := a_R_eq ..
theorem r62_45 (ls : A_V) (st : List Value) (h : A_H) : R 62 45 ls st h = a_do a_nL R R 62 (s_mbi (fun x y => if x < y then y else x) 46 ls st h) := a_R_eq ..
theorem r62_46 (ls : A_V) (st : List Value) (h : A_H) : R 62 46 ls st h = a_do a_nL R R 62 (s_iret ls st h) := a_R_eq ..
theorem b62_0 (x0 : Nat) (x1 : Int32) (x2 : Int32) (x3 : Int32) (l4 : Option Value) (l5 : Option Value) (l6 : Option Value) (h : A_H) : R 62 0 [some (.ref x0), some (.int x1), some (.int x2), some (.int x3), l4, l5, l6] [] h = (cond (isO h x0 9 && (hP h x0 12).isSome) (cond (isA h ((hP h x0 12).getD 0) 6 x1 && (hP h ((hP h x0 12).getD 0) (x1).toNatClampNeg).isSome) (cond (isO h ((hP h ((hP h x0 12).getD 0) (x1).toNatClampNeg).getD 0) 3) (cond (isO h x0 9) (a_back R 62 (58, [.ref x0, .int x1, .int x2], h, true, none, 11, [some (.ref x0), some (.int x1), some (.int x2), some (.int x3), some (.ref ((hP h ((hP h x0 12).getD 0) (x1).toNatClampNeg).getD 0)), l5, l6], [.int (hI h ((hP h ((hP h x0 12).getD 0) (x1).toNatClampNeg).getD 0) 5)]) (C 58 [.ref x0, .int x1, .int x2] h)) none) none) none) none) := (tr (r62_0 ..) (tr (r62_1 ..) (cgT (tr (r62_2 ..) (tr (r62_3 ..) (cgT (tr (r62_4 ..) (tr (r62_5 ..) (tr (r62_6 ..) (cgT (tr (r62_7 ..) (tr (r62_8 ..) (tr (r62_9 ..) (r62_10 ..))))))))))))))
theorem b62_11 (x0 : Nat) (x1 : Int32) (x2 : Int32) (x3 : Int32) (x4 : Nat) (l5 : Option Value) (l6 : Option Value) (s0 : Int32) (s1 : Int32) (h : A_H) : R 62 11 [some (.ref x0), some (.int x1), some (.int x2), some (.int x3), some (.ref x4), l5, l6] [.int s1, .int s0] h = (cond (isO h x4 3) (cond (!decide ((hI h x4 0) = (3 : Int32))) (cond (isO h x0 9 && (hP h x0 10).isSome) (cond (isO h x4 3) (cond (isA h ((hP h x0 10).getD 0) 4 (hI h x4 2) && (hP h ((hP h x0 10).getD 0) ((hI h x4 2)).toNatClampNeg).isSome) (cond (isO h ((hP h ((hP h x0 10).getD 0) ((hI h x4 2)).toNatClampNeg).getD 0) 10) (cond (isO h x0 9) (a_back R 62 (63, [.ref x0, .int x2, .int ((x3 &&& (hI h ((hP h ((hP h x0 10).getD 0) ((hI h x4 2)).toNatClampNeg).getD 0) 2)) &&& (((1 : Int32) <<< (x1 &&& 31)) ^^^ (-1 : Int32)))], h, true, none, 38, [some (.ref x0), some (.int x1), some (.int x2), some (.int x3), some (.ref x4), some (.int (s0 + s1)), l6], []) (C 63 [.ref x0, .int x2, .int ((x3 &&& (hI h ((hP h ((hP h x0 10).getD 0) ((hI h x4 2)).toNatClampNeg).getD 0) 2)) &&& (((1 : Int32) <<< (x1 &&& 31)) ^^^ (-1 : Int32)))] h)) none) none) none) none) none) (cond (isO h x0 9 && (hP h x0 10).isSome) (cond (isO h x4 3) (cond (isA h ((hP h x0 10).getD 0) 4 (hI h x4 2) && (hP h ((hP h x0 10).getD 0) ((hI h x4 2)).toNatClampNeg).isSome) (cond (isO h ((hP h ((hP h x0 10).getD 0) ((hI h x4 2)).toNatClampNeg).getD 0) 10) (cond (isO h x0 9) (a_back R 62 (63, [.ref x0, .int x2, .int ((x3 &&& (hI h ((hP h ((hP h x0 10).getD 0) ((hI h x4 2)).toNatClampNeg).getD 0) 2)) &&& (((1 : Int32) <<< (x1 &&& 31)) ^^^ (-1 : Int32)))], h, true, none, 38, [some (.ref x0), some (.int x1), some (.int x2), some (.int x3), some (.ref x4), some (.int ((s0 + s1) * (2 : Int32))), l6], []) (C 63 [.ref x0, .int x2, .int ((x3 &&& (hI h ((hP h ((hP h x0 10).getD 0) ((hI h x4 2)).toNatClampNeg).getD 0) 2)) &&& (((1 : Int32) <<< (x1 &&& 31)) ^^^ (-1 : Int32)))] h)) none) none) none) none) none)) none) := (tr (r62_11 ..) (tr (r62_12 ..) (tr (r62_13 ..) (tr (r62_14 ..) (cgT (tr (r62_15 ..) (tr (r62_16 ..) (cgB (tr (r62_21 ..) (tr (r62_22 ..) (tr (r62_23 ..) (tr (r62_24 ..) (tr (r62_25 ..) (cgT (tr (r62_26 ..) (tr (r62_27 ..) (cgT (tr (r62_28 ..) (cgT (tr (r62_29 ..) (cgT (tr (r62_30 ..) (tr (r62_31 ..) (tr (r62_32 ..) (tr (r62_33 ..) (tr (r62_34 ..) (tr (r62_35 ..) (tr (r62_36 ..) (r62_37 ..))))))))))))))))))))) (tr (r62_17 ..) (tr (r62_18 ..) (tr (r62_19 ..) (tr (r62_20 ..) (tr (r62_21 ..) (tr (r62_22 ..) (tr (r62_23 ..) (tr (r62_24 ..) (tr (r62_25 ..) (cgT (tr (r62_26 ..) (tr (r62_27 ..) (cgT (tr (r62_28 ..) (cgT (tr (r62_29 ..) (cgT (tr (r62_30 ..) (tr (r62_31 ..) (tr (r62_32 ..) (tr (r62_33 ..) (tr (r62_34 ..) (tr (r62_35 ..) (tr (r62_36 ..) (r62_37 ..)))))))))))))))))))))))))))))))))
theorem b62_38 (x0 : Nat) (x1 : Int32) (x2 : Int32) (x3 : Int32) (x4 : Nat) (x5 : Int32) (l6 : Option Value) (s0 : Int32) (h : A_H) : R 62 38 [some (.ref x0), some (.int x1), some (.int x2), some (.int x3), some (.ref x4), some (.int x5), l6] [.int s0] h = (some (some (some (.int (if (0 : Int32) < (x5 - ((2 : Int32) * s0)) then (x5 - ((2 : Int32) * s0)) else (0 : Int32)))), h)) := (tr (r62_38 ..) (tr (r62_39 ..) (tr (r62_40 ..) (tr (r62_41 ..) (tr (r62_42 ..) (tr (r62_43 ..) (tr (r62_44 ..) (tr (r62_45 ..) (r62_46 ..)))))))))
theorem e63 (x0 : Nat) (x1 : Int32) (x2 : Int32) (h : A_H) : C 63 [.ref x0, .int x1, .int x2] h = R 63 0 [some (.ref x0), some (.int x1), some (.int x2), none, none] [] h := rfl
theorem r63_0 (ls : A_V) (st : List Value) (h : A_H) : R 63 0 ls st h = a_do a_nL R R 63 (s_push (.int 0) 1 ls st h) := a_R_eq ..
theorem r63_1 (ls : A_V) (st : List Value) (h : A_H) : R 63 1 ls st h = a_do a_nL R R 63 (s_ist 3 2 ls st h) := a_R_eq ..
theorem r63_2 (ls : A_V) (st : List Value) (h : A_H) : R 63 2 ls st h = a_do a_nL R R 63 (s_push (.int 0) 3 ls st h) := a_R_eq ..
theorem r63_3 (ls : A_V) (st : List Value) (h : A_H) : R 63 3 ls st h = a_do a_nL R R 63 (s_ist 4 4 ls st h) := a_R_eq ..
theorem r63_4 (ls : A_V) (st : List Value) (h : A_H) : R 63 4 ls st h = a_do a_nL R R 63 (s_ildl 4 5 ls st h) := a_R_eq ..
theorem r63_5 (ls : A_V) (st : List Value) (h : A_H) : R 63 5 ls st h = a_do a_nL R R 63 (s_aldl 0 6 ls st h) := a_R_eq ..
theorem r63_6 (ls : A_V) (st : List Value) (h : A_H) : R 63 6 ls st h = a_do a_nL R R 63 (s_getI 9 5 7 ls st h) := a_R_eq ..
theorem r63_7 (ls : A_V) (st : List Value) (h : A_H) : R 63 7 ls st h = a_do a_nL R R 63 (s_if2 (fun x y => decide (y ≤ x)) 28 8 ls st h) := a_R_eq ..
theorem r63_8 (ls : A_V) (st : List Value) (h : A_H) : R 63 8 ls st h = a_do a_nL R R 63 (s_ildl 2 9 ls st h) := a_R_eq ..
theorem r63_9 (ls : A_V) (st : List Value) (h : A_H) : R 63 9 ls st h = a_do a_nL R R 63 (s_ildl 4 10 ls st h) := a_R_eq ..
theorem r63_10 (ls : A_V) (st : List Value) (h : A_H) : R 63 10 ls st h = a_do a_nL R R 63 (s_bi (fun x y => x >>> (y &&& 31)) 11 ls st h) := a_R_eq ..
theorem r63_11 (ls : A_V) (st : List Value) (h : A_H) : R 63 11 ls st h = a_do a_nL R R 63 (s_push (.int 1) 12 ls st h) := a_R_eq ..
theorem r63_12 (ls : A_V) (st : List Value) (h : A_H) : R 63 12 ls st h = a_do a_nL R R 63 (s_bi (fun x y => x &&& y) 13 ls st h) := a_R_eq ..
theorem r63_13 (ls : A_V) (st : List Value) (h : A_H) : R 63 13 ls st h = a_do a_nL R R 63 (s_if1 (fun x => decide (x = 0)) 26 14 ls st h) := a_R_eq ..
theorem r63_14 (ls : A_V) (st : List Value) (h : A_H) : R 63 14 ls st h = a_do a_nL R R 63 (s_aldl 0 15 ls st h) := a_R_eq ..
theorem r63_15 (ls : A_V) (st : List Value) (h : A_H) : R 63 15 ls st h = a_do a_nL R R 63 (s_getR 9 12 16 ls st h) := a_R_eq ..
theorem r63_16 (ls : A_V) (st : List Value) (h : A_H) : R 63 16 ls st h = a_do a_nL R R 63 (s_ildl 4 17 ls st h) := a_R_eq ..
theorem r63_17 (ls : A_V) (st : List Value) (h : A_H) : R 63 17 ls st h = a_do a_nL R R 63 (s_aal 6 18 ls st h) := a_R_eq ..
theorem r63_18 (ls : A_V) (st : List Value) (h : A_H) : R 63 18 ls st h = a_do a_nL R R 63 (s_getI 3 0 19 ls st h) := a_R_eq ..
theorem r63_19 (ls : A_V) (st : List Value) (h : A_H) : R 63 19 ls st h = a_do a_nL R R 63 (s_if1 (fun x => !decide (x = 0)) 26 20 ls st h) := a_R_eq ..
theorem r63_20 (ls : A_V) (st : List Value) (h : A_H) : R 63 20 ls st h = a_do a_nL R R 63 (s_aldl 0 21 ls st h) := a_R_eq ..
theorem r63_21 (ls : A_V) (st : List Value) (h : A_H) : R 63 21 ls st h = a_do a_nL R R 63 (s_ildl 4 22 ls st h) := a_R_eq ..
theorem r63_22 (ls : A_V) (st : List Value) (h : A_H) : R 63 22 ls st h = a_do a_nL R R 63 (s_ildl 1 23 ls st h) := a_R_eq ..
theorem r63_23 (ls : A_V) (st : List Value) (h : A_H) : R 63 23 ls st h = a_do a_nL R R 63 (s_call 12 59 3 4 true 24 ls st h) := a_R_eq ..
theorem r63_24 (ls : A_V) (st : List Value) (h : A_H) : R 63 24 ls st h = a_do a_nL R R 63 (s_if1 (fun x => !decide (x = 0)) 26 25 ls st h) := a_R_eq ..
theorem r63_25 (ls : A_V) (st : List Value) (h : A_H) : R 63 25 ls st h = a_do a_nL R R 63 (s_inc 3 1 26 ls st h) := a_R_eq ..
theorem r63_26 (ls : A_V) (st : List Value) (h : A_H) : R 63 26 ls st h = a_do a_nL R R 63 (s_inc 4 1 27 ls st h) := a_R_eq ..
theorem r63_27 (ls : A_V) (st : List Value) (h : A_H) : R 63 27 ls st h = a_do a_nL R R 63 (s_goto 4 ls st h) := a_R_eq ..
theorem r63_28 (ls : A_V) (st : List Value) (h : A_H) : R 63 28 ls st h = a_do a_nL R R 63 (s_ildl 3 29 ls st h) := a_R_eq ..
theorem r63_29 (ls : A_V) (st : List Value) (h : A_H) : R 63 29 ls st h = a_do a_nL R R 63 (s_iret ls st h) := a_R_eq ..
theorem b63_0 (x0 : Nat) (x1 : Int32) (x2 : Int32) (l3 : Option Value) (l4 : Option Value) (h : A_H) : R 63 0 [some (.ref x0), some (.int x1), some (.int x2), l3, l4] [] h = (R 63 4 [some (.ref x0), some (.int x1), some (.int x2), some (.int (0 : Int32)), some (.int (0 : Int32))] [] h) := (tr (r63_0 ..) (tr (r63_1 ..) (tr (r63_2 ..) (r63_3 ..))))
theorem b63_4 (x0 : Nat) (x1 : Int32) (x2 : Int32) (x3 : Int32) (x4 : Int32) (h : A_H) : R 63 4 [some (.ref x0), some (.int x1), some (.int x2), some (.int x3), some (.int x4)] [] h = (cond (isO h x0 9) (cond (decide ((hI h x0 5) ≤ x4)) (some (some (some (.int x3)), h)) (cond (decide (((x2 >>> (x4 &&& 31)) &&& (1 : Int32)) = 0)) (R 63 4 [some (.ref x0), some (.int x1), some (.int x2), some (.int x3), some (.int (x4 + 1))] [] h) (cond (isO h x0 9 && (hP h x0 12).isSome) (cond (isA h ((hP h x0 12).getD 0) 6 x4 && (hP h ((hP h x0 12).getD 0) (x4).toNatClampNeg).isSome) (cond (isO h ((hP h ((hP h x0 12).getD 0) (x4).toNatClampNeg).getD 0) 3) (cond (!decide ((hI h ((hP h ((hP h x0 12).getD 0) (x4).toNatClampNeg).getD 0) 0) = 0)) (R 63 4 [some (.ref x0), some (.int x1), some (.int x2), some (.int x3), some (.int (x4 + 1))] [] h) (cond (isO h x0 9) (a_back R 63 (59, [.ref x0, .int x4, .int x1], h, true, none, 24, [some (.ref x0), some (.int x1), some (.int x2), some (.int x3), some (.int x4)], []) (C 59 [.ref x0, .int x4, .int x1] h)) none)) none) none) none))) none) := (tr (r63_4 ..) (tr (r63_5 ..) (tr (r63_6 ..) (cgT (tr (r63_7 ..) (cgB (tr (r63_28 ..) (r63_29 ..)) (tr (r63_8 ..) (tr (r63_9 ..) (tr (r63_10 ..) (tr (r63_11 ..) (tr (r63_12 ..) (tr (r63_13 ..) (cgB (tr (r63_26 ..) (r63_27 ..)) (tr (r63_14 ..) (tr (r63_15 ..) (cgT (tr (r63_16 ..) (tr (r63_17 ..) (cgT (tr (r63_18 ..) (cgT (tr (r63_19 ..) (cgB (tr (r63_26 ..) (r63_27 ..)) (tr (r63_20 ..) (tr (r63_21 ..) (tr (r63_22 ..) (r63_23 ..)))))))))))))))))))))))))))
theorem b63_24 (x0 : Nat) (x1 : Int32) (x2 : Int32) (x3 : Int32) (x4 : Int32) (s0 : Int32) (h : A_H) : R 63 24 [some (.ref x0), some (.int x1), some (.int x2), some (.int x3), some (.int x4)] [.int s0] h = (cond (!decide (s0 = 0)) (R 63 4 [some (.ref x0), some (.int x1), some (.int x2), some (.int x3), some (.int (x4 + 1))] [] h) (R 63 4 [some (.ref x0), some (.int x1), some (.int x2), some (.int (x3 + 1)), some (.int (x4 + 1))] [] h)) := (tr (r63_24 ..) (cgB (tr (r63_26 ..) (r63_27 ..)) (tr (r63_25 ..) (tr (r63_26 ..) (r63_27 ..)))))
theorem e64 (x0 : Nat) (x1 : Int32) (x2 : Int32) (h : A_H) : C 64 [.ref x0, .int x1, .int x2] h = R 64 0 [some (.ref x0), some (.int x1), some (.int x2), none, none, none, none] [] h := rfl
theorem r64_0 (ls : A_V) (st : List Value) (h : A_H) : R 64 0 ls st h = a_do a_nL R R 64 (s_aldl 0 1 ls st h) := a_R_eq ..
theorem r64_1 (ls : A_V) (st : List Value) (h : A_H) : R 64 1 ls st h = a_do a_nL R R 64 (s_getR 9 12 2 ls st h) := a_R_eq ..
theorem r64_2 (ls : A_V) (st : List Value) (h : A_H) : R 64 2 ls st h = a_do a_nL R R 64 (s_ildl 1 3 ls st h) := a_R_eq ..
theorem r64_3 (ls : A_V) (st : List Value) (h : A_H) : R 64 3 ls st h = a_do a_nL R R 64 (s_aal 6 4 ls st h) := a_R_eq ..
theorem r64_4 (ls : A_V) (st : List Value) (h : A_H) : R 64 4 ls st h = a_do a_nL R R 64 (s_ast 3 5 ls st h) := a_R_eq ..
theorem r64_5 (ls : A_V) (st : List Value) (h : A_H) : R 64 5 ls st h = a_do a_nL R R 64 (s_aldl 3 6 ls st h) := a_R_eq ..
theorem r64_6 (ls : A_V) (st : List Value) (h : A_H) : R 64 6 ls st h = a_do a_nL R R 64 (s_getI 3 0 7 ls st h) := a_R_eq ..
theorem r64_7 (ls : A_V) (st : List Value) (h : A_H) : R 64 7 ls st h = a_do a_nL R R 64 (s_if1 (fun x => !decide (x = 0)) 10 8 ls st h) := a_R_eq ..
theorem r64_8 (ls : A_V) (st : List Value) (h : A_H) : R 64 8 ls st h = a_do a_nL R R 64 (s_push (.int 0) 9 ls st h) := a_R_eq ..
theorem r64_9 (ls : A_V) (st : List Value) (h : A_H) : R 64 9 ls st h = a_do a_nL R R 64 (s_iret ls st h) := a_R_eq ..
theorem r64_10 (ls : A_V) (st : List Value) (h : A_H) : R 64 10 ls st h = a_do a_nL R R 64 (s_aldl 0 11 ls st h) := a_R_eq ..
theorem r64_11 (ls : A_V) (st : List Value) (h : A_H) : R 64 11 ls st h = a_do a_nL R R 64 (s_getR 9 9 12 ls st h) := a_R_eq ..
theorem r64_12 (ls : A_V) (st : List Value) (h : A_H) : R 64 12 ls st h = a_do a_nL R R 64 (s_aldl 3 13 ls st h) := a_R_eq ..
theorem r64_13 (ls : A_V) (st : List Value) (h : A_H) : R 64 13 ls st h = a_do a_nL R R 64 (s_getI 3 1 14 ls st h) := a_R_eq ..
theorem r64_14 (ls : A_V) (st : List Value) (h : A_H) : R 64 14 ls st h = a_do a_nL R R 64 (s_aal 3 15 ls st h) := a_R_eq ..
theorem r64_15 (ls : A_V) (st : List Value) (h : A_H) : R 64 15 ls st h = a_do a_nL R R 64 (s_ast 4 16 ls st h) := a_R_eq ..
theorem r64_16 (ls : A_V) (st : List Value) (h : A_H) : R 64 16 ls st h = a_do a_nL R R 64 (s_aldl 4 17 ls st h) := a_R_eq ..
theorem r64_17 (ls : A_V) (st : List Value) (h : A_H) : R 64 17 ls st h = a_do a_nL R R 64 (s_getI 5 3 18 ls st h) := a_R_eq ..
theorem r64_18 (ls : A_V) (st : List Value) (h : A_H) : R 64 18 ls st h = a_do a_nL R R 64 (s_if1 (fun x => decide (x = 0)) 22 19 ls st h) := a_R_eq ..
theorem r64_19 (ls : A_V) (st : List Value) (h : A_H) : R 64 19 ls st h = a_do a_nL R R 64 (s_aldl 4 20 ls st h) := a_R_eq ..
theorem r64_20 (ls : A_V) (st : List Value) (h : A_H) : R 64 20 ls st h = a_do a_nL R R 64 (s_getI 5 4 21 ls st h) := a_R_eq ..
theorem r64_21 (ls : A_V) (st : List Value) (h : A_H) : R 64 21 ls st h = a_do a_nL R R 64 (s_goto 23 ls st h) := a_R_eq ..
theorem r64_22 (ls : A_V) (st : List Value) (h : A_H) : R 64 22 ls st h = a_do a_nL R R 64 (s_push (.int 0) 23 ls st h) := a_R_eq ..
theorem r64_23 (ls : A_V) (st : List Value) (h : A_H) : R 64 23 ls st h = a_do a_nL R R 64 (s_ist 5 24 ls st h) := a_R_eq ..
theorem r64_24 (ls : A_V) (st : List Value) (h : A_H) : R 64 24 ls st h = a_do a_nL R R 64 (s_aldl 4 25 ls st h) := a_R_eq ..
theorem r64_25 (ls : A_V) (st : List Value) (h : A_H) : R 64 25 ls st h = a_do a_nL R R 64 (s_getI 5 3 26 ls st h) := a_R_eq ..
theorem r64_26 (ls : A_V) (st : List Value) (h : A_H) : R 64 26 ls st h = a_do a_nL R R 64 (s_if1 (fun x => decide (x = 0)) 30 27 ls st h) := a_R_eq ..
theorem r64_27 (ls : A_V) (st : List Value) (h : A_H) : R 64 27 ls st h = a_do a_nL R R 64 (s_aldl 4 28 ls st h) := a_R_eq ..
theorem r64_28 (ls : A_V) (st : List Value) (h : A_H) : R 64 28 ls st h = a_do a_nL R R 64 (s_getI 5 5 29 ls st h) := a_R_eq ..
theorem r64_29 (ls : A_V) (st : List Value) (h : A_H) : R 64 29 ls st h = a_do a_nL R R 64 (s_goto 31 ls st h) := a_R_eq ..
theorem r64_30 (ls : A_V) (st : List Value) (h : A_H) : R 64 30 ls st h = a_do a_nL R R 64 (s_push (.int 0) 31 ls st h) := a_R_eq ..
theorem r64_31 (ls : A_V) (st : List Value) (h : A_H) : R 64 31 ls st h = a_do a_nL R R 64 (s_ist 6 32 ls st h) := a_R_eq ..
theorem r64_32 (ls : A_V) (st : List Value) (h : A_H) : R 64 32 ls st h = a_do a_nL R R 64 (s_aldl 0 33 ls st h) := a_R_eq ..
theorem r64_33 (ls : A_V) (st : List Value) (h : A_H) : R 64 33 ls st h = a_do a_nL R R 64 (s_ildl 1 34 ls st h) := a_R_eq ..
theorem r64_34 (ls : A_V) (st : List Value) (h : A_H) : R 64 34 ls st h = a_do a_nL R R 64 (s_ildl 2 35 ls st h) := a_R_eq ..
theorem r64_35 (ls : A_V) (st : List Value) (h : A_H) : R 64 35 ls st h = a_do a_nL R R 64 (s_call 12 59 3 4 true 36 ls st h) := a_R_eq ..
theorem r64_36 (ls : A_V) (st : List Value) (h : A_H) : R 64 36 ls st h = a_do a_nL R R 64 (s_if1 (fun x => decide (x = 0)) 43 37 ls st h) := a_R_eq ..
theorem r64_37 (ls : A_V) (st : List Value) (h : A_H) : R 64 37 ls st h = a_do a_nL R R 64 (s_aldl 3 38 ls st h) := a_R_eq ..
theorem r64_38 (ls : A_V) (st : List Value) (h : A_H) : R 64 38 ls st h = a_do a_nL R R 64 (s_getI 3 5 39 ls st h) := a_R_eq ..
theorem r64_39 (ls : A_V) (st : List Value) (h : A_H) : R 64 39 ls st h = a_do a_nL R R 64 (s_uii (fun x => -x) 40 ls st h) := a_R_eq ..
theorem r64_40 (ls : A_V) (st : List Value) (h : A_H) : R 64 40 ls st h = a_do a_nL R R 64 (s_ildl 5 41 ls st h) := a_R_eq ..
theorem r64_41 (ls : A_V) (st : List Value) (h : A_H) : R 64 41 ls st h = a_do a_nL R R 64 (s_bi (fun x y => x * y) 42 ls st h) := a_R_eq ..
theorem r64_42 (ls : A_V) (st : List Value) (h : A_H) : R 64 42 ls st h = a_do a_nL R R 64 (s_iret ls st h) := a_R_eq ..
theorem r64_43 (ls : A_V) (st : List Value) (h : A_H) : R 64 43 ls st h = a_do a_nL R R 64 (s_aldl 3 44 ls st h) := a_R_eq ..
theorem r64_44 (ls : A_V) (st : List Value) (h : A_H) : R 64 44 ls st h = a_do a_nL R R 64 (s_getI 3 5 45 ls st h) := a_R_eq ..
theorem r64_45 (ls : A_V) (st : List Value) (h : A_H) : R 64 45 ls st h = a_do a_nL R R 64 (s_ildl 6 46 ls st h) := a_R_eq ..
theorem r64_46 (ls : A_V) (st : List Value) (h : A_H) : R 64 46 ls st h = a_do a_nL R R 64 (s_ildl 5 47 ls st h) := a_R_eq ..
theorem r64_47 (ls : A_V) (st : List Value) (h : A_H) : R 64 47 ls st h = a_do a_nL R R 64 (s_bi (fun x y => x - y) 48 ls st h) := a_R_eq ..
theorem r64_48 (ls : A_V) (st : List Value) (h : A_H) : R 64 48 ls st h = a_do a_nL R R 64 (s_bi (fun x y => x * y) 49 ls st h) := a_R_eq ..
theorem r64_49 (ls : A_V) (st : List Value) (h : A_H) : R 64 49 ls st h = a_do a_nL R R 64 (s_aldl 0 50 ls st h) := a_R_eq ..
theorem r64_50 (ls : A_V) (st : List Value) (h : A_H) : R 64 50 ls st h = a_do a_nL R R 64 (s_ildl 1 51 ls st h) := a_R_eq ..
theorem r64_51 (ls : A_V) (st : List Value) (h : A_H) : R 64 51 ls st h = a_do a_nL R R 64 (s_ildl 2 52 ls st h) := a_R_eq ..
theorem r64_52 (ls : A_V) (st : List Value) (h : A_H) : R 64 52 ls st h = a_do a_nL R R 64 (s_push (.int 0) 53 ls st h) := a_R_eq ..
theorem r64_53 (ls : A_V) (st : List Value) (h : A_H) : R 64 53 ls st h = a_do a_nL R R 64 (s_call 12 61 4 6 true 54 ls st h) := a_R_eq ..
theorem r64_54 (ls : A_V) (st : List Value) (h : A_H) : R 64 54 ls st h = a_do a_nL R R 64 (s_bi (fun x y => x - y) 55 ls st h) := a_R_eq ..
theorem r64_55 (ls : A_V) (st : List Value) (h : A_H) : R 64 55 ls st h = a_do a_nL R R 64 (s_iret ls st h) := a_R_eq ..
theorem b64_0 (x0 : Nat) (x1 : Int32) (x2 : Int32) (l3 : Option Value) (l4 : Option Value) (l5 : Option Value) (l6 : Option Value) (h : A_H) : R 64 0 [some (.ref x0), some (.int x1), some (.int x2), l3, l4, l5, l6] [] h = (cond (isO h x0 9 && (hP h x0 12).isSome) (cond (isA h ((hP h x0 12).getD 0) 6 x1 && (hP h ((hP h x0 12).getD 0) (x1).toNatClampNeg).isSome) (cond (isO h ((hP h ((hP h x0 12).getD 0) (x1).toNatClampNeg).getD 0) 3) (cond (!decide ((hI h ((hP h ((hP h x0 12).getD 0) (x1).toNatClampNeg).getD 0) 0) = 0)) (cond (isO h x0 9 && (hP h x0 9).isSome) (cond (isO h ((hP h ((hP h x0 12).getD 0) (x1).toNatClampNeg).getD 0) 3) (cond (isA h ((hP h x0 9).getD 0) 3 (hI h ((hP h ((hP h x0 12).getD 0) (x1).toNatClampNeg).getD 0) 1) && (hP h ((hP h x0 9).getD 0) ((hI h ((hP h ((hP h x0 12).getD 0) (x1).toNatClampNeg).getD 0) 1)).toNatClampNeg).isSome) (cond (isO h ((hP h ((hP h x0 9).getD 0) ((hI h ((hP h ((hP h x0 12).getD 0) (x1).toNatClampNeg).getD 0) 1)).toNatClampNeg).getD 0) 5) (cond (decide ((hI h ((hP h ((hP h x0 9).getD 0) ((hI h ((hP h ((hP h x0 12).getD 0) (x1).toNatClampNeg).getD 0) 1)).toNatClampNeg).getD 0) 3) = 0)) (cond (isO h ((hP h ((hP h x0 9).getD 0) ((hI h ((hP h ((hP h x0 12).getD 0) (x1).toNatClampNeg).getD 0) 1)).toNatClampNeg).getD 0) 5) (cond (decide ((hI h ((hP h ((hP h x0 9).getD 0) ((hI h ((hP h ((hP h x0 12).getD 0) (x1).toNatClampNeg).getD 0) 1)).toNatClampNeg).getD 0) 3) = 0)) (cond (isO h x0 9) (a_back R 64 (59, [.ref x0, .int x1, .int x2], h, true, none, 36, [some (.ref x0), some (.int x1), some (.int x2), some (.ref ((hP h ((hP h x0 12).getD 0) (x1).toNatClampNeg).getD 0)), some (.ref ((hP h ((hP h x0 9).getD 0) ((hI h ((hP h ((hP h x0 12).getD 0) (x1).toNatClampNeg).getD 0) 1)).toNatClampNeg).getD 0)), some (.int (0 : Int32)), some (.int (0 : Int32))], []) (C 59 [.ref x0, .int x1, .int x2] h)) none) (cond (isO h ((hP h ((hP h x0 9).getD 0) ((hI h ((hP h ((hP h x0 12).getD 0) (x1).toNatClampNeg).getD 0) 1)).toNatClampNeg).getD 0) 5) (cond (isO h x0 9) (a_back R 64 (59, [.ref x0, .int x1, .int x2], h, true, none, 36, [some (.ref x0), some (.int x1), some (.int x2), some (.ref ((hP h ((hP h x0 12).getD 0) (x1).toNatClampNeg).getD 0)), some (.ref ((hP h ((hP h x0 9).getD 0) ((hI h ((hP h ((hP h x0 12).getD 0) (x1).toNatClampNeg).getD 0) 1)).toNatClampNeg).getD 0)), some (.int (0 : Int32)), some (.int (hI h ((hP h ((hP h x0 9).getD 0) ((hI h ((hP h ((hP h x0 12).getD 0) (x1).toNatClampNeg).getD 0) 1)).toNatClampNeg).getD 0) 5))], []) (C 59 [.ref x0, .int x1, .int x2] h)) none) none)) none) (cond (isO h ((hP h ((hP h x0 9).getD 0) ((hI h ((hP h ((hP h x0 12).getD 0) (x1).toNatClampNeg).getD 0) 1)).toNatClampNeg).getD 0) 5) (cond (isO h ((hP h ((hP h x0 9).getD 0) ((hI h ((hP h ((hP h x0 12).getD 0) (x1).toNatClampNeg).getD 0) 1)).toNatClampNeg).getD 0) 5) (cond (decide ((hI h ((hP h ((hP h x0 9).getD 0) ((hI h ((hP h ((hP h x0 12).getD 0) (x1).toNatClampNeg).getD 0) 1)).toNatClampNeg).getD 0) 3) = 0)) (cond (isO h x0 9) (a_back R 64 (59, [.ref x0, .int x1, .int x2], h, true, none, 36, [some (.ref x0), some (.int x1), some (.int x2), some (.ref ((hP h ((hP h x0 12).getD 0) (x1).toNatClampNeg).getD 0)), some (.ref ((hP h ((hP h x0 9).getD 0) ((hI h ((hP h ((hP h x0 12).getD 0) (x1).toNatClampNeg).getD 0) 1)).toNatClampNeg).getD 0)), some (.int (hI h ((hP h ((hP h x0 9).getD 0) ((hI h ((hP h ((hP h x0 12).getD 0) (x1).toNatClampNeg).getD 0) 1)).toNatClampNeg).getD 0) 4)), some (.int (0 : Int32))], []) (C 59 [.ref x0, .int x1, .int x2] h)) none) (cond (isO h ((hP h ((hP h x0 9).getD 0) ((hI h ((hP h ((hP h x0 12).getD 0) (x1).toNatClampNeg).getD 0) 1)).toNatClampNeg).getD 0) 5) (cond (isO h x0 9) (a_back R 64 (59, [.ref x0, .int x1, .int x2], h, true, none, 36, [some (.ref x0), some (.int x1), some (.int x2), some (.ref ((hP h ((hP h x0 12).getD 0) (x1).toNatClampNeg).getD 0)), some (.ref ((hP h ((hP h x0 9).getD 0) ((hI h ((hP h ((hP h x0 12).getD 0) (x1).toNatClampNeg).getD 0) 1)).toNatClampNeg).getD 0)), some (.int (hI h ((hP h ((hP h x0 9).getD 0) ((hI h ((hP h ((hP h x0 12).getD 0) (x1).toNatClampNeg).getD 0) 1)).toNatClampNeg).getD 0) 4)), some (.int (hI h ((hP h ((hP h x0 9).getD 0) ((hI h ((hP h ((hP h x0 12).getD 0) (x1).toNatClampNeg).getD 0) 1)).toNatClampNeg).getD 0) 5))], []) (C 59 [.ref x0, .int x1, .int x2] h)) none) none)) none) none)) none) none) none) none) (some (some (some (.int (0 : Int32))), h))) none) none) none) := (tr (r64_0 ..) (tr (r64_1 ..) (cgT (tr (r64_2 ..) (tr (r64_3 ..) (cgT (tr (r64_4 ..) (tr (r64_5 ..) (tr (r64_6 ..) (cgT (tr (r64_7 ..) (cgB (tr (r64_10 ..) (tr (r64_11 ..) (cgT (tr (r64_12 ..) (tr (r64_13 ..) (cgT (tr (r64_14 ..) (cgT (tr (r64_15 ..) (tr (r64_16 ..) (tr (r64_17 ..) (cgT (tr (r64_18 ..) (cgB (tr (r64_22 ..) (tr (r64_23 ..) (tr (r64_24 ..) (tr (r64_25 ..) (cgT (tr (r64_26 ..) (cgB (tr (r64_30 ..) (tr (r64_31 ..) (tr (r64_32 ..) (tr (r64_33 ..) (tr (r64_34 ..) (r64_35 ..)))))) (tr (r64_27 ..) (tr (r64_28 ..) (cgT (tr (r64_29 ..) (tr (r64_31 ..) (tr (r64_32 ..) (tr (r64_33 ..) (tr (r64_34 ..) (r64_35 ..)))))))))))))))) (tr (r64_19 ..) (tr (r64_20 ..) (cgT (tr (r64_21 ..) (tr (r64_23 ..) (tr (r64_24 ..) (tr (r64_25 ..) (cgT (tr (r64_26 ..) (cgB (tr (r64_30 ..) (tr (r64_31 ..) (tr (r64_32 ..) (tr (r64_33 ..) (tr (r64_34 ..) (r64_35 ..)))))) (tr (r64_27 ..) (tr (r64_28 ..) (cgT (tr (r64_29 ..) (tr (r64_31 ..) (tr (r64_32 ..) (tr (r64_33 ..) (tr (r64_34 ..) (r64_35 ..))))))))))))))))))))))))))))))))) (tr (r64_8 ..) (r64_9 ..))))))))))))))
theorem b64_36 (x0 : Nat) (x1 : Int32) (x2 : Int32) (x3 : Nat) (x4 : Nat) (x5 : Int32) (x6 : Int32) (s0 : Int32) (h : A_H) : R 64 36 [some (.ref x0), some (.int x1), some (.int x2), some (.ref x3), some (.ref x4), some (.int x5), some (.int x6)] [.int s0] h = (cond (decide (s0 = 0)) (cond (isO h x3 3) (cond (isO h x0 9) (a_back R 64 (61, [.ref x0, .int x1, .int x2, .int (0 : Int32)], h, true, none, 54, [some (.ref x0), some (.int x1), some (.int x2), some (.ref x3), some (.ref x4), some (.int x5), some (.int x6)], [.int ((hI h x3 5) * (x6 - x5))]) (C 61 [.ref x0, .int x1, .int x2, .int (0 : Int32)] h)) none) none) (cond (isO h x3 3) (some (some (some (.int ((-(hI h x3 5)) * x5))), h)) none)) := (tr (r64_36 ..) (cgB (tr (r64_43 ..) (tr (r64_44 ..) (cgT (tr (r64_45 ..) (tr (r64_46 ..) (tr (r64_47 ..) (tr (r64_48 ..) (tr (r64_49 ..) (tr (r64_50 ..) (tr (r64_51 ..) (tr (r64_52 ..) (r64_53 ..)))))))))))) (tr (r64_37 ..) (tr (r64_38 ..) (cgT (tr (r64_39 ..) (tr (r64_40 ..) (tr (r64_41 ..) (r64_42 ..)))))))))
theorem b64_54 (x0 : Nat) (x1 : Int32) (x2 : Int32) (x3 : Nat) (x4 : Nat) (x5 : Int32) (x6 : Int32) (s0 : Int32) (s1 : Int32) (h : A_H) : R 64 54 [some (.ref x0), some (.int x1), some (.int x2), some (.ref x3), some (.ref x4), some (.int x5), some (.int x6)] [.int s1, .int s0] h = (some (some (some (.int (s0 - s1))), h)) := (tr (r64_54 ..) (r64_55 ..))
theorem e65 (x0 : Nat) (x1 : Int32) (h : A_H) : C 65 [.ref x0, .int x1] h = R 65 0 [some (.ref x0), some (.int x1), none, none] [] h := rfl
theorem r65_0 (ls : A_V) (st : List Value) (h : A_H) : R 65 0 ls st h = a_do a_nL R R 65 (s_push (.int 0) 1 ls st h) := a_R_eq ..
theorem r65_1 (ls : A_V) (st : List Value) (h : A_H) : R 65 1 ls st h = a_do a_nL R R 65 (s_ist 2 2 ls st h) := a_R_eq ..
theorem r65_2 (ls : A_V) (st : List Value) (h : A_H) : R 65 2 ls st h = a_do a_nL R R 65 (s_push (.int 0) 3 ls st h) := a_R_eq ..
theorem r65_3 (ls : A_V) (st : List Value) (h : A_H) : R 65 3 ls st h = a_do a_nL R R 65 (s_ist 3 4 ls st h) := a_R_eq ..
theorem r65_4 (ls : A_V) (st : List Value) (h : A_H) : R 65 4 ls st h = a_do a_nL R R 65 (s_ildl 3 5 ls st h) := a_R_eq ..
theorem r65_5 (ls : A_V) (st : List Value) (h : A_H) : R 65 5 ls st h = a_do a_nL R R 65 (s_aldl 0 6 ls st h) := a_R_eq ..
theorem r65_6 (ls : A_V) (st : List Value) (h : A_H) : R 65 6 ls st h = a_do a_nL R R 65 (s_getI 9 5 7 ls st h) := a_R_eq ..
theorem r65_7 (ls : A_V) (st : List Value) (h : A_H) : R 65 7 ls st h = a_do a_nL R R 65 (s_if2 (fun x y => decide (y ≤ x)) 23 8 ls st h) := a_R_eq ..
theorem r65_8 (ls : A_V) (st : List Value) (h : A_H) : R 65 8 ls st h = a_do a_nL R R 65 (s_aldl 0 9 ls st h) := a_R_eq ..
theorem r65_9 (ls : A_V) (st : List Value) (h : A_H) : R 65 9 ls st h = a_do a_nL R R 65 (s_getR 9 12 10 ls st h) := a_R_eq ..
theorem r65_10 (ls : A_V) (st : List Value) (h : A_H) : R 65 10 ls st h = a_do a_nL R R 65 (s_ildl 3 11 ls st h) := a_R_eq ..
theorem r65_11 (ls : A_V) (st : List Value) (h : A_H) : R 65 11 ls st h = a_do a_nL R R 65 (s_aal 6 12 ls st h) := a_R_eq ..
theorem r65_12 (ls : A_V) (st : List Value) (h : A_H) : R 65 12 ls st h = a_do a_nL R R 65 (s_getI 3 1 13 ls st h) := a_R_eq ..
theorem r65_13 (ls : A_V) (st : List Value) (h : A_H) : R 65 13 ls st h = a_do a_nL R R 65 (s_ildl 1 14 ls st h) := a_R_eq ..
theorem r65_14 (ls : A_V) (st : List Value) (h : A_H) : R 65 14 ls st h = a_do a_nL R R 65 (s_if2 (fun x y => !decide (x = y)) 21 15 ls st h) := a_R_eq ..
theorem r65_15 (ls : A_V) (st : List Value) (h : A_H) : R 65 15 ls st h = a_do a_nL R R 65 (s_ildl 2 16 ls st h) := a_R_eq ..
theorem r65_16 (ls : A_V) (st : List Value) (h : A_H) : R 65 16 ls st h = a_do a_nL R R 65 (s_push (.int 1) 17 ls st h) := a_R_eq ..
theorem r65_17 (ls : A_V) (st : List Value) (h : A_H) : R 65 17 ls st h = a_do a_nL R R 65 (s_ildl 3 18 ls st h) := a_R_eq ..
theorem r65_18 (ls : A_V) (st : List Value) (h : A_H) : R 65 18 ls st h = a_do a_nL R R 65 (s_bi (fun x y => x <<< (y &&& 31)) 19 ls st h) := a_R_eq ..
theorem r65_19 (ls : A_V) (st : List Value) (h : A_H) : R 65 19 ls st h = a_do a_nL R R 65 (s_bi (fun x y => x ||| y) 20 ls st h) := a_R_eq ..
theorem r65_20 (ls : A_V) (st : List Value) (h : A_H) : R 65 20 ls st h = a_do a_nL R R 65 (s_ist 2 21 ls st h) := a_R_eq ..
theorem r65_21 (ls : A_V) (st : List Value) (h : A_H) : R 65 21 ls st h = a_do a_nL R R 65 (s_inc 3 1 22 ls st h) := a_R_eq ..
theorem r65_22 (ls : A_V) (st : List Value) (h : A_H) : R 65 22 ls st h = a_do a_nL R R 65 (s_goto 4 ls st h) := a_R_eq ..
theorem r65_23 (ls : A_V) (st : List Value) (h : A_H) : R 65 23 ls st h = a_do a_nL R R 65 (s_ildl 2 24 ls st h) := a_R_eq ..
theorem r65_24 (ls : A_V) (st : List Value) (h : A_H) : R 65 24 ls st h = a_do a_nL R R 65 (s_iret ls st h) := a_R_eq ..
theorem b65_0 (x0 : Nat) (x1 : Int32) (l2 : Option Value) (l3 : Option Value) (h : A_H) : R 65 0 [some (.ref x0), some (.int x1), l2, l3] [] h = (R 65 4 [some (.ref x0), some (.int x1), some (.int (0 : Int32)), some (.int (0 : Int32))] [] h) := (tr (r65_0 ..) (tr (r65_1 ..) (tr (r65_2 ..) (r65_3 ..))))
theorem b65_4 (x0 : Nat) (x1 : Int32) (x2 : Int32) (x3 : Int32) (h : A_H) : R 65 4 [some (.ref x0), some (.int x1), some (.int x2), some (.int x3)] [] h = (cond (isO h x0 9) (cond (decide ((hI h x0 5) ≤ x3)) (some (some (some (.int x2)), h)) (cond (isO h x0 9 && (hP h x0 12).isSome) (cond (isA h ((hP h x0 12).getD 0) 6 x3 && (hP h ((hP h x0 12).getD 0) (x3).toNatClampNeg).isSome) (cond (isO h ((hP h ((hP h x0 12).getD 0) (x3).toNatClampNeg).getD 0) 3) (cond (!decide ((hI h ((hP h ((hP h x0 12).getD 0) (x3).toNatClampNeg).getD 0) 1) = x1)) (R 65 4 [some (.ref x0), some (.int x1), some (.int x2), some (.int (x3 + 1))] [] h) (R 65 4 [some (.ref x0), some (.int x1), some (.int (x2 ||| ((1 : Int32) <<< (x3 &&& 31)))), some (.int (x3 + 1))] [] h)) none) none) none)) none) := (tr (r65_4 ..) (tr (r65_5 ..) (tr (r65_6 ..) (cgT (tr (r65_7 ..) (cgB (tr (r65_23 ..) (r65_24 ..)) (tr (r65_8 ..) (tr (r65_9 ..) (cgT (tr (r65_10 ..) (tr (r65_11 ..) (cgT (tr (r65_12 ..) (cgT (tr (r65_13 ..) (tr (r65_14 ..) (cgB (tr (r65_21 ..) (r65_22 ..)) (tr (r65_15 ..) (tr (r65_16 ..) (tr (r65_17 ..) (tr (r65_18 ..) (tr (r65_19 ..) (tr (r65_20 ..) (tr (r65_21 ..) (r65_22 ..)))))))))))))))))))))))))
theorem e66 (x0 : Nat) (x1 : Int32) (x2 : Int32) (h : A_H) : C 66 [.ref x0, .int x1, .int x2] h = R 66 0 [some (.ref x0), some (.int x1), some (.int x2), none, none] [] h := rfl
theorem r66_0 (ls : A_V) (st : List Value) (h : A_H) : R 66 0 ls st h = a_do a_nL R R 66 (s_push (.int 0) 1 ls st h) := a_R_eq ..
theorem r66_1 (ls : A_V) (st : List Value) (h : A_H) : R 66 1 ls st h = a_do a_nL R R 66 (s_ist 3 2 ls st h) := a_R_eq ..
theorem r66_2 (ls : A_V) (st : List Value) (h : A_H) : R 66 2 ls st h = a_do a_nL R R 66 (s_push (.int 0) 3 ls st h) := a_R_eq ..
theorem r66_3 (ls : A_V) (st : List Value) (h : A_H) : R 66 3 ls st h = a_do a_nL R R 66 (s_ist 4 4 ls st h) := a_R_eq ..
theorem r66_4 (ls : A_V) (st : List Value) (h : A_H) : R 66 4 ls st h = a_do a_nL R R 66 (s_ildl 4 5 ls st h) := a_R_eq ..
theorem r66_5 (ls : A_V) (st : List Value) (h : A_H) : R 66 5 ls st h = a_do a_nL R R 66 (s_aldl 0 6 ls st h) := a_R_eq ..
theorem r66_6 (ls : A_V) (st : List Value) (h : A_H) : R 66 6 ls st h = a_do a_nL R R 66 (s_getI 9 5 7 ls st h) := a_R_eq ..
theorem r66_7 (ls : A_V) (st : List Value) (h : A_H) : R 66 7 ls st h = a_do a_nL R R 66 (s_if2 (fun x y => decide (y ≤ x)) 32 8 ls st h) := a_R_eq ..
theorem r66_8 (ls : A_V) (st : List Value) (h : A_H) : R 66 8 ls st h = a_do a_nL R R 66 (s_aldl 0 9 ls st h) := a_R_eq ..
theorem r66_9 (ls : A_V) (st : List Value) (h : A_H) : R 66 9 ls st h = a_do a_nL R R 66 (s_getR 9 12 10 ls st h) := a_R_eq ..
theorem r66_10 (ls : A_V) (st : List Value) (h : A_H) : R 66 10 ls st h = a_do a_nL R R 66 (s_ildl 4 11 ls st h) := a_R_eq ..
theorem r66_11 (ls : A_V) (st : List Value) (h : A_H) : R 66 11 ls st h = a_do a_nL R R 66 (s_aal 6 12 ls st h) := a_R_eq ..
theorem r66_12 (ls : A_V) (st : List Value) (h : A_H) : R 66 12 ls st h = a_do a_nL R R 66 (s_getI 3 1 13 ls st h) := a_R_eq ..
theorem r66_13 (ls : A_V) (st : List Value) (h : A_H) : R 66 13 ls st h = a_do a_nL R R 66 (s_ildl 1 14 ls st h) := a_R_eq ..
theorem r66_14 (ls : A_V) (st : List Value) (h : A_H) : R 66 14 ls st h = a_do a_nL R R 66 (s_if2 (fun x y => !decide (x = y)) 30 15 ls st h) := a_R_eq ..
theorem r66_15 (ls : A_V) (st : List Value) (h : A_H) : R 66 15 ls st h = a_do a_nL R R 66 (s_aldl 0 16 ls st h) := a_R_eq ..
theorem r66_16 (ls : A_V) (st : List Value) (h : A_H) : R 66 16 ls st h = a_do a_nL R R 66 (s_ildl 4 17 ls st h) := a_R_eq ..
theorem r66_17 (ls : A_V) (st : List Value) (h : A_H) : R 66 17 ls st h = a_do a_nL R R 66 (s_ildl 2 18 ls st h) := a_R_eq ..
theorem r66_18 (ls : A_V) (st : List Value) (h : A_H) : R 66 18 ls st h = a_do a_nL R R 66 (s_call 12 59 3 4 true 19 ls st h) := a_R_eq ..
theorem r66_19 (ls : A_V) (st : List Value) (h : A_H) : R 66 19 ls st h = a_do a_nL R R 66 (s_if1 (fun x => !decide (x = 0)) 30 20 ls st h) := a_R_eq ..
theorem r66_20 (ls : A_V) (st : List Value) (h : A_H) : R 66 20 ls st h = a_do a_nL R R 66 (s_ildl 3 21 ls st h) := a_R_eq ..
theorem r66_21 (ls : A_V) (st : List Value) (h : A_H) : R 66 21 ls st h = a_do a_nL R R 66 (s_push (.int 1) 22 ls st h) := a_R_eq ..
theorem r66_22 (ls : A_V) (st : List Value) (h : A_H) : R 66 22 ls st h = a_do a_nL R R 66 (s_aldl 0 23 ls st h) := a_R_eq ..
theorem r66_23 (ls : A_V) (st : List Value) (h : A_H) : R 66 23 ls st h = a_do a_nL R R 66 (s_getR 9 12 24 ls st h) := a_R_eq ..
theorem r66_24 (ls : A_V) (st : List Value) (h : A_H) : R 66 24 ls st h = a_do a_nL R R 66 (s_ildl 4 25 ls st h) := a_R_eq ..
theorem r66_25 (ls : A_V) (st : List Value) (h : A_H) : R 66 25 ls st h = a_do a_nL R R 66 (s_aal 6 26 ls st h) := a_R_eq ..
theorem r66_26 (ls : A_V) (st : List Value) (h : A_H) : R 66 26 ls st h = a_do a_nL R R 66 (s_getI 3 2 27 ls st h) := a_R_eq ..
theorem r66_27 (ls : A_V) (st : List Value) (h : A_H) : R 66 27 ls st h = a_do a_nL R R 66 (s_bi (fun x y => x <<< (y &&& 31)) 28 ls st h) := a_R_eq ..
theorem r66_28 (ls : A_V) (st : List Value) (h : A_H) : R 66 28 ls st h = a_do a_nL R R 66 (s_bi (fun x y => x ||| y) 29 ls st h) := a_R_eq ..
theorem r66_29 (ls : A_V) (st : List Value) (h : A_H) : R 66 29 ls st h = a_do a_nL R R 66 (s_ist 3 30 ls st h) := a_R_eq ..
theorem r66_30 (ls : A_V) (st : List Value) (h : A_H) : R 66 30 ls st h = a_do a_nL R R 66 (s_inc 4 1 31 ls st h) := a_R_eq ..
theorem r66_31 (ls : A_V) (st : List Value) (h : A_H) : R 66 31 ls st h = a_do a_nL R R 66 (s_goto 4 ls st h) := a_R_eq ..
theorem r66_32 (ls : A_V) (st : List Value) (h : A_H) : R 66 32 ls st h = a_do a_nL R R 66 (s_ildl 3 33 ls st h) := a_R_eq ..
theorem r66_33 (ls : A_V) (st : List Value) (h : A_H) : R 66 33 ls st h = a_do a_nL R R 66 (s_iret ls st h) := a_R_eq ..
theorem b66_0 (x0 : Nat) (x1 : Int32) (x2 : Int32) (l3 : Option Value) (l4 : Option Value) (h : A_H) : R 66 0 [some (.ref x0), some (.int x1), some (.int x2), l3, l4] [] h = (R 66 4 [some (.ref x0), some (.int x1), some (.int x2), some (.int (0 : Int32)), some (.int (0 : Int32))] [] h) := (tr (r66_0 ..) (tr (r66_1 ..) (tr (r66_2 ..) (r66_3 ..))))
theorem b66_4 (x0 : Nat) (x1 : Int32) (x2 : Int32) (x3 : Int32) (x4 : Int32) (h : A_H) : R 66 4 [some (.ref x0), some (.int x1), some (.int x2), some (.int x3), some (.int x4)] [] h = (cond (isO h x0 9) (cond (decide ((hI h x0 5) ≤ x4)) (some (some (some (.int x3)), h)) (cond (isO h x0 9 && (hP h x0 12).isSome) (cond (isA h ((hP h x0 12).getD 0) 6 x4 && (hP h ((hP h x0 12).getD 0) (x4).toNatClampNeg).isSome) (cond (isO h ((hP h ((hP h x0 12).getD 0) (x4).toNatClampNeg).getD 0) 3) (cond (!decide ((hI h ((hP h ((hP h x0 12).getD 0) (x4).toNatClampNeg).getD 0) 1) = x1)) (R 66 4 [some (.ref x0), some (.int x1), some (.int x2), some (.int x3), some (.int (x4 + 1))] [] h) (cond (isO h x0 9) (a_back R 66 (59, [.ref x0, .int x4, .int x2], h, true, none, 19, [some (.ref x0), some (.int x1), some (.int x2), some (.int x3), some (.int x4)], []) (C 59 [.ref x0, .int x4, .int x2] h)) none)) none) none) none)) none) := (tr (r66_4 ..) (tr (r66_5 ..) (tr (r66_6 ..) (cgT (tr (r66_7 ..) (cgB (tr (r66_32 ..) (r66_33 ..)) (tr (r66_8 ..) (tr (r66_9 ..) (cgT (tr (r66_10 ..) (tr (r66_11 ..) (cgT (tr (r66_12 ..) (cgT (tr (r66_13 ..) (tr (r66_14 ..) (cgB (tr (r66_30 ..) (r66_31 ..)) (tr (r66_15 ..) (tr (r66_16 ..) (tr (r66_17 ..) (r66_18 ..)))))))))))))))))))))
theorem b66_19 (x0 : Nat) (x1 : Int32) (x2 : Int32) (x3 : Int32) (x4 : Int32) (s0 : Int32) (h : A_H) : R 66 19 [some (.ref x0), some (.int x1), some (.int x2), some (.int x3), some (.int x4)] [.int s0] h = (cond (!decide (s0 = 0)) (R 66 4 [some (.ref x0), some (.int x1), some (.int x2), some (.int x3), some (.int (x4 + 1))] [] h) (cond (isO h x0 9 && (hP h x0 12).isSome) (cond (isA h ((hP h x0 12).getD 0) 6 x4 && (hP h ((hP h x0 12).getD 0) (x4).toNatClampNeg).isSome) (cond (isO h ((hP h ((hP h x0 12).getD 0) (x4).toNatClampNeg).getD 0) 3) (R 66 4 [some (.ref x0), some (.int x1), some (.int x2), some (.int (x3 ||| ((1 : Int32) <<< ((hI h ((hP h ((hP h x0 12).getD 0) (x4).toNatClampNeg).getD 0) 2) &&& 31)))), some (.int (x4 + 1))] [] h) none) none) none)) := (tr (r66_19 ..) (cgB (tr (r66_30 ..) (r66_31 ..)) (tr (r66_20 ..) (tr (r66_21 ..) (tr (r66_22 ..) (tr (r66_23 ..) (cgT (tr (r66_24 ..) (tr (r66_25 ..) (cgT (tr (r66_26 ..) (cgT (tr (r66_27 ..) (tr (r66_28 ..) (tr (r66_29 ..) (tr (r66_30 ..) (r66_31 ..)))))))))))))))))
theorem e67 (x0 : Nat) (x1 : Int32) (x2 : Int32) (h : A_H) : C 67 [.ref x0, .int x1, .int x2] h = R 67 0 [some (.ref x0), some (.int x1), some (.int x2), none, none] [] h := rfl
theorem r67_0 (ls : A_V) (st : List Value) (h : A_H) : R 67 0 ls st h = a_do a_nL R R 67 (s_push (.int 0) 1 ls st h) := a_R_eq ..
theorem r67_1 (ls : A_V) (st : List Value) (h : A_H) : R 67 1 ls st h = a_do a_nL R R 67 (s_ist 3 2 ls st h) := a_R_eq ..
theorem r67_2 (ls : A_V) (st : List Value) (h : A_H) : R 67 2 ls st h = a_do a_nL R R 67 (s_push (.int 0) 3 ls st h) := a_R_eq ..
theorem r67_3 (ls : A_V) (st : List Value) (h : A_H) : R 67 3 ls st h = a_do a_nL R R 67 (s_ist 4 4 ls st h) := a_R_eq ..
theorem r67_4 (ls : A_V) (st : List Value) (h : A_H) : R 67 4 ls st h = a_do a_nL R R 67 (s_ildl 4 5 ls st h) := a_R_eq ..
theorem r67_5 (ls : A_V) (st : List Value) (h : A_H) : R 67 5 ls st h = a_do a_nL R R 67 (s_aldl 0 6 ls st h) := a_R_eq ..
theorem r67_6 (ls : A_V) (st : List Value) (h : A_H) : R 67 6 ls st h = a_do a_nL R R 67 (s_getI 9 5 7 ls st h) := a_R_eq ..
theorem r67_7 (ls : A_V) (st : List Value) (h : A_H) : R 67 7 ls st h = a_do a_nL R R 67 (s_if2 (fun x y => decide (y ≤ x)) 23 8 ls st h) := a_R_eq ..
theorem r67_8 (ls : A_V) (st : List Value) (h : A_H) : R 67 8 ls st h = a_do a_nL R R 67 (s_ildl 1 9 ls st h) := a_R_eq ..
theorem r67_9 (ls : A_V) (st : List Value) (h : A_H) : R 67 9 ls st h = a_do a_nL R R 67 (s_ildl 4 10 ls st h) := a_R_eq ..
theorem r67_10 (ls : A_V) (st : List Value) (h : A_H) : R 67 10 ls st h = a_do a_nL R R 67 (s_bi (fun x y => x >>> (y &&& 31)) 11 ls st h) := a_R_eq ..
theorem r67_11 (ls : A_V) (st : List Value) (h : A_H) : R 67 11 ls st h = a_do a_nL R R 67 (s_push (.int 1) 12 ls st h) := a_R_eq ..
theorem r67_12 (ls : A_V) (st : List Value) (h : A_H) : R 67 12 ls st h = a_do a_nL R R 67 (s_bi (fun x y => x &&& y) 13 ls st h) := a_R_eq ..
theorem r67_13 (ls : A_V) (st : List Value) (h : A_H) : R 67 13 ls st h = a_do a_nL R R 67 (s_if1 (fun x => decide (x = 0)) 21 14 ls st h) := a_R_eq ..
theorem r67_14 (ls : A_V) (st : List Value) (h : A_H) : R 67 14 ls st h = a_do a_nL R R 67 (s_ildl 3 15 ls st h) := a_R_eq ..
theorem r67_15 (ls : A_V) (st : List Value) (h : A_H) : R 67 15 ls st h = a_do a_nL R R 67 (s_aldl 0 16 ls st h) := a_R_eq ..
theorem r67_16 (ls : A_V) (st : List Value) (h : A_H) : R 67 16 ls st h = a_do a_nL R R 67 (s_ildl 4 17 ls st h) := a_R_eq ..
theorem r67_17 (ls : A_V) (st : List Value) (h : A_H) : R 67 17 ls st h = a_do a_nL R R 67 (s_ildl 2 18 ls st h) := a_R_eq ..
theorem r67_18 (ls : A_V) (st : List Value) (h : A_H) : R 67 18 ls st h = a_do a_nL R R 67 (s_call 12 60 3 4 true 19 ls st h) := a_R_eq ..
theorem r67_19 (ls : A_V) (st : List Value) (h : A_H) : R 67 19 ls st h = a_do a_nL R R 67 (s_bi (fun x y => x + y) 20 ls st h) := a_R_eq ..
theorem r67_20 (ls : A_V) (st : List Value) (h : A_H) : R 67 20 ls st h = a_do a_nL R R 67 (s_ist 3 21 ls st h) := a_R_eq ..
theorem r67_21 (ls : A_V) (st : List Value) (h : A_H) : R 67 21 ls st h = a_do a_nL R R 67 (s_inc 4 1 22 ls st h) := a_R_eq ..
theorem r67_22 (ls : A_V) (st : List Value) (h : A_H) : R 67 22 ls st h = a_do a_nL R R 67 (s_goto 4 ls st h) := a_R_eq ..
theorem r67_23 (ls : A_V) (st : List Value) (h : A_H) : R 67 23 ls st h = a_do a_nL R R 67 (s_ildl 3 24 ls st h) := a_R_eq ..
theorem r67_24 (ls : A_V) (st : List Value) (h : A_H) : R 67 24 ls st h = a_do a_nL R R 67 (s_iret ls st h) := a_R_eq ..
theorem b67_0 (x0 : Nat) (x1 : Int32) (x2 : Int32) (l3 : Option Value) (l4 : Option Value) (h : A_H) : R 67 0 [some (.ref x0), some (.int x1), some (.int x2), l3, l4] [] h = (R 67 4 [some (.ref x0), some (.int x1), some (.int x2), some (.int (0 : Int32)), some (.int (0 : Int32))] [] h) := (tr (r67_0 ..) (tr (r67_1 ..) (tr (r67_2 ..) (r67_3 ..))))
theorem b67_4 (x0 : Nat) (x1 : Int32) (x2 : Int32) (x3 : Int32) (x4 : Int32) (h : A_H) : R 67 4 [some (.ref x0), some (.int x1), some (.int x2), some (.int x3), some (.int x4)] [] h = (cond (isO h x0 9) (cond (decide ((hI h x0 5) ≤ x4)) (some (some (some (.int x3)), h)) (cond (decide (((x1 >>> (x4 &&& 31)) &&& (1 : Int32)) = 0)) (R 67 4 [some (.ref x0), some (.int x1), some (.int x2), some (.int x3), some (.int (x4 + 1))] [] h) (cond (isO h x0 9) (a_back R 67 (60, [.ref x0, .int x4, .int x2], h, true, none, 19, [some (.ref x0), some (.int x1), some (.int x2), some (.int x3), some (.int x4)], [.int x3]) (C 60 [.ref x0, .int x4, .int x2] h)) none))) none) := (tr (r67_4 ..) (tr (r67_5 ..) (tr (r67_6 ..) (cgT (tr (r67_7 ..) (cgB (tr (r67_23 ..) (r67_24 ..)) (tr (r67_8 ..) (tr (r67_9 ..) (tr (r67_10 ..) (tr (r67_11 ..) (tr (r67_12 ..) (tr (r67_13 ..) (cgB (tr (r67_21 ..) (r67_22 ..)) (tr (r67_14 ..) (tr (r67_15 ..) (tr (r67_16 ..) (tr (r67_17 ..) (r67_18 ..))))))))))))))))))
theorem b67_19 (x0 : Nat) (x1 : Int32) (x2 : Int32) (x3 : Int32) (x4 : Int32) (s0 : Int32) (s1 : Int32) (h : A_H) : R 67 19 [some (.ref x0), some (.int x1), some (.int x2), some (.int x3), some (.int x4)] [.int s1, .int s0] h = (R 67 4 [some (.ref x0), some (.int x1), some (.int x2), some (.int (s0 + s1)), some (.int (x4 + 1))] [] h) := (tr (r67_19 ..) (tr (r67_20 ..) (tr (r67_21 ..) (r67_22 ..))))
theorem e68 (x0 : Nat) (x1 : Int32) (x2 : Int32) (x3 : Int32) (h : A_H) : C 68 [.ref x0, .int x1, .int x2, .int x3] h = R 68 0 [some (.ref x0), some (.int x1), some (.int x2), some (.int x3), none, none] [] h := rfl
theorem r68_0 (ls : A_V) (st : List Value) (h : A_H) : R 68 0 ls st h = a_do a_nL R R 68 (s_push (.int 0) 1 ls st h) := a_R_eq ..
theorem r68_1 (ls : A_V) (st : List Value) (h : A_H) : R 68 1 ls st h = a_do a_nL R R 68 (s_ist 4 2 ls st h) := a_R_eq ..
theorem r68_2 (ls : A_V) (st : List Value) (h : A_H) : R 68 2 ls st h = a_do a_nL R R 68 (s_push (.int 0) 3 ls st h) := a_R_eq ..
theorem r68_3 (ls : A_V) (st : List Value) (h : A_H) : R 68 3 ls st h = a_do a_nL R R 68 (s_ist 5 4 ls st h) := a_R_eq ..
theorem r68_4 (ls : A_V) (st : List Value) (h : A_H) : R 68 4 ls st h = a_do a_nL R R 68 (s_ildl 5 5 ls st h) := a_R_eq ..
theorem r68_5 (ls : A_V) (st : List Value) (h : A_H) : R 68 5 ls st h = a_do a_nL R R 68 (s_aldl 0 6 ls st h) := a_R_eq ..
theorem r68_6 (ls : A_V) (st : List Value) (h : A_H) : R 68 6 ls st h = a_do a_nL R R 68 (s_getI 9 5 7 ls st h) := a_R_eq ..
theorem r68_7 (ls : A_V) (st : List Value) (h : A_H) : R 68 7 ls st h = a_do a_nL R R 68 (s_if2 (fun x y => decide (y ≤ x)) 24 8 ls st h) := a_R_eq ..
theorem r68_8 (ls : A_V) (st : List Value) (h : A_H) : R 68 8 ls st h = a_do a_nL R R 68 (s_ildl 1 9 ls st h) := a_R_eq ..
theorem r68_9 (ls : A_V) (st : List Value) (h : A_H) : R 68 9 ls st h = a_do a_nL R R 68 (s_ildl 5 10 ls st h) := a_R_eq ..
theorem r68_10 (ls : A_V) (st : List Value) (h : A_H) : R 68 10 ls st h = a_do a_nL R R 68 (s_bi (fun x y => x >>> (y &&& 31)) 11 ls st h) := a_R_eq ..
theorem r68_11 (ls : A_V) (st : List Value) (h : A_H) : R 68 11 ls st h = a_do a_nL R R 68 (s_push (.int 1) 12 ls st h) := a_R_eq ..
theorem r68_12 (ls : A_V) (st : List Value) (h : A_H) : R 68 12 ls st h = a_do a_nL R R 68 (s_bi (fun x y => x &&& y) 13 ls st h) := a_R_eq ..
theorem r68_13 (ls : A_V) (st : List Value) (h : A_H) : R 68 13 ls st h = a_do a_nL R R 68 (s_if1 (fun x => decide (x = 0)) 22 14 ls st h) := a_R_eq ..
theorem r68_14 (ls : A_V) (st : List Value) (h : A_H) : R 68 14 ls st h = a_do a_nL R R 68 (s_ildl 4 15 ls st h) := a_R_eq ..
theorem r68_15 (ls : A_V) (st : List Value) (h : A_H) : R 68 15 ls st h = a_do a_nL R R 68 (s_aldl 0 16 ls st h) := a_R_eq ..
theorem r68_16 (ls : A_V) (st : List Value) (h : A_H) : R 68 16 ls st h = a_do a_nL R R 68 (s_ildl 5 17 ls st h) := a_R_eq ..
theorem r68_17 (ls : A_V) (st : List Value) (h : A_H) : R 68 17 ls st h = a_do a_nL R R 68 (s_ildl 2 18 ls st h) := a_R_eq ..
theorem r68_18 (ls : A_V) (st : List Value) (h : A_H) : R 68 18 ls st h = a_do a_nL R R 68 (s_ildl 3 19 ls st h) := a_R_eq ..
theorem r68_19 (ls : A_V) (st : List Value) (h : A_H) : R 68 19 ls st h = a_do a_nL R R 68 (s_call 12 61 4 6 true 20 ls st h) := a_R_eq ..
theorem r68_20 (ls : A_V) (st : List Value) (h : A_H) : R 68 20 ls st h = a_do a_nL R R 68 (s_bi (fun x y => x + y) 21 ls st h) := a_R_eq ..
theorem r68_21 (ls : A_V) (st : List Value) (h : A_H) : R 68 21 ls st h = a_do a_nL R R 68 (s_ist 4 22 ls st h) := a_R_eq ..
theorem r68_22 (ls : A_V) (st : List Value) (h : A_H) : R 68 22 ls st h = a_do a_nL R R 68 (s_inc 5 1 23 ls st h) := a_R_eq ..
theorem r68_23 (ls : A_V) (st : List Value) (h : A_H) : R 68 23 ls st h = a_do a_nL R R 68 (s_goto 4 ls st h) := a_R_eq ..
theorem r68_24 (ls : A_V) (st : List Value) (h : A_H) : R 68 24 ls st h = a_do a_nL R R 68 (s_ildl 4 25 ls st h) := a_R_eq ..
theorem r68_25 (ls : A_V) (st : List Value) (h : A_H) : R 68 25 ls st h = a_do a_nL R R 68 (s_iret ls st h) := a_R_eq ..
theorem b68_0 (x0 : Nat) (x1 : Int32) (x2 : Int32) (x3 : Int32) (l4 : Option Value) (l5 : Option Value) (h : A_H) : R 68 0 [some (.ref x0), some (.int x1), some (.int x2), some (.int x3), l4, l5] [] h = (R 68 4 [some (.ref x0), some (.int x1), some (.int x2), some (.int x3), some (.int (0 : Int32)), some (.int (0 : Int32))] [] h) := (tr (r68_0 ..) (tr (r68_1 ..) (tr (r68_2 ..) (r68_3 ..))))
theorem b68_4 (x0 : Nat) (x1 : Int32) (x2 : Int32) (x3 : Int32) (x4 : Int32) (x5 : Int32) (h : A_H) : R 68 4 [some (.ref x0), some (.int x1), some (.int x2), some (.int x3), some (.int x4), some (.int x5)] [] h = (cond (isO h x0 9) (cond (decide ((hI h x0 5) ≤ x5)) (some (some (some (.int x4)), h)) (cond (decide (((x1 >>> (x5 &&& 31)) &&& (1 : Int32)) = 0)) (R 68 4 [some (.ref x0), some (.int x1), some (.int x2), some (.int x3), some (.int x4), some (.int (x5 + 1))] [] h) (cond (isO h x0 9) (a_back R 68 (61, [.ref x0, .int x5, .int x2, .int x3], h, true, none, 20, [some (.ref x0), some (.int x1), some (.int x2), some (.int x3), some (.int x4), some (.int x5)], [.int x4]) (C 61 [.ref x0, .int x5, .int x2, .int x3] h)) none))) none) := (tr (r68_4 ..) (tr (r68_5 ..) (tr (r68_6 ..) (cgT (tr (r68_7 ..) (cgB (tr (r68_24 ..) (r68_25 ..)) (tr (r68_8 ..) (tr (r68_9 ..) (tr (r68_10 ..) (tr (r68_11 ..) (tr (r68_12 ..) (tr (r68_13 ..) (cgB (tr (r68_22 ..) (r68_23 ..)) (tr (r68_14 ..) (tr (r68_15 ..) (tr (r68_16 ..) (tr (r68_17 ..) (tr (r68_18 ..) (r68_19 ..)))))))))))))))))))
theorem b68_20 (x0 : Nat) (x1 : Int32) (x2 : Int32) (x3 : Int32) (x4 : Int32) (x5 : Int32) (s0 : Int32) (s1 : Int32) (h : A_H) : R 68 20 [some (.ref x0), some (.int x1), some (.int x2), some (.int x3), some (.int x4), some (.int x5)] [.int s1, .int s0] h = (R 68 4 [some (.ref x0), some (.int x1), some (.int x2), some (.int x3), some (.int (s0 + s1)), some (.int (x5 + 1))] [] h) := (tr (r68_20 ..) (tr (r68_21 ..) (tr (r68_22 ..) (r68_23 ..))))
theorem e69 (x0 : Nat) (x1 : Int32) (x2 : Int32) (x3 : Int32) (x4 : Int32) (h : A_H) : C 69 [.ref x0, .int x1, .int x2, .int x3, .int x4] h = R 69 0 [some (.ref x0), some (.int x1), some (.int x2), some (.int x3), some (.int x4), none, none, none] [] h := rfl
theorem r69_0 (ls : A_V) (st : List Value) (h : A_H) : R 69 0 ls st h = a_do a_nL R R 69 (s_push (.int 0) 1 ls st h) := a_R_eq ..
theorem r69_1 (ls : A_V) (st : List Value) (h : A_H) : R 69 1 ls st h = a_do a_nL R R 69 (s_ist 5 2 ls st h) := a_R_eq ..
theorem r69_2 (ls : A_V) (st : List Value) (h : A_H) : R 69 2 ls st h = a_do a_nL R R 69 (s_push (.int 0) 3 ls st h) := a_R_eq ..
theorem r69_3 (ls : A_V) (st : List Value) (h : A_H) : R 69 3 ls st h = a_do a_nL R R 69 (s_ist 6 4 ls st h) := a_R_eq ..
theorem r69_4 (ls : A_V) (st : List Value) (h : A_H) : R 69 4 ls st h = a_do a_nL R R 69 (s_ildl 6 5 ls st h) := a_R_eq ..
theorem r69_5 (ls : A_V) (st : List Value) (h : A_H) : R 69 5 ls st h = a_do a_nL R R 69 (s_aldl 0 6 ls st h) := a_R_eq ..
theorem r69_6 (ls : A_V) (st : List Value) (h : A_H) : R 69 6 ls st h = a_do a_nL R R 69 (s_getI 9 5 7 ls st h) := a_R_eq ..
theorem r69_7 (ls : A_V) (st : List Value) (h : A_H) : R 69 7 ls st h = a_do a_nL R R 69 (s_if2 (fun x y => decide (y ≤ x)) 41 8 ls st h) := a_R_eq ..
theorem r69_8 (ls : A_V) (st : List Value) (h : A_H) : R 69 8 ls st h = a_do a_nL R R 69 (s_ildl 3 9 ls st h) := a_R_eq ..
theorem r69_9 (ls : A_V) (st : List Value) (h : A_H) : R 69 9 ls st h = a_do a_nL R R 69 (s_ildl 4 10 ls st h) := a_R_eq ..
theorem r69_10 (ls : A_V) (st : List Value) (h : A_H) : R 69 10 ls st h = a_do a_nL R R 69 (s_bi (fun x y => x &&& y) 11 ls st h) := a_R_eq ..
theorem r69_11 (ls : A_V) (st : List Value) (h : A_H) : R 69 11 ls st h = a_do a_nL R R 69 (s_push (.int 1) 12 ls st h) := a_R_eq ..
theorem r69_12 (ls : A_V) (st : List Value) (h : A_H) : R 69 12 ls st h = a_do a_nL R R 69 (s_ildl 6 13 ls st h) := a_R_eq ..
theorem r69_13 (ls : A_V) (st : List Value) (h : A_H) : R 69 13 ls st h = a_do a_nL R R 69 (s_bi (fun x y => x <<< (y &&& 31)) 14 ls st h) := a_R_eq ..
theorem r69_14 (ls : A_V) (st : List Value) (h : A_H) : R 69 14 ls st h = a_do a_nL R R 69 (s_bi (fun x y => x &&& y) 15 ls st h) := a_R_eq ..
theorem r69_15 (ls : A_V) (st : List Value) (h : A_H) : R 69 15 ls st h = a_do a_nL R R 69 (s_if1 (fun x => decide (x = 0)) 18 16 ls st h) := a_R_eq ..
theorem r69_16 (ls : A_V) (st : List Value) (h : A_H) : R 69 16 ls st h = a_do a_nL R R 69 (s_push (.int 1) 17 ls st h) := a_R_eq ..
theorem r69_17 (ls : A_V) (st : List Value) (h : A_H) : R 69 17 ls st h = a_do a_nL R R 69 (s_goto 19 ls st h) := a_R_eq ..
theorem r69_18 (ls : A_V) (st : List Value) (h : A_H) : R 69 18 ls st h = a_do a_nL R R 69 (s_push (.int 0) 19 ls st h) := a_R_eq ..
theorem r69_19 (ls : A_V) (st : List Value) (h : A_H) : R 69 19 ls st h = a_do a_nL R R 69 (s_ist 7 20 ls st h) := a_R_eq ..
theorem r69_20 (ls : A_V) (st : List Value) (h : A_H) : R 69 20 ls st h = a_do a_nL R R 69 (s_ildl 7 21 ls st h) := a_R_eq ..
theorem r69_21 (ls : A_V) (st : List Value) (h : A_H) : R 69 21 ls st h = a_do a_nL R R 69 (s_if1 (fun x => decide (x = 0)) 39 22 ls st h) := a_R_eq ..
theorem r69_22 (ls : A_V) (st : List Value) (h : A_H) : R 69 22 ls st h = a_do a_nL R R 69 (s_aldl 0 23 ls st h) := a_R_eq ..
theorem r69_23 (ls : A_V) (st : List Value) (h : A_H) : R 69 23 ls st h = a_do a_nL R R 69 (s_ildl 6 24 ls st h) := a_R_eq ..
theorem r69_24 (ls : A_V) (st : List Value) (h : A_H) : R 69 24 ls st h = a_do a_nL R R 69 (s_ildl 2 25 ls st h) := a_R_eq ..
theorem r69_25 (ls : A_V) (st : List Value) (h : A_H) : R 69 25 ls st h = a_do a_nL R R 69 (s_ildl 3 26 ls st h) := a_R_eq ..
theorem r69_26 (ls : A_V) (st : List Value) (h : A_H) : R 69 26 ls st h = a_do a_nL R R 69 (s_call 12 62 4 7 true 27 ls st h) := a_R_eq ..
theorem r69_27 (ls : A_V) (st : List Value) (h : A_H) : R 69 27 ls st h = a_do a_nL R R 69 (s_aldl 0 28 ls st h) := a_R_eq ..
theorem r69_28 (ls : A_V) (st : List Value) (h : A_H) : R 69 28 ls st h = a_do a_nL R R 69 (s_getR 9 11 29 ls st h) := a_R_eq ..
theorem r69_29 (ls : A_V) (st : List Value) (h : A_H) : R 69 29 ls st h = a_do a_nL R R 69 (s_ildl 1 30 ls st h) := a_R_eq ..
theorem r69_30 (ls : A_V) (st : List Value) (h : A_H) : R 69 30 ls st h = a_do a_nL R R 69 (s_aal 5 31 ls st h) := a_R_eq ..
theorem r69_31 (ls : A_V) (st : List Value) (h : A_H) : R 69 31 ls st h = a_do a_nL R R 69 (s_getI 2 0 32 ls st h) := a_R_eq ..
theorem r69_32 (ls : A_V) (st : List Value) (h : A_H) : R 69 32 ls st h = a_do a_nL R R 69 (s_if2 (fun x y => decide (x < y)) 39 33 ls st h) := a_R_eq ..
theorem r69_33 (ls : A_V) (st : List Value) (h : A_H) : R 69 33 ls st h = a_do a_nL R R 69 (s_ildl 5 34 ls st h) := a_R_eq ..
theorem r69_34 (ls : A_V) (st : List Value) (h : A_H) : R 69 34 ls st h = a_do a_nL R R 69 (s_push (.int 1) 35 ls st h) := a_R_eq ..
theorem r69_35 (ls : A_V) (st : List Value) (h : A_H) : R 69 35 ls st h = a_do a_nL R R 69 (s_ildl 6 36 ls st h) := a_R_eq ..
theorem r69_36 (ls : A_V) (st : List Value) (h : A_H) : R 69 36 ls st h = a_do a_nL R R 69 (s_bi (fun x y => x <<< (y &&& 31)) 37 ls st h) := a_R_eq ..
theorem r69_37 (ls : A_V) (st : List Value) (h : A_H) : R 69 37 ls st h = a_do a_nL R R 69 (s_bi (fun x y => x ||| y) 38 ls st h) := a_R_eq ..
theorem r69_38 (ls : A_V) (st : List Value) (h : A_H) : R 69 38 ls st h = a_do a_nL R R 69 (s_ist 5 39 ls st h) := a_R_eq ..
theorem r69_39 (ls : A_V) (st : List Value) (h : A_H) : R 69 39 ls st h = a_do a_nL R R 69 (s_inc 6 1 40 ls st h) := a_R_eq ..
theorem r69_40 (ls : A_V) (st : List Value) (h : A_H) : R 69 40 ls st h = a_do a_nL R R 69 (s_goto 4 ls st h) := a_R_eq ..
theorem r69_41 (ls : A_V) (st : List Value) (h : A_H) : R 69 41 ls st h = a_do a_nL R R 69 (s_ildl 5 42 ls st h) := a_R_eq ..
theorem r69_42 (ls : A_V) (st : List Value) (h : A_H) : R 69 42 ls st h = a_do a_nL R R 69 (s_iret ls st h) := a_R_eq ..
theorem b69_0 (x0 : Nat) (x1 : Int32) (x2 : Int32) (x3 : Int32) (x4 : Int32) (l5 : Option Value) (l6 : Option Value) (l7 : Option Value) (h : A_H) : R 69 0 [some (.ref x0), some (.int x1), some (.int x2), some (.int x3), some (.int x4), l5, l6, l7] [] h = (R 69 4 [some (.ref x0), some (.int x1), some (.int x2), some (.int x3), some (.int x4), some (.int (0 : Int32)), some (.int (0 : Int32)), l7] [] h) := (tr (r69_0 ..) (tr (r69_1 ..) (tr (r69_2 ..) (r69_3 ..))))
theorem b69_4 (x0 : Nat) (x1 : Int32) (x2 : Int32) (x3 : Int32) (x4 : Int32) (x5 : Int32) (x6 : Int32) (l7 : Option Value) (h : A_H) : R 69 4 [some (.ref x0), some (.int x1), some (.int x2), some (.int x3), some (.int x4), some (.int x5), some (.int x6), l7] [] h = (cond (isO h x0 9) (cond (decide ((hI h x0 5) ≤ x6)) (some (some (some (.int x5)), h)) (cond (decide (((x3 &&& x4) &&& ((1 : Int32) <<< (x6 &&& 31))) = 0)) (R 69 4 [some (.ref x0), some (.int x1), some (.int x2), some (.int x3), some (.int x4), some (.int x5), some (.int (x6 + 1)), some (.int (0 : Int32))] [] h) (cond (isO h x0 9) (a_back R 69 (62, [.ref x0, .int x6, .int x2, .int x3], h, true, none, 27, [some (.ref x0), some (.int x1), some (.int x2), some (.int x3), some (.int x4), some (.int x5), some (.int x6), some (.int (1 : Int32))], []) (C 62 [.ref x0, .int x6, .int x2, .int x3] h)) none))) none) := (tr (r69_4 ..) (tr (r69_5 ..) (tr (r69_6 ..) (cgT (tr (r69_7 ..) (cgB (tr (r69_41 ..) (r69_42 ..)) (tr (r69_8 ..) (tr (r69_9 ..) (tr (r69_10 ..) (tr (r69_11 ..) (tr (r69_12 ..) (tr (r69_13 ..) (tr (r69_14 ..) (tr (r69_15 ..) (cgB (tr (r69_18 ..) (tr (r69_19 ..) (tr (r69_20 ..) (tr (r69_21 ..) (tr (r69_39 ..) (r69_40 ..)))))) (tr (r69_16 ..) (tr (r69_17 ..) (tr (r69_19 ..) (tr (r69_20 ..) (tr (r69_21 ..) (tr (r69_22 ..) (tr (r69_23 ..) (tr (r69_24 ..) (tr (r69_25 ..) (r69_26 ..)))))))))))))))))))))))))
theorem b69_27 (x0 : Nat) (x1 : Int32) (x2 : Int32) (x3 : Int32) (x4 : Int32) (x5 : Int32) (x6 : Int32) (x7 : Int32) (s0 : Int32) (h : A_H) : R 69 27 [some (.ref x0), some (.int x1), some (.int x2), some (.int x3), some (.int x4), some (.int x5), some (.int x6), some (.int x7)] [.int s0] h = (cond (isO h x0 9 && (hP h x0 11).isSome) (cond (isA h ((hP h x0 11).getD 0) 5 x1 && (hP h ((hP h x0 11).getD 0) (x1).toNatClampNeg).isSome) (cond (isO h ((hP h ((hP h x0 11).getD 0) (x1).toNatClampNeg).getD 0) 2) (cond (decide (s0 < (hI h ((hP h ((hP h x0 11).getD 0) (x1).toNatClampNeg).getD 0) 0))) (R 69 4 [some (.ref x0), some (.int x1), some (.int x2), some (.int x3), some (.int x4), some (.int x5), some (.int (x6 + 1)), some (.int x7)] [] h) (R 69 4 [some (.ref x0), some (.int x1), some (.int x2), some (.int x3), some (.int x4), some (.int (x5 ||| ((1 : Int32) <<< (x6 &&& 31)))), some (.int (x6 + 1)), some (.int x7)] [] h)) none) none) none) := (tr (r69_27 ..) (tr (r69_28 ..) (cgT (tr (r69_29 ..) (tr (r69_30 ..) (cgT (tr (r69_31 ..) (cgT (tr (r69_32 ..) (cgB (tr (r69_39 ..) (r69_40 ..)) (tr (r69_33 ..) (tr (r69_34 ..) (tr (r69_35 ..) (tr (r69_36 ..) (tr (r69_37 ..) (tr (r69_38 ..) (tr (r69_39 ..) (r69_40 ..))))))))))))))))))
theorem e70 (x0 : Nat) (x1 : Int32) (x2 : Int32) (x3 : Int32) (x4 : Int32) (x5 : Int32) (h : A_H) : C 70 [.ref x0, .int x1, .int x2, .int x3, .int x4, .int x5] h = R 70 0 [some (.ref x0), some (.int x1), some (.int x2), some (.int x3), some (.int x4), some (.int x5), none] [] h := rfl
theorem r70_0 (ls : A_V) (st : List Value) (h : A_H) : R 70 0 ls st h = a_do a_nL R R 70 (s_aldl 0 1 ls st h) := a_R_eq ..
theorem r70_1 (ls : A_V) (st : List Value) (h : A_H) : R 70 1 ls st h = a_do a_nL R R 70 (s_ildl 3 2 ls st h) := a_R_eq ..
theorem r70_2 (ls : A_V) (st : List Value) (h : A_H) : R 70 2 ls st h = a_do a_nL R R 70 (s_ildl 4 3 ls st h) := a_R_eq ..
theorem r70_3 (ls : A_V) (st : List Value) (h : A_H) : R 70 3 ls st h = a_do a_nL R R 70 (s_ildl 5 4 ls st h) := a_R_eq ..
theorem r70_4 (ls : A_V) (st : List Value) (h : A_H) : R 70 4 ls st h = a_do a_nL R R 70 (s_call 12 68 4 6 true 5 ls st h) := a_R_eq ..
theorem r70_5 (ls : A_V) (st : List Value) (h : A_H) : R 70 5 ls st h = a_do a_nL R R 70 (s_aldl 0 6 ls st h) := a_R_eq ..
theorem r70_6 (ls : A_V) (st : List Value) (h : A_H) : R 70 6 ls st h = a_do a_nL R R 70 (s_getR 9 10 7 ls st h) := a_R_eq ..
theorem r70_7 (ls : A_V) (st : List Value) (h : A_H) : R 70 7 ls st h = a_do a_nL R R 70 (s_ildl 1 8 ls st h) := a_R_eq ..
theorem r70_8 (ls : A_V) (st : List Value) (h : A_H) : R 70 8 ls st h = a_do a_nL R R 70 (s_aal 4 9 ls st h) := a_R_eq ..
theorem r70_9 (ls : A_V) (st : List Value) (h : A_H) : R 70 9 ls st h = a_do a_nL R R 70 (s_getI 10 0 10 ls st h) := a_R_eq ..
theorem r70_10 (ls : A_V) (st : List Value) (h : A_H) : R 70 10 ls st h = a_do a_nL R R 70 (s_bi (fun x y => x - y) 11 ls st h) := a_R_eq ..
theorem r70_11 (ls : A_V) (st : List Value) (h : A_H) : R 70 11 ls st h = a_do a_nL R R 70 (s_ist 6 12 ls st h) := a_R_eq ..
theorem r70_12 (ls : A_V) (st : List Value) (h : A_H) : R 70 12 ls st h = a_do a_nL R R 70 (s_push (.int 3) 13 ls st h) := a_R_eq ..
theorem r70_13 (ls : A_V) (st : List Value) (h : A_H) : R 70 13 ls st h = a_do a_nL R R 70 (s_aldl 0 14 ls st h) := a_R_eq ..
theorem r70_14 (ls : A_V) (st : List Value) (h : A_H) : R 70 14 ls st h = a_do a_nL R R 70 (s_ildl 2 15 ls st h) := a_R_eq ..
theorem r70_15 (ls : A_V) (st : List Value) (h : A_H) : R 70 15 ls st h = a_do a_nL R R 70 (s_ildl 4 16 ls st h) := a_R_eq ..
theorem r70_16 (ls : A_V) (st : List Value) (h : A_H) : R 70 16 ls st h = a_do a_nL R R 70 (s_ildl 5 17 ls st h) := a_R_eq ..
theorem r70_17 (ls : A_V) (st : List Value) (h : A_H) : R 70 17 ls st h = a_do a_nL R R 70 (s_call 12 68 4 6 true 18 ls st h) := a_R_eq ..
theorem r70_18 (ls : A_V) (st : List Value) (h : A_H) : R 70 18 ls st h = a_do a_nL R R 70 (s_bi (fun x y => x * y) 19 ls st h) := a_R_eq ..
theorem r70_19 (ls : A_V) (st : List Value) (h : A_H) : R 70 19 ls st h = a_do a_nL R R 70 (s_push (.int 0) 20 ls st h) := a_R_eq ..
theorem r70_20 (ls : A_V) (st : List Value) (h : A_H) : R 70 20 ls st h = a_do a_nL R R 70 (s_ildl 6 21 ls st h) := a_R_eq ..
theorem r70_21 (ls : A_V) (st : List Value) (h : A_H) : R 70 21 ls st h = a_do a_nL R R 70 (s_mbi (fun x y => if x < y then y else x) 22 ls st h) := a_R_eq ..
theorem r70_22 (ls : A_V) (st : List Value) (h : A_H) : R 70 22 ls st h = a_do a_nL R R 70 (s_bi (fun x y => x + y) 23 ls st h) := a_R_eq ..
theorem r70_23 (ls : A_V) (st : List Value) (h : A_H) : R 70 23 ls st h = a_do a_nL R R 70 (s_iret ls st h) := a_R_eq ..
theorem b70_0 (x0 : Nat) (x1 : Int32) (x2 : Int32) (x3 : Int32) (x4 : Int32) (x5 : Int32) (l6 : Option Value) (h : A_H) : R 70 0 [some (.ref x0), some (.int x1), some (.int x2), some (.int x3), some (.int x4), some (.int x5), l6] [] h = (cond (isO h x0 9) (a_back R 70 (68, [.ref x0, .int x3, .int x4, .int x5], h, true, none, 5, [some (.ref x0), some (.int x1), some (.int x2), some (.int x3), some (.int x4), some (.int x5), l6], []) (C 68 [.ref x0, .int x3, .int x4, .int x5] h)) none) := (tr (r70_0 ..) (tr (r70_1 ..) (tr (r70_2 ..) (tr (r70_3 ..) (r70_4 ..)))))
theorem b70_5 (x0 : Nat) (x1 : Int32) (x2 : Int32) (x3 : Int32) (x4 : Int32) (x5 : Int32) (l6 : Option Value) (s0 : Int32) (h : A_H) : R 70 5 [some (.ref x0), some (.int x1), some (.int x2), some (.int x3), some (.int x4), some (.int x5), l6] [.int s0] h = (cond (isO h x0 9 && (hP h x0 10).isSome) (cond (isA h ((hP h x0 10).getD 0) 4 x1 && (hP h ((hP h x0 10).getD 0) (x1).toNatClampNeg).isSome) (cond (isO h ((hP h ((hP h x0 10).getD 0) (x1).toNatClampNeg).getD 0) 10) (cond (isO h x0 9) (a_back R 70 (68, [.ref x0, .int x2, .int x4, .int x5], h, true, none, 18, [some (.ref x0), some (.int x1), some (.int x2), some (.int x3), some (.int x4), some (.int x5), some (.int (s0 - (hI h ((hP h ((hP h x0 10).getD 0) (x1).toNatClampNeg).getD 0) 0)))], [.int (3 : Int32)]) (C 68 [.ref x0, .int x2, .int x4, .int x5] h)) none) none) none) none) := (tr (r70_5 ..) (tr (r70_6 ..) (cgT (tr (r70_7 ..) (tr (r70_8 ..) (cgT (tr (r70_9 ..) (cgT (tr (r70_10 ..) (tr (r70_11 ..) (tr (r70_12 ..) (tr (r70_13 ..) (tr (r70_14 ..) (tr (r70_15 ..) (tr (r70_16 ..) (r70_17 ..))))))))))))))))
theorem b70_18 (x0 : Nat) (x1 : Int32) (x2 : Int32) (x3 : Int32) (x4 : Int32) (x5 : Int32) (x6 : Int32) (s0 : Int32) (s1 : Int32) (h : A_H) : R 70 18 [some (.ref x0), some (.int x1), some (.int x2), some (.int x3), some (.int x4), some (.int x5), some (.int x6)] [.int s1, .int s0] h = (some (some (some (.int ((s0 * s1) + (if (0 : Int32) < x6 then x6 else (0 : Int32))))), h)) := (tr (r70_18 ..) (tr (r70_19 ..) (tr (r70_20 ..) (tr (r70_21 ..) (tr (r70_22 ..) (r70_23 ..))))))
theorem e71 (x0 : Nat) (x1 : Int32) (x2 : Int32) (x3 : Int32) (x4 : Int32) (x5 : Int32) (x6 : Int32) (h : A_H) : C 71 [.ref x0, .int x1, .int x2, .int x3, .int x4, .int x5, .int x6] h = R 71 0 [some (.ref x0), some (.int x1), some (.int x2), some (.int x3), some (.int x4), some (.int x5), some (.int x6), none] [] h := rfl
theorem r71_0 (ls : A_V) (st : List Value) (h : A_H) : R 71 0 ls st h = a_do a_nL R R 71 (s_aldl 0 1 ls st h) := a_R_eq ..
theorem r71_1 (ls : A_V) (st : List Value) (h : A_H) : R 71 1 ls st h = a_do a_nL R R 71 (s_ildl 2 2 ls st h) := a_R_eq ..
theorem r71_2 (ls : A_V) (st : List Value) (h : A_H) : R 71 2 ls st h = a_do a_nL R R 71 (s_ildl 3 3 ls st h) := a_R_eq ..
theorem r71_3 (ls : A_V) (st : List Value) (h : A_H) : R 71 3 ls st h = a_do a_nL R R 71 (s_ildl 4 4 ls st h) := a_R_eq ..
theorem r71_4 (ls : A_V) (st : List Value) (h : A_H) : R 71 4 ls st h = a_do a_nL R R 71 (s_ildl 5 5 ls st h) := a_R_eq ..
theorem r71_5 (ls : A_V) (st : List Value) (h : A_H) : R 71 5 ls st h = a_do a_nL R R 71 (s_call 12 69 5 8 true 6 ls st h) := a_R_eq ..
theorem r71_6 (ls : A_V) (st : List Value) (h : A_H) : R 71 6 ls st h = a_do a_nL R R 71 (s_ist 7 7 ls st h) := a_R_eq ..
theorem r71_7 (ls : A_V) (st : List Value) (h : A_H) : R 71 7 ls st h = a_do a_nL R R 71 (s_aldl 0 8 ls st h) := a_R_eq ..
theorem r71_8 (ls : A_V) (st : List Value) (h : A_H) : R 71 8 ls st h = a_do a_nL R R 71 (s_ildl 1 9 ls st h) := a_R_eq ..
theorem r71_9 (ls : A_V) (st : List Value) (h : A_H) : R 71 9 ls st h = a_do a_nL R R 71 (s_ildl 7 10 ls st h) := a_R_eq ..
theorem r71_10 (ls : A_V) (st : List Value) (h : A_H) : R 71 10 ls st h = a_do a_nL R R 71 (s_ildl 4 11 ls st h) := a_R_eq ..
theorem r71_11 (ls : A_V) (st : List Value) (h : A_H) : R 71 11 ls st h = a_do a_nL R R 71 (s_ildl 5 12 ls st h) := a_R_eq ..
theorem r71_12 (ls : A_V) (st : List Value) (h : A_H) : R 71 12 ls st h = a_do a_nL R R 71 (s_push (.int (-1)) 13 ls st h) := a_R_eq ..
theorem r71_13 (ls : A_V) (st : List Value) (h : A_H) : R 71 13 ls st h = a_do a_nL R R 71 (s_bi (fun x y => x ^^^ y) 14 ls st h) := a_R_eq ..
theorem r71_14 (ls : A_V) (st : List Value) (h : A_H) : R 71 14 ls st h = a_do a_nL R R 71 (s_bi (fun x y => x &&& y) 15 ls st h) := a_R_eq ..
theorem r71_15 (ls : A_V) (st : List Value) (h : A_H) : R 71 15 ls st h = a_do a_nL R R 71 (s_ildl 3 16 ls st h) := a_R_eq ..
theorem r71_16 (ls : A_V) (st : List Value) (h : A_H) : R 71 16 ls st h = a_do a_nL R R 71 (s_ildl 6 17 ls st h) := a_R_eq ..
theorem r71_17 (ls : A_V) (st : List Value) (h : A_H) : R 71 17 ls st h = a_do a_nL R R 71 (s_call 12 70 6 7 true 18 ls st h) := a_R_eq ..
theorem r71_18 (ls : A_V) (st : List Value) (h : A_H) : R 71 18 ls st h = a_do a_nL R R 71 (s_iret ls st h) := a_R_eq ..
theorem b71_0 (x0 : Nat) (x1 : Int32) (x2 : Int32) (x3 : Int32) (x4 : Int32) (x5 : Int32) (x6 : Int32) (l7 : Option Value) (h : A_H) : R 71 0 [some (.ref x0), some (.int x1), some (.int x2), some (.int x3), some (.int x4), some (.int x5), some (.int x6), l7] [] h = (cond (isO h x0 9) (a_back R 71 (69, [.ref x0, .int x2, .int x3, .int x4, .int x5], h, true, none, 6, [some (.ref x0), some (.int x1), some (.int x2), some (.int x3), some (.int x4), some (.int x5), some (.int x6), l7], []) (C 69 [.ref x0, .int x2, .int x3, .int x4, .int x5] h)) none) := (tr (r71_0 ..) (tr (r71_1 ..) (tr (r71_2 ..) (tr (r71_3 ..) (tr (r71_4 ..) (r71_5 ..))))))
theorem b71_6 (x0 : Nat) (x1 : Int32) (x2 : Int32) (x3 : Int32) (x4 : Int32) (x5 : Int32) (x6 : Int32) (l7 : Option Value) (s0 : Int32) (h : A_H) : R 71 6 [some (.ref x0), some (.int x1), some (.int x2), some (.int x3), some (.int x4), some (.int x5), some (.int x6), l7] [.int s0] h = (cond (isO h x0 9) (a_back R 71 (70, [.ref x0, .int x1, .int s0, .int (x4 &&& (x5 ^^^ (-1 : Int32))), .int x3, .int x6], h, true, none, 18, [some (.ref x0), some (.int x1), some (.int x2), some (.int x3), some (.int x4), some (.int x5), some (.int x6), some (.int s0)], []) (C 70 [.ref x0, .int x1, .int s0, .int (x4 &&& (x5 ^^^ (-1 : Int32))), .int x3, .int x6] h)) none) := (tr (r71_6 ..) (tr (r71_7 ..) (tr (r71_8 ..) (tr (r71_9 ..) (tr (r71_10 ..) (tr (r71_11 ..) (tr (r71_12 ..) (tr (r71_13 ..) (tr (r71_14 ..) (tr (r71_15 ..) (tr (r71_16 ..) (r71_17 ..))))))))))))
theorem b71_18 (x0 : Nat) (x1 : Int32) (x2 : Int32) (x3 : Int32) (x4 : Int32) (x5 : Int32) (x6 : Int32) (x7 : Int32) (s0 : Int32) (h : A_H) : R 71 18 [some (.ref x0), some (.int x1), some (.int x2), some (.int x3), some (.int x4), some (.int x5), some (.int x6), some (.int x7)] [.int s0] h = (some (some (some (.int s0)), h)) := (r71_18 ..)
theorem e72 (x0 : Nat) (x1 : Nat) (h : A_H) : C 72 [.ref x0, .ref x1] h = R 72 0 [some (.ref x0), some (.ref x1), none] [] h := rfl
theorem r72_0 (ls : A_V) (st : List Value) (h : A_H) : R 72 0 ls st h = a_do a_nL R R 72 (s_aldl 0 1 ls st h) := a_R_eq ..
theorem r72_1 (ls : A_V) (st : List Value) (h : A_H) : R 72 1 ls st h = a_do a_nL R R 72 (s_getR 9 11 2 ls st h) := a_R_eq ..
theorem r72_2 (ls : A_V) (st : List Value) (h : A_H) : R 72 2 ls st h = a_do a_nL R R 72 (s_aldl 1 3 ls st h) := a_R_eq ..
theorem r72_3 (ls : A_V) (st : List Value) (h : A_H) : R 72 3 ls st h = a_do a_nL R R 72 (s_getI 0 1 4 ls st h) := a_R_eq ..
theorem r72_4 (ls : A_V) (st : List Value) (h : A_H) : R 72 4 ls st h = a_do a_nL R R 72 (s_aal 5 5 ls st h) := a_R_eq ..
theorem r72_5 (ls : A_V) (st : List Value) (h : A_H) : R 72 5 ls st h = a_do a_nL R R 72 (s_ast 2 6 ls st h) := a_R_eq ..
theorem r72_6 (ls : A_V) (st : List Value) (h : A_H) : R 72 6 ls st h = a_do a_nL R R 72 (s_aldl 2 7 ls st h) := a_R_eq ..
theorem r72_7 (ls : A_V) (st : List Value) (h : A_H) : R 72 7 ls st h = a_do a_nL R R 72 (s_getI 2 1 8 ls st h) := a_R_eq ..
theorem r72_8 (ls : A_V) (st : List Value) (h : A_H) : R 72 8 ls st h = a_do a_nL R R 72 (s_aldl 1 9 ls st h) := a_R_eq ..
theorem r72_9 (ls : A_V) (st : List Value) (h : A_H) : R 72 9 ls st h = a_do a_nL R R 72 (s_getI 0 3 10 ls st h) := a_R_eq ..
theorem r72_10 (ls : A_V) (st : List Value) (h : A_H) : R 72 10 ls st h = a_do a_nL R R 72 (s_if2 (fun x y => decide (y < x)) 18 11 ls st h) := a_R_eq ..
theorem r72_11 (ls : A_V) (st : List Value) (h : A_H) : R 72 11 ls st h = a_do a_nL R R 72 (s_aldl 1 12 ls st h) := a_R_eq ..
theorem r72_12 (ls : A_V) (st : List Value) (h : A_H) : R 72 12 ls st h = a_do a_nL R R 72 (s_getI 0 3 13 ls st h) := a_R_eq ..
theorem r72_13 (ls : A_V) (st : List Value) (h : A_H) : R 72 13 ls st h = a_do a_nL R R 72 (s_aldl 2 14 ls st h) := a_R_eq ..
theorem r72_14 (ls : A_V) (st : List Value) (h : A_H) : R 72 14 ls st h = a_do a_nL R R 72 (s_getI 2 2 15 ls st h) := a_R_eq ..
theorem r72_15 (ls : A_V) (st : List Value) (h : A_H) : R 72 15 ls st h = a_do a_nL R R 72 (s_if2 (fun x y => decide (y < x)) 18 16 ls st h) := a_R_eq ..
theorem r72_16 (ls : A_V) (st : List Value) (h : A_H) : R 72 16 ls st h = a_do a_nL R R 72 (s_push (.int 1) 17 ls st h) := a_R_eq ..
theorem r72_17 (ls : A_V) (st : List Value) (h : A_H) : R 72 17 ls st h = a_do a_nL R R 72 (s_goto 19 ls st h) := a_R_eq ..
theorem r72_18 (ls : A_V) (st : List Value) (h : A_H) : R 72 18 ls st h = a_do a_nL R R 72 (s_push (.int 0) 19 ls st h) := a_R_eq ..
theorem r72_19 (ls : A_V) (st : List Value) (h : A_H) : R 72 19 ls st h = a_do a_nL R R 72 (s_zret ls st h) := a_R_eq ..
theorem b72_0 (x0 : Nat) (x1 : Nat) (l2 : Option Value) (h : A_H) : R 72 0 [some (.ref x0), some (.ref x1), l2] [] h = (cond (isO h x0 9 && (hP h x0 11).isSome) (cond (isO h x1 0) (cond (isA h ((hP h x0 11).getD 0) 5 (hI h x1 1) && (hP h ((hP h x0 11).getD 0) ((hI h x1 1)).toNatClampNeg).isSome) (cond (isO h ((hP h ((hP h x0 11).getD 0) ((hI h x1 1)).toNatClampNeg).getD 0) 2) (cond (isO h x1 0) (cond (decide ((hI h x1 3) < (hI h ((hP h ((hP h x0 11).getD 0) ((hI h x1 1)).toNatClampNeg).getD 0) 1))) (cond (decide ((0 : Int32) = 0) || decide ((0 : Int32) = 1)) (some (some (some (.int (0 : Int32))), h)) none) (cond (isO h x1 0) (cond (isO h ((hP h ((hP h x0 11).getD 0) ((hI h x1 1)).toNatClampNeg).getD 0) 2) (cond (decide ((hI h ((hP h ((hP h x0 11).getD 0) ((hI h x1 1)).toNatClampNeg).getD 0) 2) < (hI h x1 3))) (cond (decide ((0 : Int32) = 0) || decide ((0 : Int32) = 1)) (some (some (some (.int (0 : Int32))), h)) none) (cond (decide ((1 : Int32) = 0) || decide ((1 : Int32) = 1)) (some (some (some (.int (1 : Int32))), h)) none)) none) none)) none) none) none) none) none) := (tr (r72_0 ..) (tr (r72_1 ..) (cgT (tr (r72_2 ..) (tr (r72_3 ..) (cgT (tr (r72_4 ..) (cgT (tr (r72_5 ..) (tr (r72_6 ..) (tr (r72_7 ..) (cgT (tr (r72_8 ..) (tr (r72_9 ..) (cgT (tr (r72_10 ..) (cgB (tr (r72_18 ..) (r72_19 ..)) (tr (r72_11 ..) (tr (r72_12 ..) (cgT (tr (r72_13 ..) (tr (r72_14 ..) (cgT (tr (r72_15 ..) (cgB (tr (r72_18 ..) (r72_19 ..)) (tr (r72_16 ..) (tr (r72_17 ..) (r72_19 ..))))))))))))))))))))))))))))
theorem e73 (x0 : Nat) (h : A_H) : C 73 [.ref x0] h = R 73 0 [some (.ref x0)] [] h := rfl
theorem r73_0 (ls : A_V) (st : List Value) (h : A_H) : R 73 0 ls st h = a_do a_nL R R 73 (s_aldl 0 1 ls st h) := a_R_eq ..
theorem r73_1 (ls : A_V) (st : List Value) (h : A_H) : R 73 1 ls st h = a_do a_nL R R 73 (s_oi 2 ls st h) := a_R_eq ..
theorem r73_2 (ls : A_V) (st : List Value) (h : A_H) : R 73 2 ls st h = a_do a_nL R R 73 (s_vret ls st h) := a_R_eq ..
theorem b73_0 (x0 : Nat) (h : A_H) : R 73 0 [some (.ref x0)] [] h = (some (some none, h)) := (tr (r73_0 ..) (tr (r73_1 ..) (r73_2 ..)))
theorem e149 (x0 : Nat) (h : A_H) : C 149 [.ref x0] h = R 149 0 [some (.ref x0)] [] h := rfl
theorem r149_0 (ls : A_V) (st : List Value) (h : A_H) : R 149 0 ls st h = a_do a_nL R R 149 (s_aldl 0 1 ls st h) := a_R_eq ..
theorem r149_1 (ls : A_V) (st : List Value) (h : A_H) : R 149 1 ls st h = a_do a_nL R R 149 (s_oi 2 ls st h) := a_R_eq ..
theorem r149_2 (ls : A_V) (st : List Value) (h : A_H) : R 149 2 ls st h = a_do a_nL R R 149 (s_aldl 0 3 ls st h) := a_R_eq ..
theorem r149_3 (ls : A_V) (st : List Value) (h : A_H) : R 149 3 ls st h = a_do a_nL R R 149 (s_push (.int (-1)) 4 ls st h) := a_R_eq ..
theorem r149_4 (ls : A_V) (st : List Value) (h : A_H) : R 149 4 ls st h = a_do a_nL R R 149 (s_putI 12 0 5 ls st h) := a_R_eq ..
theorem r149_5 (ls : A_V) (st : List Value) (h : A_H) : R 149 5 ls st h = a_do a_nL R R 149 (s_aldl 0 6 ls st h) := a_R_eq ..
theorem r149_6 (ls : A_V) (st : List Value) (h : A_H) : R 149 6 ls st h = a_do a_nL R R 149 (s_push (.int 8) 7 ls st h) := a_R_eq ..
theorem r149_7 (ls : A_V) (st : List Value) (h : A_H) : R 149 7 ls st h = a_do a_nL R R 149 (s_nar 0 8 ls st h) := a_R_eq ..
theorem r149_8 (ls : A_V) (st : List Value) (h : A_H) : R 149 8 ls st h = a_do a_nL R R 149 (s_putR 12 11 9 ls st h) := a_R_eq ..
theorem r149_9 (ls : A_V) (st : List Value) (h : A_H) : R 149 9 ls st h = a_do a_nL R R 149 (s_aldl 0 10 ls st h) := a_R_eq ..
theorem r149_10 (ls : A_V) (st : List Value) (h : A_H) : R 149 10 ls st h = a_do a_nL R R 149 (s_push (.int 4) 11 ls st h) := a_R_eq ..
theorem r149_11 (ls : A_V) (st : List Value) (h : A_H) : R 149 11 ls st h = a_do a_nL R R 149 (s_nar 0 12 ls st h) := a_R_eq ..
theorem r149_12 (ls : A_V) (st : List Value) (h : A_H) : R 149 12 ls st h = a_do a_nL R R 149 (s_putR 12 12 13 ls st h) := a_R_eq ..
theorem r149_13 (ls : A_V) (st : List Value) (h : A_H) : R 149 13 ls st h = a_do a_nL R R 149 (s_aldl 0 14 ls st h) := a_R_eq ..
theorem r149_14 (ls : A_V) (st : List Value) (h : A_H) : R 149 14 ls st h = a_do a_nL R R 149 (s_push (.int 4) 15 ls st h) := a_R_eq ..
theorem r149_15 (ls : A_V) (st : List Value) (h : A_H) : R 149 15 ls st h = a_do a_nL R R 149 (s_nar 0 16 ls st h) := a_R_eq ..
theorem r149_16 (ls : A_V) (st : List Value) (h : A_H) : R 149 16 ls st h = a_do a_nL R R 149 (s_putR 12 13 17 ls st h) := a_R_eq ..
theorem r149_17 (ls : A_V) (st : List Value) (h : A_H) : R 149 17 ls st h = a_do a_nL R R 149 (s_aldl 0 18 ls st h) := a_R_eq ..
theorem r149_18 (ls : A_V) (st : List Value) (h : A_H) : R 149 18 ls st h = a_do a_nL R R 149 (s_push (.int 4) 19 ls st h) := a_R_eq ..
theorem r149_19 (ls : A_V) (st : List Value) (h : A_H) : R 149 19 ls st h = a_do a_nL R R 149 (s_nar 0 20 ls st h) := a_R_eq ..
theorem r149_20 (ls : A_V) (st : List Value) (h : A_H) : R 149 20 ls st h = a_do a_nL R R 149 (s_putR 12 14 21 ls st h) := a_R_eq ..
theorem r149_21 (ls : A_V) (st : List Value) (h : A_H) : R 149 21 ls st h = a_do a_nL R R 149 (s_aldl 0 22 ls st h) := a_R_eq ..
theorem r149_22 (ls : A_V) (st : List Value) (h : A_H) : R 149 22 ls st h = a_do a_nL R R 149 (s_push (.int 4) 23 ls st h) := a_R_eq ..
theorem r149_23 (ls : A_V) (st : List Value) (h : A_H) : R 149 23 ls st h = a_do a_nL R R 149 (s_nar 0 24 ls st h) := a_R_eq ..
theorem r149_24 (ls : A_V) (st : List Value) (h : A_H) : R 149 24 ls st h = a_do a_nL R R 149 (s_putR 12 15 25 ls st h) := a_R_eq ..
theorem r149_25 (ls : A_V) (st : List Value) (h : A_H) : R 149 25 ls st h = a_do a_nL R R 149 (s_aldl 0 26 ls st h) := a_R_eq ..
theorem r149_26 (ls : A_V) (st : List Value) (h : A_H) : R 149 26 ls st h = a_do a_nL R R 149 (s_push (.int 4) 27 ls st h) := a_R_eq ..
theorem r149_27 (ls : A_V) (st : List Value) (h : A_H) : R 149 27 ls st h = a_do a_nL R R 149 (s_nar 0 28 ls st h) := a_R_eq ..
theorem r149_28 (ls : A_V) (st : List Value) (h : A_H) : R 149 28 ls st h = a_do a_nL R R 149 (s_putR 12 16 29 ls st h) := a_R_eq ..
theorem r149_29 (ls : A_V) (st : List Value) (h : A_H) : R 149 29 ls st h = a_do a_nL R R 149 (s_aldl 0 30 ls st h) := a_R_eq ..
theorem r149_30 (ls : A_V) (st : List Value) (h : A_H) : R 149 30 ls st h = a_do a_nL R R 149 (s_push (.int 3) 31 ls st h) := a_R_eq ..
theorem r149_31 (ls : A_V) (st : List Value) (h : A_H) : R 149 31 ls st h = a_do a_nL R R 149 (s_nar 0 32 ls st h) := a_R_eq ..
theorem r149_32 (ls : A_V) (st : List Value) (h : A_H) : R 149 32 ls st h = a_do a_nL R R 149 (s_putR 12 17 33 ls st h) := a_R_eq ..
theorem r149_33 (ls : A_V) (st : List Value) (h : A_H) : R 149 33 ls st h = a_do a_nL R R 149 (s_aldl 0 34 ls st h) := a_R_eq ..
theorem r149_34 (ls : A_V) (st : List Value) (h : A_H) : R 149 34 ls st h = a_do a_nL R R 149 (s_push (.int 3) 35 ls st h) := a_R_eq ..
theorem r149_35 (ls : A_V) (st : List Value) (h : A_H) : R 149 35 ls st h = a_do a_nL R R 149 (s_nar 0 36 ls st h) := a_R_eq ..
theorem r149_36 (ls : A_V) (st : List Value) (h : A_H) : R 149 36 ls st h = a_do a_nL R R 149 (s_putR 12 18 37 ls st h) := a_R_eq ..
theorem r149_37 (ls : A_V) (st : List Value) (h : A_H) : R 149 37 ls st h = a_do a_nL R R 149 (s_aldl 0 38 ls st h) := a_R_eq ..
theorem r149_38 (ls : A_V) (st : List Value) (h : A_H) : R 149 38 ls st h = a_do a_nL R R 149 (s_push (.int 3) 39 ls st h) := a_R_eq ..
theorem r149_39 (ls : A_V) (st : List Value) (h : A_H) : R 149 39 ls st h = a_do a_nL R R 149 (s_nar 0 40 ls st h) := a_R_eq ..
theorem r149_40 (ls : A_V) (st : List Value) (h : A_H) : R 149 40 ls st h = a_do a_nL R R 149 (s_putR 12 19 41 ls st h) := a_R_eq ..
theorem r149_41 (ls : A_V) (st : List Value) (h : A_H) : R 149 41 ls st h = a_do a_nL R R 149 (s_aldl 0 42 ls st h) := a_R_eq ..
theorem r149_42 (ls : A_V) (st : List Value) (h : A_H) : R 149 42 ls st h = a_do a_nL R R 149 (s_push (.int 8) 43 ls st h) := a_R_eq ..
theorem r149_43 (ls : A_V) (st : List Value) (h : A_H) : R 149 43 ls st h = a_do a_nL R R 149 (s_nar 0 44 ls st h) := a_R_eq ..
theorem r149_44 (ls : A_V) (st : List Value) (h : A_H) : R 149 44 ls st h = a_do a_nL R R 149 (s_putR 12 20 45 ls st h) := a_R_eq ..
theorem r149_45 (ls : A_V) (st : List Value) (h : A_H) : R 149 45 ls st h = a_do a_nL R R 149 (s_aldl 0 46 ls st h) := a_R_eq ..
theorem r149_46 (ls : A_V) (st : List Value) (h : A_H) : R 149 46 ls st h = a_do a_nL R R 149 (s_push (.int 8) 47 ls st h) := a_R_eq ..
theorem r149_47 (ls : A_V) (st : List Value) (h : A_H) : R 149 47 ls st h = a_do a_nL R R 149 (s_nar 0 48 ls st h) := a_R_eq ..
theorem r149_48 (ls : A_V) (st : List Value) (h : A_H) : R 149 48 ls st h = a_do a_nL R R 149 (s_putR 12 21 49 ls st h) := a_R_eq ..
theorem r149_49 (ls : A_V) (st : List Value) (h : A_H) : R 149 49 ls st h = a_do a_nL R R 149 (s_aldl 0 50 ls st h) := a_R_eq ..
theorem r149_50 (ls : A_V) (st : List Value) (h : A_H) : R 149 50 ls st h = a_do a_nL R R 149 (s_push (.int 8) 51 ls st h) := a_R_eq ..
theorem r149_51 (ls : A_V) (st : List Value) (h : A_H) : R 149 51 ls st h = a_do a_nL R R 149 (s_nar 0 52 ls st h) := a_R_eq ..
theorem r149_52 (ls : A_V) (st : List Value) (h : A_H) : R 149 52 ls st h = a_do a_nL R R 149 (s_putR 12 22 53 ls st h) := a_R_eq ..
theorem r149_53 (ls : A_V) (st : List Value) (h : A_H) : R 149 53 ls st h = a_do a_nL R R 149 (s_aldl 0 54 ls st h) := a_R_eq ..
theorem r149_54 (ls : A_V) (st : List Value) (h : A_H) : R 149 54 ls st h = a_do a_nL R R 149 (s_push (.int 8) 55 ls st h) := a_R_eq ..
theorem r149_55 (ls : A_V) (st : List Value) (h : A_H) : R 149 55 ls st h = a_do a_nL R R 149 (s_nar 0 56 ls st h) := a_R_eq ..
theorem r149_56 (ls : A_V) (st : List Value) (h : A_H) : R 149 56 ls st h = a_do a_nL R R 149 (s_putR 12 23 57 ls st h) := a_R_eq ..
theorem r149_57 (ls : A_V) (st : List Value) (h : A_H) : R 149 57 ls st h = a_do a_nL R R 149 (s_aldl 0 58 ls st h) := a_R_eq ..
theorem r149_58 (ls : A_V) (st : List Value) (h : A_H) : R 149 58 ls st h = a_do a_nL R R 149 (s_push (.int 8) 59 ls st h) := a_R_eq ..
theorem r149_59 (ls : A_V) (st : List Value) (h : A_H) : R 149 59 ls st h = a_do a_nL R R 149 (s_nar 0 60 ls st h) := a_R_eq ..
theorem r149_60 (ls : A_V) (st : List Value) (h : A_H) : R 149 60 ls st h = a_do a_nL R R 149 (s_putR 12 24 61 ls st h) := a_R_eq ..
theorem r149_61 (ls : A_V) (st : List Value) (h : A_H) : R 149 61 ls st h = a_do a_nL R R 149 (s_aldl 0 62 ls st h) := a_R_eq ..
theorem r149_62 (ls : A_V) (st : List Value) (h : A_H) : R 149 62 ls st h = a_do a_nL R R 149 (s_push (.int 8) 63 ls st h) := a_R_eq ..
theorem r149_63 (ls : A_V) (st : List Value) (h : A_H) : R 149 63 ls st h = a_do a_nL R R 149 (s_nar 0 64 ls st h) := a_R_eq ..
theorem r149_64 (ls : A_V) (st : List Value) (h : A_H) : R 149 64 ls st h = a_do a_nL R R 149 (s_putR 12 25 65 ls st h) := a_R_eq ..
theorem r149_65 (ls : A_V) (st : List Value) (h : A_H) : R 149 65 ls st h = a_do a_nL R R 149 (s_aldl 0 66 ls st h) := a_R_eq ..
theorem r149_66 (ls : A_V) (st : List Value) (h : A_H) : R 149 66 ls st h = a_do a_nL R R 149 (s_push (.int 6) 67 ls st h) := a_R_eq ..
theorem r149_67 (ls : A_V) (st : List Value) (h : A_H) : R 149 67 ls st h = a_do a_nL R R 149 (s_nar 0 68 ls st h) := a_R_eq ..
theorem r149_68 (ls : A_V) (st : List Value) (h : A_H) : R 149 68 ls st h = a_do a_nL R R 149 (s_putR 12 26 69 ls st h) := a_R_eq ..
theorem r149_69 (ls : A_V) (st : List Value) (h : A_H) : R 149 69 ls st h = a_do a_nL R R 149 (s_aldl 0 70 ls st h) := a_R_eq ..
theorem r149_70 (ls : A_V) (st : List Value) (h : A_H) : R 149 70 ls st h = a_do a_nL R R 149 (s_push (.int 6) 71 ls st h) := a_R_eq ..
theorem r149_71 (ls : A_V) (st : List Value) (h : A_H) : R 149 71 ls st h = a_do a_nL R R 149 (s_nar 0 72 ls st h) := a_R_eq ..
theorem r149_72 (ls : A_V) (st : List Value) (h : A_H) : R 149 72 ls st h = a_do a_nL R R 149 (s_putR 12 27 73 ls st h) := a_R_eq ..
theorem r149_73 (ls : A_V) (st : List Value) (h : A_H) : R 149 73 ls st h = a_do a_nL R R 149 (s_aldl 0 74 ls st h) := a_R_eq ..
theorem r149_74 (ls : A_V) (st : List Value) (h : A_H) : R 149 74 ls st h = a_do a_nL R R 149 (s_push (.int 6) 75 ls st h) := a_R_eq ..
theorem r149_75 (ls : A_V) (st : List Value) (h : A_H) : R 149 75 ls st h = a_do a_nL R R 149 (s_nar 0 76 ls st h) := a_R_eq ..
theorem r149_76 (ls : A_V) (st : List Value) (h : A_H) : R 149 76 ls st h = a_do a_nL R R 149 (s_putR 12 28 77 ls st h) := a_R_eq ..
theorem r149_77 (ls : A_V) (st : List Value) (h : A_H) : R 149 77 ls st h = a_do a_nL R R 149 (s_aldl 0 78 ls st h) := a_R_eq ..
theorem r149_78 (ls : A_V) (st : List Value) (h : A_H) : R 149 78 ls st h = a_do a_nL R R 149 (s_push (.int 6) 79 ls st h) := a_R_eq ..
theorem r149_79 (ls : A_V) (st : List Value) (h : A_H) : R 149 79 ls st h = a_do a_nL R R 149 (s_nar 0 80 ls st h) := a_R_eq ..
theorem r149_80 (ls : A_V) (st : List Value) (h : A_H) : R 149 80 ls st h = a_do a_nL R R 149 (s_putR 12 29 81 ls st h) := a_R_eq ..
theorem r149_81 (ls : A_V) (st : List Value) (h : A_H) : R 149 81 ls st h = a_do a_nL R R 149 (s_aldl 0 82 ls st h) := a_R_eq ..
theorem r149_82 (ls : A_V) (st : List Value) (h : A_H) : R 149 82 ls st h = a_do a_nL R R 149 (s_push (.int 5) 83 ls st h) := a_R_eq ..
theorem r149_83 (ls : A_V) (st : List Value) (h : A_H) : R 149 83 ls st h = a_do a_nL R R 149 (s_nar 0 84 ls st h) := a_R_eq ..
theorem r149_84 (ls : A_V) (st : List Value) (h : A_H) : R 149 84 ls st h = a_do a_nL R R 149 (s_putR 12 30 85 ls st h) := a_R_eq ..
theorem r149_85 (ls : A_V) (st : List Value) (h : A_H) : R 149 85 ls st h = a_do a_nL R R 149 (s_aldl 0 86 ls st h) := a_R_eq ..
theorem r149_86 (ls : A_V) (st : List Value) (h : A_H) : R 149 86 ls st h = a_do a_nL R R 149 (s_push (.int 5) 87 ls st h) := a_R_eq ..
theorem r149_87 (ls : A_V) (st : List Value) (h : A_H) : R 149 87 ls st h = a_do a_nL R R 149 (s_nar 0 88 ls st h) := a_R_eq ..
theorem r149_88 (ls : A_V) (st : List Value) (h : A_H) : R 149 88 ls st h = a_do a_nL R R 149 (s_putR 12 31 89 ls st h) := a_R_eq ..
theorem r149_89 (ls : A_V) (st : List Value) (h : A_H) : R 149 89 ls st h = a_do a_nL R R 149 (s_aldl 0 90 ls st h) := a_R_eq ..
theorem r149_90 (ls : A_V) (st : List Value) (h : A_H) : R 149 90 ls st h = a_do a_nL R R 149 (s_push (.int 19) 91 ls st h) := a_R_eq ..
theorem r149_91 (ls : A_V) (st : List Value) (h : A_H) : R 149 91 ls st h = a_do a_nL R R 149 (s_nar 2 92 ls st h) := a_R_eq ..
theorem r149_92 (ls : A_V) (st : List Value) (h : A_H) : R 149 92 ls st h = a_do a_nL R R 149 (s_putR 12 32 93 ls st h) := a_R_eq ..
theorem r149_93 (ls : A_V) (st : List Value) (h : A_H) : R 149 93 ls st h = a_do a_nL R R 149 (s_aldl 0 94 ls st h) := a_R_eq ..
theorem r149_94 (ls : A_V) (st : List Value) (h : A_H) : R 149 94 ls st h = a_do a_nL R R 149 (s_push (.int 19) 95 ls st h) := a_R_eq ..
theorem r149_95 (ls : A_V) (st : List Value) (h : A_H) : R 149 95 ls st h = a_do a_nL R R 149 (s_nar 0 96 ls st h) := a_R_eq ..
theorem r149_96 (ls : A_V) (st : List Value) (h : A_H) : R 149 96 ls st h = a_do a_nL R R 149 (s_putR 12 33 97 ls st h) := a_R_eq ..
theorem r149_97 (ls : A_V) (st : List Value) (h : A_H) : R 149 97 ls st h = a_do a_nL R R 149 (s_aldl 0 98 ls st h) := a_R_eq ..
theorem r149_98 (ls : A_V) (st : List Value) (h : A_H) : R 149 98 ls st h = a_do a_nL R R 149 (s_push (.int 19) 99 ls st h) := a_R_eq ..
theorem r149_99 (ls : A_V) (st : List Value) (h : A_H) : R 149 99 ls st h = a_do a_nL R R 149 (s_nar 0 100 ls st h) := a_R_eq ..
theorem r149_100 (ls : A_V) (st : List Value) (h : A_H) : R 149 100 ls st h = a_do a_nL R R 149 (s_putR 12 34 101 ls st h) := a_R_eq ..
theorem r149_101 (ls : A_V) (st : List Value) (h : A_H) : R 149 101 ls st h = a_do a_nL R R 149 (s_vret ls st h) := a_R_eq ..
theorem b149_0 (x0 : Nat) (h : A_H) : R 149 0 [some (.ref x0)] [] h = (cond (isO h x0 12) (R 149 5 [some (.ref x0)] [] (wI h x0 0 (-1 : Int32))) none) := (tr (r149_0 ..) (tr (r149_1 ..) (tr (r149_2 ..) (tr (r149_3 ..) (r149_4 ..)))))
theorem b149_5 (x0 : Nat) (h : A_H) : R 149 5 [some (.ref x0)] [] h = (R 149 8 [some (.ref x0)] [.ref (hn h), .ref x0] (nw h 100 8 8)) := (tr (r149_5 ..) (tr (r149_6 ..) (r149_7 ..)))
theorem b149_8 (x0 : Nat) (s0 : Nat) (s1 : Nat) (h : A_H) : R 149 8 [some (.ref x0)] [.ref s1, .ref s0] h = (cond (isO h s0 12) (R 149 9 [some (.ref x0)] [] (wP h s0 11 (some s1))) none) := (r149_8 ..)
theorem b149_9 (x0 : Nat) (h : A_H) : R 149 9 [some (.ref x0)] [] h = (R 149 12 [some (.ref x0)] [.ref (hn h), .ref x0] (nw h 100 4 4)) := (tr (r149_9 ..) (tr (r149_10 ..) (r149_11 ..)))
theorem b149_12 (x0 : Nat) (s0 : Nat) (s1 : Nat) (h : A_H) : R 149 12 [some (.ref x0)] [.ref s1, .ref s0] h = (cond (isO h s0 12) (R 149 13 [some (.ref x0)] [] (wP h s0 12 (some s1))) none) := (r149_12 ..)
theorem b149_13 (x0 : Nat) (h : A_H) : R 149 13 [some (.ref x0)] [] h = (R 149 16 [some (.ref x0)] [.ref (hn h), .ref x0] (nw h 100 4 4)) := (tr (r149_13 ..) (tr (r149_14 ..) (r149_15 ..)))
theorem b149_16 (x0 : Nat) (s0 : Nat) (s1 : Nat) (h : A_H) : R 149 16 [some (.ref x0)] [.ref s1, .ref s0] h = (cond (isO h s0 12) (R 149 17 [some (.ref x0)] [] (wP h s0 13 (some s1))) none) := (r149_16 ..)
theorem b149_17 (x0 : Nat) (h : A_H) : R 149 17 [some (.ref x0)] [] h = (R 149 20 [some (.ref x0)] [.ref (hn h), .ref x0] (nw h 100 4 4)) := (tr (r149_17 ..) (tr (r149_18 ..) (r149_19 ..)))
theorem b149_20 (x0 : Nat) (s0 : Nat) (s1 : Nat) (h : A_H) : R 149 20 [some (.ref x0)] [.ref s1, .ref s0] h = (cond (isO h s0 12) (R 149 21 [some (.ref x0)] [] (wP h s0 14 (some s1))) none) := (r149_20 ..)
theorem b149_21 (x0 : Nat) (h : A_H) : R 149 21 [some (.ref x0)] [] h = (R 149 24 [some (.ref x0)] [.ref (hn h), .ref x0] (nw h 100 4 4)) := (tr (r149_21 ..) (tr (r149_22 ..) (r149_23 ..)))
theorem b149_24 (x0 : Nat) (s0 : Nat) (s1 : Nat) (h : A_H) : R 149 24 [some (.ref x0)] [.ref s1, .ref s0] h = (cond (isO h s0 12) (R 149 25 [some (.ref x0)] [] (wP h s0 15 (some s1))) none) := (r149_24 ..)
theorem b149_25 (x0 : Nat) (h : A_H) : R 149 25 [some (.ref x0)] [] h = (R 149 28 [some (.ref x0)] [.ref (hn h), .ref x0] (nw h 100 4 4)) := (tr (r149_25 ..) (tr (r149_26 ..) (r149_27 ..)))
theorem b149_28 (x0 : Nat) (s0 : Nat) (s1 : Nat) (h : A_H) : R 149 28 [some (.ref x0)] [.ref s1, .ref s0] h = (cond (isO h s0 12) (R 149 29 [some (.ref x0)] [] (wP h s0 16 (some s1))) none) := (r149_28 ..)
theorem b149_29 (x0 : Nat) (h : A_H) : R 149 29 [some (.ref x0)] [] h = (R 149 32 [some (.ref x0)] [.ref (hn h), .ref x0] (nw h 100 3 3)) := (tr (r149_29 ..) (tr (r149_30 ..) (r149_31 ..)))
theorem b149_32 (x0 : Nat) (s0 : Nat) (s1 : Nat) (h : A_H) : R 149 32 [some (.ref x0)] [.ref s1, .ref s0] h = (cond (isO h s0 12) (R 149 33 [some (.ref x0)] [] (wP h s0 17 (some s1))) none) := (r149_32 ..)
theorem b149_33 (x0 : Nat) (h : A_H) : R 149 33 [some (.ref x0)] [] h = (R 149 36 [some (.ref x0)] [.ref (hn h), .ref x0] (nw h 100 3 3)) := (tr (r149_33 ..) (tr (r149_34 ..) (r149_35 ..)))
theorem b149_36 (x0 : Nat) (s0 : Nat) (s1 : Nat) (h : A_H) : R 149 36 [some (.ref x0)] [.ref s1, .ref s0] h = (cond (isO h s0 12) (R 149 37 [some (.ref x0)] [] (wP h s0 18 (some s1))) none) := (r149_36 ..)
theorem b149_37 (x0 : Nat) (h : A_H) : R 149 37 [some (.ref x0)] [] h = (R 149 40 [some (.ref x0)] [.ref (hn h), .ref x0] (nw h 100 3 3)) := (tr (r149_37 ..) (tr (r149_38 ..) (r149_39 ..)))
theorem b149_40 (x0 : Nat) (s0 : Nat) (s1 : Nat) (h : A_H) : R 149 40 [some (.ref x0)] [.ref s1, .ref s0] h = (cond (isO h s0 12) (R 149 41 [some (.ref x0)] [] (wP h s0 19 (some s1))) none) := (r149_40 ..)
theorem b149_41 (x0 : Nat) (h : A_H) : R 149 41 [some (.ref x0)] [] h = (R 149 44 [some (.ref x0)] [.ref (hn h), .ref x0] (nw h 100 8 8)) := (tr (r149_41 ..) (tr (r149_42 ..) (r149_43 ..)))
theorem b149_44 (x0 : Nat) (s0 : Nat) (s1 : Nat) (h : A_H) : R 149 44 [some (.ref x0)] [.ref s1, .ref s0] h = (cond (isO h s0 12) (R 149 45 [some (.ref x0)] [] (wP h s0 20 (some s1))) none) := (r149_44 ..)
theorem b149_45 (x0 : Nat) (h : A_H) : R 149 45 [some (.ref x0)] [] h = (R 149 48 [some (.ref x0)] [.ref (hn h), .ref x0] (nw h 100 8 8)) := (tr (r149_45 ..) (tr (r149_46 ..) (r149_47 ..)))
theorem b149_48 (x0 : Nat) (s0 : Nat) (s1 : Nat) (h : A_H) : R 149 48 [some (.ref x0)] [.ref s1, .ref s0] h = (cond (isO h s0 12) (R 149 49 [some (.ref x0)] [] (wP h s0 21 (some s1))) none) := (r149_48 ..)
theorem b149_49 (x0 : Nat) (h : A_H) : R 149 49 [some (.ref x0)] [] h = (R 149 52 [some (.ref x0)] [.ref (hn h), .ref x0] (nw h 100 8 8)) := (tr (r149_49 ..) (tr (r149_50 ..) (r149_51 ..)))
theorem b149_52 (x0 : Nat) (s0 : Nat) (s1 : Nat) (h : A_H) : R 149 52 [some (.ref x0)] [.ref s1, .ref s0] h = (cond (isO h s0 12) (R 149 53 [some (.ref x0)] [] (wP h s0 22 (some s1))) none) := (r149_52 ..)
theorem b149_53 (x0 : Nat) (h : A_H) : R 149 53 [some (.ref x0)] [] h = (R 149 56 [some (.ref x0)] [.ref (hn h), .ref x0] (nw h 100 8 8)) := (tr (r149_53 ..) (tr (r149_54 ..) (r149_55 ..)))
theorem b149_56 (x0 : Nat) (s0 : Nat) (s1 : Nat) (h : A_H) : R 149 56 [some (.ref x0)] [.ref s1, .ref s0] h = (cond (isO h s0 12) (R 149 57 [some (.ref x0)] [] (wP h s0 23 (some s1))) none) := (r149_56 ..)
theorem b149_57 (x0 : Nat) (h : A_H) : R 149 57 [some (.ref x0)] [] h = (R 149 60 [some (.ref x0)] [.ref (hn h), .ref x0] (nw h 100 8 8)) := (tr (r149_57 ..) (tr (r149_58 ..) (r149_59 ..)))
theorem b149_60 (x0 : Nat) (s0 : Nat) (s1 : Nat) (h : A_H) : R 149 60 [some (.ref x0)] [.ref s1, .ref s0] h = (cond (isO h s0 12) (R 149 61 [some (.ref x0)] [] (wP h s0 24 (some s1))) none) := (r149_60 ..)
theorem b149_61 (x0 : Nat) (h : A_H) : R 149 61 [some (.ref x0)] [] h = (R 149 64 [some (.ref x0)] [.ref (hn h), .ref x0] (nw h 100 8 8)) := (tr (r149_61 ..) (tr (r149_62 ..) (r149_63 ..)))
theorem b149_64 (x0 : Nat) (s0 : Nat) (s1 : Nat) (h : A_H) : R 149 64 [some (.ref x0)] [.ref s1, .ref s0] h = (cond (isO h s0 12) (R 149 65 [some (.ref x0)] [] (wP h s0 25 (some s1))) none) := (r149_64 ..)
theorem b149_65 (x0 : Nat) (h : A_H) : R 149 65 [some (.ref x0)] [] h = (R 149 68 [some (.ref x0)] [.ref (hn h), .ref x0] (nw h 100 6 6)) := (tr (r149_65 ..) (tr (r149_66 ..) (r149_67 ..)))
theorem b149_68 (x0 : Nat) (s0 : Nat) (s1 : Nat) (h : A_H) : R 149 68 [some (.ref x0)] [.ref s1, .ref s0] h = (cond (isO h s0 12) (R 149 69 [some (.ref x0)] [] (wP h s0 26 (some s1))) none) := (r149_68 ..)
theorem b149_69 (x0 : Nat) (h : A_H) : R 149 69 [some (.ref x0)] [] h = (R 149 72 [some (.ref x0)] [.ref (hn h), .ref x0] (nw h 100 6 6)) := (tr (r149_69 ..) (tr (r149_70 ..) (r149_71 ..)))
theorem b149_72 (x0 : Nat) (s0 : Nat) (s1 : Nat) (h : A_H) : R 149 72 [some (.ref x0)] [.ref s1, .ref s0] h = (cond (isO h s0 12) (R 149 73 [some (.ref x0)] [] (wP h s0 27 (some s1))) none) := (r149_72 ..)
theorem b149_73 (x0 : Nat) (h : A_H) : R 149 73 [some (.ref x0)] [] h = (R 149 76 [some (.ref x0)] [.ref (hn h), .ref x0] (nw h 100 6 6)) := (tr (r149_73 ..) (tr (r149_74 ..) (r149_75 ..)))
theorem b149_76 (x0 : Nat) (s0 : Nat) (s1 : Nat) (h : A_H) : R 149 76 [some (.ref x0)] [.ref s1, .ref s0] h = (cond (isO h s0 12) (R 149 77 [some (.ref x0)] [] (wP h s0 28 (some s1))) none) := (r149_76 ..)
theorem b149_77 (x0 : Nat) (h : A_H) : R 149 77 [some (.ref x0)] [] h = (R 149 80 [some (.ref x0)] [.ref (hn h), .ref x0] (nw h 100 6 6)) := (tr (r149_77 ..) (tr (r149_78 ..) (r149_79 ..)))
theorem b149_80 (x0 : Nat) (s0 : Nat) (s1 : Nat) (h : A_H) : R 149 80 [some (.ref x0)] [.ref s1, .ref s0] h = (cond (isO h s0 12) (R 149 81 [some (.ref x0)] [] (wP h s0 29 (some s1))) none) := (r149_80 ..)
theorem b149_81 (x0 : Nat) (h : A_H) : R 149 81 [some (.ref x0)] [] h = (R 149 84 [some (.ref x0)] [.ref (hn h), .ref x0] (nw h 100 5 5)) := (tr (r149_81 ..) (tr (r149_82 ..) (r149_83 ..)))
theorem b149_84 (x0 : Nat) (s0 : Nat) (s1 : Nat) (h : A_H) : R 149 84 [some (.ref x0)] [.ref s1, .ref s0] h = (cond (isO h s0 12) (R 149 85 [some (.ref x0)] [] (wP h s0 30 (some s1))) none) := (r149_84 ..)
theorem b149_85 (x0 : Nat) (h : A_H) : R 149 85 [some (.ref x0)] [] h = (R 149 88 [some (.ref x0)] [.ref (hn h), .ref x0] (nw h 100 5 5)) := (tr (r149_85 ..) (tr (r149_86 ..) (r149_87 ..)))
theorem b149_88 (x0 : Nat) (s0 : Nat) (s1 : Nat) (h : A_H) : R 149 88 [some (.ref x0)] [.ref s1, .ref s0] h = (cond (isO h s0 12) (R 149 89 [some (.ref x0)] [] (wP h s0 31 (some s1))) none) := (r149_88 ..)
theorem b149_89 (x0 : Nat) (h : A_H) : R 149 89 [some (.ref x0)] [] h = (R 149 92 [some (.ref x0)] [.ref (hn h), .ref x0] (nw h 102 19 19)) := (tr (r149_89 ..) (tr (r149_90 ..) (r149_91 ..)))
theorem b149_92 (x0 : Nat) (s0 : Nat) (s1 : Nat) (h : A_H) : R 149 92 [some (.ref x0)] [.ref s1, .ref s0] h = (cond (isO h s0 12) (R 149 93 [some (.ref x0)] [] (wP h s0 32 (some s1))) none) := (r149_92 ..)
theorem b149_93 (x0 : Nat) (h : A_H) : R 149 93 [some (.ref x0)] [] h = (R 149 96 [some (.ref x0)] [.ref (hn h), .ref x0] (nw h 100 19 19)) := (tr (r149_93 ..) (tr (r149_94 ..) (r149_95 ..)))
theorem b149_96 (x0 : Nat) (s0 : Nat) (s1 : Nat) (h : A_H) : R 149 96 [some (.ref x0)] [.ref s1, .ref s0] h = (cond (isO h s0 12) (R 149 97 [some (.ref x0)] [] (wP h s0 33 (some s1))) none) := (r149_96 ..)
theorem b149_97 (x0 : Nat) (h : A_H) : R 149 97 [some (.ref x0)] [] h = (R 149 100 [some (.ref x0)] [.ref (hn h), .ref x0] (nw h 100 19 19)) := (tr (r149_97 ..) (tr (r149_98 ..) (r149_99 ..)))
theorem b149_100 (x0 : Nat) (s0 : Nat) (s1 : Nat) (h : A_H) : R 149 100 [some (.ref x0)] [.ref s1, .ref s0] h = (cond (isO h s0 12) (R 149 101 [some (.ref x0)] [] (wP h s0 34 (some s1))) none) := (r149_100 ..)
theorem b149_101 (x0 : Nat) (h : A_H) : R 149 101 [some (.ref x0)] [] h = (some (some none, h)) := (r149_101 ..)
theorem e150 (x0 : Nat) (x1 : Int64) (h : A_H) : C 150 [.ref x0, .long x1] h = R 150 0 [some (.ref x0), some (.long x1), none, none] [] h := rfl
theorem r150_0 (ls : A_V) (st : List Value) (h : A_H) : R 150 0 ls st h = a_do a_nL R R 150 (s_push (.int 0) 1 ls st h) := a_R_eq ..
theorem r150_1 (ls : A_V) (st : List Value) (h : A_H) : R 150 1 ls st h = a_do a_nL R R 150 (s_ist 3 2 ls st h) := a_R_eq ..
theorem r150_2 (ls : A_V) (st : List Value) (h : A_H) : R 150 2 ls st h = a_do a_nL R R 150 (s_ildl 3 3 ls st h) := a_R_eq ..
theorem r150_3 (ls : A_V) (st : List Value) (h : A_H) : R 150 3 ls st h = a_do a_nL R R 150 (s_aldl 0 4 ls st h) := a_R_eq ..
theorem r150_4 (ls : A_V) (st : List Value) (h : A_H) : R 150 4 ls st h = a_do a_nL R R 150 (s_getI 12 10 5 ls st h) := a_R_eq ..
theorem r150_5 (ls : A_V) (st : List Value) (h : A_H) : R 150 5 ls st h = a_do a_nL R R 150 (s_if2 (fun x y => decide (y ≤ x)) 17 6 ls st h) := a_R_eq ..
theorem r150_6 (ls : A_V) (st : List Value) (h : A_H) : R 150 6 ls st h = a_do a_nL R R 150 (s_aldl 0 7 ls st h) := a_R_eq ..
theorem r150_7 (ls : A_V) (st : List Value) (h : A_H) : R 150 7 ls st h = a_do a_nL R R 150 (s_getR 12 32 8 ls st h) := a_R_eq ..
theorem r150_8 (ls : A_V) (st : List Value) (h : A_H) : R 150 8 ls st h = a_do a_nL R R 150 (s_ildl 3 9 ls st h) := a_R_eq ..
theorem r150_9 (ls : A_V) (st : List Value) (h : A_H) : R 150 9 ls st h = a_do a_nL R R 150 (s_lal 10 ls st h) := a_R_eq ..
theorem r150_10 (ls : A_V) (st : List Value) (h : A_H) : R 150 10 ls st h = a_do a_nL R R 150 (s_lldl 1 11 ls st h) := a_R_eq ..
theorem r150_11 (ls : A_V) (st : List Value) (h : A_H) : R 150 11 ls st h = a_do a_nL R R 150 (s_lcmp 12 ls st h) := a_R_eq ..
theorem r150_12 (ls : A_V) (st : List Value) (h : A_H) : R 150 12 ls st h = a_do a_nL R R 150 (s_if1 (fun x => !decide (x = 0)) 15 13 ls st h) := a_R_eq ..
theorem r150_13 (ls : A_V) (st : List Value) (h : A_H) : R 150 13 ls st h = a_do a_nL R R 150 (s_ildl 3 14 ls st h) := a_R_eq ..
theorem r150_14 (ls : A_V) (st : List Value) (h : A_H) : R 150 14 ls st h = a_do a_nL R R 150 (s_iret ls st h) := a_R_eq ..
theorem r150_15 (ls : A_V) (st : List Value) (h : A_H) : R 150 15 ls st h = a_do a_nL R R 150 (s_inc 3 1 16 ls st h) := a_R_eq ..
theorem r150_16 (ls : A_V) (st : List Value) (h : A_H) : R 150 16 ls st h = a_do a_nL R R 150 (s_goto 2 ls st h) := a_R_eq ..
theorem r150_17 (ls : A_V) (st : List Value) (h : A_H) : R 150 17 ls st h = a_do a_nL R R 150 (s_push (.int (-1)) 18 ls st h) := a_R_eq ..
theorem r150_18 (ls : A_V) (st : List Value) (h : A_H) : R 150 18 ls st h = a_do a_nL R R 150 (s_iret ls st h) := a_R_eq ..
theorem b150_0 (x0 : Nat) (x1 : Int64) (l3 : Option Value) (h : A_H) : R 150 0 [some (.ref x0), some (.long x1), none, l3] [] h = (R 150 2 [some (.ref x0), some (.long x1), none, some (.int (0 : Int32))] [] h) := (tr (r150_0 ..) (r150_1 ..))
theorem b150_2 (x0 : Nat) (x1 : Int64) (x3 : Int32) (h : A_H) : R 150 2 [some (.ref x0), some (.long x1), none, some (.int x3)] [] h = (cond (isO h x0 12) (cond (decide ((hI h x0 10) ≤ x3)) (some (some (some (.int (-1 : Int32))), h)) (cond (isO h x0 12 && (hP h x0 32).isSome) (cond (isA h ((hP h x0 32).getD 0) 2 x3) (cond (!decide ((lg_cmp (hL h ((hP h x0 32).getD 0) (x3).toNatClampNeg) x1) = 0)) (R 150 2 [some (.ref x0), some (.long x1), none, some (.int (x3 + 1))] [] h) (some (some (some (.int x3)), h))) none) none)) none) := (tr (r150_2 ..) (tr (r150_3 ..) (tr (r150_4 ..) (cgT (tr (r150_5 ..) (cgB (tr (r150_17 ..) (r150_18 ..)) (tr (r150_6 ..) (tr (r150_7 ..) (cgT (tr (r150_8 ..) (tr (r150_9 ..) (cgT (tr (r150_10 ..) (tr (r150_11 ..) (tr (r150_12 ..) (cgB (tr (r150_15 ..) (r150_16 ..)) (tr (r150_13 ..) (r150_14 ..))))))))))))))))))
theorem e151 (x0 : Nat) (x1 : Int32) (h : A_H) : C 151 [.ref x0, .int x1] h = R 151 0 [some (.ref x0), some (.int x1)] [] h := rfl
theorem r151_0 (ls : A_V) (st : List Value) (h : A_H) : R 151 0 ls st h = a_do a_nL R R 151 (s_aldl 0 1 ls st h) := a_R_eq ..
theorem r151_1 (ls : A_V) (st : List Value) (h : A_H) : R 151 1 ls st h = a_do a_nL R R 151 (s_getR 12 13 2 ls st h) := a_R_eq ..
theorem r151_2 (ls : A_V) (st : List Value) (h : A_H) : R 151 2 ls st h = a_do a_nL R R 151 (s_ildl 1 3 ls st h) := a_R_eq ..
theorem r151_3 (ls : A_V) (st : List Value) (h : A_H) : R 151 3 ls st h = a_do a_nL R R 151 (s_ial 0 4 ls st h) := a_R_eq ..
theorem r151_4 (ls : A_V) (st : List Value) (h : A_H) : R 151 4 ls st h = a_do a_nL R R 151 (s_push (.int (-1)) 5 ls st h) := a_R_eq ..
theorem r151_5 (ls : A_V) (st : List Value) (h : A_H) : R 151 5 ls st h = a_do a_nL R R 151 (s_if2 (fun x y => decide (x = y)) 8 6 ls st h) := a_R_eq ..
theorem r151_6 (ls : A_V) (st : List Value) (h : A_H) : R 151 6 ls st h = a_do a_nL R R 151 (s_push (.int 1) 7 ls st h) := a_R_eq ..
theorem r151_7 (ls : A_V) (st : List Value) (h : A_H) : R 151 7 ls st h = a_do a_nL R R 151 (s_goto 9 ls st h) := a_R_eq ..
theorem r151_8 (ls : A_V) (st : List Value) (h : A_H) : R 151 8 ls st h = a_do a_nL R R 151 (s_push (.int 0) 9 ls st h) := a_R_eq ..
theorem r151_9 (ls : A_V) (st : List Value) (h : A_H) : R 151 9 ls st h = a_do a_nL R R 151 (s_zret ls st h) := a_R_eq ..
theorem b151_0 (x0 : Nat) (x1 : Int32) (h : A_H) : R 151 0 [some (.ref x0), some (.int x1)] [] h = (cond (isO h x0 12 && (hP h x0 13).isSome) (cond (isA h ((hP h x0 13).getD 0) 0 x1) (cond (decide ((hI h ((hP h x0 13).getD 0) (x1).toNatClampNeg) = (-1 : Int32))) (cond (decide ((0 : Int32) = 0) || decide ((0 : Int32) = 1)) (some (some (some (.int (0 : Int32))), h)) none) (cond (decide ((1 : Int32) = 0) || decide ((1 : Int32) = 1)) (some (some (some (.int (1 : Int32))), h)) none)) none) none) := (tr (r151_0 ..) (tr (r151_1 ..) (cgT (tr (r151_2 ..) (tr (r151_3 ..) (cgT (tr (r151_4 ..) (tr (r151_5 ..) (cgB (tr (r151_8 ..) (r151_9 ..)) (tr (r151_6 ..) (tr (r151_7 ..) (r151_9 ..))))))))))))
theorem e152 (x0 : Nat) (x1 : Int32) (x2 : Int32) (h : A_H) : C 152 [.ref x0, .int x1, .int x2] h = R 152 0 [some (.ref x0), some (.int x1), some (.int x2)] [] h := rfl
theorem r152_0 (ls : A_V) (st : List Value) (h : A_H) : R 152 0 ls st h = a_do a_nL R R 152 (s_aldl 0 1 ls st h) := a_R_eq ..
theorem r152_1 (ls : A_V) (st : List Value) (h : A_H) : R 152 1 ls st h = a_do a_nL R R 152 (s_getR 12 20 2 ls st h) := a_R_eq ..
theorem r152_2 (ls : A_V) (st : List Value) (h : A_H) : R 152 2 ls st h = a_do a_nL R R 152 (s_ildl 1 3 ls st h) := a_R_eq ..
theorem r152_3 (ls : A_V) (st : List Value) (h : A_H) : R 152 3 ls st h = a_do a_nL R R 152 (s_ial 0 4 ls st h) := a_R_eq ..
theorem r152_4 (ls : A_V) (st : List Value) (h : A_H) : R 152 4 ls st h = a_do a_nL R R 152 (s_push (.int 4) 5 ls st h) := a_R_eq ..
theorem r152_5 (ls : A_V) (st : List Value) (h : A_H) : R 152 5 ls st h = a_do a_nL R R 152 (s_if2 (fun x y => decide (x = y)) 24 6 ls st h) := a_R_eq ..
theorem r152_6 (ls : A_V) (st : List Value) (h : A_H) : R 152 6 ls st h = a_do a_nL R R 152 (s_ildl 2 7 ls st h) := a_R_eq ..
theorem r152_7 (ls : A_V) (st : List Value) (h : A_H) : R 152 7 ls st h = a_do a_nL R R 152 (s_aldl 0 8 ls st h) := a_R_eq ..
theorem r152_8 (ls : A_V) (st : List Value) (h : A_H) : R 152 8 ls st h = a_do a_nL R R 152 (s_getR 12 20 9 ls st h) := a_R_eq ..
theorem r152_9 (ls : A_V) (st : List Value) (h : A_H) : R 152 9 ls st h = a_do a_nL R R 152 (s_ildl 1 10 ls st h) := a_R_eq ..
theorem r152_10 (ls : A_V) (st : List Value) (h : A_H) : R 152 10 ls st h = a_do a_nL R R 152 (s_ial 0 11 ls st h) := a_R_eq ..
theorem r152_11 (ls : A_V) (st : List Value) (h : A_H) : R 152 11 ls st h = a_do a_nL R R 152 (s_if1 (fun x => !decide (x = 0)) 14 12 ls st h) := a_R_eq ..
theorem r152_12 (ls : A_V) (st : List Value) (h : A_H) : R 152 12 ls st h = a_do a_nL R R 152 (s_push (.int 3) 13 ls st h) := a_R_eq ..
theorem r152_13 (ls : A_V) (st : List Value) (h : A_H) : R 152 13 ls st h = a_do a_nL R R 152 (s_goto 21 ls st h) := a_R_eq ..
theorem r152_14 (ls : A_V) (st : List Value) (h : A_H) : R 152 14 ls st h = a_do a_nL R R 152 (s_aldl 0 15 ls st h) := a_R_eq ..
theorem r152_15 (ls : A_V) (st : List Value) (h : A_H) : R 152 15 ls st h = a_do a_nL R R 152 (s_getR 12 12 16 ls st h) := a_R_eq ..
theorem r152_16 (ls : A_V) (st : List Value) (h : A_H) : R 152 16 ls st h = a_do a_nL R R 152 (s_aldl 0 17 ls st h) := a_R_eq ..
theorem r152_17 (ls : A_V) (st : List Value) (h : A_H) : R 152 17 ls st h = a_do a_nL R R 152 (s_getR 12 21 18 ls st h) := a_R_eq ..
theorem r152_18 (ls : A_V) (st : List Value) (h : A_H) : R 152 18 ls st h = a_do a_nL R R 152 (s_ildl 1 19 ls st h) := a_R_eq ..
theorem r152_19 (ls : A_V) (st : List Value) (h : A_H) : R 152 19 ls st h = a_do a_nL R R 152 (s_ial 0 20 ls st h) := a_R_eq ..
theorem r152_20 (ls : A_V) (st : List Value) (h : A_H) : R 152 20 ls st h = a_do a_nL R R 152 (s_ial 0 21 ls st h) := a_R_eq ..
theorem r152_21 (ls : A_V) (st : List Value) (h : A_H) : R 152 21 ls st h = a_do a_nL R R 152 (s_if2 (fun x y => decide (x ≤ y)) 24 22 ls st h) := a_R_eq ..
theorem r152_22 (ls : A_V) (st : List Value) (h : A_H) : R 152 22 ls st h = a_do a_nL R R 152 (s_push (.int 1) 23 ls st h) := a_R_eq ..
theorem r152_23 (ls : A_V) (st : List Value) (h : A_H) : R 152 23 ls st h = a_do a_nL R R 152 (s_goto 25 ls st h) := a_R_eq ..
theorem r152_24 (ls : A_V) (st : List Value) (h : A_H) : R 152 24 ls st h = a_do a_nL R R 152 (s_push (.int 0) 25 ls st h) := a_R_eq ..
theorem r152_25 (ls : A_V) (st : List Value) (h : A_H) : R 152 25 ls st h = a_do a_nL R R 152 (s_zret ls st h) := a_R_eq ..
theorem b152_0 (x0 : Nat) (x1 : Int32) (x2 : Int32) (h : A_H) : R 152 0 [some (.ref x0), some (.int x1), some (.int x2)] [] h = (cond (isO h x0 12 && (hP h x0 20).isSome) (cond (isA h ((hP h x0 20).getD 0) 0 x1) (cond (decide ((hI h ((hP h x0 20).getD 0) (x1).toNatClampNeg) = (4 : Int32))) (cond (decide ((0 : Int32) = 0) || decide ((0 : Int32) = 1)) (some (some (some (.int (0 : Int32))), h)) none) (cond (isO h x0 12 && (hP h x0 20).isSome) (cond (isA h ((hP h x0 20).getD 0) 0 x1) (cond (!decide ((hI h ((hP h x0 20).getD 0) (x1).toNatClampNeg) = 0)) (cond (isO h x0 12 && (hP h x0 12).isSome) (cond (isO h x0 12 && (hP h x0 21).isSome) (cond (isA h ((hP h x0 21).getD 0) 0 x1) (cond (isA h ((hP h x0 12).getD 0) 0 (hI h ((hP h x0 21).getD 0) (x1).toNatClampNeg)) (cond (decide (x2 ≤ (hI h ((hP h x0 12).getD 0) ((hI h ((hP h x0 21).getD 0) (x1).toNatClampNeg)).toNatClampNeg))) (cond (decide ((0 : Int32) = 0) || decide ((0 : Int32) = 1)) (some (some (some (.int (0 : Int32))), h)) none) (cond (decide ((1 : Int32) = 0) || decide ((1 : Int32) = 1)) (some (some (some (.int (1 : Int32))), h)) none)) none) none) none) none) (cond (decide (x2 ≤ (3 : Int32))) (cond (decide ((0 : Int32) = 0) || decide ((0 : Int32) = 1)) (some (some (some (.int (0 : Int32))), h)) none) (cond (decide ((1 : Int32) = 0) || decide ((1 : Int32) = 1)) (some (some (some (.int (1 : Int32))), h)) none))) none) none)) none) none) := (tr (r152_0 ..) (tr (r152_1 ..) (cgT (tr (r152_2 ..) (tr (r152_3 ..) (cgT (tr (r152_4 ..) (tr (r152_5 ..) (cgB (tr (r152_24 ..) (r152_25 ..)) (tr (r152_6 ..) (tr (r152_7 ..) (tr (r152_8 ..) (cgT (tr (r152_9 ..) (tr (r152_10 ..) (cgT (tr (r152_11 ..) (cgB (tr (r152_14 ..) (tr (r152_15 ..) (cgT (tr (r152_16 ..) (tr (r152_17 ..) (cgT (tr (r152_18 ..) (tr (r152_19 ..) (cgT (tr (r152_20 ..) (cgT (tr (r152_21 ..) (cgB (tr (r152_24 ..) (r152_25 ..)) (tr (r152_22 ..) (tr (r152_23 ..) (r152_25 ..)))))))))))))))) (tr (r152_12 ..) (tr (r152_13 ..) (tr (r152_21 ..) (cgB (tr (r152_24 ..) (r152_25 ..)) (tr (r152_22 ..) (tr (r152_23 ..) (r152_25 ..)))))))))))))))))))))))))
theorem e278 (x0 : Int32) (h : A_H) : C 278 [.int x0] h = R 278 0 [some (.int x0)] [] h := rfl
theorem r278_0 (ls : A_V) (st : List Value) (h : A_H) : R 278 0 ls st h = a_do a_nL R R 278 (s_ildl 0 1 ls st h) := a_R_eq ..
theorem r278_1 (ls : A_V) (st : List Value) (h : A_H) : R 278 1 ls st h = a_do a_nL R R 278 (s_ildl 0 2 ls st h) := a_R_eq ..
theorem r278_2 (ls : A_V) (st : List Value) (h : A_H) : R 278 2 ls st h = a_do a_nL R R 278 (s_push (.int 1) 3 ls st h) := a_R_eq ..
theorem r278_3 (ls : A_V) (st : List Value) (h : A_H) : R 278 3 ls st h = a_do a_nL R R 278 (s_bi (fun x y => (x.toUInt32 >>> (y.toUInt32 &&& Int32.toUInt32 31)).toInt32) 4 ls st h) := a_R_eq ..
theorem r278_4 (ls : A_V) (st : List Value) (h : A_H) : R 278 4 ls st h = a_do a_nL R R 278 (s_push (.int 1431655765) 5 ls st h) := a_R_eq ..
theorem r278_5 (ls : A_V) (st : List Value) (h : A_H) : R 278 5 ls st h = a_do a_nL R R 278 (s_bi (fun x y => x &&& y) 6 ls st h) := a_R_eq ..
theorem r278_6 (ls : A_V) (st : List Value) (h : A_H) : R 278 6 ls st h = a_do a_nL R R 278 (s_bi (fun x y => x - y) 7 ls st h) := a_R_eq ..
theorem r278_7 (ls : A_V) (st : List Value) (h : A_H) : R 278 7 ls st h = a_do a_nL R R 278 (s_ist 0 8 ls st h) := a_R_eq ..
theorem r278_8 (ls : A_V) (st : List Value) (h : A_H) : R 278 8 ls st h = a_do a_nL R R 278 (s_ildl 0 9 ls st h) := a_R_eq ..
theorem r278_9 (ls : A_V) (st : List Value) (h : A_H) : R 278 9 ls st h = a_do a_nL R R 278 (s_push (.int 858993459) 10 ls st h) := a_R_eq ..
theorem r278_10 (ls : A_V) (st : List Value) (h : A_H) : R 278 10 ls st h = a_do a_nL R R 278 (s_bi (fun x y => x &&& y) 11 ls st h) := a_R_eq ..
theorem r278_11 (ls : A_V) (st : List Value) (h : A_H) : R 278 11 ls st h = a_do a_nL R R 278 (s_ildl 0 12 ls st h) := a_R_eq ..
theorem r278_12 (ls : A_V) (st : List Value) (h : A_H) : R 278 12 ls st h = a_do a_nL R R 278 (s_push (.int 2) 13 ls st h) := a_R_eq ..
theorem r278_13 (ls : A_V) (st : List Value) (h : A_H) : R 278 13 ls st h = a_do a_nL R R 278 (s_bi (fun x y => (x.toUInt32 >>> (y.toUInt32 &&& Int32.toUInt32 31)).toInt32) 14 ls st h) := a_R_eq ..
theorem r278_14 (ls : A_V) (st : List Value) (h : A_H) : R 278 14 ls st h = a_do a_nL R R 278 (s_push (.int 858993459) 15 ls st h) := a_R_eq ..
theorem r278_15 (ls : A_V) (st : List Value) (h : A_H) : R 278 15 ls st h = a_do a_nL R R 278 (s_bi (fun x y => x &&& y) 16 ls st h) := a_R_eq ..
theorem r278_16 (ls : A_V) (st : List Value) (h : A_H) : R 278 16 ls st h = a_do a_nL R R 278 (s_bi (fun x y => x + y) 17 ls st h) := a_R_eq ..
theorem r278_17 (ls : A_V) (st : List Value) (h : A_H) : R 278 17 ls st h = a_do a_nL R R 278 (s_ist 0 18 ls st h) := a_R_eq ..
theorem r278_18 (ls : A_V) (st : List Value) (h : A_H) : R 278 18 ls st h = a_do a_nL R R 278 (s_ildl 0 19 ls st h) := a_R_eq ..
theorem r278_19 (ls : A_V) (st : List Value) (h : A_H) : R 278 19 ls st h = a_do a_nL R R 278 (s_ildl 0 20 ls st h) := a_R_eq ..
theorem r278_20 (ls : A_V) (st : List Value) (h : A_H) : R 278 20 ls st h = a_do a_nL R R 278 (s_push (.int 4) 21 ls st h) := a_R_eq ..
theorem r278_21 (ls : A_V) (st : List Value) (h : A_H) : R 278 21 ls st h = a_do a_nL R R 278 (s_bi (fun x y => (x.toUInt32 >>> (y.toUInt32 &&& Int32.toUInt32 31)).toInt32) 22 ls st h) := a_R_eq ..
theorem r278_22 (ls : A_V) (st : List Value) (h : A_H) : R 278 22 ls st h = a_do a_nL R R 278 (s_bi (fun x y => x + y) 23 ls st h) := a_R_eq ..
theorem r278_23 (ls : A_V) (st : List Value) (h : A_H) : R 278 23 ls st h = a_do a_nL R R 278 (s_push (.int 252645135) 24 ls st h) := a_R_eq ..
theorem r278_24 (ls : A_V) (st : List Value) (h : A_H) : R 278 24 ls st h = a_do a_nL R R 278 (s_bi (fun x y => x &&& y) 25 ls st h) := a_R_eq ..
theorem r278_25 (ls : A_V) (st : List Value) (h : A_H) : R 278 25 ls st h = a_do a_nL R R 278 (s_ist 0 26 ls st h) := a_R_eq ..
theorem r278_26 (ls : A_V) (st : List Value) (h : A_H) : R 278 26 ls st h = a_do a_nL R R 278 (s_ildl 0 27 ls st h) := a_R_eq ..
theorem r278_27 (ls : A_V) (st : List Value) (h : A_H) : R 278 27 ls st h = a_do a_nL R R 278 (s_ildl 0 28 ls st h) := a_R_eq ..
theorem r278_28 (ls : A_V) (st : List Value) (h : A_H) : R 278 28 ls st h = a_do a_nL R R 278 (s_push (.int 8) 29 ls st h) := a_R_eq ..
theorem r278_29 (ls : A_V) (st : List Value) (h : A_H) : R 278 29 ls st h = a_do a_nL R R 278 (s_bi (fun x y => (x.toUInt32 >>> (y.toUInt32 &&& Int32.toUInt32 31)).toInt32) 30 ls st h) := a_R_eq ..
theorem r278_30 (ls : A_V) (st : List Value) (h : A_H) : R 278 30 ls st h = a_do a_nL R R 278 (s_bi (fun x y => x + y) 31 ls st h) := a_R_eq ..
theorem r278_31 (ls : A_V) (st : List Value) (h : A_H) : R 278 31 ls st h = a_do a_nL R R 278 (s_ist 0 32 ls st h) := a_R_eq ..
theorem r278_32 (ls : A_V) (st : List Value) (h : A_H) : R 278 32 ls st h = a_do a_nL R R 278 (s_ildl 0 33 ls st h) := a_R_eq ..
theorem r278_33 (ls : A_V) (st : List Value) (h : A_H) : R 278 33 ls st h = a_do a_nL R R 278 (s_ildl 0 34 ls st h) := a_R_eq ..
theorem r278_34 (ls : A_V) (st : List Value) (h : A_H) : R 278 34 ls st h = a_do a_nL R R 278 (s_push (.int 16) 35 ls st h) := a_R_eq ..
theorem r278_35 (ls : A_V) (st : List Value) (h : A_H) : R 278 35 ls st h = a_do a_nL R R 278 (s_bi (fun x y => (x.toUInt32 >>> (y.toUInt32 &&& Int32.toUInt32 31)).toInt32) 36 ls st h) := a_R_eq ..
theorem r278_36 (ls : A_V) (st : List Value) (h : A_H) : R 278 36 ls st h = a_do a_nL R R 278 (s_bi (fun x y => x + y) 37 ls st h) := a_R_eq ..
theorem r278_37 (ls : A_V) (st : List Value) (h : A_H) : R 278 37 ls st h = a_do a_nL R R 278 (s_ist 0 38 ls st h) := a_R_eq ..
theorem r278_38 (ls : A_V) (st : List Value) (h : A_H) : R 278 38 ls st h = a_do a_nL R R 278 (s_ildl 0 39 ls st h) := a_R_eq ..
theorem r278_39 (ls : A_V) (st : List Value) (h : A_H) : R 278 39 ls st h = a_do a_nL R R 278 (s_push (.int 63) 40 ls st h) := a_R_eq ..
theorem r278_40 (ls : A_V) (st : List Value) (h : A_H) : R 278 40 ls st h = a_do a_nL R R 278 (s_bi (fun x y => x &&& y) 41 ls st h) := a_R_eq ..
theorem r278_41 (ls : A_V) (st : List Value) (h : A_H) : R 278 41 ls st h = a_do a_nL R R 278 (s_iret ls st h) := a_R_eq ..
theorem b278_0 (x0 : Int32) (h : A_H) : R 278 0 [some (.int x0)] [] h = (some (some (some (.int ((((((((x0 - (((x0.toUInt32 >>> ((1 : Int32).toUInt32 &&& Int32.toUInt32 31)).toInt32) &&& (1431655765 : Int32))) &&& (858993459 : Int32)) + ((((x0 - (((x0.toUInt32 >>> ((1 : Int32).toUInt32 &&& Int32.toUInt32 31)).toInt32) &&& (1431655765 : Int32))).toUInt32 >>> ((2 : Int32).toUInt32 &&& Int32.toUInt32 31)).toInt32) &&& (858993459 : Int32))) + (((((x0 - (((x0.toUInt32 >>> ((1 : Int32).toUInt32 &&& Int32.toUInt32 31)).toInt32) &&& (1431655765 : Int32))) &&& (858993459 : Int32)) + ((((x0 - (((x0.toUInt32 >>> ((1 : Int32).toUInt32 &&& Int32.toUInt32 31)).toInt32) &&& (1431655765 : Int32))).toUInt32 >>> ((2 : Int32).toUInt32 &&& Int32.toUInt32 31)).toInt32) &&& (858993459 : Int32))).toUInt32 >>> ((4 : Int32).toUInt32 &&& Int32.toUInt32 31)).toInt32)) &&& (252645135 : Int32)) + (((((((x0 - (((x0.toUInt32 >>> ((1 : Int32).toUInt32 &&& Int32.toUInt32 31)).toInt32) &&& (1431655765 : Int32))) &&& (858993459 : Int32)) + ((((x0 - (((x0.toUInt32 >>> ((1 : Int32).toUInt32 &&& Int32.toUInt32 31)).toInt32) &&& (1431655765 : Int32))).toUInt32 >>> ((2 : Int32).toUInt32 &&& Int32.toUInt32 31)).toInt32) &&& (858993459 : Int32))) + (((((x0 - (((x0.toUInt32 >>> ((1 : Int32).toUInt32 &&& Int32.toUInt32 31)).toInt32) &&& (1431655765 : Int32))) &&& (858993459 : Int32)) + ((((x0 - (((x0.toUInt32 >>> ((1 : Int32).toUInt32 &&& Int32.toUInt32 31)).toInt32) &&& (1431655765 : Int32))).toUInt32 >>> ((2 : Int32).toUInt32 &&& Int32.toUInt32 31)).toInt32) &&& (858993459 : Int32))).toUInt32 >>> ((4 : Int32).toUInt32 &&& Int32.toUInt32 31)).toInt32)) &&& (252645135 : Int32)).toUInt32 >>> ((8 : Int32).toUInt32 &&& Int32.toUInt32 31)).toInt32)) + ((((((((x0 - (((x0.toUInt32 >>> ((1 : Int32).toUInt32 &&& Int32.toUInt32 31)).toInt32) &&& (1431655765 : Int32))) &&& (858993459 : Int32)) + ((((x0 - (((x0.toUInt32 >>> ((1 : Int32).toUInt32 &&& Int32.toUInt32 31)).toInt32) &&& (1431655765 : Int32))).toUInt32 >>> ((2 : Int32).toUInt32 &&& Int32.toUInt32 31)).toInt32) &&& (858993459 : Int32))) + (((((x0 - (((x0.toUInt32 >>> ((1 : Int32).toUInt32 &&& Int32.toUInt32 31)).toInt32) &&& (1431655765 : Int32))) &&& (858993459 : Int32)) + ((((x0 - (((x0.toUInt32 >>> ((1 : Int32).toUInt32 &&& Int32.toUInt32 31)).toInt32) &&& (1431655765 : Int32))).toUInt32 >>> ((2 : Int32).toUInt32 &&& Int32.toUInt32 31)).toInt32) &&& (858993459 : Int32))).toUInt32 >>> ((4 : Int32).toUInt32 &&& Int32.toUInt32 31)).toInt32)) &&& (252645135 : Int32)) + (((((((x0 - (((x0.toUInt32 >>> ((1 : Int32).toUInt32 &&& Int32.toUInt32 31)).toInt32) &&& (1431655765 : Int32))) &&& (858993459 : Int32)) + ((((x0 - (((x0.toUInt32 >>> ((1 : Int32).toUInt32 &&& Int32.toUInt32 31)).toInt32) &&& (1431655765 : Int32))).toUInt32 >>> ((2 : Int32).toUInt32 &&& Int32.toUInt32 31)).toInt32) &&& (858993459 : Int32))) + (((((x0 - (((x0.toUInt32 >>> ((1 : Int32).toUInt32 &&& Int32.toUInt32 31)).toInt32) &&& (1431655765 : Int32))) &&& (858993459 : Int32)) + ((((x0 - (((x0.toUInt32 >>> ((1 : Int32).toUInt32 &&& Int32.toUInt32 31)).toInt32) &&& (1431655765 : Int32))).toUInt32 >>> ((2 : Int32).toUInt32 &&& Int32.toUInt32 31)).toInt32) &&& (858993459 : Int32))).toUInt32 >>> ((4 : Int32).toUInt32 &&& Int32.toUInt32 31)).toInt32)) &&& (252645135 : Int32)).toUInt32 >>> ((8 : Int32).toUInt32 &&& Int32.toUInt32 31)).toInt32)).toUInt32 >>> ((16 : Int32).toUInt32 &&& Int32.toUInt32 31)).toInt32)) &&& (63 : Int32)))), h)) := (tr (r278_0 ..) (tr (r278_1 ..) (tr (r278_2 ..) (tr (r278_3 ..) (tr (r278_4 ..) (tr (r278_5 ..) (tr (r278_6 ..) (tr (r278_7 ..) (tr (r278_8 ..) (tr (r278_9 ..) (tr (r278_10 ..) (tr (r278_11 ..) (tr (r278_12 ..) (tr (r278_13 ..) (tr (r278_14 ..) (tr (r278_15 ..) (tr (r278_16 ..) (tr (r278_17 ..) (tr (r278_18 ..) (tr (r278_19 ..) (tr (r278_20 ..) (tr (r278_21 ..) (tr (r278_22 ..) (tr (r278_23 ..) (tr (r278_24 ..) (tr (r278_25 ..) (tr (r278_26 ..) (tr (r278_27 ..) (tr (r278_28 ..) (tr (r278_29 ..) (tr (r278_30 ..) (tr (r278_31 ..) (tr (r278_32 ..) (tr (r278_33 ..) (tr (r278_34 ..) (tr (r278_35 ..) (tr (r278_36 ..) (tr (r278_37 ..) (tr (r278_38 ..) (tr (r278_39 ..) (tr (r278_40 ..) (r278_41 ..))))))))))))))))))))))))))))))))))))))))))
theorem e279 (x0 : Int32) (x1 : Int32) (h : A_H) : C 279 [.int x0, .int x1] h = R 279 0 [some (.int x0), some (.int x1)] [] h := rfl
theorem r279_0 (ls : A_V) (st : List Value) (h : A_H) : R 279 0 ls st h = a_do a_nL R R 279 (s_ildl 0 1 ls st h) := a_R_eq ..
theorem r279_1 (ls : A_V) (st : List Value) (h : A_H) : R 279 1 ls st h = a_do a_nL R R 279 (s_ildl 1 2 ls st h) := a_R_eq ..
theorem r279_2 (ls : A_V) (st : List Value) (h : A_H) : R 279 2 ls st h = a_do a_nL R R 279 (s_if2 (fun x y => decide (x < y)) 5 3 ls st h) := a_R_eq ..
theorem r279_3 (ls : A_V) (st : List Value) (h : A_H) : R 279 3 ls st h = a_do a_nL R R 279 (s_ildl 0 4 ls st h) := a_R_eq ..
theorem r279_4 (ls : A_V) (st : List Value) (h : A_H) : R 279 4 ls st h = a_do a_nL R R 279 (s_goto 6 ls st h) := a_R_eq ..
theorem r279_5 (ls : A_V) (st : List Value) (h : A_H) : R 279 5 ls st h = a_do a_nL R R 279 (s_ildl 1 6 ls st h) := a_R_eq ..
theorem r279_6 (ls : A_V) (st : List Value) (h : A_H) : R 279 6 ls st h = a_do a_nL R R 279 (s_iret ls st h) := a_R_eq ..
theorem b279_0 (x0 : Int32) (x1 : Int32) (h : A_H) : R 279 0 [some (.int x0), some (.int x1)] [] h = (cond (decide (x0 < x1)) (some (some (some (.int x1)), h)) (some (some (some (.int x0)), h))) := (tr (r279_0 ..) (tr (r279_1 ..) (tr (r279_2 ..) (cgB (tr (r279_5 ..) (r279_6 ..)) (tr (r279_3 ..) (tr (r279_4 ..) (r279_6 ..)))))))
theorem e280 (x0 : Int64) (x1 : Int64) (h : A_H) : C 280 [.long x0, .long x1] h = R 280 0 [some (.long x0), none, some (.long x1), none] [] h := rfl
theorem r280_0 (ls : A_V) (st : List Value) (h : A_H) : R 280 0 ls st h = a_do a_nL R R 280 (s_lldl 0 1 ls st h) := a_R_eq ..
theorem r280_1 (ls : A_V) (st : List Value) (h : A_H) : R 280 1 ls st h = a_do a_nL R R 280 (s_lldl 2 2 ls st h) := a_R_eq ..
theorem r280_2 (ls : A_V) (st : List Value) (h : A_H) : R 280 2 ls st h = a_do a_nL R R 280 (s_lcmp 3 ls st h) := a_R_eq ..
theorem r280_3 (ls : A_V) (st : List Value) (h : A_H) : R 280 3 ls st h = a_do a_nL R R 280 (s_if1 (fun x => decide (x < 0)) 6 4 ls st h) := a_R_eq ..
theorem r280_4 (ls : A_V) (st : List Value) (h : A_H) : R 280 4 ls st h = a_do a_nL R R 280 (s_lldl 0 5 ls st h) := a_R_eq ..
theorem r280_5 (ls : A_V) (st : List Value) (h : A_H) : R 280 5 ls st h = a_do a_nL R R 280 (s_goto 7 ls st h) := a_R_eq ..
theorem r280_6 (ls : A_V) (st : List Value) (h : A_H) : R 280 6 ls st h = a_do a_nL R R 280 (s_lldl 2 7 ls st h) := a_R_eq ..
theorem r280_7 (ls : A_V) (st : List Value) (h : A_H) : R 280 7 ls st h = a_do a_nL R R 280 (s_lret ls st h) := a_R_eq ..
theorem b280_0 (x0 : Int64) (x2 : Int64) (h : A_H) : R 280 0 [some (.long x0), none, some (.long x2), none] [] h = (cond (decide ((lg_cmp x0 x2) < 0)) (some (some (some (.long x2)), h)) (some (some (some (.long x0)), h))) := (tr (r280_0 ..) (tr (r280_1 ..) (tr (r280_2 ..) (tr (r280_3 ..) (cgB (tr (r280_6 ..) (r280_7 ..)) (tr (r280_4 ..) (tr (r280_5 ..) (r280_7 ..))))))))
theorem e281 (x0 : Int32) (x1 : Int32) (h : A_H) : C 281 [.int x0, .int x1] h = R 281 0 [some (.int x0), some (.int x1)] [] h := rfl
theorem r281_0 (ls : A_V) (st : List Value) (h : A_H) : R 281 0 ls st h = a_do a_nL R R 281 (s_ildl 0 1 ls st h) := a_R_eq ..
theorem r281_1 (ls : A_V) (st : List Value) (h : A_H) : R 281 1 ls st h = a_do a_nL R R 281 (s_ildl 1 2 ls st h) := a_R_eq ..
theorem r281_2 (ls : A_V) (st : List Value) (h : A_H) : R 281 2 ls st h = a_do a_nL R R 281 (s_if2 (fun x y => decide (y < x)) 5 3 ls st h) := a_R_eq ..
theorem r281_3 (ls : A_V) (st : List Value) (h : A_H) : R 281 3 ls st h = a_do a_nL R R 281 (s_ildl 0 4 ls st h) := a_R_eq ..
theorem r281_4 (ls : A_V) (st : List Value) (h : A_H) : R 281 4 ls st h = a_do a_nL R R 281 (s_goto 6 ls st h) := a_R_eq ..
theorem r281_5 (ls : A_V) (st : List Value) (h : A_H) : R 281 5 ls st h = a_do a_nL R R 281 (s_ildl 1 6 ls st h) := a_R_eq ..
theorem r281_6 (ls : A_V) (st : List Value) (h : A_H) : R 281 6 ls st h = a_do a_nL R R 281 (s_iret ls st h) := a_R_eq ..
theorem b281_0 (x0 : Int32) (x1 : Int32) (h : A_H) : R 281 0 [some (.int x0), some (.int x1)] [] h = (cond (decide (x1 < x0)) (some (some (some (.int x1)), h)) (some (some (some (.int x0)), h))) := (tr (r281_0 ..) (tr (r281_1 ..) (tr (r281_2 ..) (cgB (tr (r281_5 ..) (r281_6 ..)) (tr (r281_3 ..) (tr (r281_4 ..) (r281_6 ..)))))))
theorem e284 (x0 : UInt32) (h : A_H) : C 284 [.float x0] h = R 284 0 [some (.float x0), none, none, none] [] h := rfl
theorem r284_0 (ls : A_V) (st : List Value) (h : A_H) : R 284 0 ls st h = a_do a_nL R R 284 (s_push (.long 0) 1 ls st h) := a_R_eq ..
theorem r284_1 (ls : A_V) (st : List Value) (h : A_H) : R 284 1 ls st h = a_do a_nL R R 284 (s_lst 1 2 ls st h) := a_R_eq ..
theorem r284_2 (ls : A_V) (st : List Value) (h : A_H) : R 284 2 ls st h = a_do a_nL R R 284 (s_push (.int 0) 3 ls st h) := a_R_eq ..
theorem r284_3 (ls : A_V) (st : List Value) (h : A_H) : R 284 3 ls st h = a_do a_nL R R 284 (s_ist 3 4 ls st h) := a_R_eq ..
theorem r284_4 (ls : A_V) (st : List Value) (h : A_H) : R 284 4 ls st h = a_do a_nL R R 284 (s_ildl 3 5 ls st h) := a_R_eq ..
theorem r284_5 (ls : A_V) (st : List Value) (h : A_H) : R 284 5 ls st h = a_do a_nL R R 284 (s_aldl 0 6 ls st h) := a_R_eq ..
theorem r284_6 (ls : A_V) (st : List Value) (h : A_H) : R 284 6 ls st h = a_do a_nL R R 284 (s_call 2 286 1 1 true 7 ls st h) := a_R_eq ..
theorem r284_7 (ls : A_V) (st : List Value) (h : A_H) : R 284 7 ls st h = a_do a_nL R R 284 (s_if2 (fun x y => decide (y ≤ x)) 23 8 ls st h) := a_R_eq ..
theorem r284_8 (ls : A_V) (st : List Value) (h : A_H) : R 284 8 ls st h = a_do a_nL R R 284 (s_push (.long 32) 9 ls st h) := a_R_eq ..
theorem r284_9 (ls : A_V) (st : List Value) (h : A_H) : R 284 9 ls st h = a_do a_nL R R 284 (s_lldl 1 10 ls st h) := a_R_eq ..
theorem r284_10 (ls : A_V) (st : List Value) (h : A_H) : R 284 10 ls st h = a_do a_nL R R 284 (s_bl (fun x y => x * y) 11 ls st h) := a_R_eq ..
theorem r284_11 (ls : A_V) (st : List Value) (h : A_H) : R 284 11 ls st h = a_do a_nL R R 284 (s_aldl 0 12 ls st h) := a_R_eq ..
theorem r284_12 (ls : A_V) (st : List Value) (h : A_H) : R 284 12 ls st h = a_do a_nL R R 284 (s_ildl 3 13 ls st h) := a_R_eq ..
theorem r284_13 (ls : A_V) (st : List Value) (h : A_H) : R 284 13 ls st h = a_do a_nL R R 284 (s_call 2 287 2 2 true 14 ls st h) := a_R_eq ..
theorem r284_14 (ls : A_V) (st : List Value) (h : A_H) : R 284 14 ls st h = a_do a_nL R R 284 (s_i2l 15 ls st h) := a_R_eq ..
theorem r284_15 (ls : A_V) (st : List Value) (h : A_H) : R 284 15 ls st h = a_do a_nL R R 284 (s_bl (fun x y => x + y) 16 ls st h) := a_R_eq ..
theorem r284_16 (ls : A_V) (st : List Value) (h : A_H) : R 284 16 ls st h = a_do a_nL R R 284 (s_push (.long 97) 17 ls st h) := a_R_eq ..
theorem r284_17 (ls : A_V) (st : List Value) (h : A_H) : R 284 17 ls st h = a_do a_nL R R 284 (s_bl (fun x y => x - y) 18 ls st h) := a_R_eq ..
theorem r284_18 (ls : A_V) (st : List Value) (h : A_H) : R 284 18 ls st h = a_do a_nL R R 284 (s_push (.long 1) 19 ls st h) := a_R_eq ..
theorem r284_19 (ls : A_V) (st : List Value) (h : A_H) : R 284 19 ls st h = a_do a_nL R R 284 (s_bl (fun x y => x + y) 20 ls st h) := a_R_eq ..
theorem r284_20 (ls : A_V) (st : List Value) (h : A_H) : R 284 20 ls st h = a_do a_nL R R 284 (s_lst 1 21 ls st h) := a_R_eq ..
theorem r284_21 (ls : A_V) (st : List Value) (h : A_H) : R 284 21 ls st h = a_do a_nL R R 284 (s_inc 3 1 22 ls st h) := a_R_eq ..
theorem r284_22 (ls : A_V) (st : List Value) (h : A_H) : R 284 22 ls st h = a_do a_nL R R 284 (s_goto 4 ls st h) := a_R_eq ..
theorem r284_23 (ls : A_V) (st : List Value) (h : A_H) : R 284 23 ls st h = a_do a_nL R R 284 (s_lldl 1 24 ls st h) := a_R_eq ..
theorem r284_24 (ls : A_V) (st : List Value) (h : A_H) : R 284 24 ls st h = a_do a_nL R R 284 (s_lret ls st h) := a_R_eq ..
theorem b284_0 (x0 : UInt32) (l1 : Option Value) (l2 : Option Value) (l3 : Option Value) (h : A_H) : R 284 0 [some (.float x0), l1, l2, l3] [] h = (R 284 4 [some (.float x0), some (.long (0 : Int64)), none, some (.int (0 : Int32))] [] h) := (tr (r284_0 ..) (tr (r284_1 ..) (tr (r284_2 ..) (r284_3 ..))))
theorem b284_4 (x0 : UInt32) (x1 : Int64) (x3 : Int32) (h : A_H) : R 284 4 [some (.float x0), some (.long x1), none, some (.int x3)] [] h = (cond (decide (0 < x0.toNat) && decide (x0.toNat ≤ 32)) (a_back R 284 (286, [.float x0], h, true, none, 7, [some (.float x0), some (.long x1), none, some (.int x3)], [.int x3]) (C 286 [.float x0] h)) none) := (tr (r284_4 ..) (tr (r284_5 ..) (r284_6 ..)))
theorem b284_7 (x0 : UInt32) (x1 : Int64) (x3 : Int32) (s0 : Int32) (s1 : Int32) (h : A_H) : R 284 7 [some (.float x0), some (.long x1), none, some (.int x3)] [.int s1, .int s0] h = (cond (decide (s1 ≤ s0)) (some (some (some (.long x1)), h)) (cond (decide (0 < x0.toNat) && decide (x0.toNat ≤ 32)) (a_back R 284 (287, [.float x0, .int x3], h, true, none, 14, [some (.float x0), some (.long x1), none, some (.int x3)], [.long ((32 : Int64) * x1)]) (C 287 [.float x0, .int x3] h)) none)) := (tr (r284_7 ..) (cgB (tr (r284_23 ..) (r284_24 ..)) (tr (r284_8 ..) (tr (r284_9 ..) (tr (r284_10 ..) (tr (r284_11 ..) (tr (r284_12 ..) (r284_13 ..))))))))
theorem b284_14 (x0 : UInt32) (x1 : Int64) (x3 : Int32) (s0 : Int64) (s1 : Int32) (h : A_H) : R 284 14 [some (.float x0), some (.long x1), none, some (.int x3)] [.int s1, .long s0] h = (R 284 4 [some (.float x0), some (.long (((s0 + (s1).toInt64) - (97 : Int64)) + (1 : Int64))), none, some (.int (x3 + 1))] [] h) := (tr (r284_14 ..) (tr (r284_15 ..) (tr (r284_16 ..) (tr (r284_17 ..) (tr (r284_18 ..) (tr (r284_19 ..) (tr (r284_20 ..) (tr (r284_21 ..) (r284_22 ..)))))))))
theorem e285 (x0 : UInt32) (h : A_H) : C 285 [.float x0] h = R 285 0 [some (.float x0), none, none, none] [] h := rfl
theorem r285_0 (ls : A_V) (st : List Value) (h : A_H) : R 285 0 ls st h = a_do a_nL R R 285 (s_push (.long 0) 1 ls st h) := a_R_eq ..
theorem r285_1 (ls : A_V) (st : List Value) (h : A_H) : R 285 1 ls st h = a_do a_nL R R 285 (s_lst 1 2 ls st h) := a_R_eq ..
theorem r285_2 (ls : A_V) (st : List Value) (h : A_H) : R 285 2 ls st h = a_do a_nL R R 285 (s_push (.int 0) 3 ls st h) := a_R_eq ..
theorem r285_3 (ls : A_V) (st : List Value) (h : A_H) : R 285 3 ls st h = a_do a_nL R R 285 (s_ist 3 4 ls st h) := a_R_eq ..
theorem r285_4 (ls : A_V) (st : List Value) (h : A_H) : R 285 4 ls st h = a_do a_nL R R 285 (s_ildl 3 5 ls st h) := a_R_eq ..
theorem r285_5 (ls : A_V) (st : List Value) (h : A_H) : R 285 5 ls st h = a_do a_nL R R 285 (s_aldl 0 6 ls st h) := a_R_eq ..
theorem r285_6 (ls : A_V) (st : List Value) (h : A_H) : R 285 6 ls st h = a_do a_nL R R 285 (s_call 2 286 1 1 true 7 ls st h) := a_R_eq ..
theorem r285_7 (ls : A_V) (st : List Value) (h : A_H) : R 285 7 ls st h = a_do a_nL R R 285 (s_if2 (fun x y => decide (y ≤ x)) 23 8 ls st h) := a_R_eq ..
theorem r285_8 (ls : A_V) (st : List Value) (h : A_H) : R 285 8 ls st h = a_do a_nL R R 285 (s_push (.long 32) 9 ls st h) := a_R_eq ..
theorem r285_9 (ls : A_V) (st : List Value) (h : A_H) : R 285 9 ls st h = a_do a_nL R R 285 (s_lldl 1 10 ls st h) := a_R_eq ..
theorem r285_10 (ls : A_V) (st : List Value) (h : A_H) : R 285 10 ls st h = a_do a_nL R R 285 (s_bl (fun x y => x * y) 11 ls st h) := a_R_eq ..
theorem r285_11 (ls : A_V) (st : List Value) (h : A_H) : R 285 11 ls st h = a_do a_nL R R 285 (s_aldl 0 12 ls st h) := a_R_eq ..
theorem r285_12 (ls : A_V) (st : List Value) (h : A_H) : R 285 12 ls st h = a_do a_nL R R 285 (s_ildl 3 13 ls st h) := a_R_eq ..
theorem r285_13 (ls : A_V) (st : List Value) (h : A_H) : R 285 13 ls st h = a_do a_nL R R 285 (s_call 2 287 2 2 true 14 ls st h) := a_R_eq ..
theorem r285_14 (ls : A_V) (st : List Value) (h : A_H) : R 285 14 ls st h = a_do a_nL R R 285 (s_push (.int 97) 15 ls st h) := a_R_eq ..
theorem r285_15 (ls : A_V) (st : List Value) (h : A_H) : R 285 15 ls st h = a_do a_nL R R 285 (s_bi (fun x y => x - y) 16 ls st h) := a_R_eq ..
theorem r285_16 (ls : A_V) (st : List Value) (h : A_H) : R 285 16 ls st h = a_do a_nL R R 285 (s_push (.int 1) 17 ls st h) := a_R_eq ..
theorem r285_17 (ls : A_V) (st : List Value) (h : A_H) : R 285 17 ls st h = a_do a_nL R R 285 (s_bi (fun x y => x + y) 18 ls st h) := a_R_eq ..
theorem r285_18 (ls : A_V) (st : List Value) (h : A_H) : R 285 18 ls st h = a_do a_nL R R 285 (s_i2l 19 ls st h) := a_R_eq ..
theorem r285_19 (ls : A_V) (st : List Value) (h : A_H) : R 285 19 ls st h = a_do a_nL R R 285 (s_bl (fun x y => x + y) 20 ls st h) := a_R_eq ..
theorem r285_20 (ls : A_V) (st : List Value) (h : A_H) : R 285 20 ls st h = a_do a_nL R R 285 (s_lst 1 21 ls st h) := a_R_eq ..
theorem r285_21 (ls : A_V) (st : List Value) (h : A_H) : R 285 21 ls st h = a_do a_nL R R 285 (s_inc 3 1 22 ls st h) := a_R_eq ..
theorem r285_22 (ls : A_V) (st : List Value) (h : A_H) : R 285 22 ls st h = a_do a_nL R R 285 (s_goto 4 ls st h) := a_R_eq ..
theorem r285_23 (ls : A_V) (st : List Value) (h : A_H) : R 285 23 ls st h = a_do a_nL R R 285 (s_lldl 1 24 ls st h) := a_R_eq ..
theorem r285_24 (ls : A_V) (st : List Value) (h : A_H) : R 285 24 ls st h = a_do a_nL R R 285 (s_lret ls st h) := a_R_eq ..
theorem b285_0 (x0 : UInt32) (l1 : Option Value) (l2 : Option Value) (l3 : Option Value) (h : A_H) : R 285 0 [some (.float x0), l1, l2, l3] [] h = (R 285 4 [some (.float x0), some (.long (0 : Int64)), none, some (.int (0 : Int32))] [] h) := (tr (r285_0 ..) (tr (r285_1 ..) (tr (r285_2 ..) (r285_3 ..))))
theorem b285_4 (x0 : UInt32) (x1 : Int64) (x3 : Int32) (h : A_H) : R 285 4 [some (.float x0), some (.long x1), none, some (.int x3)] [] h = (cond (decide (0 < x0.toNat) && decide (x0.toNat ≤ 32)) (a_back R 285 (286, [.float x0], h, true, none, 7, [some (.float x0), some (.long x1), none, some (.int x3)], [.int x3]) (C 286 [.float x0] h)) none) := (tr (r285_4 ..) (tr (r285_5 ..) (r285_6 ..)))
theorem b285_7 (x0 : UInt32) (x1 : Int64) (x3 : Int32) (s0 : Int32) (s1 : Int32) (h : A_H) : R 285 7 [some (.float x0), some (.long x1), none, some (.int x3)] [.int s1, .int s0] h = (cond (decide (s1 ≤ s0)) (some (some (some (.long x1)), h)) (cond (decide (0 < x0.toNat) && decide (x0.toNat ≤ 32)) (a_back R 285 (287, [.float x0, .int x3], h, true, none, 14, [some (.float x0), some (.long x1), none, some (.int x3)], [.long ((32 : Int64) * x1)]) (C 287 [.float x0, .int x3] h)) none)) := (tr (r285_7 ..) (cgB (tr (r285_23 ..) (r285_24 ..)) (tr (r285_8 ..) (tr (r285_9 ..) (tr (r285_10 ..) (tr (r285_11 ..) (tr (r285_12 ..) (r285_13 ..))))))))
theorem b285_14 (x0 : UInt32) (x1 : Int64) (x3 : Int32) (s0 : Int64) (s1 : Int32) (h : A_H) : R 285 14 [some (.float x0), some (.long x1), none, some (.int x3)] [.int s1, .long s0] h = (R 285 4 [some (.float x0), some (.long (s0 + (((s1 - (97 : Int32)) + (1 : Int32))).toInt64)), none, some (.int (x3 + 1))] [] h) := (tr (r285_14 ..) (tr (r285_15 ..) (tr (r285_16 ..) (tr (r285_17 ..) (tr (r285_18 ..) (tr (r285_19 ..) (tr (r285_20 ..) (tr (r285_21 ..) (r285_22 ..)))))))))
theorem e286 (x0 : UInt32) (h : A_H) : C 286 [.float x0] h = R 286 0 [some (.float x0)] [] h := rfl
theorem r286_0 (ls : A_V) (st : List Value) (h : A_H) : R 286 0 ls st h = a_do a_nL R R 286 (s_aldl 0 1 ls st h) := a_R_eq ..
theorem r286_1 (ls : A_V) (st : List Value) (h : A_H) : R 286 1 ls st h = a_do a_nL R R 286 (s_xgv 2 ls st h) := a_R_eq ..
theorem r286_2 (ls : A_V) (st : List Value) (h : A_H) : R 286 2 ls st h = a_do a_nL R R 286 (s_xbl 3 ls st h) := a_R_eq ..
theorem r286_3 (ls : A_V) (st : List Value) (h : A_H) : R 286 3 ls st h = a_do a_nL R R 286 (s_aldl 0 4 ls st h) := a_R_eq ..
theorem r286_4 (ls : A_V) (st : List Value) (h : A_H) : R 286 4 ls st h = a_do a_nL R R 286 (s_call 2 288 1 1 true 5 ls st h) := a_R_eq ..
theorem r286_5 (ls : A_V) (st : List Value) (h : A_H) : R 286 5 ls st h = a_do a_nL R R 286 (s_bi (fun x y => x >>> (y &&& 31)) 6 ls st h) := a_R_eq ..
theorem r286_6 (ls : A_V) (st : List Value) (h : A_H) : R 286 6 ls st h = a_do a_nL R R 286 (s_iret ls st h) := a_R_eq ..
theorem b286_0 (x0 : UInt32) (h : A_H) : R 286 0 [some (.float x0)] [] h = (cond (decide (0 < x0.toNat) && decide (x0.toNat ≤ 32)) (cond (decide (32 < (x0 + 32).toNat) && decide ((x0 + 32).toNat ≤ 64)) (cond (decide (0 < x0.toNat) && decide (x0.toNat ≤ 32)) (a_back R 286 (288, [.float x0], h, true, none, 5, [some (.float x0)], [.int (Int32.ofNat (a_T.getD ((x0 + 32).toNat - 33) []).length)]) (C 288 [.float x0] h)) none) none) none) := (tr (r286_0 ..) (tr (r286_1 ..) (cgT (tr (r286_2 ..) (cgT (tr (r286_3 ..) (r286_4 ..)))))))
theorem b286_5 (x0 : UInt32) (s0 : Int32) (s1 : Int32) (h : A_H) : R 286 5 [some (.float x0)] [.int s1, .int s0] h = (some (some (some (.int (s0 >>> (s1 &&& 31)))), h)) := (tr (r286_5 ..) (r286_6 ..))
theorem e287 (x0 : UInt32) (x1 : Int32) (h : A_H) : C 287 [.float x0, .int x1] h = R 287 0 [some (.float x0), some (.int x1)] [] h := rfl
theorem r287_0 (ls : A_V) (st : List Value) (h : A_H) : R 287 0 ls st h = a_do a_nL R R 287 (s_aldl 0 1 ls st h) := a_R_eq ..
theorem r287_1 (ls : A_V) (st : List Value) (h : A_H) : R 287 1 ls st h = a_do a_nL R R 287 (s_call 2 289 1 1 true 2 ls st h) := a_R_eq ..
theorem r287_2 (ls : A_V) (st : List Value) (h : A_H) : R 287 2 ls st h = a_do a_nL R R 287 (s_if1 (fun x => decide (x = 0)) 8 3 ls st h) := a_R_eq ..
theorem r287_3 (ls : A_V) (st : List Value) (h : A_H) : R 287 3 ls st h = a_do a_nL R R 287 (s_aldl 0 4 ls st h) := a_R_eq ..
theorem r287_4 (ls : A_V) (st : List Value) (h : A_H) : R 287 4 ls st h = a_do a_nL R R 287 (s_xgv 5 ls st h) := a_R_eq ..
theorem r287_5 (ls : A_V) (st : List Value) (h : A_H) : R 287 5 ls st h = a_do a_nL R R 287 (s_ildl 1 6 ls st h) := a_R_eq ..
theorem r287_6 (ls : A_V) (st : List Value) (h : A_H) : R 287 6 ls st h = a_do a_nL R R 287 (s_call 0 291 2 2 true 7 ls st h) := a_R_eq ..
theorem r287_7 (ls : A_V) (st : List Value) (h : A_H) : R 287 7 ls st h = a_do a_nL R R 287 (s_cret ls st h) := a_R_eq ..
theorem r287_8 (ls : A_V) (st : List Value) (h : A_H) : R 287 8 ls st h = a_do a_nL R R 287 (s_aldl 0 9 ls st h) := a_R_eq ..
theorem r287_9 (ls : A_V) (st : List Value) (h : A_H) : R 287 9 ls st h = a_do a_nL R R 287 (s_xgv 10 ls st h) := a_R_eq ..
theorem r287_10 (ls : A_V) (st : List Value) (h : A_H) : R 287 10 ls st h = a_do a_nL R R 287 (s_ildl 1 11 ls st h) := a_R_eq ..
theorem r287_11 (ls : A_V) (st : List Value) (h : A_H) : R 287 11 ls st h = a_do a_nL R R 287 (s_no ls st h) := a_R_eq ..
theorem b287_0 (x0 : UInt32) (x1 : Int32) (h : A_H) : R 287 0 [some (.float x0), some (.int x1)] [] h = (cond (decide (0 < x0.toNat) && decide (x0.toNat ≤ 32)) (a_back R 287 (289, [.float x0], h, true, none, 2, [some (.float x0), some (.int x1)], []) (C 289 [.float x0] h)) none) := (tr (r287_0 ..) (r287_1 ..))
theorem b287_2 (x0 : UInt32) (x1 : Int32) (s0 : Int32) (h : A_H) : R 287 2 [some (.float x0), some (.int x1)] [.int s0] h = (cond (decide (s0 = 0)) (cond (decide (0 < x0.toNat) && decide (x0.toNat ≤ 32)) none none) (cond (decide (0 < x0.toNat) && decide (x0.toNat ≤ 32)) (a_back R 287 (291, [.float (x0 + 32), .int x1], h, true, none, 7, [some (.float x0), some (.int x1)], []) (C 291 [.float (x0 + 32), .int x1] h)) none)) := (tr (r287_2 ..) (cgB (tr (r287_8 ..) (tr (r287_9 ..) (cgT (tr (r287_10 ..) (r287_11 ..))))) (tr (r287_3 ..) (tr (r287_4 ..) (cgT (tr (r287_5 ..) (r287_6 ..)))))))
theorem b287_7 (x0 : UInt32) (x1 : Int32) (s0 : Int32) (h : A_H) : R 287 7 [some (.float x0), some (.int x1)] [.int s0] h = (cond (decide (0 ≤ s0) && decide (s0 ≤ 65535)) (some (some (some (.int s0)), h)) none) := (r287_7 ..)
theorem e288 (x0 : UInt32) (h : A_H) : C 288 [.float x0] h = R 288 0 [some (.float x0)] [] h := rfl
theorem r288_0 (ls : A_V) (st : List Value) (h : A_H) : R 288 0 ls st h = a_do a_nL R R 288 (s_push (.int 1) 1 ls st h) := a_R_eq ..
theorem r288_1 (ls : A_V) (st : List Value) (h : A_H) : R 288 1 ls st h = a_do a_nL R R 288 (s_if1 (fun x => decide (x = 0)) 5 2 ls st h) := a_R_eq ..
theorem r288_2 (ls : A_V) (st : List Value) (h : A_H) : R 288 2 ls st h = a_do a_nL R R 288 (s_aldl 0 3 ls st h) := a_R_eq ..
theorem r288_3 (ls : A_V) (st : List Value) (h : A_H) : R 288 3 ls st h = a_do a_nL R R 288 (s_xgc 4 ls st h) := a_R_eq ..
theorem r288_4 (ls : A_V) (st : List Value) (h : A_H) : R 288 4 ls st h = a_do a_nL R R 288 (s_goto 6 ls st h) := a_R_eq ..
theorem r288_5 (ls : A_V) (st : List Value) (h : A_H) : R 288 5 ls st h = a_do a_nL R R 288 (s_push (.int 1) 6 ls st h) := a_R_eq ..
theorem r288_6 (ls : A_V) (st : List Value) (h : A_H) : R 288 6 ls st h = a_do a_nL R R 288 (s_bret ls st h) := a_R_eq ..
theorem b288_0 (x0 : UInt32) (h : A_H) : R 288 0 [some (.float x0)] [] h = (cond (decide (0 < x0.toNat) && decide (x0.toNat ≤ 32)) (cond (decide (-128 ≤ (0 : Int32)) && decide ((0 : Int32) ≤ 127)) (some (some (some (.int (0 : Int32))), h)) none) none) := (tr (r288_0 ..) (tr (r288_1 ..) (tr (r288_2 ..) (tr (r288_3 ..) (cgT (tr (r288_4 ..) (r288_6 ..)))))))
theorem e289 (x0 : UInt32) (h : A_H) : C 289 [.float x0] h = R 289 0 [some (.float x0)] [] h := rfl
theorem r289_0 (ls : A_V) (st : List Value) (h : A_H) : R 289 0 ls st h = a_do a_nL R R 289 (s_push (.int 1) 1 ls st h) := a_R_eq ..
theorem r289_1 (ls : A_V) (st : List Value) (h : A_H) : R 289 1 ls st h = a_do a_nL R R 289 (s_if1 (fun x => decide (x = 0)) 7 2 ls st h) := a_R_eq ..
theorem r289_2 (ls : A_V) (st : List Value) (h : A_H) : R 289 2 ls st h = a_do a_nL R R 289 (s_aldl 0 3 ls st h) := a_R_eq ..
theorem r289_3 (ls : A_V) (st : List Value) (h : A_H) : R 289 3 ls st h = a_do a_nL R R 289 (s_xgc 4 ls st h) := a_R_eq ..
theorem r289_4 (ls : A_V) (st : List Value) (h : A_H) : R 289 4 ls st h = a_do a_nL R R 289 (s_if1 (fun x => !decide (x = 0)) 7 5 ls st h) := a_R_eq ..
theorem r289_5 (ls : A_V) (st : List Value) (h : A_H) : R 289 5 ls st h = a_do a_nL R R 289 (s_push (.int 1) 6 ls st h) := a_R_eq ..
theorem r289_6 (ls : A_V) (st : List Value) (h : A_H) : R 289 6 ls st h = a_do a_nL R R 289 (s_goto 8 ls st h) := a_R_eq ..
theorem r289_7 (ls : A_V) (st : List Value) (h : A_H) : R 289 7 ls st h = a_do a_nL R R 289 (s_push (.int 0) 8 ls st h) := a_R_eq ..
theorem r289_8 (ls : A_V) (st : List Value) (h : A_H) : R 289 8 ls st h = a_do a_nL R R 289 (s_zret ls st h) := a_R_eq ..
theorem b289_0 (x0 : UInt32) (h : A_H) : R 289 0 [some (.float x0)] [] h = (cond (decide (0 < x0.toNat) && decide (x0.toNat ≤ 32)) (cond (decide ((1 : Int32) = 0) || decide ((1 : Int32) = 1)) (some (some (some (.int (1 : Int32))), h)) none) none) := (tr (r289_0 ..) (tr (r289_1 ..) (tr (r289_2 ..) (tr (r289_3 ..) (cgT (tr (r289_4 ..) (tr (r289_5 ..) (tr (r289_6 ..) (r289_8 ..)))))))))
theorem e290 (x0 : Int32) (x1 : Int32) (h : A_H) : C 290 [.int x0, .int x1] h = R 290 0 [some (.int x0), some (.int x1)] [] h := rfl
theorem r290_0 (ls : A_V) (st : List Value) (h : A_H) : R 290 0 ls st h = a_do a_nL R R 290 (s_ildl 0 1 ls st h) := a_R_eq ..
theorem r290_1 (ls : A_V) (st : List Value) (h : A_H) : R 290 1 ls st h = a_do a_nL R R 290 (s_ildl 1 2 ls st h) := a_R_eq ..
theorem r290_2 (ls : A_V) (st : List Value) (h : A_H) : R 290 2 ls st h = a_do a_nL R R 290 (s_push (.float 65) 3 ls st h) := a_R_eq ..
theorem r290_3 (ls : A_V) (st : List Value) (h : A_H) : R 290 3 ls st h = a_do a_nL R R 290 (s_call 0 292 3 3 true 4 ls st h) := a_R_eq ..
theorem r290_4 (ls : A_V) (st : List Value) (h : A_H) : R 290 4 ls st h = a_do a_nL R R 290 (s_pop 5 ls st h) := a_R_eq ..
theorem r290_5 (ls : A_V) (st : List Value) (h : A_H) : R 290 5 ls st h = a_do a_nL R R 290 (s_vret ls st h) := a_R_eq ..
theorem b290_0 (x0 : Int32) (x1 : Int32) (h : A_H) : R 290 0 [some (.int x0), some (.int x1)] [] h = (a_back R 290 (292, [.int x0, .int x1, .float 65], h, true, none, 4, [some (.int x0), some (.int x1)], []) (C 292 [.int x0, .int x1, .float 65] h)) := (tr (r290_0 ..) (tr (r290_1 ..) (tr (r290_2 ..) (r290_3 ..))))
theorem b290_4 (x0 : Int32) (x1 : Int32) (s0 : Int32) (h : A_H) : R 290 4 [some (.int x0), some (.int x1)] [.int s0] h = (some (some none, h)) := (tr (r290_4 ..) (r290_5 ..))
theorem e291 (x0 : UInt32) (x1 : Int32) (h : A_H) : C 291 [.float x0, .int x1] h = R 291 0 [some (.float x0), some (.int x1)] [] h := rfl
theorem r291_0 (ls : A_V) (st : List Value) (h : A_H) : R 291 0 ls st h = a_do a_nL R R 291 (s_ildl 1 1 ls st h) := a_R_eq ..
theorem r291_1 (ls : A_V) (st : List Value) (h : A_H) : R 291 1 ls st h = a_do a_nL R R 291 (s_aldl 0 2 ls st h) := a_R_eq ..
theorem r291_2 (ls : A_V) (st : List Value) (h : A_H) : R 291 2 ls st h = a_do a_nL R R 291 (s_xbl 3 ls st h) := a_R_eq ..
theorem r291_3 (ls : A_V) (st : List Value) (h : A_H) : R 291 3 ls st h = a_do a_nL R R 291 (s_call 0 290 2 2 false 4 ls st h) := a_R_eq ..
theorem r291_4 (ls : A_V) (st : List Value) (h : A_H) : R 291 4 ls st h = a_do a_nL R R 291 (s_aldl 0 5 ls st h) := a_R_eq ..
theorem r291_5 (ls : A_V) (st : List Value) (h : A_H) : R 291 5 ls st h = a_do a_nL R R 291 (s_ildl 1 6 ls st h) := a_R_eq ..
theorem r291_6 (ls : A_V) (st : List Value) (h : A_H) : R 291 6 ls st h = a_do a_nL R R 291 (s_xba 7 ls st h) := a_R_eq ..
theorem r291_7 (ls : A_V) (st : List Value) (h : A_H) : R 291 7 ls st h = a_do a_nL R R 291 (s_push (.int 255) 8 ls st h) := a_R_eq ..
theorem r291_8 (ls : A_V) (st : List Value) (h : A_H) : R 291 8 ls st h = a_do a_nL R R 291 (s_bi (fun x y => x &&& y) 9 ls st h) := a_R_eq ..
theorem r291_9 (ls : A_V) (st : List Value) (h : A_H) : R 291 9 ls st h = a_do a_nL R R 291 (s_uii (fun x => (x.toUInt32 % 65536).toInt32) 10 ls st h) := a_R_eq ..
theorem r291_10 (ls : A_V) (st : List Value) (h : A_H) : R 291 10 ls st h = a_do a_nL R R 291 (s_cret ls st h) := a_R_eq ..
theorem b291_0 (x0 : UInt32) (x1 : Int32) (h : A_H) : R 291 0 [some (.float x0), some (.int x1)] [] h = (cond (decide (32 < x0.toNat) && decide (x0.toNat ≤ 64)) (a_back R 291 (290, [.int x1, .int (Int32.ofNat (a_T.getD (x0.toNat - 33) []).length)], h, false, none, 4, [some (.float x0), some (.int x1)], []) (C 290 [.int x1, .int (Int32.ofNat (a_T.getD (x0.toNat - 33) []).length)] h)) none) := (tr (r291_0 ..) (tr (r291_1 ..) (tr (r291_2 ..) (cgT (r291_3 ..)))))
theorem b291_4 (x0 : UInt32) (x1 : Int32) (h : A_H) : R 291 4 [some (.float x0), some (.int x1)] [] h = (cond (decide (32 < x0.toNat) && decide (x0.toNat ≤ 64) && !decide (x1 < 0) && decide ((x1).toNatClampNeg < (a_T.getD (x0.toNat - 33) []).length)) (cond (decide (0 ≤ ((((Int32.ofNat ((a_T.getD (x0.toNat - 33) []).getD (x1).toNatClampNeg 0)) &&& (255 : Int32)).toUInt32 % 65536).toInt32)) && decide (((((Int32.ofNat ((a_T.getD (x0.toNat - 33) []).getD (x1).toNatClampNeg 0)) &&& (255 : Int32)).toUInt32 % 65536).toInt32) ≤ 65535)) (some (some (some (.int ((((Int32.ofNat ((a_T.getD (x0.toNat - 33) []).getD (x1).toNatClampNeg 0)) &&& (255 : Int32)).toUInt32 % 65536).toInt32))), h)) none) none) := (tr (r291_4 ..) (tr (r291_5 ..) (tr (r291_6 ..) (cgT (tr (r291_7 ..) (tr (r291_8 ..) (tr (r291_9 ..) (r291_10 ..))))))))
theorem e292 (x0 : Int32) (x1 : Int32) (x2 : UInt32) (h : A_H) : C 292 [.int x0, .int x1, .float x2] h = R 292 0 [some (.int x0), some (.int x1), some (.float x2)] [] h := rfl
theorem r292_0 (ls : A_V) (st : List Value) (h : A_H) : R 292 0 ls st h = a_do a_nL R R 292 (s_ildl 0 1 ls st h) := a_R_eq ..
theorem r292_1 (ls : A_V) (st : List Value) (h : A_H) : R 292 1 ls st h = a_do a_nL R R 292 (s_if1 (fun x => decide (x < 0)) 5 2 ls st h) := a_R_eq ..
theorem r292_2 (ls : A_V) (st : List Value) (h : A_H) : R 292 2 ls st h = a_do a_nL R R 292 (s_ildl 0 3 ls st h) := a_R_eq ..
theorem r292_3 (ls : A_V) (st : List Value) (h : A_H) : R 292 3 ls st h = a_do a_nL R R 292 (s_ildl 1 4 ls st h) := a_R_eq ..
theorem r292_4 (ls : A_V) (st : List Value) (h : A_H) : R 292 4 ls st h = a_do a_nL R R 292 (s_if2 (fun x y => decide (x < y)) 10 5 ls st h) := a_R_eq ..
theorem r292_5 (ls : A_V) (st : List Value) (h : A_H) : R 292 5 ls st h = a_do a_nL R R 292 (s_aldl 2 6 ls st h) := a_R_eq ..
theorem r292_6 (ls : A_V) (st : List Value) (h : A_H) : R 292 6 ls st h = a_do a_nL R R 292 (s_ildl 0 7 ls st h) := a_R_eq ..
theorem r292_7 (ls : A_V) (st : List Value) (h : A_H) : R 292 7 ls st h = a_do a_nL R R 292 (s_ildl 1 8 ls st h) := a_R_eq ..
theorem r292_8 (ls : A_V) (st : List Value) (h : A_H) : R 292 8 ls st h = a_do a_nL R R 292 (s_no ls st h) := a_R_eq ..
theorem r292_10 (ls : A_V) (st : List Value) (h : A_H) : R 292 10 ls st h = a_do a_nL R R 292 (s_ildl 0 11 ls st h) := a_R_eq ..
theorem r292_11 (ls : A_V) (st : List Value) (h : A_H) : R 292 11 ls st h = a_do a_nL R R 292 (s_iret ls st h) := a_R_eq ..
theorem b292_0 (x0 : Int32) (x1 : Int32) (x2 : UInt32) (h : A_H) : R 292 0 [some (.int x0), some (.int x1), some (.float x2)] [] h = (cond (decide (x0 < 0)) none (cond (decide (x0 < x1)) (some (some (some (.int x0)), h)) none)) := (tr (r292_0 ..) (tr (r292_1 ..) (cgB (tr (r292_5 ..) (tr (r292_6 ..) (tr (r292_7 ..) (r292_8 ..)))) (tr (r292_2 ..) (tr (r292_3 ..) (tr (r292_4 ..) (cgB (tr (r292_10 ..) (r292_11 ..)) (tr (r292_5 ..) (tr (r292_6 ..) (tr (r292_7 ..) (r292_8 ..)))))))))))
