set_option maxRecDepth 16384 in
theorem cA {k r : Nat} (hk : 6 * k + r < 2147483648) : (nI (6 * k) + nI r).toNatClampNeg = 6 * k + r := by rw [nI_add, w_cl hk]
set_option maxRecDepth 16384 in
theorem gA {k N r : Nat} (hk : 6 * k + 6 ≤ N) (hN : N ≤ 3072) (hr : r < 6) : (decide ((0 : UInt32) = 0) && !decide ((nI (6 * k) + nI r) < 0) && decide ((nI (6 * k) + nI r).toNatClampNeg < N)) = true := by
  rw [cA (by omega), nI_add, dF (w_nn (show 6 * k + r < 2147483648 by omega)), dT (show 6 * k + r < N by omega)]
  rfl
set_option maxRecDepth 16384 in
theorem cA1 {k N : Nat} (hk : 6 * k + 6 ≤ N) (hN : N ≤ 3072) : (nI (6 * k) + (1 : Int32)).toNatClampNeg = 6 * k + 1 := cA (r := 1) (by omega)
set_option maxRecDepth 16384 in
theorem gA1 {k N : Nat} (hk : 6 * k + 6 ≤ N) (hN : N ≤ 3072) : (decide ((0 : UInt32) = 0) && !decide ((nI (6 * k) + (1 : Int32)) < 0) && decide ((nI (6 * k) + (1 : Int32)).toNatClampNeg < N)) = true := gA (r := 1) hk hN (by decide)
set_option maxRecDepth 16384 in
theorem cA2 {k N : Nat} (hk : 6 * k + 6 ≤ N) (hN : N ≤ 3072) : (nI (6 * k) + (2 : Int32)).toNatClampNeg = 6 * k + 2 := cA (r := 2) (by omega)
set_option maxRecDepth 16384 in
theorem gA2 {k N : Nat} (hk : 6 * k + 6 ≤ N) (hN : N ≤ 3072) : (decide ((0 : UInt32) = 0) && !decide ((nI (6 * k) + (2 : Int32)) < 0) && decide ((nI (6 * k) + (2 : Int32)).toNatClampNeg < N)) = true := gA (r := 2) hk hN (by decide)
set_option maxRecDepth 16384 in
theorem cA3 {k N : Nat} (hk : 6 * k + 6 ≤ N) (hN : N ≤ 3072) : (nI (6 * k) + (3 : Int32)).toNatClampNeg = 6 * k + 3 := cA (r := 3) (by omega)
set_option maxRecDepth 16384 in
theorem gA3 {k N : Nat} (hk : 6 * k + 6 ≤ N) (hN : N ≤ 3072) : (decide ((0 : UInt32) = 0) && !decide ((nI (6 * k) + (3 : Int32)) < 0) && decide ((nI (6 * k) + (3 : Int32)).toNatClampNeg < N)) = true := gA (r := 3) hk hN (by decide)
set_option maxRecDepth 16384 in
theorem cA4 {k N : Nat} (hk : 6 * k + 6 ≤ N) (hN : N ≤ 3072) : (nI (6 * k) + (4 : Int32)).toNatClampNeg = 6 * k + 4 := cA (r := 4) (by omega)
set_option maxRecDepth 16384 in
theorem gA4 {k N : Nat} (hk : 6 * k + 6 ≤ N) (hN : N ≤ 3072) : (decide ((0 : UInt32) = 0) && !decide ((nI (6 * k) + (4 : Int32)) < 0) && decide ((nI (6 * k) + (4 : Int32)).toNatClampNeg < N)) = true := gA (r := 4) hk hN (by decide)
set_option maxRecDepth 16384 in
theorem cA5 {k N : Nat} (hk : 6 * k + 6 ≤ N) (hN : N ≤ 3072) : (nI (6 * k) + (5 : Int32)).toNatClampNeg = 6 * k + 5 := cA (r := 5) (by omega)
set_option maxRecDepth 16384 in
theorem gA5 {k N : Nat} (hk : 6 * k + 6 ≤ N) (hN : N ≤ 3072) : (decide ((0 : UInt32) = 0) && !decide ((nI (6 * k) + (5 : Int32)) < 0) && decide ((nI (6 * k) + (5 : Int32)).toNatClampNeg < N)) = true := gA (r := 5) hk hN (by decide)
set_option maxRecDepth 16384 in
theorem gA0 {k N : Nat} (hk : 6 * k + 6 ≤ N) (hN : N ≤ 3072) : (decide ((0 : UInt32) = 0) && !decide (nI (6 * k) < 0) && decide ((nI (6 * k)).toNatClampNeg < N)) = true := by
  rw [w_cl (show 6 * k < 2147483648 by omega), dF (w_nn (show 6 * k < 2147483648 by omega)), dT (show 6 * k < N by omega)]
  rfl
set_option maxRecDepth 16384 in
theorem n6 (k : Nat) : nI (6 * k) + 6 = nI (6 * (k + 1)) := nI_add (6 * k) 6
set_option maxRecDepth 16384 in
theorem lg_self (v : Int64) : lg_cmp v v = 0 := by
  unfold lg_cmp
  rw [if_neg (show ¬ v > v from fun c => by rw [gt_iff_lt, Int64.lt_iff_toInt_lt] at c; omega), if_pos rfl]
set_option maxRecDepth 16384 in
theorem hd_lt {N k : Nat} (hN : N ≤ 3072) (hk : k ≤ 600) : decide ((Int32.ofNat N - (6 : Int32)) < nI (6 * k)) = decide (N < 6 * k + 6) := by
  have hs : (nI N - nI 6).toInt = (N : Int) - 6 := by
    rw [Int32.toInt_sub, w_int (by omega), w_int (by omega), Int.bmod_eq_of_le] <;> omega
  have e : (nI N - nI 6 < nI (6 * k)) ↔ N < 6 * k + 6 := by
    rw [Int32.lt_iff_toInt_lt, hs, w_int (by omega)]
    omega
  exact decide_eq_decide.mpr e
def Dn (X : Nat × (Nat → Int32)) (k : Nat) (r : Option A_R) : Prop := ∃ l5 l6 h, r = R 283 13 [some (.float 0), some (.ref 0), some (.ref 124), some (.ref 133), some (.int (nI (6 * (k + 1)))), l5, l6] [] h ∧ Inv X (k + 1) h
set_option maxRecDepth 16384 in
theorem gl_cd {X : Nat × (Nat → Int32)} {k : Nat} {b : Bool} {x y : Option A_R} (h1 : Dn X k x) (h2 : Dn X k y) : Dn X k (cond b x y) := by
  cases b with
  | true => exact h1
  | false => exact h2
set_option maxRecDepth 16384 in
theorem o25 {X : Nat × (Nat → Int32)} {k : Nat} (hk : 6 * k + 6 ≤ X.1) (hN : X.1 ≤ 3072) {h : A_H} (iv : Inv X k h) (l5 l6 : Option Value) : Dn X k (R 283 25 [some (.float 0), some (.ref 0), some (.ref 124), some (.ref 133), some (.int (nI (6 * k))), l5, l6] [] h) := by
  obtain ⟨T, D, S, o, n, H, m, K, tn, j⟩ := iv
  have L := j.1.1
  have jx : hX h = X := j.1.2.2.2.1
  obtain ⟨v, h1, h2, c1, c2, L1, x1, i2⟩ := s75 j (X.2 (6 * k + 1)) (X.2 (6 * k + 2)) (X.2 (6 * k + 3)) (X.2 (6 * k + 4)) (X.2 (6 * k + 5))
  refine ⟨l5, l6, h2, ?_, i2⟩
  rw [b283_25, jx, gA1 hk hN, cond_true, gA2 hk hN, cond_true, gA3 hk hN, cond_true, gA4 hk hN, cond_true, gA5 hk hN, cond_true, cA1 hk hN, cA2 hk hN, cA3 hk hN, cA4 hk hN, cA5 hk hN, x_O L, cond_true, c1, bk_v]
  rw [b283_52, x1, gA1 hk hN, cond_true, gA2 hk hN, cond_true, gA3 hk hN, cond_true, gA4 hk hN, cond_true, gA5 hk hN, cond_true, cA1 hk hN, cA2 hk hN, cA3 hk hN, cA4 hk hN, cA5 hk hN, y_124 L1, cond_true, c2, bk_v]
  rw [b283_79, dT (show v = v from rfl), cond_true, b283_1248, n6]
set_option maxRecDepth 16384 in
theorem o82 {X : Nat × (Nat → Int32)} {k : Nat} (hk : 6 * k + 6 ≤ X.1) (hN : X.1 ≤ 3072) {h : A_H} (iv : Inv X k h) (l5 l6 : Option Value) : Dn X k (R 283 82 [some (.float 0), some (.ref 0), some (.ref 124), some (.ref 133), some (.int (nI (6 * k))), l5, l6] [] h) := by
  obtain ⟨T, D, S, o, n, H, m, K, tn, j⟩ := iv
  have L := j.1.1
  have jx : hX h = X := j.1.2.2.2.1
  obtain ⟨v, h1, h2, c1, c2, L1, x1, i2⟩ := s77 j (X.2 (6 * k + 1))
  refine ⟨l5, l6, h2, ?_, i2⟩
  rw [b283_82, jx, gA1 hk hN, cond_true, cA1 hk hN, x_O L, cond_true, c1, bk_v]
  rw [b283_89, x1, gA1 hk hN, cond_true, cA1 hk hN, y_124 L1, cond_true, c2, bk_v]
  rw [b283_96, dT (show v = v from rfl), cond_true, b283_1248, n6]
set_option maxRecDepth 16384 in
theorem o99 {X : Nat × (Nat → Int32)} {k : Nat} (hk : 6 * k + 6 ≤ X.1) (hN : X.1 ≤ 3072) {h : A_H} (iv : Inv X k h) (l5 l6 : Option Value) : Dn X k (R 283 99 [some (.float 0), some (.ref 0), some (.ref 124), some (.ref 133), some (.int (nI (6 * k))), l5, l6] [] h) := by
  obtain ⟨T, D, S, o, n, H, m, K, tn, j⟩ := iv
  have L := j.1.1
  have jx : hX h = X := j.1.2.2.2.1
  obtain ⟨v, h1, h2, c1, c2, L1, x1, i2⟩ := s78 j 
  refine ⟨l5, l6, h2, ?_, i2⟩
  rw [b283_99, x_O L, cond_true, c1, bk_v]
  rw [b283_101, y_124 L1, cond_true, c2, bk_v]
  rw [b283_103, dT (show v = v from rfl), cond_true, b283_1248, n6]
set_option maxRecDepth 16384 in
theorem o106 {X : Nat × (Nat → Int32)} {k : Nat} (hk : 6 * k + 6 ≤ X.1) (hN : X.1 ≤ 3072) {h : A_H} (iv : Inv X k h) (l5 l6 : Option Value) : Dn X k (R 283 106 [some (.float 0), some (.ref 0), some (.ref 124), some (.ref 133), some (.int (nI (6 * k))), l5, l6] [] h) := by
  obtain ⟨T, D, S, o, n, H, m, K, tn, j⟩ := iv
  have L := j.1.1
  have jx : hX h = X := j.1.2.2.2.1
  obtain ⟨v, h1, h2, c1, c2, L1, x1, i2⟩ := s79 j 
  refine ⟨l5, l6, h2, ?_, i2⟩
  rw [b283_106, x_O L, cond_true, c1, bk_v]
  rw [b283_108, y_124 L1, cond_true, c2, bk_v]
  rw [b283_110, dT (show v = v from rfl), cond_true, b283_1248, n6]
set_option maxRecDepth 16384 in
theorem o113 {X : Nat × (Nat → Int32)} {k : Nat} (hk : 6 * k + 6 ≤ X.1) (hN : X.1 ≤ 3072) {h : A_H} (iv : Inv X k h) (l5 l6 : Option Value) : Dn X k (R 283 113 [some (.float 0), some (.ref 0), some (.ref 124), some (.ref 133), some (.int (nI (6 * k))), l5, l6] [] h) := by
  obtain ⟨T, D, S, o, n, H, m, K, tn, j⟩ := iv
  have L := j.1.1
  have jx : hX h = X := j.1.2.2.2.1
  obtain ⟨v, h1, h2, c1, c2, L1, x1, i2⟩ := s80 j (X.2 (6 * k + 1)) (X.2 (6 * k + 2))
  refine ⟨l5, l6, h2, ?_, i2⟩
  rw [b283_113, jx, gA1 hk hN, cond_true, gA2 hk hN, cond_true, cA1 hk hN, cA2 hk hN, x_O L, cond_true, c1, bk_v]
  rw [b283_125, x1, gA1 hk hN, cond_true, gA2 hk hN, cond_true, cA1 hk hN, cA2 hk hN, y_124 L1, cond_true, c2, bk_v]
  rw [b283_137, dT (show v = v from rfl), cond_true, b283_1248, n6]
set_option maxRecDepth 16384 in
theorem o140 {X : Nat × (Nat → Int32)} {k : Nat} (hk : 6 * k + 6 ≤ X.1) (hN : X.1 ≤ 3072) {h : A_H} (iv : Inv X k h) (l5 l6 : Option Value) : Dn X k (R 283 140 [some (.float 0), some (.ref 0), some (.ref 124), some (.ref 133), some (.int (nI (6 * k))), l5, l6] [] h) := by
  obtain ⟨T, D, S, o, n, H, m, K, tn, j⟩ := iv
  have L := j.1.1
  have jx : hX h = X := j.1.2.2.2.1
  obtain ⟨v, h1, h2, c1, c2, L1, x1, i2⟩ := s81 j (X.2 (6 * k + 1)) (X.2 (6 * k + 2))
  refine ⟨l5, l6, h2, ?_, i2⟩
  rw [b283_140, jx, gA1 hk hN, cond_true, gA2 hk hN, cond_true, cA1 hk hN, cA2 hk hN, x_O L, cond_true, c1, bk_v]
  rw [b283_152, x1, gA1 hk hN, cond_true, gA2 hk hN, cond_true, cA1 hk hN, cA2 hk hN, y_124 L1, cond_true, c2, bk_v]
  rw [b283_164, dT (show v = v from rfl), cond_true, b283_1248, n6]
set_option maxRecDepth 16384 in
theorem o167 {X : Nat × (Nat → Int32)} {k : Nat} (hk : 6 * k + 6 ≤ X.1) (hN : X.1 ≤ 3072) {h : A_H} (iv : Inv X k h) (l5 l6 : Option Value) : Dn X k (R 283 167 [some (.float 0), some (.ref 0), some (.ref 124), some (.ref 133), some (.int (nI (6 * k))), l5, l6] [] h) := by
  obtain ⟨T, D, S, o, n, H, m, K, tn, j⟩ := iv
  have L := j.1.1
  have jx : hX h = X := j.1.2.2.2.1
  obtain ⟨v, h1, h2, c1, c2, L1, x1, i2⟩ := s82 j (X.2 (6 * k + 1)) (X.2 (6 * k + 2))
  refine ⟨l5, l6, h2, ?_, i2⟩
  rw [b283_167, jx, gA1 hk hN, cond_true, gA2 hk hN, cond_true, cA1 hk hN, cA2 hk hN, x_O L, cond_true, c1, bk_v]
  rw [b283_179, x1, gA1 hk hN, cond_true, gA2 hk hN, cond_true, cA1 hk hN, cA2 hk hN, y_124 L1, cond_true, c2, bk_v]
  rw [b283_191, dT (show v = v from rfl), cond_true, b283_1248, n6]
set_option maxRecDepth 16384 in
theorem o194 {X : Nat × (Nat → Int32)} {k : Nat} (hk : 6 * k + 6 ≤ X.1) (hN : X.1 ≤ 3072) {h : A_H} (iv : Inv X k h) (l5 l6 : Option Value) : Dn X k (R 283 194 [some (.float 0), some (.ref 0), some (.ref 124), some (.ref 133), some (.int (nI (6 * k))), l5, l6] [] h) := by
  obtain ⟨T, D, S, o, n, H, m, K, tn, j⟩ := iv
  have L := j.1.1
  have jx : hX h = X := j.1.2.2.2.1
  obtain ⟨v, h1, h2, c1, c2, L1, x1, i2⟩ := s83 j (X.2 (6 * k + 1)) (X.2 (6 * k + 2))
  refine ⟨l5, l6, h2, ?_, i2⟩
  rw [b283_194, jx, gA1 hk hN, cond_true, gA2 hk hN, cond_true, cA1 hk hN, cA2 hk hN, x_O L, cond_true, c1, bk_v]
  rw [b283_206, x1, gA1 hk hN, cond_true, gA2 hk hN, cond_true, cA1 hk hN, cA2 hk hN, y_124 L1, cond_true, c2, bk_v]
  rw [b283_218, dT (show v = v from rfl), cond_true, b283_1248, n6]
set_option maxRecDepth 16384 in
theorem o221 {X : Nat × (Nat → Int32)} {k : Nat} (hk : 6 * k + 6 ≤ X.1) (hN : X.1 ≤ 3072) {h : A_H} (iv : Inv X k h) (l5 l6 : Option Value) : Dn X k (R 283 221 [some (.float 0), some (.ref 0), some (.ref 124), some (.ref 133), some (.int (nI (6 * k))), l5, l6] [] h) := by
  obtain ⟨T, D, S, o, n, H, m, K, tn, j⟩ := iv
  have L := j.1.1
  have jx : hX h = X := j.1.2.2.2.1
  obtain ⟨v, h1, h2, c1, c2, L1, x1, i2⟩ := s84 j (X.2 (6 * k + 1)) (X.2 (6 * k + 2))
  refine ⟨l5, l6, h2, ?_, i2⟩
  rw [b283_221, jx, gA1 hk hN, cond_true, gA2 hk hN, cond_true, cA1 hk hN, cA2 hk hN, x_O L, cond_true, c1, bk_v]
  rw [b283_233, x1, gA1 hk hN, cond_true, gA2 hk hN, cond_true, cA1 hk hN, cA2 hk hN, y_124 L1, cond_true, c2, bk_v]
  rw [b283_245, dT (show v = v from rfl), cond_true, b283_1248, n6]
set_option maxRecDepth 16384 in
theorem o248 {X : Nat × (Nat → Int32)} {k : Nat} (hk : 6 * k + 6 ≤ X.1) (hN : X.1 ≤ 3072) {h : A_H} (iv : Inv X k h) (l5 l6 : Option Value) : Dn X k (R 283 248 [some (.float 0), some (.ref 0), some (.ref 124), some (.ref 133), some (.int (nI (6 * k))), l5, l6] [] h) := by
  obtain ⟨T, D, S, o, n, H, m, K, tn, j⟩ := iv
  have L := j.1.1
  have jx : hX h = X := j.1.2.2.2.1
  obtain ⟨v, h1, h2, c1, c2, L1, x1, i2⟩ := s85 j (X.2 (6 * k + 1)) (X.2 (6 * k + 2))
  refine ⟨l5, l6, h2, ?_, i2⟩
  rw [b283_248, jx, gA1 hk hN, cond_true, gA2 hk hN, cond_true, cA1 hk hN, cA2 hk hN, x_O L, cond_true, c1, bk_v]
  rw [b283_260, x1, gA1 hk hN, cond_true, gA2 hk hN, cond_true, cA1 hk hN, cA2 hk hN, y_124 L1, cond_true, c2, bk_v]
  rw [b283_272, dT (show v = v from rfl), cond_true, b283_1248, n6]
set_option maxRecDepth 16384 in
theorem o275 {X : Nat × (Nat → Int32)} {k : Nat} (hk : 6 * k + 6 ≤ X.1) (hN : X.1 ≤ 3072) {h : A_H} (iv : Inv X k h) (l5 l6 : Option Value) : Dn X k (R 283 275 [some (.float 0), some (.ref 0), some (.ref 124), some (.ref 133), some (.int (nI (6 * k))), l5, l6] [] h) := by
  obtain ⟨T, D, S, o, n, H, m, K, tn, j⟩ := iv
  have L := j.1.1
  have jx : hX h = X := j.1.2.2.2.1
  obtain ⟨v, h1, h2, c1, c2, L1, x1, i2⟩ := s86 j (X.2 (6 * k + 1)) (X.2 (6 * k + 2))
  refine ⟨l5, l6, h2, ?_, i2⟩
  rw [b283_275, jx, gA1 hk hN, cond_true, gA2 hk hN, cond_true, cA1 hk hN, cA2 hk hN, x_O L, cond_true, c1, bk_v]
  rw [b283_287, x1, gA1 hk hN, cond_true, gA2 hk hN, cond_true, cA1 hk hN, cA2 hk hN, y_124 L1, cond_true, c2, bk_v]
  rw [b283_299, dT (show v = v from rfl), cond_true, b283_1248, n6]
set_option maxRecDepth 16384 in
theorem o302 {X : Nat × (Nat → Int32)} {k : Nat} (hk : 6 * k + 6 ≤ X.1) (hN : X.1 ≤ 3072) {h : A_H} (iv : Inv X k h) (l5 l6 : Option Value) : Dn X k (R 283 302 [some (.float 0), some (.ref 0), some (.ref 124), some (.ref 133), some (.int (nI (6 * k))), l5, l6] [] h) := by
  obtain ⟨T, D, S, o, n, H, m, K, tn, j⟩ := iv
  have L := j.1.1
  have jx : hX h = X := j.1.2.2.2.1
  obtain ⟨v, h1, h2, c1, c2, L1, x1, i2⟩ := s87 j (X.2 (6 * k + 1))
  refine ⟨l5, l6, h2, ?_, i2⟩
  rw [b283_302, jx, gA1 hk hN, cond_true, cA1 hk hN, x_O L, cond_true, c1, bk_v]
  rw [b283_309, x1, gA1 hk hN, cond_true, cA1 hk hN, y_124 L1, cond_true, c2, bk_v]
  rw [b283_316, dT (show v = v from rfl), cond_true, b283_1248, n6]
set_option maxRecDepth 16384 in
theorem o319 {X : Nat × (Nat → Int32)} {k : Nat} (hk : 6 * k + 6 ≤ X.1) (hN : X.1 ≤ 3072) {h : A_H} (iv : Inv X k h) (l5 l6 : Option Value) : Dn X k (R 283 319 [some (.float 0), some (.ref 0), some (.ref 124), some (.ref 133), some (.int (nI (6 * k))), l5, l6] [] h) := by
  obtain ⟨T, D, S, o, n, H, m, K, tn, j⟩ := iv
  have L := j.1.1
  have jx : hX h = X := j.1.2.2.2.1
  obtain ⟨v, h1, h2, c1, c2, L1, x1, i2⟩ := s88 j (X.2 (6 * k + 1)) (X.2 (6 * k + 2)) (X.2 (6 * k + 3))
  refine ⟨l5, l6, h2, ?_, i2⟩
  rw [b283_319, jx, gA1 hk hN, cond_true, gA2 hk hN, cond_true, gA3 hk hN, cond_true, cA1 hk hN, cA2 hk hN, cA3 hk hN, x_O L, cond_true, c1, bk_v]
  rw [b283_336, x1, gA1 hk hN, cond_true, gA2 hk hN, cond_true, gA3 hk hN, cond_true, cA1 hk hN, cA2 hk hN, cA3 hk hN, y_124 L1, cond_true, c2, bk_v]
  rw [b283_353, dT (show v = v from rfl), cond_true, b283_1248, n6]
set_option maxRecDepth 16384 in
theorem o356 {X : Nat × (Nat → Int32)} {k : Nat} (hk : 6 * k + 6 ≤ X.1) (hN : X.1 ≤ 3072) {h : A_H} (iv : Inv X k h) (l5 l6 : Option Value) : Dn X k (R 283 356 [some (.float 0), some (.ref 0), some (.ref 124), some (.ref 133), some (.int (nI (6 * k))), l5, l6] [] h) := by
  obtain ⟨T, D, S, o, n, H, m, K, tn, j⟩ := iv
  have L := j.1.1
  have jx : hX h = X := j.1.2.2.2.1
  obtain ⟨v, h1, h2, c1, c2, L1, x1, i2⟩ := s89 j (X.2 (6 * k + 1)) (X.2 (6 * k + 2)) (X.2 (6 * k + 3))
  refine ⟨l5, l6, h2, ?_, i2⟩
  rw [b283_356, jx, gA1 hk hN, cond_true, gA2 hk hN, cond_true, gA3 hk hN, cond_true, cA1 hk hN, cA2 hk hN, cA3 hk hN, x_O L, cond_true, c1, bk_v]
  rw [b283_373, x1, gA1 hk hN, cond_true, gA2 hk hN, cond_true, gA3 hk hN, cond_true, cA1 hk hN, cA2 hk hN, cA3 hk hN, y_124 L1, cond_true, c2, bk_v]
  rw [b283_390, dT (show v = v from rfl), cond_true, b283_1248, n6]
set_option maxRecDepth 16384 in
theorem o393 {X : Nat × (Nat → Int32)} {k : Nat} (hk : 6 * k + 6 ≤ X.1) (hN : X.1 ≤ 3072) {h : A_H} (iv : Inv X k h) (l5 l6 : Option Value) : Dn X k (R 283 393 [some (.float 0), some (.ref 0), some (.ref 124), some (.ref 133), some (.int (nI (6 * k))), l5, l6] [] h) := by
  obtain ⟨T, D, S, o, n, H, m, K, tn, j⟩ := iv
  have L := j.1.1
  have jx : hX h = X := j.1.2.2.2.1
  obtain ⟨v, h1, h2, c1, c2, L1, x1, i2⟩ := s90 j (X.2 (6 * k + 1)) (X.2 (6 * k + 2)) (X.2 (6 * k + 3))
  refine ⟨l5, l6, h2, ?_, i2⟩
  rw [b283_393, jx, gA1 hk hN, cond_true, gA2 hk hN, cond_true, gA3 hk hN, cond_true, cA1 hk hN, cA2 hk hN, cA3 hk hN, x_O L, cond_true, c1, bk_v]
  rw [b283_410, x1, gA1 hk hN, cond_true, gA2 hk hN, cond_true, gA3 hk hN, cond_true, cA1 hk hN, cA2 hk hN, cA3 hk hN, y_124 L1, cond_true, c2, bk_v]
  rw [b283_427, dT (show v = v from rfl), cond_true, b283_1248, n6]
set_option maxRecDepth 16384 in
theorem o430 {X : Nat × (Nat → Int32)} {k : Nat} (hk : 6 * k + 6 ≤ X.1) (hN : X.1 ≤ 3072) {h : A_H} (iv : Inv X k h) (l5 l6 : Option Value) : Dn X k (R 283 430 [some (.float 0), some (.ref 0), some (.ref 124), some (.ref 133), some (.int (nI (6 * k))), l5, l6] [] h) := by
  obtain ⟨T, D, S, o, n, H, m, K, tn, j⟩ := iv
  have L := j.1.1
  have jx : hX h = X := j.1.2.2.2.1
  obtain ⟨v, h1, h2, c1, c2, L1, x1, i2⟩ := s91 j (X.2 (6 * k + 1)) (X.2 (6 * k + 2))
  refine ⟨l5, l6, h2, ?_, i2⟩
  rw [b283_430, jx, gA1 hk hN, cond_true, gA2 hk hN, cond_true, cA1 hk hN, cA2 hk hN, x_O L, cond_true, c1, bk_v]
  rw [b283_442, x1, gA1 hk hN, cond_true, gA2 hk hN, cond_true, cA1 hk hN, cA2 hk hN, y_124 L1, cond_true, c2, bk_v]
  rw [b283_454, dT (show v = v from rfl), cond_true, b283_1248, n6]
set_option maxRecDepth 16384 in
theorem o457 {X : Nat × (Nat → Int32)} {k : Nat} (hk : 6 * k + 6 ≤ X.1) (hN : X.1 ≤ 3072) {h : A_H} (iv : Inv X k h) (l5 l6 : Option Value) : Dn X k (R 283 457 [some (.float 0), some (.ref 0), some (.ref 124), some (.ref 133), some (.int (nI (6 * k))), l5, l6] [] h) := by
  obtain ⟨T, D, S, o, n, H, m, K, tn, j⟩ := iv
  have L := j.1.1
  have jx : hX h = X := j.1.2.2.2.1
  obtain ⟨v, h1, h2, c1, c2, L1, x1, i2⟩ := s92 j (X.2 (6 * k + 1)) (X.2 (6 * k + 2))
  refine ⟨l5, l6, h2, ?_, i2⟩
  rw [b283_457, jx, gA1 hk hN, cond_true, gA2 hk hN, cond_true, cA1 hk hN, cA2 hk hN, x_O L, cond_true, c1, bk_v]
  rw [b283_469, x1, gA1 hk hN, cond_true, gA2 hk hN, cond_true, cA1 hk hN, cA2 hk hN, y_124 L1, cond_true, c2, bk_v]
  rw [b283_481, dT (show v = v from rfl), cond_true, b283_1248, n6]
set_option maxRecDepth 16384 in
theorem o484 {X : Nat × (Nat → Int32)} {k : Nat} (hk : 6 * k + 6 ≤ X.1) (hN : X.1 ≤ 3072) {h : A_H} (iv : Inv X k h) (l5 l6 : Option Value) : Dn X k (R 283 484 [some (.float 0), some (.ref 0), some (.ref 124), some (.ref 133), some (.int (nI (6 * k))), l5, l6] [] h) := by
  obtain ⟨T, D, S, o, n, H, m, K, tn, j⟩ := iv
  have L := j.1.1
  have jx : hX h = X := j.1.2.2.2.1
  obtain ⟨v, h1, h2, c1, c2, L1, x1, i2⟩ := s93 j (X.2 (6 * k + 1)) (X.2 (6 * k + 2)) (X.2 (6 * k + 3))
  refine ⟨l5, l6, h2, ?_, i2⟩
  rw [b283_484, jx, gA1 hk hN, cond_true, gA2 hk hN, cond_true, gA3 hk hN, cond_true, cA1 hk hN, cA2 hk hN, cA3 hk hN, x_O L, cond_true, c1, bk_v]
  rw [b283_501, x1, gA1 hk hN, cond_true, gA2 hk hN, cond_true, gA3 hk hN, cond_true, cA1 hk hN, cA2 hk hN, cA3 hk hN, y_124 L1, cond_true, c2, bk_v]
  rw [b283_518, dT (show v = v from rfl), cond_true, b283_1248, n6]
set_option maxRecDepth 16384 in
theorem o521 {X : Nat × (Nat → Int32)} {k : Nat} (hk : 6 * k + 6 ≤ X.1) (hN : X.1 ≤ 3072) {h : A_H} (iv : Inv X k h) (l5 l6 : Option Value) : Dn X k (R 283 521 [some (.float 0), some (.ref 0), some (.ref 124), some (.ref 133), some (.int (nI (6 * k))), l5, l6] [] h) := by
  obtain ⟨T, D, S, o, n, H, m, K, tn, j⟩ := iv
  have L := j.1.1
  have jx : hX h = X := j.1.2.2.2.1
  obtain ⟨v, h1, h2, c1, c2, L1, x1, i2⟩ := s94 j (X.2 (6 * k + 1)) (X.2 (6 * k + 2))
  refine ⟨l5, l6, h2, ?_, i2⟩
  rw [b283_521, jx, gA1 hk hN, cond_true, gA2 hk hN, cond_true, cA1 hk hN, cA2 hk hN, x_O L, cond_true, c1, bk_v]
  rw [b283_533, x1, gA1 hk hN, cond_true, gA2 hk hN, cond_true, cA1 hk hN, cA2 hk hN, y_124 L1, cond_true, c2, bk_v]
  rw [b283_545, dT (show v = v from rfl), cond_true, b283_1248, n6]
set_option maxRecDepth 16384 in
theorem o548 {X : Nat × (Nat → Int32)} {k : Nat} (hk : 6 * k + 6 ≤ X.1) (hN : X.1 ≤ 3072) {h : A_H} (iv : Inv X k h) (l5 l6 : Option Value) : Dn X k (R 283 548 [some (.float 0), some (.ref 0), some (.ref 124), some (.ref 133), some (.int (nI (6 * k))), l5, l6] [] h) := by
  obtain ⟨T, D, S, o, n, H, m, K, tn, j⟩ := iv
  have L := j.1.1
  have jx : hX h = X := j.1.2.2.2.1
  obtain ⟨v, h1, h2, c1, c2, L1, x1, i2⟩ := s95 j (X.2 (6 * k + 1)) (X.2 (6 * k + 2))
  refine ⟨l5, l6, h2, ?_, i2⟩
  rw [b283_548, jx, gA1 hk hN, cond_true, gA2 hk hN, cond_true, cA1 hk hN, cA2 hk hN, x_O L, cond_true, c1, bk_v]
  rw [b283_560, x1, gA1 hk hN, cond_true, gA2 hk hN, cond_true, cA1 hk hN, cA2 hk hN, y_124 L1, cond_true, c2, bk_v]
  rw [b283_572, dT (show v = v from rfl), cond_true, b283_1248, n6]
set_option maxRecDepth 16384 in
theorem o575 {X : Nat × (Nat → Int32)} {k : Nat} (hk : 6 * k + 6 ≤ X.1) (hN : X.1 ≤ 3072) {h : A_H} (iv : Inv X k h) (l5 l6 : Option Value) : Dn X k (R 283 575 [some (.float 0), some (.ref 0), some (.ref 124), some (.ref 133), some (.int (nI (6 * k))), l5, l6] [] h) := by
  obtain ⟨T, D, S, o, n, H, m, K, tn, j⟩ := iv
  have L := j.1.1
  have jx : hX h = X := j.1.2.2.2.1
  obtain ⟨v, h1, h2, c1, c2, L1, x1, i2⟩ := s96 j (X.2 (6 * k + 1)) (X.2 (6 * k + 2))
  refine ⟨l5, l6, h2, ?_, i2⟩
  rw [b283_575, jx, gA1 hk hN, cond_true, gA2 hk hN, cond_true, cA1 hk hN, cA2 hk hN, x_O L, cond_true, c1, bk_v]
  rw [b283_587, x1, gA1 hk hN, cond_true, gA2 hk hN, cond_true, cA1 hk hN, cA2 hk hN, y_124 L1, cond_true, c2, bk_v]
  rw [b283_599, dT (show v = v from rfl), cond_true, b283_1248, n6]
set_option maxRecDepth 16384 in
theorem o602 {X : Nat × (Nat → Int32)} {k : Nat} (hk : 6 * k + 6 ≤ X.1) (hN : X.1 ≤ 3072) {h : A_H} (iv : Inv X k h) (l5 l6 : Option Value) : Dn X k (R 283 602 [some (.float 0), some (.ref 0), some (.ref 124), some (.ref 133), some (.int (nI (6 * k))), l5, l6] [] h) := by
  obtain ⟨T, D, S, o, n, H, m, K, tn, j⟩ := iv
  have L := j.1.1
  have jx : hX h = X := j.1.2.2.2.1
  obtain ⟨v, h1, h2, c1, c2, L1, x1, i2⟩ := s98 j (X.2 (6 * k + 1)) (X.2 (6 * k + 2)) (X.2 (6 * k + 3))
  refine ⟨l5, l6, h2, ?_, i2⟩
  rw [b283_602, jx, gA1 hk hN, cond_true, gA2 hk hN, cond_true, gA3 hk hN, cond_true, cA1 hk hN, cA2 hk hN, cA3 hk hN, x_O L, cond_true, c1, bk_v]
  rw [b283_619, x1, gA1 hk hN, cond_true, gA2 hk hN, cond_true, gA3 hk hN, cond_true, cA1 hk hN, cA2 hk hN, cA3 hk hN, y_124 L1, cond_true, c2, bk_v]
  rw [b283_636, dT (show v = v from rfl), cond_true, b283_1248, n6]
set_option maxRecDepth 16384 in
theorem o639 {X : Nat × (Nat → Int32)} {k : Nat} (hk : 6 * k + 6 ≤ X.1) (hN : X.1 ≤ 3072) {h : A_H} (iv : Inv X k h) (l5 l6 : Option Value) : Dn X k (R 283 639 [some (.float 0), some (.ref 0), some (.ref 124), some (.ref 133), some (.int (nI (6 * k))), l5, l6] [] h) := by
  obtain ⟨T, D, S, o, n, H, m, K, tn, j⟩ := iv
  have L := j.1.1
  have jx : hX h = X := j.1.2.2.2.1
  obtain ⟨v, h1, h2, c1, c2, L1, x1, i2⟩ := s99 j (X.2 (6 * k + 1)) (X.2 (6 * k + 2)) (X.2 (6 * k + 3))
  refine ⟨l5, l6, h2, ?_, i2⟩
  rw [b283_639, jx, gA1 hk hN, cond_true, gA2 hk hN, cond_true, gA3 hk hN, cond_true, cA1 hk hN, cA2 hk hN, cA3 hk hN, x_O L, cond_true, c1, bk_v]
  rw [b283_656, x1, gA1 hk hN, cond_true, gA2 hk hN, cond_true, gA3 hk hN, cond_true, cA1 hk hN, cA2 hk hN, cA3 hk hN, y_124 L1, cond_true, c2, bk_v]
  rw [b283_673, dT (show v = v from rfl), cond_true, b283_1248, n6]
set_option maxRecDepth 16384 in
theorem o676 {X : Nat × (Nat → Int32)} {k : Nat} (hk : 6 * k + 6 ≤ X.1) (hN : X.1 ≤ 3072) {h : A_H} (iv : Inv X k h) (l5 l6 : Option Value) : Dn X k (R 283 676 [some (.float 0), some (.ref 0), some (.ref 124), some (.ref 133), some (.int (nI (6 * k))), l5, l6] [] h) := by
  obtain ⟨T, D, S, o, n, H, m, K, tn, j⟩ := iv
  have L := j.1.1
  have jx : hX h = X := j.1.2.2.2.1
  obtain ⟨v, h1, h2, c1, c2, L1, x1, i2⟩ := s102 j (X.2 (6 * k + 1)) (X.2 (6 * k + 2)) (X.2 (6 * k + 3))
  refine ⟨l5, l6, h2, ?_, i2⟩
  rw [b283_676, jx, gA1 hk hN, cond_true, gA2 hk hN, cond_true, gA3 hk hN, cond_true, cA1 hk hN, cA2 hk hN, cA3 hk hN, x_O L, cond_true, c1, bk_v]
  rw [b283_693, x1, gA1 hk hN, cond_true, gA2 hk hN, cond_true, gA3 hk hN, cond_true, cA1 hk hN, cA2 hk hN, cA3 hk hN, y_124 L1, cond_true, c2, bk_v]
  rw [b283_710, dT (show v = v from rfl), cond_true, b283_1248, n6]
set_option maxRecDepth 16384 in
theorem o713 {X : Nat × (Nat → Int32)} {k : Nat} (hk : 6 * k + 6 ≤ X.1) (hN : X.1 ≤ 3072) {h : A_H} (iv : Inv X k h) (l5 l6 : Option Value) : Dn X k (R 283 713 [some (.float 0), some (.ref 0), some (.ref 124), some (.ref 133), some (.int (nI (6 * k))), l5, l6] [] h) := by
  obtain ⟨T, D, S, o, n, H, m, K, tn, j⟩ := iv
  have L := j.1.1
  have jx : hX h = X := j.1.2.2.2.1
  obtain ⟨v, h1, h2, c1, c2, L1, x1, i2⟩ := s103 j (X.2 (6 * k + 1)) (X.2 (6 * k + 2)) (X.2 (6 * k + 3))
  refine ⟨l5, l6, h2, ?_, i2⟩
  rw [b283_713, jx, gA1 hk hN, cond_true, gA2 hk hN, cond_true, gA3 hk hN, cond_true, cA1 hk hN, cA2 hk hN, cA3 hk hN, x_O L, cond_true, c1, bk_v]
  rw [b283_730, x1, gA1 hk hN, cond_true, gA2 hk hN, cond_true, gA3 hk hN, cond_true, cA1 hk hN, cA2 hk hN, cA3 hk hN, y_124 L1, cond_true, c2, bk_v]
  rw [b283_747, dT (show v = v from rfl), cond_true, b283_1248, n6]
set_option maxRecDepth 16384 in
theorem o750 {X : Nat × (Nat → Int32)} {k : Nat} (hk : 6 * k + 6 ≤ X.1) (hN : X.1 ≤ 3072) {h : A_H} (iv : Inv X k h) (l5 l6 : Option Value) : Dn X k (R 283 750 [some (.float 0), some (.ref 0), some (.ref 124), some (.ref 133), some (.int (nI (6 * k))), l5, l6] [] h) := by
  obtain ⟨T, D, S, o, n, H, m, K, tn, j⟩ := iv
  have L := j.1.1
  have jx : hX h = X := j.1.2.2.2.1
  obtain ⟨v, h1, h2, c1, c2, L1, x1, i2⟩ := s105 j (X.2 (6 * k + 1)) (X.2 (6 * k + 2)) (X.2 (6 * k + 3))
  refine ⟨l5, l6, h2, ?_, i2⟩
  rw [b283_750, jx, gA1 hk hN, cond_true, gA2 hk hN, cond_true, gA3 hk hN, cond_true, cA1 hk hN, cA2 hk hN, cA3 hk hN, x_O L, cond_true, c1, bk_v]
  rw [b283_767, x1, gA1 hk hN, cond_true, gA2 hk hN, cond_true, gA3 hk hN, cond_true, cA1 hk hN, cA2 hk hN, cA3 hk hN, y_124 L1, cond_true, c2, bk_v]
  rw [b283_784, dT (show v = v from rfl), cond_true, b283_1248, n6]
set_option maxRecDepth 16384 in
theorem o787 {X : Nat × (Nat → Int32)} {k : Nat} (hk : 6 * k + 6 ≤ X.1) (hN : X.1 ≤ 3072) {h : A_H} (iv : Inv X k h) (l5 l6 : Option Value) : Dn X k (R 283 787 [some (.float 0), some (.ref 0), some (.ref 124), some (.ref 133), some (.int (nI (6 * k))), l5, l6] [] h) := by
  obtain ⟨T, D, S, o, n, H, m, K, tn, j⟩ := iv
  have L := j.1.1
  have jx : hX h = X := j.1.2.2.2.1
  obtain ⟨v, h1, h2, c1, c2, L1, x1, i2⟩ := s106 j (X.2 (6 * k + 1))
  refine ⟨l5, l6, h2, ?_, i2⟩
  rw [b283_787, jx, gA1 hk hN, cond_true, cA1 hk hN, x_O L, cond_true, c1, bk_v]
  rw [b283_794, x1, gA1 hk hN, cond_true, cA1 hk hN, y_124 L1, cond_true, c2, bk_v]
  rw [b283_801, dT (show v = v from rfl), cond_true, b283_1248, n6]
set_option maxRecDepth 16384 in
theorem o804 {X : Nat × (Nat → Int32)} {k : Nat} (hk : 6 * k + 6 ≤ X.1) (hN : X.1 ≤ 3072) {h : A_H} (iv : Inv X k h) (l5 l6 : Option Value) : Dn X k (R 283 804 [some (.float 0), some (.ref 0), some (.ref 124), some (.ref 133), some (.int (nI (6 * k))), l5, l6] [] h) := by
  obtain ⟨T, D, S, o, n, H, m, K, tn, j⟩ := iv
  have L := j.1.1
  have jx : hX h = X := j.1.2.2.2.1
  obtain ⟨v, h1, h2, c1, c2, L1, x1, i2⟩ := s107 j (X.2 (6 * k + 1))
  refine ⟨l5, l6, h2, ?_, i2⟩
  rw [b283_804, jx, gA1 hk hN, cond_true, cA1 hk hN, x_O L, cond_true, c1, bk_v]
  rw [b283_811, x1, gA1 hk hN, cond_true, cA1 hk hN, y_124 L1, cond_true, c2, bk_v]
  rw [b283_818, dT (show v = v from rfl), cond_true, b283_1248, n6]
set_option maxRecDepth 16384 in
theorem o821 {X : Nat × (Nat → Int32)} {k : Nat} (hk : 6 * k + 6 ≤ X.1) (hN : X.1 ≤ 3072) {h : A_H} (iv : Inv X k h) (l5 l6 : Option Value) : Dn X k (R 283 821 [some (.float 0), some (.ref 0), some (.ref 124), some (.ref 133), some (.int (nI (6 * k))), l5, l6] [] h) := by
  obtain ⟨T, D, S, o, n, H, m, K, tn, j⟩ := iv
  have L := j.1.1
  have jx : hX h = X := j.1.2.2.2.1
  obtain ⟨v, h1, h2, c1, c2, L1, x1, i2⟩ := s110 j (X.2 (6 * k + 1)) (X.2 (6 * k + 2))
  refine ⟨l5, l6, h2, ?_, i2⟩
  rw [b283_821, jx, gA1 hk hN, cond_true, gA2 hk hN, cond_true, cA1 hk hN, cA2 hk hN, x_O L, cond_true, c1, bk_v]
  rw [b283_833, x1, gA1 hk hN, cond_true, gA2 hk hN, cond_true, cA1 hk hN, cA2 hk hN, y_124 L1, cond_true, c2, bk_v]
  rw [b283_845, dT (show v = v from rfl), cond_true, b283_1248, n6]
set_option maxRecDepth 16384 in
theorem o848 {X : Nat × (Nat → Int32)} {k : Nat} (hk : 6 * k + 6 ≤ X.1) (hN : X.1 ≤ 3072) {h : A_H} (iv : Inv X k h) (l5 l6 : Option Value) : Dn X k (R 283 848 [some (.float 0), some (.ref 0), some (.ref 124), some (.ref 133), some (.int (nI (6 * k))), l5, l6] [] h) := by
  obtain ⟨T, D, S, o, n, H, m, K, tn, j⟩ := iv
  have L := j.1.1
  have jx : hX h = X := j.1.2.2.2.1
  obtain ⟨v, h1, h2, c1, c2, L1, x1, i2⟩ := s111 j 
  refine ⟨l5, l6, h2, ?_, i2⟩
  rw [b283_848, x_O L, cond_true, c1, bk_v]
  rw [b283_850, y_124 L1, cond_true, c2, bk_v]
  rw [b283_852, dT (show v = v from rfl), cond_true, b283_1248, n6]
set_option maxRecDepth 16384 in
theorem o855 {X : Nat × (Nat → Int32)} {k : Nat} (hk : 6 * k + 6 ≤ X.1) (hN : X.1 ≤ 3072) {h : A_H} (iv : Inv X k h) (l5 l6 : Option Value) : Dn X k (R 283 855 [some (.float 0), some (.ref 0), some (.ref 124), some (.ref 133), some (.int (nI (6 * k))), l5, l6] [] h) := by
  obtain ⟨T, D, S, o, n, H, m, K, tn, j⟩ := iv
  have L := j.1.1
  have jx : hX h = X := j.1.2.2.2.1
  obtain ⟨v, h1, h2, c1, c2, L1, x1, i2⟩ := s112 j (X.2 (6 * k + 1))
  refine ⟨l5, l6, h2, ?_, i2⟩
  rw [b283_855, jx, gA1 hk hN, cond_true, cA1 hk hN, x_O L, cond_true, c1, bk_v]
  rw [b283_862, x1, gA1 hk hN, cond_true, cA1 hk hN, y_124 L1, cond_true, c2, bk_v]
  rw [b283_869, dT (show v = v from rfl), cond_true, b283_1248, n6]
set_option maxRecDepth 16384 in
theorem o872 {X : Nat × (Nat → Int32)} {k : Nat} (hk : 6 * k + 6 ≤ X.1) (hN : X.1 ≤ 3072) {h : A_H} (iv : Inv X k h) (l5 l6 : Option Value) : Dn X k (R 283 872 [some (.float 0), some (.ref 0), some (.ref 124), some (.ref 133), some (.int (nI (6 * k))), l5, l6] [] h) := by
  obtain ⟨T, D, S, o, n, H, m, K, tn, j⟩ := iv
  have L := j.1.1
  have jx : hX h = X := j.1.2.2.2.1
  obtain ⟨v, h1, h2, c1, c2, L1, x1, i2⟩ := s114 j (X.2 (6 * k + 1))
  refine ⟨l5, l6, h2, ?_, i2⟩
  rw [b283_872, jx, gA1 hk hN, cond_true, cA1 hk hN, x_O L, cond_true, c1, bk_v]
  rw [b283_879, x1, gA1 hk hN, cond_true, cA1 hk hN, y_124 L1, cond_true, c2, bk_v]
  rw [b283_886, dT (show v = v from rfl), cond_true, b283_1248, n6]
set_option maxRecDepth 16384 in
theorem o889 {X : Nat × (Nat → Int32)} {k : Nat} (hk : 6 * k + 6 ≤ X.1) (hN : X.1 ≤ 3072) {h : A_H} (iv : Inv X k h) (l5 l6 : Option Value) : Dn X k (R 283 889 [some (.float 0), some (.ref 0), some (.ref 124), some (.ref 133), some (.int (nI (6 * k))), l5, l6] [] h) := by
  obtain ⟨T, D, S, o, n, H, m, K, tn, j⟩ := iv
  have L := j.1.1
  have jx : hX h = X := j.1.2.2.2.1
  obtain ⟨v, h1, h2, c1, c2, L1, x1, i2⟩ := s115 j 
  refine ⟨l5, l6, h2, ?_, i2⟩
  rw [b283_889, x_O L, cond_true, c1, bk_v]
  rw [b283_891, y_124 L1, cond_true, c2, bk_v]
  rw [b283_893, dT (show v = v from rfl), cond_true, b283_1248, n6]
set_option maxRecDepth 16384 in
theorem o896 {X : Nat × (Nat → Int32)} {k : Nat} (hk : 6 * k + 6 ≤ X.1) (hN : X.1 ≤ 3072) {h : A_H} (iv : Inv X k h) (l5 l6 : Option Value) : Dn X k (R 283 896 [some (.float 0), some (.ref 0), some (.ref 124), some (.ref 133), some (.int (nI (6 * k))), l5, l6] [] h) := by
  obtain ⟨T, D, S, o, n, H, m, K, tn, j⟩ := iv
  have L := j.1.1
  have jx : hX h = X := j.1.2.2.2.1
  cases e : decide (X.2 (6 * k + 1) = 0) with
  | true =>
    obtain ⟨v, h1, h2, c1, c2, L1, x1, i2⟩ := s116 j false
    rw [bI_F] at c1 c2
    refine ⟨l5, l6, h2, ?_, i2⟩
    rw [b283_896, jx, gA1 hk hN, cond_true, cA1 hk hN, e, cond_true, x_O L, cond_true, c1, bk_v]
    rw [b283_907, x1, gA1 hk hN, cond_true, cA1 hk hN, e, cond_true, y_124 L1, cond_true, c2, bk_v]
    rw [b283_918, dT (show v = v from rfl), cond_true, b283_1248, n6]
  | false =>
    obtain ⟨v, h1, h2, c1, c2, L1, x1, i2⟩ := s116 j true
    rw [bI_T] at c1 c2
    refine ⟨l5, l6, h2, ?_, i2⟩
    rw [b283_896, jx, gA1 hk hN, cond_true, cA1 hk hN, e, cond_false, x_O L, cond_true, c1, bk_v]
    rw [b283_907, x1, gA1 hk hN, cond_true, cA1 hk hN, e, cond_false, y_124 L1, cond_true, c2, bk_v]
    rw [b283_918, dT (show v = v from rfl), cond_true, b283_1248, n6]
set_option maxRecDepth 16384 in
theorem o921 {X : Nat × (Nat → Int32)} {k : Nat} (hk : 6 * k + 6 ≤ X.1) (hN : X.1 ≤ 3072) {h : A_H} (iv : Inv X k h) (l5 l6 : Option Value) : Dn X k (R 283 921 [some (.float 0), some (.ref 0), some (.ref 124), some (.ref 133), some (.int (nI (6 * k))), l5, l6] [] h) := by
  obtain ⟨T, D, S, o, n, H, m, K, tn, j⟩ := iv
  have L := j.1.1
  have jx : hX h = X := j.1.2.2.2.1
  obtain ⟨v, h1, h2, c1, c2, L1, x1, i2⟩ := s117 j 
  refine ⟨l5, l6, h2, ?_, i2⟩
  rw [b283_921, x_O L, cond_true, c1, bk_v]
  rw [b283_923, y_124 L1, cond_true, c2, bk_v]
  rw [b283_925, dT (show v = v from rfl), cond_true, b283_1248, n6]
set_option maxRecDepth 16384 in
theorem o928 {X : Nat × (Nat → Int32)} {k : Nat} (hk : 6 * k + 6 ≤ X.1) (hN : X.1 ≤ 3072) {h : A_H} (iv : Inv X k h) (l5 l6 : Option Value) : Dn X k (R 283 928 [some (.float 0), some (.ref 0), some (.ref 124), some (.ref 133), some (.int (nI (6 * k))), l5, l6] [] h) := by
  obtain ⟨T, D, S, o, n, H, m, K, tn, j⟩ := iv
  have L := j.1.1
  have jx : hX h = X := j.1.2.2.2.1
  obtain ⟨v, h1, h2, c1, c2, L1, x1, i2⟩ := s118 j (X.2 (6 * k + 1))
  refine ⟨l5, l6, h2, ?_, i2⟩
  rw [b283_928, jx, gA1 hk hN, cond_true, cA1 hk hN, x_O L, cond_true, c1, bk_v]
  rw [b283_935, x1, gA1 hk hN, cond_true, cA1 hk hN, y_124 L1, cond_true, c2, bk_v]
  rw [b283_942, dT (show v = v from rfl), cond_true, b283_1248, n6]
set_option maxRecDepth 16384 in
theorem o945 {X : Nat × (Nat → Int32)} {k : Nat} (hk : 6 * k + 6 ≤ X.1) (hN : X.1 ≤ 3072) {h : A_H} (iv : Inv X k h) (l5 l6 : Option Value) : Dn X k (R 283 945 [some (.float 0), some (.ref 0), some (.ref 124), some (.ref 133), some (.int (nI (6 * k))), l5, l6] [] h) := by
  obtain ⟨T, D, S, o, n, H, m, K, tn, j⟩ := iv
  have L := j.1.1
  have jx : hX h = X := j.1.2.2.2.1
  obtain ⟨v, h1, h2, c1, c2, L1, x1, i2⟩ := s119 j (X.2 (6 * k + 1))
  refine ⟨l5, l6, h2, ?_, i2⟩
  rw [b283_945, jx, gA1 hk hN, cond_true, cA1 hk hN, x_O L, cond_true, c1, bk_v]
  rw [b283_952, x1, gA1 hk hN, cond_true, cA1 hk hN, y_124 L1, cond_true, c2, bk_v]
  rw [b283_959, dT (show v = v from rfl), cond_true, b283_1248, n6]
set_option maxRecDepth 16384 in
theorem o962 {X : Nat × (Nat → Int32)} {k : Nat} (hk : 6 * k + 6 ≤ X.1) (hN : X.1 ≤ 3072) {h : A_H} (iv : Inv X k h) (l5 l6 : Option Value) : Dn X k (R 283 962 [some (.float 0), some (.ref 0), some (.ref 124), some (.ref 133), some (.int (nI (6 * k))), l5, l6] [] h) := by
  obtain ⟨T, D, S, o, n, H, m, K, tn, j⟩ := iv
  have L := j.1.1
  have jx : hX h = X := j.1.2.2.2.1
  cases e : decide (X.2 (6 * k + 3) = 0) with
  | true =>
    obtain ⟨v, h1, h2, c1, c2, L1, x1, i2⟩ := s120 j (X.2 (6 * k + 1)) (X.2 (6 * k + 2)) false
    rw [bI_F] at c1 c2
    refine ⟨l5, l6, h2, ?_, i2⟩
    rw [b283_962, jx, gA1 hk hN, cond_true, gA2 hk hN, cond_true, gA3 hk hN, cond_true, cA1 hk hN, cA2 hk hN, cA3 hk hN, e, cond_true, x_O L, cond_true, c1, bk_v]
    rw [b283_983, x1, gA1 hk hN, cond_true, gA2 hk hN, cond_true, gA3 hk hN, cond_true, cA1 hk hN, cA2 hk hN, cA3 hk hN, e, cond_true, y_124 L1, cond_true, c2, bk_v]
    rw [b283_1004, lg_self, dT (show (0 : Int32) = 0 from rfl), cond_true, b283_1248, n6]
  | false =>
    obtain ⟨v, h1, h2, c1, c2, L1, x1, i2⟩ := s120 j (X.2 (6 * k + 1)) (X.2 (6 * k + 2)) true
    rw [bI_T] at c1 c2
    refine ⟨l5, l6, h2, ?_, i2⟩
    rw [b283_962, jx, gA1 hk hN, cond_true, gA2 hk hN, cond_true, gA3 hk hN, cond_true, cA1 hk hN, cA2 hk hN, cA3 hk hN, e, cond_false, x_O L, cond_true, c1, bk_v]
    rw [b283_983, x1, gA1 hk hN, cond_true, gA2 hk hN, cond_true, gA3 hk hN, cond_true, cA1 hk hN, cA2 hk hN, cA3 hk hN, e, cond_false, y_124 L1, cond_true, c2, bk_v]
    rw [b283_1004, lg_self, dT (show (0 : Int32) = 0 from rfl), cond_true, b283_1248, n6]
set_option maxRecDepth 16384 in
theorem o1008 {X : Nat × (Nat → Int32)} {k : Nat} (hk : 6 * k + 6 ≤ X.1) (hN : X.1 ≤ 3072) {h : A_H} (iv : Inv X k h) (l5 l6 : Option Value) : Dn X k (R 283 1008 [some (.float 0), some (.ref 0), some (.ref 124), some (.ref 133), some (.int (nI (6 * k))), l5, l6] [] h) := by
  obtain ⟨T, D, S, o, n, H, m, K, tn, j⟩ := iv
  have L := j.1.1
  have jx : hX h = X := j.1.2.2.2.1
  obtain ⟨v, h1, h2, c1, c2, L1, x1, i2⟩ := s122 j (X.2 (6 * k + 1))
  refine ⟨l5, l6, h2, ?_, i2⟩
  rw [b283_1008, jx, gA1 hk hN, cond_true, cA1 hk hN, x_O L, cond_true, c1, bk_v]
  rw [b283_1015, x1, gA1 hk hN, cond_true, cA1 hk hN, y_124 L1, cond_true, c2, bk_v]
  rw [b283_1022, dT (show v = v from rfl), cond_true, b283_1248, n6]
set_option maxRecDepth 16384 in
theorem o1025 {X : Nat × (Nat → Int32)} {k : Nat} (hk : 6 * k + 6 ≤ X.1) (hN : X.1 ≤ 3072) {h : A_H} (iv : Inv X k h) (l5 l6 : Option Value) : Dn X k (R 283 1025 [some (.float 0), some (.ref 0), some (.ref 124), some (.ref 133), some (.int (nI (6 * k))), l5, l6] [] h) := by
  obtain ⟨T, D, S, o, n, H, m, K, tn, j⟩ := iv
  have L := j.1.1
  have jx : hX h = X := j.1.2.2.2.1
  obtain ⟨v, h1, h2, c1, c2, L1, x1, i2⟩ := s123 j (X.2 (6 * k + 1)) (X.2 (6 * k + 2)) (X.2 (6 * k + 3))
  refine ⟨l5, l6, h2, ?_, i2⟩
  rw [b283_1025, jx, gA1 hk hN, cond_true, gA2 hk hN, cond_true, gA3 hk hN, cond_true, cA1 hk hN, cA2 hk hN, cA3 hk hN, x_O L, cond_true, c1, bk_v]
  rw [b283_1042, x1, gA1 hk hN, cond_true, gA2 hk hN, cond_true, gA3 hk hN, cond_true, cA1 hk hN, cA2 hk hN, cA3 hk hN, y_124 L1, cond_true, c2, bk_v]
  rw [b283_1059, dT (show v = v from rfl), cond_true, b283_1248, n6]
set_option maxRecDepth 16384 in
theorem o1062 {X : Nat × (Nat → Int32)} {k : Nat} (hk : 6 * k + 6 ≤ X.1) (hN : X.1 ≤ 3072) {h : A_H} (iv : Inv X k h) (l5 l6 : Option Value) : Dn X k (R 283 1062 [some (.float 0), some (.ref 0), some (.ref 124), some (.ref 133), some (.int (nI (6 * k))), l5, l6] [] h) := by
  obtain ⟨T, D, S, o, n, H, m, K, tn, j⟩ := iv
  have L := j.1.1
  have jx : hX h = X := j.1.2.2.2.1
  obtain ⟨v, h1, h2, c1, c2, L1, x1, i2⟩ := s124 j (X.2 (6 * k + 1))
  refine ⟨l5, l6, h2, ?_, i2⟩
  rw [b283_1062, jx, gA1 hk hN, cond_true, cA1 hk hN, x_O L, cond_true, c1, bk_v]
  rw [b283_1069, x1, gA1 hk hN, cond_true, cA1 hk hN, y_124 L1, cond_true, c2, bk_v]
  rw [b283_1076, dT (show v = v from rfl), cond_true, b283_1248, n6]
set_option maxRecDepth 16384 in
theorem o1079 {X : Nat × (Nat → Int32)} {k : Nat} (hk : 6 * k + 6 ≤ X.1) (hN : X.1 ≤ 3072) {h : A_H} (iv : Inv X k h) (l5 l6 : Option Value) : Dn X k (R 283 1079 [some (.float 0), some (.ref 0), some (.ref 124), some (.ref 133), some (.int (nI (6 * k))), l5, l6] [] h) := by
  obtain ⟨T, D, S, o, n, H, m, K, tn, j⟩ := iv
  have L := j.1.1
  have jx : hX h = X := j.1.2.2.2.1
  cases e : decide (X.2 (6 * k + 2) = 0) with
  | true =>
    obtain ⟨v, h1, h2, c1, c2, L1, x1, i2⟩ := s125 j (X.2 (6 * k + 1)) false
    rw [bI_F] at c1 c2
    refine ⟨l5, l6, h2, ?_, i2⟩
    rw [b283_1079, jx, gA1 hk hN, cond_true, gA2 hk hN, cond_true, cA1 hk hN, cA2 hk hN, e, cond_true, x_O L, cond_true, c1, bk_v]
    rw [b283_1095, x1, gA1 hk hN, cond_true, gA2 hk hN, cond_true, cA1 hk hN, cA2 hk hN, e, cond_true, y_124 L1, cond_true, c2, bk_v]
    rw [b283_1111, dT (show v = v from rfl), cond_true, b283_1248, n6]
  | false =>
    obtain ⟨v, h1, h2, c1, c2, L1, x1, i2⟩ := s125 j (X.2 (6 * k + 1)) true
    rw [bI_T] at c1 c2
    refine ⟨l5, l6, h2, ?_, i2⟩
    rw [b283_1079, jx, gA1 hk hN, cond_true, gA2 hk hN, cond_true, cA1 hk hN, cA2 hk hN, e, cond_false, x_O L, cond_true, c1, bk_v]
    rw [b283_1095, x1, gA1 hk hN, cond_true, gA2 hk hN, cond_true, cA1 hk hN, cA2 hk hN, e, cond_false, y_124 L1, cond_true, c2, bk_v]
    rw [b283_1111, dT (show v = v from rfl), cond_true, b283_1248, n6]
set_option maxRecDepth 16384 in
theorem o1114 {X : Nat × (Nat → Int32)} {k : Nat} (hk : 6 * k + 6 ≤ X.1) (hN : X.1 ≤ 3072) {h : A_H} (iv : Inv X k h) (l5 l6 : Option Value) : Dn X k (R 283 1114 [some (.float 0), some (.ref 0), some (.ref 124), some (.ref 133), some (.int (nI (6 * k))), l5, l6] [] h) := by
  obtain ⟨T, D, S, o, n, H, m, K, tn, j⟩ := iv
  have L := j.1.1
  have jx : hX h = X := j.1.2.2.2.1
  obtain ⟨v, h1, h2, c1, c2, L1, x1, i2⟩ := s126 j (X.2 (6 * k + 1)) (X.2 (6 * k + 2))
  refine ⟨l5, l6, h2, ?_, i2⟩
  rw [b283_1114, jx, gA1 hk hN, cond_true, gA2 hk hN, cond_true, cA1 hk hN, cA2 hk hN, x_O L, cond_true, c1, bk_v]
  rw [b283_1126, x1, gA1 hk hN, cond_true, gA2 hk hN, cond_true, cA1 hk hN, cA2 hk hN, y_124 L1, cond_true, c2, bk_v]
  rw [b283_1138, dT (show v = v from rfl), cond_true, b283_1248, n6]
set_option maxRecDepth 16384 in
theorem o1141 {X : Nat × (Nat → Int32)} {k : Nat} (hk : 6 * k + 6 ≤ X.1) (hN : X.1 ≤ 3072) {h : A_H} (iv : Inv X k h) (l5 l6 : Option Value) : Dn X k (R 283 1141 [some (.float 0), some (.ref 0), some (.ref 124), some (.ref 133), some (.int (nI (6 * k))), l5, l6] [] h) := by
  obtain ⟨T, D, S, o, n, H, m, K, tn, j⟩ := iv
  have L := j.1.1
  have jx : hX h = X := j.1.2.2.2.1
  obtain ⟨v, h1, h2, c1, c2, L1, x1, i2⟩ := s127 j (X.2 (6 * k + 1))
  refine ⟨l5, l6, h2, ?_, i2⟩
  rw [b283_1141, jx, gA1 hk hN, cond_true, cA1 hk hN, x_O L, cond_true, c1, bk_v]
  rw [b283_1148, x1, gA1 hk hN, cond_true, cA1 hk hN, y_124 L1, cond_true, c2, bk_v]
  rw [b283_1155, dT (show v = v from rfl), cond_true, b283_1248, n6]
set_option maxRecDepth 16384 in
theorem o1158 {X : Nat × (Nat → Int32)} {k : Nat} (hk : 6 * k + 6 ≤ X.1) (hN : X.1 ≤ 3072) {h : A_H} (iv : Inv X k h) (l5 l6 : Option Value) : Dn X k (R 283 1158 [some (.float 0), some (.ref 0), some (.ref 124), some (.ref 133), some (.int (nI (6 * k))), l5, l6] [] h) := by
  obtain ⟨T, D, S, o, n, H, m, K, tn, j⟩ := iv
  have L := j.1.1
  have jx : hX h = X := j.1.2.2.2.1
  obtain ⟨v, h1, h2, c1, c2, L1, x1, i2⟩ := s128 j 
  refine ⟨l5, l6, h2, ?_, i2⟩
  rw [b283_1158, x_O L, cond_true, c1, bk_v]
  rw [b283_1160, y_124 L1, cond_true, c2, bk_v]
  rw [b283_1162, dT (show v = v from rfl), cond_true, b283_1248, n6]
set_option maxRecDepth 16384 in
theorem o1165 {X : Nat × (Nat → Int32)} {k : Nat} (hk : 6 * k + 6 ≤ X.1) (hN : X.1 ≤ 3072) {h : A_H} (iv : Inv X k h) (l5 l6 : Option Value) : Dn X k (R 283 1165 [some (.float 0), some (.ref 0), some (.ref 124), some (.ref 133), some (.int (nI (6 * k))), l5, l6] [] h) := by
  obtain ⟨T, D, S, o, n, H, m, K, tn, j⟩ := iv
  have L := j.1.1
  have jx : hX h = X := j.1.2.2.2.1
  obtain ⟨v, h1, h2, c1, c2, L1, x1, i2⟩ := s129 j 
  refine ⟨l5, l6, h2, ?_, i2⟩
  rw [b283_1165, x_O L, cond_true, c1, bk_v]
  rw [b283_1167, y_124 L1, cond_true, c2, bk_v]
  rw [b283_1169, dT (show v = v from rfl), cond_true, b283_1248, n6]
set_option maxRecDepth 16384 in
theorem o1172 {X : Nat × (Nat → Int32)} {k : Nat} (hk : 6 * k + 6 ≤ X.1) (hN : X.1 ≤ 3072) {h : A_H} (iv : Inv X k h) (l5 l6 : Option Value) : Dn X k (R 283 1172 [some (.float 0), some (.ref 0), some (.ref 124), some (.ref 133), some (.int (nI (6 * k))), l5, l6] [] h) := by
  obtain ⟨T, D, S, o, n, H, m, K, tn, j⟩ := iv
  have L := j.1.1
  have jx : hX h = X := j.1.2.2.2.1
  obtain ⟨v, h1, h2, c1, c2, L1, x1, i2⟩ := s130 j (X.2 (6 * k + 1))
  refine ⟨l5, l6, h2, ?_, i2⟩
  rw [b283_1172, jx, gA1 hk hN, cond_true, cA1 hk hN, x_O L, cond_true, c1, bk_v]
  rw [b283_1179, x1, gA1 hk hN, cond_true, cA1 hk hN, y_124 L1, cond_true, c2, bk_v]
  rw [b283_1186, dT (show v = v from rfl), cond_true, b283_1248, n6]
set_option maxRecDepth 16384 in
theorem o1224 {X : Nat × (Nat → Int32)} {k : Nat} (hk : 6 * k + 6 ≤ X.1) (hN : X.1 ≤ 3072) {h : A_H} (iv : Inv X k h) (l5 l6 : Option Value) : Dn X k (R 283 1224 [some (.float 0), some (.ref 0), some (.ref 124), some (.ref 133), some (.int (nI (6 * k))), l5, l6] [] h) := by
  obtain ⟨T, D, S, o, n, H, m, K, tn, j⟩ := iv
  have L := j.1.1
  have jx : hX h = X := j.1.2.2.2.1
  obtain ⟨v, h1, h2, c1, c2, L1, x1, i2⟩ := s132 j (X.2 (6 * k + 1))
  refine ⟨l5, l6, h2, ?_, i2⟩
  rw [b283_1224, jx, gA1 hk hN, cond_true, cA1 hk hN, x_O L, cond_true, c1, bk_v]
  rw [b283_1231, x1, gA1 hk hN, cond_true, cA1 hk hN, y_124 L1, cond_true, c2, bk_v]
  rw [b283_1238, dT (show v = v from rfl), cond_true, b283_1248, n6]
set_option maxRecDepth 16384 in
theorem o1241 {X : Nat × (Nat → Int32)} {k : Nat} (hk : 6 * k + 6 ≤ X.1) (hN : X.1 ≤ 3072) {h : A_H} (iv : Inv X k h) (l5 l6 : Option Value) : Dn X k (R 283 1241 [some (.float 0), some (.ref 0), some (.ref 124), some (.ref 133), some (.int (nI (6 * k))), l5, l6] [] h) := by
  obtain ⟨T, D, S, o, n, H, m, K, tn, j⟩ := iv
  have L := j.1.1
  have jx : hX h = X := j.1.2.2.2.1
  obtain ⟨v, h1, h2, c1, c2, L1, x1, i2⟩ := s133 j 
  refine ⟨l5, l6, h2, ?_, i2⟩
  rw [b283_1241, x_O L, cond_true, c1, bk_v]
  rw [b283_1243, y_124 L1, cond_true, c2, bk_v]
  rw [b283_1245, dT (show v = v from rfl), cond_true, b283_1248, n6]
set_option maxRecDepth 16384 in
theorem o1189 {X : Nat × (Nat → Int32)} {k : Nat} (hk : 6 * k + 6 ≤ X.1) (hN : X.1 ≤ 3072) {h : A_H} (iv : Inv X k h) (l5 l6 : Option Value) : Dn X k (R 283 1189 [some (.float 0), some (.ref 0), some (.ref 124), some (.ref 133), some (.int (nI (6 * k))), l5, l6] [] h) := by
  obtain ⟨T, D, S, o, n, H, m, K, tn, j⟩ := iv
  have L := j.1.1
  have jx : hX h = X := j.1.2.2.2.1
  obtain ⟨v, g, h1, h2, c1, c2, c3, c4, L1, L2, x1, i2⟩ := sLed j (X.2 (6 * k + 1))
  refine ⟨some (.int v), some (.int g), h2, ?_, i2⟩
  rw [b283_1189, jx, gA1 hk hN, cond_true, cA1 hk hN, c1, bk_v]
  rw [b283_1197, x1, gA1 hk hN, cond_true, cA1 hk hN, y_124 L1, cond_true, c2, bk_v]
  rw [b283_1205, y_124 L2, cond_true, c3, bk_v]
  rw [b283_1208, dT (show v = v from rfl), cond_true]
  cases e : decide (v = 0) with
  | true => rw [Bool.not_true, cond_false, isA_133 L2, cond_true, show ((0 : Int32)).toNatClampNeg = 0 from rfl, c4 (of_decide_eq_true e), lg_self, dT (show (0 : Int32) = 0 from rfl), cond_true, b283_1248, n6]
  | false => rw [Bool.not_false, cond_true, b283_1248, n6]
set_option maxRecDepth 16384 in
theorem Inv_s {X : Nat × (Nat → Int32)} {k : Nat} {h : A_H} (iv : Inv X k h) : Inv X (k + 1) h := by
  obtain ⟨T, D, S, o, n, H, m, K, tn, ⟨L, jn, js, jx, jr⟩, j⟩ := iv
  exact ⟨T, D, S, o, n, H, m, K, tn, ⟨L, by omega, by omega, jx, jr⟩, j⟩
set_option maxRecDepth 16384 in
theorem o1248 {X : Nat × (Nat → Int32)} {k : Nat} (hk : 6 * k + 6 ≤ X.1) (hN : X.1 ≤ 3072) {h : A_H} (iv : Inv X k h) (l5 l6 : Option Value) : Dn X k (R 283 1248 [some (.float 0), some (.ref 0), some (.ref 124), some (.ref 133), some (.int (nI (6 * k))), l5, l6] [] h) := ⟨l5, l6, h, by rw [b283_1248, n6], Inv_s iv⟩
set_option maxRecDepth 16384 in
theorem gl_stp {X : Nat × (Nat → Int32)} {k : Nat} (hk : 6 * k + 6 ≤ X.1) (hN : X.1 ≤ 3072) {h : A_H} (iv : Inv X k h) (l5 l6 : Option Value) (hb : k ≤ 512) : Dn X k (R 283 13 [some (.float 0), some (.ref 0), some (.ref 124), some (.ref 133), some (.int (nI (6 * k))), l5, l6] [] h) := by
  have jx : hX h = X := by
    obtain ⟨T, D, S, o, n, H, m, K, tn, j⟩ := iv
    exact j.1.2.2.2.1
  rw [b283_13, jx, gA0 hk hN, show decide ((0 : UInt32) = 0) = true from rfl, cond_true, hd_lt hN (by omega), dF (show ¬ X.1 < 6 * k + 6 by omega), cond_false, cond_true]
  exact gl_cd (o25 hk hN iv l5 l6) (gl_cd (o82 hk hN iv l5 l6) (gl_cd (o99 hk hN iv l5 l6) (gl_cd (o106 hk hN iv l5 l6) (gl_cd (o113 hk hN iv l5 l6) (gl_cd (o140 hk hN iv l5 l6) (gl_cd (o167 hk hN iv l5 l6) (gl_cd (o194 hk hN iv l5 l6) (gl_cd (o221 hk hN iv l5 l6) (gl_cd (o248 hk hN iv l5 l6) (gl_cd (o275 hk hN iv l5 l6) (gl_cd (o302 hk hN iv l5 l6) (gl_cd (o319 hk hN iv l5 l6) (gl_cd (o356 hk hN iv l5 l6) (gl_cd (o393 hk hN iv l5 l6) (gl_cd (o430 hk hN iv l5 l6) (gl_cd (o457 hk hN iv l5 l6) (gl_cd (o484 hk hN iv l5 l6) (gl_cd (o521 hk hN iv l5 l6) (gl_cd (o548 hk hN iv l5 l6) (gl_cd (o575 hk hN iv l5 l6) (gl_cd (o602 hk hN iv l5 l6) (gl_cd (o639 hk hN iv l5 l6) (gl_cd (o676 hk hN iv l5 l6) (gl_cd (o713 hk hN iv l5 l6) (gl_cd (o750 hk hN iv l5 l6) (gl_cd (o787 hk hN iv l5 l6) (gl_cd (o804 hk hN iv l5 l6) (gl_cd (o821 hk hN iv l5 l6) (gl_cd (o848 hk hN iv l5 l6) (gl_cd (o855 hk hN iv l5 l6) (gl_cd (o872 hk hN iv l5 l6) (gl_cd (o889 hk hN iv l5 l6) (gl_cd (o896 hk hN iv l5 l6) (gl_cd (o921 hk hN iv l5 l6) (gl_cd (o928 hk hN iv l5 l6) (gl_cd (o945 hk hN iv l5 l6) (gl_cd (o962 hk hN iv l5 l6) (gl_cd (o1008 hk hN iv l5 l6) (gl_cd (o1025 hk hN iv l5 l6) (gl_cd (o1062 hk hN iv l5 l6) (gl_cd (o1079 hk hN iv l5 l6) (gl_cd (o1114 hk hN iv l5 l6) (gl_cd (o1141 hk hN iv l5 l6) (gl_cd (o1158 hk hN iv l5 l6) (gl_cd (o1165 hk hN iv l5 l6) (gl_cd (o1172 hk hN iv l5 l6) (gl_cd (o1189 hk hN iv l5 l6) (gl_cd (o1224 hk hN iv l5 l6) (gl_cd (o1241 hk hN iv l5 l6) (o1248 hk hN iv l5 l6))))))))))))))))))))))))))))))))))))))))))))))))))
set_option maxRecDepth 16384 in
theorem gl_fin {X : Nat × (Nat → Int32)} {k : Nat} (hk : ¬ 6 * k + 6 ≤ X.1) (hN : X.1 ≤ 3072) {h : A_H} (jx : hX h = X) (l5 l6 : Option Value) (hb : k ≤ 512) : R 283 13 [some (.float 0), some (.ref 0), some (.ref 124), some (.ref 133), some (.int (nI (6 * k))), l5, l6] [] h = some (some (some (.int 1)), h) := by
  rw [b283_13, jx, show decide ((0 : UInt32) = 0) = true from rfl, cond_true, hd_lt hN (by omega), dT (show X.1 < 6 * k + 6 by omega), cond_true, show (decide ((1 : Int32) = 0) || decide ((1 : Int32) = 1)) = true from rfl, cond_true]
set_option maxRecDepth 16384 in
theorem gl_loop {X : Nat × (Nat → Int32)} (hN : X.1 ≤ 3072) : ∀ (f k : Nat) (l5 l6 : Option Value) (h : A_H), Inv X k h → k ≤ 512 → X.1 < 6 * k + 6 + 6 * f → ∃ h', R 283 13 [some (.float 0), some (.ref 0), some (.ref 124), some (.ref 133), some (.int (nI (6 * k))), l5, l6] [] h = some (some (some (.int 1)), h') ∧ hn h' ≤ 601024 ∧ hs h' ≤ 7293034
  | 0, k, l5, l6, h, iv, hb, hf => by
    obtain ⟨T, D, S, o, n, H, m, K, tn, j⟩ := iv
    obtain ⟨⟨-, jn, js, jx, -⟩, -⟩ := j
    exact ⟨h, gl_fin (by omega) hN jx l5 l6 hb, by omega, by omega⟩
  | f + 1, k, l5, l6, h, iv, hb, hf => by
    by_cases hk : 6 * k + 6 ≤ X.1
    · obtain ⟨m5, m6, h1, e, i1⟩ := gl_stp hk hN iv l5 l6 hb
      rw [e]
      exact gl_loop hN f (k + 1) m5 m6 h1 i1 (by omega) (by omega)
    · obtain ⟨T, D, S, o, n, H, m, K, tn, j⟩ := iv
      obtain ⟨⟨-, jn, js, jx, -⟩, -⟩ := j
      exact ⟨h, gl_fin hk hN jx l5 l6 hb, by omega, by omega⟩
set_option maxRecDepth 16384 in
theorem law_pur (L : Nat) (xs : Nat → Int32) (hL : L ≤ 3072) : ∃ h' : A_H, C 283 [.float 0] ((0, 0, fun _ => (0, 0), fun _ _ => 0, fun _ _ => 0, fun _ _ => none, (L, xs)) : A_H) = some (some (some (.int 1)), h') ∧ hn h' ≤ 601024 ∧ hs h' ≤ 7293034 := by
  rw [start]
  exact gl_loop (X := (L, xs)) hL 600 0 none none (hS L xs) (S_inv L xs) (by decide) (by show L < _; omega)
