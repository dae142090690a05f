/-! THE START: what the Statement gives, as the abstract machine's beginning -/
def a_s7 : List Nat := [33, 39, 41, 43, 45, 47, 49, 51, 53, 55, 57, 181, 192, 210, 216, 221, 229, 236, 244, 250, 254, 295, 297, 299, 301, 281, 285, 289, 319, 323, 330, 334]
def a_s13 : List Nat := [130, 132, 134, 136, 138, 140, 142, 144, 146, 148, 150, 224, 229, 243, 245, 247, 259, 261, 267, 269, 271, 279, 281, 283, 285, 296, 298, 300, 326, 330, 343, 344]
def a_flat : List Cond := flatC (Jvm.Cond.and given_1 narrow_1)
def a_ix : List Nat := [25, 36, 45, 58, 66, 74, 83, 94, 103, 112, 121, 127, 134, 146, 154, 160, 169, 178, 188, 196, 205, 214, 223, 231, 238, 246, 253, 263, 272, 279, 287, 295]
def a_iy : List Nat := [315, 346, 360, 369, 378, 388, 400, 410, 420, 430, 437, 323, 336, 446, 453, 463, 473, 484, 493, 503, 513, 523, 532, 540, 549, 557, 568, 578, 586, 595, 604, 614]
theorem a_n1' : ∀ i, i < 32 → a_flat[a_ix.getD i 0]? = some (Cond.exactly (.string RX7 (a_s7.getD i 0)) "java/lang/String") := by decide +kernel
theorem a_n1 : ∀ i, i < 32 → Cond.exactly (.string RX7 (a_s7.getD i 0)) "java/lang/String" ∈ a_flat := fun i hi => List.mem_of_getElem? (a_n1' i hi)
theorem a_n2' : ∀ i, i < 32 → a_flat[a_ix.getD i 0 + 1]? = some (Cond.eq (.field (.string RX7 (a_s7.getD i 0)) "java/lang/String" "coder" "B") (.int 0)) := by decide +kernel
theorem a_n2 : ∀ i, i < 32 → Cond.eq (.field (.string RX7 (a_s7.getD i 0)) "java/lang/String" "coder" "B") (.int 0) ∈ a_flat := fun i hi => List.mem_of_getElem? (a_n2' i hi)
theorem a_n3' : ∀ i, i < 32 → a_flat[a_ix.getD i 0 + 2]? = some (Cond.arrayOf (.field (.string RX7 (a_s7.getD i 0)) "java/lang/String" "value" "[B") .byte) := by decide +kernel
theorem a_n3 : ∀ i, i < 32 → Cond.arrayOf (.field (.string RX7 (a_s7.getD i 0)) "java/lang/String" "value" "[B") .byte ∈ a_flat := fun i hi => List.mem_of_getElem? (a_n3' i hi)
theorem a_n4' : ∀ i, i < 32 → a_flat[a_ix.getD i 0 + 3]? = some (Cond.eq (.length (.field (.string RX7 (a_s7.getD i 0)) "java/lang/String" "value" "[B")) (.int (Int32.ofNat (a_T.getD i []).length))) := by decide +kernel
theorem a_n4 : ∀ i, i < 32 → Cond.eq (.length (.field (.string RX7 (a_s7.getD i 0)) "java/lang/String" "value" "[B")) (.int (Int32.ofNat (a_T.getD i []).length)) ∈ a_flat := fun i hi => List.mem_of_getElem? (a_n4' i hi)
theorem a_n5' : ∀ i, i < 32 → ∀ j, j < (a_T.getD i []).length → a_flat[a_ix.getD i 0 + 4 + j]? = some (Cond.eq (.elem (.field (.string RX7 (a_s7.getD i 0)) "java/lang/String" "value" "[B") (.int (Int32.ofNat j))) (.int (Int32.ofNat ((a_T.getD i []).getD j 0)))) := by decide +kernel
theorem a_n5 : ∀ i, i < 32 → ∀ j, j < (a_T.getD i []).length → Cond.eq (.elem (.field (.string RX7 (a_s7.getD i 0)) "java/lang/String" "value" "[B") (.int (Int32.ofNat j))) (.int (Int32.ofNat ((a_T.getD i []).getD j 0))) ∈ a_flat := fun i hi j hj => List.mem_of_getElem? (a_n5' i hi j hj)
theorem a_n6' : ∀ i, i < 32 → a_flat[a_iy.getD i 0]? = some (Cond.eq (.string RX7 (a_s7.getD i 0)) (.string RX13 (a_s13.getD i 0))) := by decide +kernel
theorem a_n6 : ∀ i, i < 32 → Cond.eq (.string RX7 (a_s7.getD i 0)) (.string RX13 (a_s13.getD i 0)) ∈ a_flat := fun i hi => List.mem_of_getElem? (a_n6' i hi)
theorem a_n7 : ∀ q ∈ a_sr, (0 < q.2.2.2 ∧ q.2.2.2 ≤ 32) ∧ ((q.1 = RX7 ∧ q.2.1 = a_s7.getD (q.2.2.2 - 1) 0) ∨ (q.1 = RX13 ∧ q.2.1 = a_s13.getD (q.2.2.2 - 1) 0)) ∧ Cond.stringRef q.1 q.2.1 q.2.2.1 ∈ lw_tbl := by decide +kernel
theorem a_n8 : Cond.eq (.static "java/lang/String" "COMPACT_STRINGS" "Z") (.int 1) ∈ a_flat ∧ Cond.isRef (.static "jdk/internal/util/Preconditions" "SIOOBE_FORMATTER" "Ljava/util/function/BiFunction;") ∈ a_flat ∧ Cond.isRef (.static Bundle.tN "UNASSIGNED_STACK" Bundle.steD) ∈ a_flat ∧ Cond.isRef (.static Bundle.tN "SUPPRESSED_SENTINEL" Bundle.listD) ∈ a_flat := by decide +kernel
theorem a_n9 : (Cond.laysStatic "java/lang/String" "COMPACT_STRINGS" "Z" ∈ lw_tbl ∧ Cond.initialized "java/lang/String" ∈ lw_tbl) ∧ (Cond.laysStatic "jdk/internal/util/Preconditions" "SIOOBE_FORMATTER" "Ljava/util/function/BiFunction;" ∈ lw_tbl ∧ Cond.initialized "jdk/internal/util/Preconditions" ∈ lw_tbl) ∧ (Cond.laysStatic Bundle.tN "UNASSIGNED_STACK" Bundle.steD ∈ lw_tbl ∧ Cond.laysStatic Bundle.tN "SUPPRESSED_SENTINEL" Bundle.listD ∈ lw_tbl ∧ Cond.initialized Bundle.tN ∈ lw_tbl) := by decide +kernel
theorem a_n10 : ∀ t, t < 3 → Cond.arrayClass (a_at.getD t .int) ∈ lw_tbl := by decide +kernel
theorem a_str {args : Array Value} {s : State} {own : String} {idx n b : Nat} {f : Nat → Int32} (hA : ∀ a : Nat, a < s.heap.size → ¬ b ≤ a) (hn : n < 2 ^ 31) (hex : (Cond.exactly (.string own idx) "java/lang/String").before args s = true) (hco : (Cond.eq (.field (.string own idx) "java/lang/String" "coder" "B") (.int 0)).before args s = true)
    (har : (Cond.arrayOf (.field (.string own idx) "java/lang/String" "value" "[B") .byte).before args s = true) (hle : (Cond.eq (.length (.field (.string own idx) "java/lang/String" "value" "[B")) (.int (Int32.ofNat n))).before args s = true)
    (hel : ∀ j : Nat, j < n → (Cond.eq (.elem (.field (.string own idx) "java/lang/String" "value" "[B") (.int (Int32.ofNat j))) (.int (f j))).before args s = true) :
    ∃ ka kv : Nat, (Term.string own idx).eval args s none [] s = some (.ref ka) ∧ va_O "java/lang/String" ka (fun q => b ≤ q) s s.heap ∧ va_OF "java/lang/String" "coder" "B" (.int 0) ka (fun q => b ≤ q) s s.heap ∧ va_OF "java/lang/String" "value" "[B" (.ref kv) ka (fun q => b ≤ q) s s.heap ∧ va_T .byte kv n (fun j => .int (f j)) (fun q => b ≤ q) s s.heap := by
  obtain ⟨a, c, cA, kA, q1, q2, q3, q4, q5, q6, -⟩ := Cond.exactly_spec (args := args) (first := s) (o := none) (s := s) (idx := []) (t := .string own idx) (cls := "java/lang/String") hex
  obtain ⟨t, ht, hT⟩ := va_Tof (f := fun j => .int (f j)) (A := fun q => b ≤ q) hn har (va_eqt hle) (fun j hj => va_eqt (hel j hj)) hA
  exact ⟨a, t, q1, ⟨cA, q3, q5, by rw [q6]; exact q2, hA a (Array.getElem?_eq_some_iff.mp q3).1⟩, vk_OFof q1 (va_eqt hco) hA, vk_OFof q1 ht hA, hT⟩
theorem a_eq2 {args : Array Value} {s : State} {t u : Term} {v : Value} (h : (Cond.eq t u).before args s = true) (ht : t.eval args s none [] s = some v) : u.eval args s none [] s = some v := by
  obtain ⟨w, h1, h2⟩ := Cond.eq_one (show (Cond.eq t u).holds args s none s [] = true from h)
  rw [ht] at h1
  cases h1
  exact h2
theorem a_ex0 {s : State} {b0 L : Nat} {xs : Nat → Int32} (hts : ∀ w ∈ lw_tbl, w.before #[Value.ref b0] s = true) (hX9 : va_X b0 L xs s s.heap) (hbl : b0 < s.heap.size) (hgv : (Jvm.Cond.and given_1 narrow_1).before #[Value.ref b0] s = true) : ∃ ex : Nat → Option Nat, ex 0 = some b0 ∧ a_E s.heap.size ex (L, xs) s s.heap := by
  have hs : ∀ c ∈ a_flat, c.before #[Value.ref b0] s = true := flat_of_before _ hgv
  have hA : ∀ a : Nat, a < s.heap.size → ¬ s.heap.size ≤ a := fun a h => Nat.not_le.mpr h
  have hlen : ∀ i, i < 32 → (a_T.getD i []).length < 2 ^ 31 := by decide +kernel
  have h0 : ∀ i : Nat, ∃ q : Nat × Nat, i < 32 → (Term.string RX7 (a_s7.getD i 0)).eval #[Value.ref b0] s none [] s = some (.ref q.1) ∧ va_O "java/lang/String" q.1 (fun z => s.heap.size ≤ z) s s.heap ∧ va_OF "java/lang/String" "coder" "B" (.int 0) q.1 (fun z => s.heap.size ≤ z) s s.heap ∧ va_OF "java/lang/String" "value" "[B" (.ref q.2) q.1 (fun z => s.heap.size ≤ z) s s.heap ∧ va_T .byte q.2 (a_T.getD i []).length (fun j => .int (Int32.ofNat ((a_T.getD i []).getD j 0))) (fun z => s.heap.size ≤ z) s s.heap := by
    intro i
    by_cases hi : i < 32
    · obtain ⟨ka, kv, r⟩ := a_str (b := s.heap.size) (f := fun j => Int32.ofNat ((a_T.getD i []).getD j 0)) hA (hlen i hi) (hs _ (a_n1 i hi)) (hs _ (a_n2 i hi)) (hs _ (a_n3 i hi)) (hs _ (a_n4 i hi)) (fun j hj => hs _ (a_n5 i hi j hj))
      exact ⟨(ka, kv), fun _ => r⟩
    · exact ⟨(0, 0), fun h => absurd h hi⟩
  obtain ⟨ad, had⟩ := Classical.axiomOfChoice h0
  obtain ⟨sio, hsio⟩ : ∃ r : Option Nat, va_Z "jdk/internal/util/Preconditions" "SIOOBE_FORMATTER" "Ljava/util/function/BiFunction;" (va_rf r) (fun q => s.heap.size ≤ q) s s.heap := by
    rcases va_Zqof (A := fun q => s.heap.size ≤ q) (hts _ a_n9.2.1.1) (hts _ a_n9.2.1.2) (hs _ a_n8.2.1) hA with h | ⟨t, h⟩
    · exact ⟨none, h⟩
    · exact ⟨some t, h⟩
  refine ⟨fun k => if k = 0 then some b0 else if k ≤ 32 then some (ad (k - 1)).1 else if k ≤ 64 then some (ad (k - 33)).2 else sio, rfl, ⟨b0, rfl, hbl, hX9⟩, fun i hi => ?_, fun q hq => ?_, va_Zof (hts _ a_n9.1.1) (hts _ a_n9.1.2) (va_eqt (hs _ a_n8.1)) hA, hsio, vx_Zqof (hts _ a_n9.2.2.1) (hts _ a_n9.2.2.2.2) (hs _ a_n8.2.2.1) hA, vx_Zqof (hts _ a_n9.2.2.2.1) (hts _ a_n9.2.2.2.2) (hs _ a_n8.2.2.2) hA⟩
  · obtain ⟨r1, r2, r3, r4, r5⟩ := had i hi
    refine ⟨(ad i).1, (ad i).2, ?_, ?_, r2, r3, r4, r5⟩
    · dsimp only; rw [if_neg (by omega), if_pos (by omega), Nat.add_sub_cancel]
    · dsimp only; rw [if_neg (by omega), if_neg (by omega), if_pos (by omega), Nat.add_sub_cancel]
  · obtain ⟨⟨g1, g2⟩, g3, g4⟩ := a_n7 q hq
    refine ⟨(ad (q.2.2.2 - 1)).1, by dsimp only; rw [if_neg (by omega), if_pos g2], ?_⟩
    have r1 := (had (q.2.2.2 - 1) (by omega)).1
    rcases g3 with ⟨e1, e2⟩ | ⟨e1, e2⟩
    · exact vk_R.of (hts _ g4) (by rw [e1, e2]; exact r1)
    · exact vk_R.of (hts _ g4) (by rw [e1, e2]; exact a_eq2 (hs _ (a_n6 _ (by omega))) r1)
theorem a_okc_all : ∀ ci, ci < 15 → a_okc ci
  | 0, _ => okc0
  | 1, _ => okc1
  | 2, _ => okc2
  | 3, _ => okc3
  | 4, _ => okc4
  | 5, _ => okc5
  | 6, _ => okc6
  | 7, _ => okc7
  | 8, _ => okc8
  | 9, _ => okc9
  | 10, _ => okc10
  | 11, _ => okc11
  | 12, _ => okc12
  | 13, _ => okc13
  | 14, _ => okc14
  | n + 15, h => absurd h (by omega)
theorem a_inst : ∀ ci, ci < 15 → Cond.instantiable (a_cq ci).1 (if ci = 14 then 6 else (a_cq ci).2.2) ∈ lw_tbl := by decide +kernel
theorem a_ovr : ∀ t, 2 < t → t < 9 → ∃ cn, a_at.getD t .int = .object cn ∧ Cond.arrayOver (.object cn) ∈ lw_tbl
  | 0, h, _ => absurd h (by omega)
  | 1, h, _ => absurd h (by omega)
  | 2, h, _ => absurd h (by omega)
  | 3, _, _ => ⟨_, rfl, by decide +kernel⟩
  | 4, _, _ => ⟨_, rfl, by decide +kernel⟩
  | 5, _, _ => ⟨_, rfl, by decide +kernel⟩
  | 6, _, _ => ⟨_, rfl, by decide +kernel⟩
  | 7, _, _ => ⟨_, rfl, by decide +kernel⟩
  | 8, _, _ => ⟨_, rfl, by decide +kernel⟩
  | n + 9, _, h => absurd h (by omega)
theorem a_K0 {s : State} {args : Array Value} (hts : ∀ w ∈ lw_tbl, w.before args s = true) : ∃ (D : va_G) (aC : Nat → ClassId), va_K D a_cl (a_tys aC) s := by
  have hta : ∀ w ∈ a_tb, w.before args s = true := fun w hw => hts w (List.mem_filter.mp hw).1
  have h0 : ∀ ci : Nat, ∃ q : ClassId × (Nat → Nat), ci < 15 → u_Kn s (a_cq ci).1 (a_cq ci).2.1 (a_cq ci).2.2 q.1 q.2 := by
    intro ci
    by_cases hi : ci < 15
    · obtain ⟨cC, iS, h⟩ := u_known (C := (a_cq ci).1) (T := (a_cq ci).2.1) (N := (a_cq ci).2.2) hta (a_okc_all ci hi).2.2.1 (hts _ (a_inst ci hi))
      exact ⟨(cC, iS), fun _ => h⟩
    · exact ⟨(0, fun _ => 0), fun h => absurd h hi⟩
  obtain ⟨d, hd⟩ := Classical.axiomOfChoice h0
  have h1 : ∀ t : Nat, ∃ cA : ClassId, t < 9 → ArrOfT s cA (a_at.getD t .int) ∧ va_RA s cA (a_at.getD t .int) := by
    intro t
    by_cases ht : t < 9
    · by_cases h3 : t < 3
      · obtain ⟨c, k, comp, q1, q2, q3⟩ := Cond.arrayClass_spec (args := args) (first := s) (o := none) (s := s) (idx := []) (hts _ (a_n10 t h3))
        refine ⟨c, fun _ => ⟨fun N z => ⟨(fun k h => by cases h), k, q2, comp, q3⟩, ?_⟩⟩
        rcases (show t = 0 ∨ t = 1 ∨ t = 2 by omega) with rfl | rfl | rfl <;> exact q1
      · obtain ⟨cn, e1, e2⟩ := a_ovr t (by omega) ht
        obtain ⟨comp, c, k, q1, -, q3, q4, q5⟩ := Cond.arrayOver_spec (args := args) (first := s) (o := none) (s := s) (idx := []) (hts _ e2)
        refine ⟨c, fun _ => ?_⟩
        rw [e1]
        exact ⟨fun N z => ⟨(fun k h => by cases h), k, q3, comp, q4⟩, k, comp, q3, q4, q1, q5⟩
    · exact ⟨0, fun h => absurd h ht⟩
  obtain ⟨aC, haC⟩ := Classical.axiomOfChoice h1
  refine ⟨(fun ci => (d ci).1, fun ci => (d ci).2), aC, fun ci q hq => ?_, fun t q hq => ?_⟩
  · have hi : ci < 15 := (List.getElem?_eq_some_iff.mp hq).1
    have := (a_okc_all ci hi).1
    rw [this] at hq
    cases hq
    exact hd ci hi
  · have ht : t < 9 := by
      have := (List.getElem?_eq_some_iff.mp hq).1
      unfold a_tys at this
      rw [List.length_map, List.length_range] at this
      exact this
    rw [a_tys_at ht] at hq
    cases hq
    exact haC t ht
/-! the abstract machine's answers are the machine's -/
theorem a_ex_sound (l : Launch) (b : Nat) (ex : Nat → Option Nat) (D : va_G) (aC : Nat → ClassId) (hst : l.stackTraces = false) : ∀ n, a_Sd l b ex D aC (a_ex a_nL a_code n)
  | 0 => fun _ _ _ _ _ _ hr => by cases hr
  | n + 1 => fun m i ls st h r hr => a_code_snd m i l b ex D aC (a_ex a_nL a_code n) hst (a_ex_sound l b ex D aC hst n) ls st h r hr
theorem R_sound {l : Launch} {b : Nat} {ex : Nat → Option Nat} {D : va_G} {aC : Nat → ClassId} (hst : l.stackTraces = false) {m i : Nat} {ls : A_V} {st : List Value} {h : A_H} {r : A_R} (hr : R m i ls st h = some r) : a_W l b ex D aC m i ls st h r := by
  obtain ⟨n, hn⟩ := (a_R_iff m i ls st h r).mp hr
  exact a_ex_sound l b ex D aC hst n m i ls st h r hn
def a_h0 (L : Nat) (xs : Nat → Int32) : A_H := (0, 0, fun _ => (0, 0), fun _ _ => 0, fun _ _ => 0, fun _ _ => none, (L, xs))
