/-! one row an instruction: what leaves the heap -/
theorem snd_iload {m i j : Nat} (hk : a_chk m i (.iload j) 2 = true) : a_Snd m i (s_ildl j (i + 1)) := by
  refine a_Snd.row (fun ls st h hg => ?_)
  unfold s_ildl at hg ⊢
  split at hg
  · rename_i x hx
    refine ⟨i + 1, ls, .int x :: st, h, 0, 0, rfl, rfl, rfl, rfl, a_row.pure ?_⟩
    intro l b ex D aC p e R s mid args below meth c H locs cells slots Q lsC k1 k2 k3 k4 k5 k6 k7 kk
    have h1 := kk lsC k7
    rw [a_chk_n hk] at h1
    exact lv_iload k1.1 k1.2.1 (a_chk_d hk) (k7.2.2 j _ hx) h1
  · exact Bool.noConfusion hg
theorem snd_iload_n {m i j : Nat} {k : Fin 4} (hj : (k : Nat) = j) (hk : a_chk m i (.iload_n k) 1 = true) : a_Snd m i (s_ildl j (i + 1)) := by
  refine a_Snd.row (fun ls st h hg => ?_)
  unfold s_ildl at hg ⊢
  split at hg
  · rename_i x hx
    refine ⟨i + 1, ls, .int x :: st, h, 0, 0, rfl, rfl, rfl, rfl, a_row.pure ?_⟩
    intro l b ex D aC p e R s mid args below meth c H locs cells slots Q lsC k1 k2 k3 k4 k5 k6 k7 kk
    have h1 := kk lsC k7
    rw [a_chk_n hk] at h1
    exact lv_iload_n k1.1 k1.2.1 (a_chk_d hk) hj (k7.2.2 j _ hx) h1
  · exact Bool.noConfusion hg
theorem snd_lload {m i j : Nat} (hk : a_chk m i (.lload j) 2 = true) : a_Snd m i (s_lldl j (i + 1)) := by
  refine a_Snd.row (fun ls st h hg => ?_)
  unfold s_lldl at hg ⊢
  split at hg
  · rename_i x hx
    refine ⟨i + 1, ls, .long x :: st, h, 0, 0, rfl, rfl, rfl, rfl, a_row.pure ?_⟩
    intro l b ex D aC p e R s mid args below meth c H locs cells slots Q lsC k1 k2 k3 k4 k5 k6 k7 kk
    have h1 := kk lsC k7
    rw [a_chk_n hk] at h1
    exact lv_lload k1.1 k1.2.1 (a_chk_d hk) (k7.2.2 j _ hx) h1
  · exact Bool.noConfusion hg
theorem snd_lload_n {m i j : Nat} {k : Fin 4} (hj : (k : Nat) = j) (hk : a_chk m i (.lload_n k) 1 = true) : a_Snd m i (s_lldl j (i + 1)) := by
  refine a_Snd.row (fun ls st h hg => ?_)
  unfold s_lldl at hg ⊢
  split at hg
  · rename_i x hx
    refine ⟨i + 1, ls, .long x :: st, h, 0, 0, rfl, rfl, rfl, rfl, a_row.pure ?_⟩
    intro l b ex D aC p e R s mid args below meth c H locs cells slots Q lsC k1 k2 k3 k4 k5 k6 k7 kk
    have h1 := kk lsC k7
    rw [a_chk_n hk] at h1
    exact lv_lload_n k1.1 k1.2.1 (a_chk_d hk) hj (k7.2.2 j _ hx) h1
  · exact Bool.noConfusion hg
theorem snd_aload_n {m i j : Nat} {k : Fin 4} (hj : (k : Nat) = j) (hk : a_chk m i (.aload_n k) 1 = true) : a_Snd m i (s_aldl j (i + 1)) := by
  refine a_Snd.row (fun ls st h hg => ?_)
  unfold s_aldl at hg ⊢
  split at hg
  · rename_i x hx
    refine ⟨i + 1, ls, .ref x :: st, h, 0, 0, rfl, rfl, rfl, rfl, a_row.pure ?_⟩
    intro l b ex D aC p e R s mid args below meth c H locs cells slots Q lsC k1 k2 k3 k4 k5 k6 k7 kk
    have h1 := kk lsC k7
    rw [a_chk_n hk] at h1
    exact lv_aload_n k1.1 k1.2.1 (a_chk_d hk) hj (k7.2.2 j _ hx) h1
  · rename_i x hx
    refine ⟨i + 1, ls, .float x :: st, h, 0, 0, rfl, rfl, rfl, rfl, a_row.pure ?_⟩
    intro l b ex D aC p e R s mid args below meth c H locs cells slots Q lsC k1 k2 k3 k4 k5 k6 k7 kk
    have h1 := kk lsC k7
    rw [a_chk_n hk] at h1
    have h2 := k7.2.2 j _ hx
    simp only [List.map_cons, a_up] at h1 h2 ⊢
    cases he : ex x.toNat with
    | none => rw [he] at h1 h2; exact lv_aload_nN k1.1 k1.2.1 (a_chk_d hk) hj h2 h1
    | some a => rw [he] at h1 h2; exact lv_aload_n k1.1 k1.2.1 (a_chk_d hk) hj h2 h1
  · exact Bool.noConfusion hg
theorem snd_aload {m i j : Nat} (hk : a_chk m i (.aload j) 2 = true) : a_Snd m i (s_aldl j (i + 1)) := by
  refine a_Snd.row (fun ls st h hg => ?_)
  unfold s_aldl at hg ⊢
  split at hg
  · rename_i x hx
    refine ⟨i + 1, ls, .ref x :: st, h, 0, 0, rfl, rfl, rfl, rfl, a_row.pure ?_⟩
    intro l b ex D aC p e R s mid args below meth c H locs cells slots Q lsC k1 k2 k3 k4 k5 k6 k7 kk
    have h1 := kk lsC k7
    rw [a_chk_n hk] at h1
    exact lv_aload k1.1 k1.2.1 (a_chk_d hk) (k7.2.2 j _ hx) h1
  · rename_i x hx
    refine ⟨i + 1, ls, .float x :: st, h, 0, 0, rfl, rfl, rfl, rfl, a_row.pure ?_⟩
    intro l b ex D aC p e R s mid args below meth c H locs cells slots Q lsC k1 k2 k3 k4 k5 k6 k7 kk
    have h1 := kk lsC k7
    rw [a_chk_n hk] at h1
    have h2 := k7.2.2 j _ hx
    simp only [List.map_cons, a_up] at h1 h2 ⊢
    cases he : ex x.toNat with
    | none => rw [he] at h1 h2; exact lv_aloadN k1.1 k1.2.1 (a_chk_d hk) h2 h1
    | some a => rw [he] at h1 h2; exact lv_aload k1.1 k1.2.1 (a_chk_d hk) h2 h1
  · exact Bool.noConfusion hg
theorem snd_istore {m i j : Nat} (hj : decide (j < a_nL m) = true) (hk : a_chk m i (.istore j) 2 = true) : a_Snd m i (s_ist j (i + 1)) := by
  refine a_Snd.row (fun ls st h hg => ?_)
  unfold s_ist at hg ⊢
  split at hg
  · rename_i x st
    refine ⟨i + 1, a_st ls j (.int x), st, h, 0, 0, rfl, rfl, rfl, rfl, a_row.pure ?_⟩
    intro l b ex D aC p e R s mid args below meth c H locs cells slots Q lsC k1 k2 k3 k4 k5 k6 k7 kk
    refine lv_istore k1.1 k1.2.1 (a_chk_d hk) k7.has (of_decide_eq_true hj) rfl (fun ls' hl => ?_)
    have h1 := kk ls' (k7.st1 (v := .int x) hl)
    rw [a_chk_n hk] at h1
    exact h1
  · exact Bool.noConfusion hg
theorem snd_istore_n {m i j : Nat} {k : Fin 4} (hi : (k : Nat) = j) (hj : decide (j < a_nL m) = true) (hk : a_chk m i (.istore_n k) 1 = true) : a_Snd m i (s_ist j (i + 1)) := by
  refine a_Snd.row (fun ls st h hg => ?_)
  unfold s_ist at hg ⊢
  split at hg
  · rename_i x st
    refine ⟨i + 1, a_st ls j (.int x), st, h, 0, 0, rfl, rfl, rfl, rfl, a_row.pure ?_⟩
    intro l b ex D aC p e R s mid args below meth c H locs cells slots Q lsC k1 k2 k3 k4 k5 k6 k7 kk
    refine lv_istore_n k1.1 k1.2.1 (a_chk_d hk) hi k7.has (of_decide_eq_true hj) rfl (fun ls' hl => ?_)
    have h1 := kk ls' (k7.st1 (v := .int x) hl)
    rw [a_chk_n hk] at h1
    exact h1
  · exact Bool.noConfusion hg
theorem snd_lstore {m i j : Nat} (hj : decide (j + 1 < a_nL m) = true) (hk : a_chk m i (.lstore j) 2 = true) : a_Snd m i (s_lst j (i + 1)) := by
  refine a_Snd.row (fun ls st h hg => ?_)
  unfold s_lst at hg ⊢
  split at hg
  · rename_i x st
    refine ⟨i + 1, a_rm (a_st ls j (.long x)) (j + 1), st, h, 0, 0, rfl, rfl, rfl, rfl, a_row.pure ?_⟩
    intro l b ex D aC p e R s mid args below meth c H locs cells slots Q lsC k1 k2 k3 k4 k5 k6 k7 kk
    refine lv_lstore k1.1 k1.2.1 (a_chk_d hk) k7.has (of_decide_eq_true hj) rfl (fun ls' hl => ?_)
    have h1 := kk ls' (k7.st2 (v := .long x) hl)
    rw [a_chk_n hk] at h1
    exact h1
  · exact Bool.noConfusion hg
theorem snd_lstore_n {m i j : Nat} {k : Fin 4} (hi : (k : Nat) = j) (hj : decide (j + 1 < a_nL m) = true) (hk : a_chk m i (.lstore_n k) 1 = true) : a_Snd m i (s_lst j (i + 1)) := by
  refine a_Snd.row (fun ls st h hg => ?_)
  unfold s_lst at hg ⊢
  split at hg
  · rename_i x st
    refine ⟨i + 1, a_rm (a_st ls j (.long x)) (j + 1), st, h, 0, 0, rfl, rfl, rfl, rfl, a_row.pure ?_⟩
    intro l b ex D aC p e R s mid args below meth c H locs cells slots Q lsC k1 k2 k3 k4 k5 k6 k7 kk
    refine lv_lstore_n k1.1 k1.2.1 (a_chk_d hk) hi k7.has (of_decide_eq_true hj) rfl (fun ls' hl => ?_)
    have h1 := kk ls' (k7.st2 (v := .long x) hl)
    rw [a_chk_n hk] at h1
    exact h1
  · exact Bool.noConfusion hg
theorem snd_astore {m i j : Nat} (hj : decide (j < a_nL m) = true) (hk : a_chk m i (.astore j) 2 = true) : a_Snd m i (s_ast j (i + 1)) := by
  refine a_Snd.row (fun ls st h hg => ?_)
  unfold s_ast at hg ⊢
  split at hg
  · rename_i x st
    refine ⟨i + 1, a_st ls j (.ref x), st, h, 0, 0, rfl, rfl, rfl, rfl, a_row.pure ?_⟩
    intro l b ex D aC p e R s mid args below meth c H locs cells slots Q lsC k1 k2 k3 k4 k5 k6 k7 kk
    refine lv_astore k1.1 k1.2.1 (a_chk_d hk) k7.has (of_decide_eq_true hj) rfl (fun ls' hl => ?_)
    have h1 := kk ls' (k7.st1 (v := .ref x) hl)
    rw [a_chk_n hk] at h1
    exact h1
  · exact Bool.noConfusion hg
theorem snd_astore_n {m i j : Nat} {k : Fin 4} (hi : (k : Nat) = j) (hj : decide (j < a_nL m) = true) (hk : a_chk m i (.astore_n k) 1 = true) : a_Snd m i (s_ast j (i + 1)) := by
  refine a_Snd.row (fun ls st h hg => ?_)
  unfold s_ast at hg ⊢
  split at hg
  · rename_i x st
    refine ⟨i + 1, a_st ls j (.ref x), st, h, 0, 0, rfl, rfl, rfl, rfl, a_row.pure ?_⟩
    intro l b ex D aC p e R s mid args below meth c H locs cells slots Q lsC k1 k2 k3 k4 k5 k6 k7 kk
    refine lv_astore_n k1.1 k1.2.1 (a_chk_d hk) hi k7.has (of_decide_eq_true hj) rfl (fun ls' hl => ?_)
    have h1 := kk ls' (k7.st1 (v := .ref x) hl)
    rw [a_chk_n hk] at h1
    exact h1
  · exact Bool.noConfusion hg
theorem snd_iinc {m i j : Nat} {n : Int} {d : Int32} (hd : Int32.ofInt n = d) (hj : decide (j < a_nL m) = true) (hk : a_chk m i (.iinc j n) 3 = true) : a_Snd m i (s_inc j d (i + 1)) := by
  refine a_Snd.row (fun ls st h hg => ?_)
  unfold s_inc at hg ⊢
  split at hg
  · rename_i x hx
    refine ⟨i + 1, a_st ls j (.int (x + d)), st, h, 0, 0, rfl, rfl, rfl, rfl, a_row.pure ?_⟩
    intro l b ex D aC p e R s mid args below meth c H locs cells slots Q lsC k1 k2 k3 k4 k5 k6 k7 kk
    obtain ⟨q, hq⟩ := List.getElem?_of_mem (k7.mem hx)
    refine lv_iinc k1.1 k1.2.1 (a_chk_d hk) k7.has (k := q) hq (v := x + d) (by rw [hd]) (of_decide_eq_true hj) rfl (fun ls' hl => ?_)
    have h1 := kk ls' (k7.st1 (v := .int (x + d)) hl)
    rw [a_chk_n hk] at h1
    exact h1
  · exact Bool.noConfusion hg
section PUSH
variable {m i : Nat} {v : Value} {ins : Instr} {len : Nat}
/-- a constant is pushed -/
theorem a_push (hk : a_chk m i ins len = true) (row : ∀ (l : Launch) (b : Nat) (ex : Nat → Option Nat) (D : va_G) (aC : Nat → ClassId) (h : A_H) (p : Program) (e : Env) (R : Room) (s : State) (mid : MethodId) (args : Array Value) (below : List Frame) (meth : Method) (c : Code) (H : Heap) (locs : List Loc) (cells slots : Nat) (Q : State → Prop) (lsC : Array Slot) (rest : List Value),
      a_M m p s mid args meth c → a_St b ex D aC (hX h) s → va_S (fun q => b ≤ q) s.heap H locs → W p l e R s mid args below meth c H locs cells slots Q (F0 mid (a_pc m i + len) lsC (a_up b ex v :: rest)) → W p l e R s mid args below meth c H locs cells slots Q (F0 mid (a_pc m i) lsC rest)) : a_Snd m i (s_push v (i + 1)) := by
  refine a_Snd.row (fun ls st h hg => ?_)
  refine ⟨i + 1, ls, v :: st, h, 0, 0, rfl, rfl, rfl, rfl, a_row.pure ?_⟩
  intro l b ex D aC p e R s mid args below meth c H locs cells slots Q lsC k1 k2 k3 k4 k5 k6 k7 kk
  have h1 := kk lsC k7
  rw [a_chk_n hk] at h1
  exact row l b ex D aC h p e R s mid args below meth c H locs cells slots Q lsC _ k1 k2 k6 h1
end PUSH
theorem snd_iconst {m i : Nat} {n : Int} {v : Int32} (hv : Int32.ofInt n = v) (hk : a_chk m i (.iconst n) 1 = true) : a_Snd m i (s_push (.int v) (i + 1)) :=
  a_push hk (fun _ _ _ _ _ _ _ _ _ _ _ _ _ _ _ _ _ _ _ _ _ _ k1 _ _ k => lv_iconst k1.1 k1.2.1 (a_chk_d hk) hv k)
theorem snd_bipush {m i : Nat} {n : Int} {v : Int32} (hv : (Int8.ofInt n).toInt32 = v) (hk : a_chk m i (.bipush n) 2 = true) : a_Snd m i (s_push (.int v) (i + 1)) :=
  a_push hk (fun _ _ _ _ _ _ _ _ _ _ _ _ _ _ _ _ _ _ _ _ _ _ k1 _ _ k => lv_bipush k1.1 k1.2.1 (a_chk_d hk) hv k)
theorem snd_sipush {m i : Nat} {n : Int} {v : Int32} (hv : (Int16.ofInt n).toInt32 = v) (hk : a_chk m i (.sipush n) 3 = true) : a_Snd m i (s_push (.int v) (i + 1)) :=
  a_push hk (fun _ _ _ _ _ _ _ _ _ _ _ _ _ _ _ _ _ _ _ _ _ _ k1 _ _ k => lv_sipush k1.1 k1.2.1 (a_chk_d hk) hv k)
theorem snd_lconst {m i : Nat} {n : Fin 2} {v : Int64} (hv : Int64.ofNat (n : Nat) = v) (hk : a_chk m i (.lconst n) 1 = true) : a_Snd m i (s_push (.long v) (i + 1)) :=
  a_push hk (fun _ _ _ _ _ _ _ _ _ _ _ _ _ _ _ _ _ _ _ _ _ _ k1 _ _ k => lv_lconst k1.1 k1.2.1 (a_chk_d hk) hv k)
theorem snd_ldc {m i idx : Nat} {v : Int32} (hw : Cond.constant (a_y m).cls idx v ∈ a_tb) (hk : a_chk m i (.ldc idx) 2 = true) : a_Snd m i (s_push (.int v) (i + 1)) :=
  a_push hk (fun _ _ _ _ _ _ _ _ _ _ _ _ _ _ _ _ _ _ _ _ _ _ k1 _ _ k => lv_ldc k1.1 k1.2.1 k1.2.2.2.2.2.2.1 (k1.2.2.2.2.2.2.2 _ hw) (a_chk_d hk) k)
theorem snd_ldcw {m i idx : Nat} {v : Int32} (hw : Cond.constant (a_y m).cls idx v ∈ a_tb) (hk : a_chk m i (.ldc_w idx) 3 = true) : a_Snd m i (s_push (.int v) (i + 1)) :=
  a_push hk (fun _ _ _ _ _ _ _ _ _ _ _ _ _ _ _ _ _ _ _ _ _ _ k1 _ _ k => lv_ldcw k1.1 k1.2.1 k1.2.2.2.2.2.2.1 (k1.2.2.2.2.2.2.2 _ hw) (a_chk_d hk) k)
theorem snd_ldc2 {m i idx : Nat} {v : Int64} (hw : Cond.constantLong (a_y m).cls idx v ∈ a_tb) (hk : a_chk m i (.ldc2_w idx) 3 = true) : a_Snd m i (s_push (.long v) (i + 1)) :=
  a_push hk (fun _ _ _ _ _ _ _ _ _ _ _ _ _ _ _ _ _ _ _ _ _ _ k1 _ _ k => lv_ldc2 k1.1 k1.2.1 k1.2.2.2.2.2.2.1 (k1.2.2.2.2.2.2.2 _ hw) (a_chk_d hk) k)
theorem snd_ldcs {m i idx : Nat} {tx : String} {t : UInt32} {n : Nat} (hq : ((a_y m).cls, idx, tx, n) ∈ a_sr) (ht : t.toNat = n) (hk : a_chk m i (.ldc idx) 2 = true) : a_Snd m i (s_push (.float t) (i + 1)) :=
  a_push hk (fun l b ex D aC h p e R s mid args below meth c H locs cells slots Q lsC rest k1 k2 _ k => by
    obtain ⟨a, g1, g2⟩ := k2.2.1.2.2.1 _ hq
    have g1 : ex n = some a := g1
    simp only [a_up, ht, g1] at k
    exact va_ldcS k1.1 k1.2.1 k1.2.2.2.2.2.2.1 g2 (a_chk_d hk) k)
theorem snd_ldcsw {m i idx : Nat} {tx : String} {t : UInt32} {n : Nat} (hq : ((a_y m).cls, idx, tx, n) ∈ a_sr) (ht : t.toNat = n) (hk : a_chk m i (.ldc_w idx) 3 = true) : a_Snd m i (s_push (.float t) (i + 1)) :=
  a_push hk (fun l b ex D aC h p e R s mid args below meth c H locs cells slots Q lsC rest k1 k2 _ k => by
    obtain ⟨a, g1, g2⟩ := k2.2.1.2.2.1 _ hq
    have g1 : ex n = some a := g1
    simp only [a_up, ht, g1] at k
    intro T hT X
    obtain ⟨t, a1, b1⟩ := k T hT X
    exact ⟨t, Stand.ldcStringW X k1.1 k1.2.2.2.2.2.2.1 (text := tx) (a := a) g2.1 g2.2 (g := F0 mid (a_pc m i) lsC rest) rfl (by rw [k1.2.1]; exact a_chk_d hk) t a1, b1⟩)
section BIN
variable {m i : Nat} {ins : Instr}
theorem a_bi {f : Int32 → Int32 → Int32} (hk : a_chk m i ins 1 = true) (row : ∀ {p : Program} {l : Launch} {e : Env} {R : Room} {s : State} {mid : MethodId} {args : Array Value} {below : List Frame} {meth : Method} {c : Code} {H : Heap} {locs : List Loc} {cells slots : Nat} {Q : State → Prop} {cc : ByteArray} {pc : Nat} {ls : Array Slot} {rest : List Value} {x y : Int32}, p.tables.exec = Jvm.exec → c.code = cc → decode cc pc = .ok (ins, 1) →
    W p l e R s mid args below meth c H locs cells slots Q (F0 mid (pc + 1) ls (.int (f x y) :: rest)) → W p l e R s mid args below meth c H locs cells slots Q (F0 mid pc ls (.int y :: .int x :: rest))) : a_Snd m i (s_bi f (i + 1)) := by
  refine a_Snd.row (fun ls st h hg => ?_)
  unfold s_bi at hg ⊢
  split at hg
  · rename_i y x st
    refine ⟨i + 1, ls, .int (f x y) :: st, h, 0, 0, rfl, rfl, rfl, rfl, a_row.pure ?_⟩
    intro l b ex D aC p e R s mid args below meth c H locs cells slots Q lsC k1 k2 k3 k4 k5 k6 k7 kk
    have h1 := kk lsC k7
    rw [a_chk_n hk] at h1
    exact row k1.1 k1.2.1 (a_chk_d hk) h1
  · exact Bool.noConfusion hg
theorem a_bid {f : Int32 → Int32 → Int32} (hk : a_chk m i ins 1 = true) (row : ∀ {p : Program} {l : Launch} {e : Env} {R : Room} {s : State} {mid : MethodId} {args : Array Value} {below : List Frame} {meth : Method} {c : Code} {H : Heap} {locs : List Loc} {cells slots : Nat} {Q : State → Prop} {cc : ByteArray} {pc : Nat} {ls : Array Slot} {rest : List Value} {x y : Int32}, p.tables.exec = Jvm.exec → c.code = cc → decode cc pc = .ok (ins, 1) → ¬ y = 0 →
    W p l e R s mid args below meth c H locs cells slots Q (F0 mid (pc + 1) ls (.int (f x y) :: rest)) → W p l e R s mid args below meth c H locs cells slots Q (F0 mid pc ls (.int y :: .int x :: rest))) : a_Snd m i (s_bid f (i + 1)) := by
  refine a_Snd.row (fun ls st h hg => ?_)
  unfold s_bid at hg ⊢
  split at hg
  · rename_i y x st
    have hg : (!decide (y = 0)) = true := hg
    have hy : ¬ y = 0 := by simpa using hg
    refine ⟨i + 1, ls, .int (f x y) :: st, h, 0, 0, rfl, rfl, rfl, rfl, a_row.pure ?_⟩
    intro l b ex D aC p e R s mid args below meth c H locs cells slots Q lsC k1 k2 k3 k4 k5 k6 k7 kk
    have h1 := kk lsC k7
    rw [a_chk_n hk] at h1
    exact row k1.1 k1.2.1 (a_chk_d hk) hy h1
  · exact Bool.noConfusion hg
theorem a_bl {f : Int64 → Int64 → Int64} (hk : a_chk m i ins 1 = true) (row : ∀ {p : Program} {l : Launch} {e : Env} {R : Room} {s : State} {mid : MethodId} {args : Array Value} {below : List Frame} {meth : Method} {c : Code} {H : Heap} {locs : List Loc} {cells slots : Nat} {Q : State → Prop} {cc : ByteArray} {pc : Nat} {ls : Array Slot} {rest : List Value} {x y : Int64}, p.tables.exec = Jvm.exec → c.code = cc → decode cc pc = .ok (ins, 1) →
    W p l e R s mid args below meth c H locs cells slots Q (F0 mid (pc + 1) ls (.long (f x y) :: rest)) → W p l e R s mid args below meth c H locs cells slots Q (F0 mid pc ls (.long y :: .long x :: rest))) : a_Snd m i (s_bl f (i + 1)) := by
  refine a_Snd.row (fun ls st h hg => ?_)
  unfold s_bl at hg ⊢
  split at hg
  · rename_i y x st
    refine ⟨i + 1, ls, .long (f x y) :: st, h, 0, 0, rfl, rfl, rfl, rfl, a_row.pure ?_⟩
    intro l b ex D aC p e R s mid args below meth c H locs cells slots Q lsC k1 k2 k3 k4 k5 k6 k7 kk
    have h1 := kk lsC k7
    rw [a_chk_n hk] at h1
    exact row k1.1 k1.2.1 (a_chk_d hk) h1
  · exact Bool.noConfusion hg
theorem a_bld {f : Int64 → Int64 → Int64} (hk : a_chk m i ins 1 = true) (row : ∀ {p : Program} {l : Launch} {e : Env} {R : Room} {s : State} {mid : MethodId} {args : Array Value} {below : List Frame} {meth : Method} {c : Code} {H : Heap} {locs : List Loc} {cells slots : Nat} {Q : State → Prop} {cc : ByteArray} {pc : Nat} {ls : Array Slot} {rest : List Value} {x y : Int64}, p.tables.exec = Jvm.exec → c.code = cc → decode cc pc = .ok (ins, 1) → ¬ y = 0 →
    W p l e R s mid args below meth c H locs cells slots Q (F0 mid (pc + 1) ls (.long (f x y) :: rest)) → W p l e R s mid args below meth c H locs cells slots Q (F0 mid pc ls (.long y :: .long x :: rest))) : a_Snd m i (s_bld f (i + 1)) := by
  refine a_Snd.row (fun ls st h hg => ?_)
  unfold s_bld at hg ⊢
  split at hg
  · rename_i y x st
    have hg : (!decide (y = 0)) = true := hg
    have hy : ¬ y = 0 := by simpa using hg
    refine ⟨i + 1, ls, .long (f x y) :: st, h, 0, 0, rfl, rfl, rfl, rfl, a_row.pure ?_⟩
    intro l b ex D aC p e R s mid args below meth c H locs cells slots Q lsC k1 k2 k3 k4 k5 k6 k7 kk
    have h1 := kk lsC k7
    rw [a_chk_n hk] at h1
    exact row k1.1 k1.2.1 (a_chk_d hk) hy h1
  · exact Bool.noConfusion hg
theorem a_uii {f : Int32 → Int32} (hk : a_chk m i ins 1 = true) (row : ∀ {p : Program} {l : Launch} {e : Env} {R : Room} {s : State} {mid : MethodId} {args : Array Value} {below : List Frame} {meth : Method} {c : Code} {H : Heap} {locs : List Loc} {cells slots : Nat} {Q : State → Prop} {cc : ByteArray} {pc : Nat} {ls : Array Slot} {rest : List Value} {x : Int32}, p.tables.exec = Jvm.exec → c.code = cc → decode cc pc = .ok (ins, 1) →
    W p l e R s mid args below meth c H locs cells slots Q (F0 mid (pc + 1) ls (.int (f x) :: rest)) → W p l e R s mid args below meth c H locs cells slots Q (F0 mid pc ls (.int x :: rest))) : a_Snd m i (s_uii f (i + 1)) := by
  refine a_Snd.row (fun ls st h hg => ?_)
  unfold s_uii at hg ⊢
  split at hg
  · rename_i x st
    refine ⟨i + 1, ls, .int (f x) :: st, h, 0, 0, rfl, rfl, rfl, rfl, a_row.pure ?_⟩
    intro l b ex D aC p e R s mid args below meth c H locs cells slots Q lsC k1 k2 k3 k4 k5 k6 k7 kk
    have h1 := kk lsC k7
    rw [a_chk_n hk] at h1
    exact row k1.1 k1.2.1 (a_chk_d hk) h1
  · exact Bool.noConfusion hg
end BIN
section OPS
variable {m i : Nat}
theorem snd_iadd (hk : a_chk m i .iadd 1 = true) : a_Snd m i (s_bi (fun x y => x + y) (i + 1)) := a_bi hk (fun hx hb hd k => lv_iadd hx hb hd k)
theorem snd_isub (hk : a_chk m i .isub 1 = true) : a_Snd m i (s_bi (fun x y => x - y) (i + 1)) := a_bi hk (fun hx hb hd k => lv_isub hx hb hd k)
theorem snd_imul (hk : a_chk m i .imul 1 = true) : a_Snd m i (s_bi (fun x y => x * y) (i + 1)) := a_bi hk (fun hx hb hd k => lv_imul hx hb hd k)
theorem snd_iand (hk : a_chk m i .iand 1 = true) : a_Snd m i (s_bi (fun x y => x &&& y) (i + 1)) := a_bi hk (fun hx hb hd k => lv_iand hx hb hd k)
theorem snd_ior (hk : a_chk m i .ior 1 = true) : a_Snd m i (s_bi (fun x y => x ||| y) (i + 1)) := a_bi hk (fun hx hb hd k => lv_ior hx hb hd k)
theorem snd_ixor (hk : a_chk m i .ixor 1 = true) : a_Snd m i (s_bi (fun x y => x ^^^ y) (i + 1)) := a_bi hk (fun hx hb hd k => lv_ixor hx hb hd k)
theorem snd_ishl (hk : a_chk m i .ishl 1 = true) : a_Snd m i (s_bi (fun x y => x <<< (y &&& 31)) (i + 1)) := a_bi hk (fun hx hb hd k => lv_ishl hx hb hd k)
theorem snd_ishr (hk : a_chk m i .ishr 1 = true) : a_Snd m i (s_bi (fun x y => x >>> (y &&& 31)) (i + 1)) := a_bi hk (fun hx hb hd k => lv_ishr hx hb hd k)
theorem snd_iushr (hk : a_chk m i .iushr 1 = true) : a_Snd m i (s_bi (fun x y => (x.toUInt32 >>> (y.toUInt32 &&& Int32.toUInt32 31)).toInt32) (i + 1)) := a_bi hk (fun hx hb hd k => lv_iushr hx hb hd rfl k)
theorem snd_idiv (hk : a_chk m i .idiv 1 = true) : a_Snd m i (s_bid (fun x y => x / y) (i + 1)) := a_bid hk (fun hx hb hd hy k => lv_idiv hx hb hd hy k)
theorem snd_irem (hk : a_chk m i .irem 1 = true) : a_Snd m i (s_bid (fun x y => x - x / y * y) (i + 1)) := a_bid hk (fun hx hb hd hy k => lv_irem hx hb hd hy k)
theorem snd_ladd (hk : a_chk m i .ladd 1 = true) : a_Snd m i (s_bl (fun x y => x + y) (i + 1)) := a_bl hk (fun hx hb hd k => lv_ladd hx hb hd k)
theorem snd_lsub (hk : a_chk m i .lsub 1 = true) : a_Snd m i (s_bl (fun x y => x - y) (i + 1)) := a_bl hk (fun hx hb hd k => lv_lsub hx hb hd k)
theorem snd_lmul (hk : a_chk m i .lmul 1 = true) : a_Snd m i (s_bl (fun x y => x * y) (i + 1)) := a_bl hk (fun hx hb hd k => lv_lmul hx hb hd k)
theorem snd_ldiv (hk : a_chk m i .ldiv 1 = true) : a_Snd m i (s_bld (fun x y => x / y) (i + 1)) := a_bld hk (fun hx hb hd hy k => lv_ldiv hx hb hd hy k)
theorem snd_lrem (hk : a_chk m i .lrem 1 = true) : a_Snd m i (s_bld (fun x y => x - x / y * y) (i + 1)) := a_bld hk (fun hx hb hd hy k => lv_lrem hx hb hd hy k)
theorem snd_ineg (hk : a_chk m i .ineg 1 = true) : a_Snd m i (s_uii (fun x => -x) (i + 1)) := a_uii hk (fun hx hb hd k => lv_ineg hx hb hd k)
theorem snd_i2b (hk : a_chk m i .i2b 1 = true) : a_Snd m i (s_uii (fun x => x.toInt8.toInt32) (i + 1)) := a_uii hk (fun hx hb hd k => lv_i2b hx hb hd rfl k)
theorem snd_i2c (hk : a_chk m i .i2c 1 = true) : a_Snd m i (s_uii (fun x => (x.toUInt32 % 65536).toInt32) (i + 1)) := a_uii hk (fun hx hb hd k => lv_i2c hx hb hd rfl k)
theorem snd_lcmp (hk : a_chk m i .lcmp 1 = true) : a_Snd m i (s_lcmp (i + 1)) := by
  refine a_Snd.row (fun ls st h hg => ?_)
  unfold s_lcmp at hg ⊢
  split at hg
  · rename_i y x st
    refine ⟨i + 1, ls, .int (lg_cmp x y) :: st, h, 0, 0, rfl, rfl, rfl, rfl, a_row.pure ?_⟩
    intro l b ex D aC p e R s mid args below meth c H locs cells slots Q lsC k1 k2 k3 k4 k5 k6 k7 kk
    have h1 := kk lsC k7
    rw [a_chk_n hk] at h1
    exact W.lcmp k1.1 k1.2.1 (a_chk_d hk) h1
  · exact Bool.noConfusion hg
theorem snd_i2l (hk : a_chk m i .i2l 1 = true) : a_Snd m i (s_i2l (i + 1)) := by
  refine a_Snd.row (fun ls st h hg => ?_)
  unfold s_i2l at hg ⊢
  split at hg
  · rename_i x st
    refine ⟨i + 1, ls, .long x.toInt64 :: st, h, 0, 0, rfl, rfl, rfl, rfl, a_row.pure ?_⟩
    intro l b ex D aC p e R s mid args below meth c H locs cells slots Q lsC k1 k2 k3 k4 k5 k6 k7 kk
    have h1 := kk lsC k7
    rw [a_chk_n hk] at h1
    exact lv_i2l k1.1 k1.2.1 (a_chk_d hk) rfl h1
  · exact Bool.noConfusion hg
theorem snd_l2i (hk : a_chk m i .l2i 1 = true) : a_Snd m i (s_l2i (i + 1)) := by
  refine a_Snd.row (fun ls st h hg => ?_)
  unfold s_l2i at hg ⊢
  split at hg
  · rename_i x st
    refine ⟨i + 1, ls, .int x.toInt32 :: st, h, 0, 0, rfl, rfl, rfl, rfl, a_row.pure ?_⟩
    intro l b ex D aC p e R s mid args below meth c H locs cells slots Q lsC k1 k2 k3 k4 k5 k6 k7 kk
    have h1 := kk lsC k7
    rw [a_chk_n hk] at h1
    exact lv_l2i k1.1 k1.2.1 (a_chk_d hk) rfl h1
  · exact Bool.noConfusion hg
theorem snd_dup (hk : a_chk m i .dup 1 = true) : a_Snd m i (s_dup (i + 1)) := by
  refine a_Snd.row (fun ls st h hg => ?_)
  unfold s_dup at hg ⊢
  split at hg
  · rename_i x st
    refine ⟨i + 1, ls, .int x :: .int x :: st, h, 0, 0, rfl, rfl, rfl, rfl, a_row.pure ?_⟩
    intro l b ex D aC p e R s mid args below meth c H locs cells slots Q lsC k1 k2 k3 k4 k5 k6 k7 kk
    have h1 := kk lsC k7
    rw [a_chk_n hk] at h1
    exact lv_dup k1.1 k1.2.1 (a_chk_d hk) rfl h1
  · rename_i x st
    refine ⟨i + 1, ls, .ref x :: .ref x :: st, h, 0, 0, rfl, rfl, rfl, rfl, a_row.pure ?_⟩
    intro l b ex D aC p e R s mid args below meth c H locs cells slots Q lsC k1 k2 k3 k4 k5 k6 k7 kk
    have h1 := kk lsC k7
    rw [a_chk_n hk] at h1
    exact lv_dup k1.1 k1.2.1 (a_chk_d hk) rfl h1
  · exact Bool.noConfusion hg
theorem snd_dup2 (hk : a_chk m i .dup2 1 = true) : a_Snd m i (s_dup2 (i + 1)) := by
  refine a_Snd.row (fun ls st h hg => ?_)
  unfold s_dup2 at hg ⊢
  split at hg
  · rename_i x y st
    refine ⟨i + 1, ls, .int x :: .ref y :: .int x :: .ref y :: st, h, 0, 0, rfl, rfl, rfl, rfl, a_row.pure ?_⟩
    intro l b ex D aC p e R s mid args below meth c H locs cells slots Q lsC k1 k2 k3 k4 k5 k6 k7 kk
    have h1 := kk lsC k7
    rw [a_chk_n hk] at h1
    exact lv_dup2_11 k1.1 k1.2.1 (a_chk_d hk) rfl rfl h1
  · exact Bool.noConfusion hg
theorem snd_pop (hk : a_chk m i .pop 1 = true) : a_Snd m i (s_pop (i + 1)) := by
  refine a_Snd.row (fun ls st h hg => ?_)
  unfold s_pop at hg ⊢
  split at hg
  · rename_i x st
    refine ⟨i + 1, ls, st, h, 0, 0, rfl, rfl, rfl, rfl, a_row.pure ?_⟩
    intro l b ex D aC p e R s mid args below meth c H locs cells slots Q lsC k1 k2 k3 k4 k5 k6 k7 kk
    have h1 := kk lsC k7
    rw [a_chk_n hk] at h1
    exact lv_pop k1.1 k1.2.1 (a_chk_d hk) rfl h1
  · exact Bool.noConfusion hg
theorem snd_no : a_Snd m i s_no := fun _ _ _ _ _ _ _ _ _ _ _ _ hr => by cases hr
theorem snd_goto {off : Int} {t : Nat} (hd : decide (decode (a_by m) (a_pc m i) = .ok (.goto off, 3)) = true) (ht : decide ((a_pc m i : Int) + off = (a_pc m t : Int)) = true) : a_Snd m i (s_goto t) := by
  refine a_Snd.row (fun ls st h hg => ?_)
  refine ⟨t, ls, st, h, 0, 0, rfl, rfl, rfl, rfl, a_row.pure ?_⟩
  intro l b ex D aC p e R s mid args below meth c H locs cells slots Q lsC k1 k2 k3 k4 k5 k6 k7 kk
  exact lv_goto k1.1 k1.2.1 (of_decide_eq_true hd) (of_decide_eq_true ht) (kk lsC k7)
end OPS
