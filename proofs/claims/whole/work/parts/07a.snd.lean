/-- the tables' words but those that speak of a cell of statics -/
def a_ns : Cond → Bool
  | .laysStatic .. => false
  | _ => true
def a_tb : List Cond := lw_tbl.filter a_ns
theorem a_tbm {w : Cond} (h : w ∈ lw_tbl) (hn : a_ns w = true) : w ∈ a_tb := List.mem_filter.mpr ⟨h, hn⟩
/-! SOUNDNESS: what the abstract machine answers, the machine answers -/
/-- a value of the abstract machine as a value of the machine: labels from b on; texts and the script by ex -/
def a_up (b : Nat) (ex : Nat → Option Nat) : Value → Value
  | .ref k => .ref (b + k)
  | .float t => va_rf (ex t.toNat)
  | v => v
theorem va_rf_cat (r : Option Nat) : (va_rf r).category = 1 := by cases r <;> rfl
theorem a_up_cat (b : Nat) (ex : Nat → Option Nat) (v : Value) : (a_up b ex v).category = v.category := by
  cases v <;> first | rfl | exact va_rf_cat _
def a_fv (b : Nat) (h : A_H) (k ci j : Nat) : Value := match a_kd ci j with
  | 0 => .int (hI h k j)
  | 1 => .long (hL h k j)
  | _ => va_rf ((hP h k j).map (fun a => b + a))
def a_fs (b : Nat) (h : A_H) (k ci : Nat) : List Value := (List.range (a_cq ci).2.2).map (a_fv b h k ci)
def a_e (b : Nat) (aC : Nat → ClassId) (h : A_H) (k : Nat) : va_E :=
  if (hsh h k).1 < 100 then .inr ((hsh h k).1, a_fs b h k (hsh h k).1)
  else if (hsh h k).1 < 102 then .inl (aC ((hsh h k).1 - 100), (hsh h k).2, .inl (hI h k))
  else if (hsh h k).1 = 102 then .inl (aC 2, (hsh h k).2, .inr (.inl (hL h k)))
  else .inl (aC ((hsh h k).1 - 100), (hsh h k).2, .inr (.inr (.inr (.inr (fun j => (hP h k j).map (fun a => b + a))))))
def a_ws (b : Nat) (aC : Nat → ClassId) (h : A_H) : va_W := (List.range (hn h)).map (fun k => (b + k, a_e b aC h k))
def a_tys (aC : Nat → ClassId) : List (ClassId × FieldType) := (List.range 9).map (fun t => (aC t, a_at.getD t .int))
theorem a_ws_at {b : Nat} {aC : Nat → ClassId} {h : A_H} {k : Nat} (hk : k < hn h) : (a_ws b aC h)[k]? = some (b + k, a_e b aC h k) := by
  unfold a_ws
  rw [List.getElem?_map, List.getElem?_range hk]
  rfl
theorem a_ws_in {b : Nat} {aC : Nat → ClassId} {h : A_H} {k : Nat} {q : Nat × va_E} (hk : (a_ws b aC h)[k]? = some q) : k < hn h ∧ q = (b + k, a_e b aC h k) := by
  have h1 : k < (a_ws b aC h).length := (List.getElem?_eq_some_iff.mp hk).1
  unfold a_ws at h1
  rw [List.length_map, List.length_range] at h1
  exact ⟨h1, by rw [a_ws_at h1] at hk; exact (Option.some.inj hk).symm⟩
theorem a_ws_D {b : Nat} {aC : Nat → ClassId} {h : A_H} : va_D (fun q => b ≤ q) (a_ws b aC h) := by
  refine ⟨fun i j p q hi hj e => ?_, fun k q hk => ?_⟩
  · obtain ⟨-, rfl⟩ := a_ws_in hi
    obtain ⟨-, rfl⟩ := a_ws_in hj
    have e : b + i = b + j := e
    omega
  · obtain ⟨-, rfl⟩ := a_ws_in hk
    exact Nat.le_add_right b k
theorem a_ws_set {b : Nat} {aC : Nat → ClassId} {h h' : A_H} {k : Nat} {e : va_E} (hn' : hn h' = hn h) (hk : k < hn h) (he : a_e b aC h' k = e) (ho : ∀ q, q ≠ k → a_e b aC h' q = a_e b aC h q) : (a_ws b aC h).set k (b + k, e) = a_ws b aC h' := by
  apply List.ext_getElem?
  intro i
  by_cases hi : i < hn h
  · by_cases hik : i = k
    · subst hik
      rw [List.getElem?_set_self (by unfold a_ws; rw [List.length_map, List.length_range]; exact hi), a_ws_at (by rw [hn']; exact hi), he]
    · rw [List.getElem?_set_ne (Ne.symm hik), a_ws_at hi, a_ws_at (by rw [hn']; exact hi), ho i hik]
  · have l1 : (a_ws b aC h).length ≤ i := by unfold a_ws; rw [List.length_map, List.length_range]; omega
    have l2 : (a_ws b aC h').length ≤ i := by unfold a_ws; rw [List.length_map, List.length_range, hn']; omega
    rw [List.getElem?_eq_none (by rw [List.length_set]; exact l1), List.getElem?_eq_none l2]
theorem a_ws_push {b : Nat} {aC : Nat → ClassId} {h h' : A_H} {e : va_E} (hn' : hn h' = hn h + 1) (he : a_e b aC h' (hn h) = e) (ho : ∀ q, q < hn h → a_e b aC h' q = a_e b aC h q) : a_ws b aC h ++ [(b + hn h, e)] = a_ws b aC h' := by
  unfold a_ws
  rw [hn', List.range_succ, List.map_append, ← he]
  congr 1
  apply List.map_congr_left
  intro q hq
  rw [ho q (List.mem_range.mp hq)]
/-- what is there beside the cells: the script, the texts, statics of the JDK -/
def a_E (b : Nat) (ex : Nat → Option Nat) (X : Nat × (Nat → Int32)) (U : State) (H : Heap) : Prop :=
  (∃ sa : Nat, ex 0 = some sa ∧ sa < b ∧ va_X sa X.1 X.2 U H) ∧
  (∀ i : Nat, i < 32 → ∃ ka kv : Nat, ex (i + 1) = some ka ∧ ex (i + 33) = some kv ∧ va_O "java/lang/String" ka (fun q => b ≤ q) U H ∧ va_OF "java/lang/String" "coder" "B" (.int 0) ka (fun q => b ≤ q) U H ∧ va_OF "java/lang/String" "value" "[B" (.ref kv) ka (fun q => b ≤ q) U H ∧ va_T .byte kv (a_T.getD i []).length (fun j => .int (Int32.ofNat ((a_T.getD i []).getD j 0))) (fun q => b ≤ q) U H) ∧
  (∀ q ∈ a_sr, ∃ a : Nat, ex q.2.2.2 = some a ∧ vk_R q.1 q.2.1 q.2.2.1 a U) ∧
  va_Z "java/lang/String" "COMPACT_STRINGS" "Z" (.int 1) (fun q => b ≤ q) U H ∧
  va_Z "jdk/internal/util/Preconditions" "SIOOBE_FORMATTER" "Ljava/util/function/BiFunction;" (va_rf (ex 65)) (fun q => b ≤ q) U H ∧
  vx_Zq Bundle.tN "UNASSIGNED_STACK" Bundle.steD (fun q => b ≤ q) U H ∧ vx_Zq Bundle.tN "SUPPRESSED_SENTINEL" Bundle.listD (fun q => b ≤ q) U H
theorem a_E.go {b : Nat} {ex : Nat → Option Nat} {X : Nat × (Nat → Int32)} {u U : State} {H H1 : Heap} (h : a_E b ex X u H) (hb : b ≤ H.size) (hW : u.WarmedH U.vm) (hq : ∀ a : Nat, a < H.size → ¬ b ≤ a → H1[a]? = H[a]?) : a_E b ex X U H1 := by
  have hvm := hW.alike
  obtain ⟨⟨sa, h1, h2, h3⟩, h4, h5, h6, h7, h8, h9⟩ := h
  refine ⟨⟨sa, h1, h2, (va_X.moved hvm h3).kept (hq sa (by omega) (by omega))⟩, fun i hi => ?_, fun q hq' => ?_, (va_Z.moved hvm h6).kept hq, (va_Z.moved hvm h7).kept hq, (vx_Zq.moved hvm h8).kept hq, (vx_Zq.moved hvm h9).kept hq⟩
  · obtain ⟨ka, kv, g1, g2, g3, g4, g5, g6⟩ := h4 i hi
    exact ⟨ka, kv, g1, g2, (va_O.moved hvm g3).kept hq, (va_OF.moved hvm g4).kept hq, (va_OF.moved hvm g5).kept hq, (va_T.moved hvm g6).kept hq⟩
  · obtain ⟨a, g1, g2⟩ := h5 q hq'
    exact ⟨a, g1, vk_R.warm hW g2⟩
/-- the heap holds the cells -/
def a_Rep (b : Nat) (D : va_G) (aC : Nat → ClassId) (h : A_H) (H : Heap) : Prop := H.size = b + hn h ∧ va_P D a_cl (a_ws b aC h) H
/-- the tables, and what is there beside -/
def a_St (b : Nat) (ex : Nat → Option Nat) (D : va_G) (aC : Nat → ClassId) (X : Nat × (Nat → Int32)) (U : State) : Prop := va_K D a_cl (a_tys aC) U ∧ a_E b ex X U U.heap ∧ b ≤ U.heap.size
/-- the method m stands there, with its code -/
def a_M (m : Nat) (p : Program) (s : State) (mid : MethodId) (args : Array Value) (meth : Method) (c : Code) : Prop :=
  p.tables.exec = Jvm.exec ∧ c.code = a_by m ∧ c.maxLocals = a_nL m ∧ meth.sig.returnType = a_rt m ∧ meth.locks = false ∧ meth.name = (a_y m).name ∧ s.vm.findClass (a_y m).cls = some mid.cls ∧ (∀ w ∈ a_tb, w.before args s = true)
def a_Loc (b : Nat) (ex : Nat → Option Nat) (m : Nat) (ls : A_V) (lsC : Array Slot) : Prop := lsC.size = a_nL m ∧ lv_wf lsC ∧ ∀ i v, a_ld ls i = some v → lsC[i]? = some (.val (a_up b ex v))
def a_Q (b : Nat) (ex : Nat → Option Nat) (D : va_G) (aC : Nat → ClassId) (r : A_R) : Array Value → State → Outcome → State → Prop := fun _ st o t =>
  (∃ v : Option Value, r.1 = some v ∧ o = .returned (v.map (a_up b ex))) ∧ a_Rep b D aC r.2 t.heap ∧ va_F (fun q => b ≤ q) st t
def a_XC (b : Nat) (D : va_G) (aC : Nat → ClassId) (r : A_R) : String → State → State → Prop := fun E st t => E = RN0 ∧ r.1 = none ∧ a_Rep b D aC r.2 t.heap ∧ va_F (fun q => b ≤ q) st t
/-- from here the method ends with r -/
def a_W (l : Launch) (b : Nat) (ex : Nat → Option Nat) (D : va_G) (aC : Nat → ClassId) (m i : Nat) (ls : A_V) (st : List Value) (h : A_H) (r : A_R) : Prop :=
  (hn h ≤ hn r.2 ∧ hs h ≤ hs r.2 ∧ hX r.2 = hX h) ∧
  ∀ (p : Program) (e : Env) (R : Room) (s : State) (mid : MethodId) (args : Array Value) (below : List Frame) (meth : Method) (c : Code) (H : Heap) (locs : List Loc) (n0 s0 : Nat) (lsC : Array Slot),
    a_M m p s mid args meth c → a_St b ex D aC (hX h) s → ((m ≠ 282 ∧ ∀ x ∈ c.exceptionTable.toList, False) ∨ (m = 282 ∧ c.exceptionTable.toList = tableOf [(0, 9, 12, 13)])) →
    a_fr m ≤ R.frames → a_lo m ≤ R.locals → hn r.2 - n0 ≤ R.cells → hs r.2 - s0 ≤ R.slots → n0 ≤ hn h → s0 ≤ hs h →
    a_Rep b D aC h H → va_S (fun q => b ≤ q) s.heap H locs → a_Loc b ex m ls lsC →
    W p l e R s mid args below meth c H locs (hn h - n0) (hs h - s0) (vx_MQ below (a_Q b ex D aC r) (a_XC b D aC r) args s (hn r.2 - n0) (hs r.2 - s0) (fun q => b ≤ q)) (F0 mid (a_pc m i) lsC (st.map (a_up b ex)))
def a_Sd (l : Launch) (b : Nat) (ex : Nat → Option Nat) (D : va_G) (aC : Nat → ClassId) (X : A_X) : Prop := ∀ m i ls st h r, X m i ls st h = some r → a_W l b ex D aC m i ls st h r
def a_Snd (m i : Nat) (f : A_S) : Prop := ∀ (l : Launch) (b : Nat) (ex : Nat → Option Nat) (D : va_G) (aC : Nat → ClassId) (X : A_X), l.stackTraces = false → a_Sd l b ex D aC X → ∀ ls st h r, a_do a_nL X X m (f ls st h) = some r → a_W l b ex D aC m i ls st h r
/-- the instruction at i, and where the next one stands -/
def a_chk (m i : Nat) (ins : Instr) (len : Nat) : Bool := decide (decode (a_by m) (a_pc m i) = .ok (ins, len)) && decide (a_pc m (i + 1) = a_pc m i + len)
def a_chkT (m i : Nat) (ins : Instr) (len : Nat) (off : Int) (t : Nat) : Bool := a_chk m i ins len && decide ((a_pc m i : Int) + off = (a_pc m t : Int))
theorem a_chk_d {m i : Nat} {ins : Instr} {len : Nat} (h : a_chk m i ins len = true) : decode (a_by m) (a_pc m i) = .ok (ins, len) := of_decide_eq_true (Bool.and_eq_true _ _ ▸ h).1
theorem a_chk_n {m i : Nat} {ins : Instr} {len : Nat} (h : a_chk m i ins len = true) : a_pc m (i + 1) = a_pc m i + len := of_decide_eq_true (Bool.and_eq_true _ _ ▸ h).2
theorem a_chkT_c {m i : Nat} {ins : Instr} {len : Nat} {off : Int} {t : Nat} (h : a_chkT m i ins len off t = true) : a_chk m i ins len = true := (Bool.and_eq_true _ _ ▸ h).1
theorem a_chkT_t {m i : Nat} {ins : Instr} {len : Nat} {off : Int} {t : Nat} (h : a_chkT m i ins len off t = true) : (a_pc m i : Int) + off = (a_pc m t : Int) := of_decide_eq_true (Bool.and_eq_true _ _ ▸ h).2
theorem a_do_false {N : Nat → Nat} {X Y : A_X} {m : Nat} {a : Bool × A_A} (h : a.1 = false) : a_do N X Y m a = none := by
  obtain ⟨g, a⟩ := a
  have h : g = false := h
  subst h
  rcases a with a | a | a <;> rfl
/-! steps: to the next instruction, with another heap, dn cells and ds slots more -/
def a_row (m i i' : Nat) (ls : A_V) (st : List Value) (h : A_H) (ls' : A_V) (st' : List Value) (h' : A_H) (dn ds : Nat) : Prop :=
  ∀ (l : Launch) (b : Nat) (ex : Nat → Option Nat) (D : va_G) (aC : Nat → ClassId) (p : Program) (e : Env) (R : Room) (s : State) (mid : MethodId) (args : Array Value) (below : List Frame) (meth : Method) (c : Code) (H : Heap) (locs : List Loc) (cells slots : Nat) (Q : State → Prop) (lsC : Array Slot),
    a_M m p s mid args meth c → a_St b ex D aC (hX h) s → a_fr m ≤ R.frames → a_lo m ≤ R.locals → cells + dn ≤ R.cells → slots + ds ≤ R.slots → a_Rep b D aC h H → va_S (fun q => b ≤ q) s.heap H locs → a_Loc b ex m ls lsC →
    (∀ H1 locs1 lsC', a_Rep b D aC h' H1 → va_S (fun q => b ≤ q) s.heap H1 locs1 → a_Loc b ex m ls' lsC' → W p l e R s mid args below meth c H1 locs1 (cells + dn) (slots + ds) Q (F0 mid (a_pc m i') lsC' (st'.map (a_up b ex)))) →
    W p l e R s mid args below meth c H locs cells slots Q (F0 mid (a_pc m i) lsC (st.map (a_up b ex)))
theorem a_Snd.row {m i : Nat} {f : A_S} (hf : ∀ ls st h, (f ls st h).1 = true → ∃ i' ls' st' h' dn ds, (f ls st h).2 = .inl ([], i', ls', st', h') ∧ hn h' = hn h + dn ∧ hs h' = hs h + ds ∧ hX h' = hX h ∧ a_row m i i' ls st h ls' st' h' dn ds) : a_Snd m i f := by
  intro l b ex D aC X _ hX0 ls st h r hr
  cases hg : (f ls st h).1 with
  | false => rw [a_do_false hg] at hr; cases hr
  | true =>
    obtain ⟨i', ls', st', h', dn, ds, he, e1, e2, e3, hrow⟩ := hf ls st h hg
    rw [show f ls st h = (true, .inl ([], i', ls', st', h')) from Prod.ext hg he] at hr
    have hr : X m i' ls' st' h' = some r := hr
    obtain ⟨⟨g1, g1', g1''⟩, g2⟩ := hX0 m i' ls' st' h' r hr
    refine ⟨⟨by omega, by omega, by rw [g1'', e3]⟩, ?_⟩
    intro p e R s mid args below meth c H locs n0 s0 lsC k1 k2 kt k3 k4 k5 k6 k7 k8 k9 k10 k11
    refine hrow l b ex D aC p e R s mid args below meth c H locs _ _ _ lsC k1 k2 k3 k4 (by omega) (by omega) k9 k10 k11 (fun H1 locs1 lsC' q1 q2 q3 => ?_)
    have := g2 p e R s mid args below meth c H1 locs1 n0 s0 lsC' k1 (by rw [e3]; exact k2) kt k3 k4 k5 k6 (by omega) (by omega) q1 q2 q3
    rw [show hn h' - n0 = hn h - n0 + dn by omega, show hs h' - s0 = hs h - s0 + ds by omega] at this
    exact this
/-- a step that leaves the heap -/
theorem a_row.pure {m i i' : Nat} {ls ls' : A_V} {st st' : List Value} {h : A_H}
    (hr : ∀ (l : Launch) (b : Nat) (ex : Nat → Option Nat) (D : va_G) (aC : Nat → ClassId) (p : Program) (e : Env) (R : Room) (s : State) (mid : MethodId) (args : Array Value) (below : List Frame) (meth : Method) (c : Code) (H : Heap) (locs : List Loc) (cells slots : Nat) (Q : State → Prop) (lsC : Array Slot),
      a_M m p s mid args meth c → a_St b ex D aC (hX h) s → a_fr m ≤ R.frames → a_lo m ≤ R.locals → a_Rep b D aC h H → va_S (fun q => b ≤ q) s.heap H locs → a_Loc b ex m ls lsC →
      (∀ lsC', a_Loc b ex m ls' lsC' → W p l e R s mid args below meth c H locs cells slots Q (F0 mid (a_pc m i') lsC' (st'.map (a_up b ex)))) →
      W p l e R s mid args below meth c H locs cells slots Q (F0 mid (a_pc m i) lsC (st.map (a_up b ex)))) : a_row m i i' ls st h ls' st' h 0 0 := by
  intro l b ex D aC p e R s mid args below meth c H locs cells slots Q lsC k1 k2 k3 k4 k5 k6 k7 k8 k9 kk
  exact hr l b ex D aC p e R s mid args below meth c H locs cells slots Q lsC k1 k2 k3 k4 k7 k8 k9 (fun lsC' hl => kk H locs lsC' k7 k8 hl)
/-! locals -/
theorem a_ld_st : ∀ (ls : A_V) (j i : Nat) (v w : Value), a_ld (a_st ls j v) i = some w → (i = j ∧ w = v) ∨ (i ≠ j ∧ a_ld ls i = some w ∧ ¬ (i + 1 = j ∧ w.category = 2))
  | [], _, _, _, _, h => by simp [a_st, a_ld] at h
  | x :: r, 0, i, v, w, h => by
    cases i with
    | zero => simp only [a_st, a_ld] at h; exact Or.inl ⟨rfl, (Option.some.inj h).symm⟩
    | succ i => simp only [a_st, a_ld] at h; exact Or.inr ⟨by omega, by simpa [a_ld] using h, by omega⟩
  | x :: r, j + 1, i, v, w, h => by
    cases i with
    | zero =>
      simp only [a_st, a_ld] at h
      cases j with
      | zero =>
        unfold a_wk at h
        simp only at h
        by_cases hc : a_c2 x = true
        · rw [if_pos hc] at h; cases h
        · rw [if_neg hc] at h
          refine Or.inr ⟨by omega, by simpa [a_ld] using h, fun hh => hc ?_⟩
          rw [h]
          cases w <;> first | rfl | (simp [Value.category] at hh)
      | succ j =>
        unfold a_wk at h
        exact Or.inr ⟨by omega, by simpa [a_ld] using h, by omega⟩
    | succ i =>
      simp only [a_st, a_ld] at h
      rcases a_ld_st r j i v w h with ⟨e1, e2⟩ | ⟨e1, e2, e3⟩
      · exact Or.inl ⟨by omega, e2⟩
      · exact Or.inr ⟨by omega, by simpa [a_ld] using e2, fun hh => e3 ⟨by omega, hh.2⟩⟩
theorem a_ld_rm : ∀ (ls : A_V) (j i : Nat) (w : Value), a_ld (a_rm ls j) i = some w → i ≠ j ∧ a_ld ls i = some w
  | [], _, _, _, h => by simp [a_rm, a_ld] at h
  | x :: r, 0, i, w, h => by
    cases i with
    | zero => simp [a_rm, a_ld] at h
    | succ i => exact ⟨by omega, by simpa [a_rm, a_ld] using h⟩
  | x :: r, j + 1, i, w, h => by
    cases i with
    | zero => exact ⟨by omega, by simpa [a_rm, a_ld] using h⟩
    | succ i =>
      simp only [a_rm, a_ld] at h
      obtain ⟨e1, e2⟩ := a_ld_rm r j i w h
      exact ⟨by omega, by simpa [a_ld] using e2⟩
def a_all (b : Nat) (ex : Nat → Option Nat) (n : Nat) (ls : A_V) : List (Nat × Value) := (List.range n).filterMap (fun i => (a_ld ls i).map (fun v => (i, a_up b ex v)))
theorem a_Loc.has {b : Nat} {ex : Nat → Option Nat} {m : Nat} {ls : A_V} {lsC : Array Slot} (h : a_Loc b ex m ls lsC) : lv_has lsC (a_nL m) (a_all b ex (a_nL m) ls) := by
  refine ⟨h.1, h.2.1, fun q hq => ?_⟩
  obtain ⟨i, -, hi⟩ := List.mem_filterMap.mp hq
  cases hv : a_ld ls i with
  | none => rw [hv] at hi; cases hi
  | some v => rw [hv] at hi; cases hi; exact h.2.2 i v hv
theorem a_Loc.mem {b : Nat} {ex : Nat → Option Nat} {m : Nat} {ls : A_V} {lsC : Array Slot} (h : a_Loc b ex m ls lsC) {i : Nat} {v : Value} (hv : a_ld ls i = some v) : (i, a_up b ex v) ∈ a_all b ex (a_nL m) ls := by
  have hl := h.2.2 i v hv
  have hi : i < lsC.size := (Array.getElem?_eq_some_iff.mp hl).1
  exact List.mem_filterMap.mpr ⟨i, List.mem_range.mpr (by rw [← h.1]; exact hi), by rw [hv]; rfl⟩
theorem a_Loc.st1 {b : Nat} {ex : Nat → Option Nat} {m : Nat} {ls : A_V} {lsC : Array Slot} (h : a_Loc b ex m ls lsC) {j : Nat} {v : Value} {lsC' : Array Slot} (h' : lv_has lsC' (a_nL m) ((j, a_up b ex v) :: (a_all b ex (a_nL m) ls).filter (fun q => !(q.1 == j) && !(q.1 + 1 == j && q.2.category == 2)))) : a_Loc b ex m (a_st ls j v) lsC' := by
  refine ⟨h'.1, h'.2.1, fun i w hw => ?_⟩
  rcases a_ld_st ls j i v w hw with ⟨e1, e2⟩ | ⟨e1, e2, e3⟩
  · subst e1; subst e2; exact h'.2.2 _ List.mem_cons_self
  · refine h'.2.2 (i, a_up b ex w) (List.mem_cons_of_mem _ (List.mem_filter.mpr ⟨h.mem e2, ?_⟩))
    simp only [a_up_cat]
    have n1 : (i == j) = false := by simpa using e1
    rw [n1]
    by_cases hc : i + 1 = j
    · have hc2 : (w.category == 2) = false := by
        have : ¬ w.category = 2 := fun z => e3 ⟨hc, z⟩
        simpa using this
      simp [hc2]
    · have : (i + 1 == j) = false := by simpa using hc
      simp [this]
theorem a_Loc.st2 {b : Nat} {ex : Nat → Option Nat} {m : Nat} {ls : A_V} {lsC : Array Slot} (h : a_Loc b ex m ls lsC) {j : Nat} {v : Value} {lsC' : Array Slot} (h' : lv_has lsC' (a_nL m) ((j, a_up b ex v) :: (a_all b ex (a_nL m) ls).filter (fun q => !(q.1 == j) && (!(q.1 == j + 1) && !(q.1 + 1 == j && q.2.category == 2))))) : a_Loc b ex m (a_rm (a_st ls j v) (j + 1)) lsC' := by
  refine ⟨h'.1, h'.2.1, fun i w hw => ?_⟩
  obtain ⟨n2, hw⟩ := a_ld_rm _ _ _ _ hw
  rcases a_ld_st ls j i v w hw with ⟨e1, e2⟩ | ⟨e1, e2, e3⟩
  · subst e1; subst e2; exact h'.2.2 _ List.mem_cons_self
  · refine h'.2.2 (i, a_up b ex w) (List.mem_cons_of_mem _ (List.mem_filter.mpr ⟨h.mem e2, ?_⟩))
    simp only [a_up_cat]
    have n1 : (i == j) = false := by simpa using e1
    have n3 : (i == j + 1) = false := by simpa using n2
    rw [n1, n3]
    by_cases hc : i + 1 = j
    · have hc2 : (w.category == 2) = false := by
        have : ¬ w.category = 2 := fun z => e3 ⟨hc, z⟩
        simpa using this
      simp [hc2]
    · have : (i + 1 == j) = false := by simpa using hc
      simp [this]
