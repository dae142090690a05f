theorem snd_ifnull {m i t : Nat} {off : Int} (hk : a_chkT m i (.ifnull off) 3 off t = true) : a_Snd m i (s_ifnull t (i + 1)) := by
  intro l b ex D aC X _ hX0 ls st h r hr
  unfold s_ifnull at hr
  split at hr
  · rename_i v st
    cases hv : a_isR v with
    | false => rw [hv] at hr; cases hr
    | true =>
      rw [hv] at hr
      have hr : cond (a_nul v) (X m t ls st h) (X m (i + 1) ls st h) = some r := hr
      have g1 : hn h ≤ hn r.2 ∧ hs h ≤ hs r.2 ∧ hX r.2 = hX h := by
        cases hq : a_nul v with
        | true => rw [hq] at hr; exact (hX0 _ _ _ _ _ _ hr).1
        | false => rw [hq] at hr; exact (hX0 _ _ _ _ _ _ hr).1
      refine ⟨g1, ?_⟩
      intro p e R s mid args below meth c H locs n0 s0 lsC k1 k2 kt k3 k4 k5 k6 k7 k8 k9 k10 k11
      rw [List.map_cons]
      rcases a_up_nul (b := b) (ex := ex) hv with ⟨e1, e2⟩ | ⟨e1, a, e2⟩
      · rw [e1] at hr
        rw [e2]
        exact lv_ifnullN k1.1 k1.2.1 (a_chk_d (a_chkT_c hk)) (a_chkT_t hk) ((hX0 _ _ _ _ _ _ hr).2 p e R s mid args below meth c H locs n0 s0 lsC k1 k2 kt k3 k4 k5 k6 k7 k8 k9 k10 k11)
      · rw [e1] at hr
        rw [e2]
        have := (hX0 _ _ _ _ _ _ hr).2 p e R s mid args below meth c H locs n0 s0 lsC k1 k2 kt k3 k4 k5 k6 k7 k8 k9 k10 k11
        rw [a_chk_n (a_chkT_c hk)] at this
        exact lv_ifnull k1.1 k1.2.1 (a_chk_d (a_chkT_c hk)) this
  · cases hr
theorem snd_ifnonnull {m i t : Nat} {off : Int} (hk : a_chkT m i (.ifnonnull off) 3 off t = true) : a_Snd m i (s_ifnonnull t (i + 1)) := by
  intro l b ex D aC X _ hX0 ls st h r hr
  unfold s_ifnonnull at hr
  split at hr
  · rename_i v st
    cases hv : a_isR v with
    | false => rw [hv] at hr; cases hr
    | true =>
      rw [hv] at hr
      have hr : cond (!a_nul v) (X m t ls st h) (X m (i + 1) ls st h) = some r := hr
      have g1 : hn h ≤ hn r.2 ∧ hs h ≤ hs r.2 ∧ hX r.2 = hX h := by
        cases hq : a_nul v with
        | true => rw [hq] at hr; exact (hX0 _ _ _ _ _ _ hr).1
        | false => rw [hq] at hr; exact (hX0 _ _ _ _ _ _ hr).1
      refine ⟨g1, ?_⟩
      intro p e R s mid args below meth c H locs n0 s0 lsC k1 k2 kt k3 k4 k5 k6 k7 k8 k9 k10 k11
      rw [List.map_cons]
      rcases a_up_nul (b := b) (ex := ex) hv with ⟨e1, e2⟩ | ⟨e1, a, e2⟩
      · rw [e1] at hr
        rw [e2]
        have := (hX0 _ _ _ _ _ _ hr).2 p e R s mid args below meth c H locs n0 s0 lsC k1 k2 kt k3 k4 k5 k6 k7 k8 k9 k10 k11
        rw [a_chk_n (a_chkT_c hk)] at this
        exact lv_ifnonnullN k1.1 k1.2.1 (a_chk_d (a_chkT_c hk)) this
      · rw [e1] at hr
        rw [e2]
        exact lv_ifnonnull k1.1 k1.2.1 (a_chk_d (a_chkT_c hk)) (a_chkT_t hk) ((hX0 _ _ _ _ _ _ hr).2 p e R s mid args below meth c H locs n0 s0 lsC k1 k2 kt k3 k4 k5 k6 k7 k8 k9 k10 k11)
  · cases hr
/-- which row of a switch is taken -/
def a_pick : List (Int32 × Nat) → Nat → Int32 → Nat
  | [], d, _ => d
  | q :: r, d, x => if x = q.1 then q.2 else a_pick r d x
theorem a_sel_pick {k : Nat → Option A_R} {x : Int32} {d : Nat} : ∀ tb : List (Int32 × Nat), a_sel (tb.map (fun q => (decide (x = q.1), q.2))) d k = k (a_pick tb d x)
  | [] => rfl
  | q :: r => by
    simp only [List.map_cons, a_sel, a_pick]
    by_cases h : x = q.1
    · simp [h]
    · simp [h, a_sel_pick r]
theorem a_sw {m i d : Nat} {tb : List (Int32 × Nat)} (row : ∀ {p : Program} {l : Launch} {e : Env} {R : Room} {s : State} {mid : MethodId} {args : Array Value} {below : List Frame} {meth : Method} {c : Code} {H : Heap} {locs : List Loc} {cells slots : Nat} {Q : State → Prop} {ls : Array Slot} {rest : List Value} (x : Int32), p.tables.exec = Jvm.exec → c.code = a_by m →
    W p l e R s mid args below meth c H locs cells slots Q (F0 mid (a_pc m (a_pick tb d x)) ls rest) → W p l e R s mid args below meth c H locs cells slots Q (F0 mid (a_pc m i) ls (.int x :: rest))) : a_Snd m i (s_sw tb d) := by
  intro l b ex D aC X _ hX0 ls st h r hr
  unfold s_sw at hr
  split at hr
  · rename_i x st
    have hr : a_sel (tb.map (fun q => (decide (x = q.1), q.2))) d (fun i => X m i ls st h) = some r := hr
    rw [a_sel_pick] at hr
    refine ⟨(hX0 _ _ _ _ _ _ hr).1, ?_⟩
    intro p e R s mid args below meth c H locs n0 s0 lsC k1 k2 kt k3 k4 k5 k6 k7 k8 k9 k10 k11
    exact row x k1.1 k1.2.1 ((hX0 _ _ _ _ _ _ hr).2 p e R s mid args below meth c H locs n0 s0 lsC k1 k2 kt k3 k4 k5 k6 k7 k8 k9 k10 k11)
  · cases hr
/-- a table: its rows from lo on, one by one -/
def a_tbk (m i : Nat) (lo : Int) : List (Int32 × Nat) → List Int → Bool
  | [], [] => true
  | q :: r, o :: os => decide (q.1.toInt = lo) && decide ((a_pc m i : Int) + o = (a_pc m q.2 : Int)) && a_tbk m i (lo + 1) r os
  | _, _ => false
theorem a_tbk_pick {m i d : Nat} {x : Int32} : ∀ (tb : List (Int32 × Nat)) (os : List Int) (lo : Int), a_tbk m i lo tb os = true →
    (¬ x.toInt < lo → x.toInt < lo + os.length → ∃ o, os[(x.toInt - lo).toNat]? = some o ∧ (a_pc m i : Int) + o = (a_pc m (a_pick tb d x) : Int)) ∧ (x.toInt < lo ∨ lo + os.length ≤ x.toInt → a_pick tb d x = d)
  | [], [], lo, _ => ⟨fun h1 h2 => by simp at h2; omega, fun _ => rfl⟩
  | [], _ :: _, _, h => by simp [a_tbk] at h
  | _ :: _, [], _, h => by simp [a_tbk] at h
  | q :: r, o :: os, lo, h => by
    simp only [a_tbk, Bool.and_eq_true, decide_eq_true_eq] at h
    obtain ⟨⟨h1, h2⟩, h3⟩ := h
    obtain ⟨ih1, ih2⟩ := a_tbk_pick (d := d) (x := x) r os (lo + 1) h3
    simp only [List.length_cons, Int.natCast_add, Int.natCast_one] at *
    by_cases hx : x = q.1
    · have hxl : x.toInt = lo := by rw [hx]; exact h1
      refine ⟨fun _ _ => ⟨o, ?_, ?_⟩, fun hh => ?_⟩
      · rw [hxl, Int.sub_self]; rfl
      · simp only [a_pick, hx, if_true]; exact h2
      · omega
    · have hne : x.toInt ≠ lo := fun z => hx (Int32.toInt_inj.mp (z.trans h1.symm))
      refine ⟨fun g1 g2 => ?_, fun g => ?_⟩
      · obtain ⟨o', e1, e2⟩ := ih1 (by omega) (by omega)
        refine ⟨o', ?_, ?_⟩
        · rw [show (x.toInt - lo).toNat = (x.toInt - (lo + 1)).toNat + 1 by omega, List.getElem?_cons_succ]; exact e1
        · simp only [a_pick, hx, if_false]; exact e2
      · simp only [a_pick, hx, if_false]; exact ih2 (by omega)
theorem snd_tsw {m i d : Nat} {tb : List (Int32 × Nat)} {df lo hi : Int} {offs : Array Int} {len : Nat} (hd : decide (decode (a_by m) (a_pc m i) = .ok (.tableswitch df lo hi offs, len)) = true) (hb : a_tbk m i lo tb offs.toList = true) (hh : decide (hi + 1 = lo + offs.toList.length) = true) (hdf : decide ((a_pc m i : Int) + df = (a_pc m d : Int)) = true) : a_Snd m i (s_sw tb d) := by
  refine a_sw (fun {p l e R s mid args below meth c H locs cells slots Q ls rest} x hx hc k => ?_)
  obtain ⟨h1, h2⟩ := a_tbk_pick (d := d) (x := x) tb offs.toList lo hb
  have hh := of_decide_eq_true hh
  by_cases c1 : x.toInt < lo
  · rw [h2 (Or.inl c1)] at k
    exact lv_tableOut hx hc (of_decide_eq_true hd) (Or.inl c1) (of_decide_eq_true hdf) k
  · by_cases c2 : hi < x.toInt
    · rw [h2 (Or.inr (by omega))] at k
      exact lv_tableOut hx hc (of_decide_eq_true hd) (Or.inr c2) (of_decide_eq_true hdf) k
    · obtain ⟨o, e1, e2⟩ := h1 c1 (by omega)
      exact lv_tableIn hx hc (of_decide_eq_true hd) c1 c2 (by rw [← Array.getElem?_toList]; exact e1) e2 k
/-- a lookup of two rows, 0 and 1 -/
theorem snd_lsw {m i d t0 t1 : Nat} {df o0 o1 : Int} {len : Nat} (hd : decide (decode (a_by m) (a_pc m i) = .ok (.lookupswitch df #[(0, o0), (1, o1)], len)) = true) (h0 : decide ((a_pc m i : Int) + o0 = (a_pc m t0 : Int)) = true) (h1 : decide ((a_pc m i : Int) + o1 = (a_pc m t1 : Int)) = true) (hdf : decide ((a_pc m i : Int) + df = (a_pc m d : Int)) = true) : a_Snd m i (s_sw [(0, t0), (1, t1)] d) := by
  refine a_sw (fun {p l e R s mid args below meth c H locs cells slots Q ls rest} x hx hc k => ?_)
  have key : ∀ (off : Int) (t : Nat), Op.lookupswitch.offset ([(0, o0), (1, o1)] : List (Int × Int)) df x.toInt = off → (a_pc m i : Int) + off = (a_pc m t : Int) → a_pick [(0, t0), (1, t1)] d x = t → W p l e R s mid args below meth c H locs cells slots Q (F0 mid (a_pc m i) ls (.int x :: rest)) := by
    intro off t e1 e2 e3
    rw [e3] at k
    exact lv_lookup hx hc (of_decide_eq_true hd) (by simp) e1 e2 k
  by_cases c0 : x = 0
  · subst c0
    exact key o0 t0 (by simp [Op.lookupswitch.offset]) (of_decide_eq_true h0) (by simp [a_pick])
  · have n0 : x.toInt ≠ 0 := fun z => c0 (Int32.toInt_inj.mp (z.trans (by decide)))
    by_cases c1 : x = 1
    · subst c1
      exact key o1 t1 (by simp [Op.lookupswitch.offset]) (of_decide_eq_true h1) (by simp [a_pick])
    · have n1 : x.toInt ≠ 1 := fun z => c1 (Int32.toInt_inj.mp (z.trans (by decide)))
      exact key df d (by simp [Op.lookupswitch.offset, n0, n1, Ne.symm n0, Ne.symm n1]) (of_decide_eq_true hdf) (by simp [a_pick, c0, c1])
/-! fields -/
def a_kof : FieldType → Nat
  | .long => 1
  | .object _ => 2
  | .array _ => 2
  | _ => 0
def a_okc (ci : Nat) : Prop := a_cl[ci]? = some (a_cq ci) ∧ ci < 100 ∧ (∀ w ∈ u_ws (a_cq ci).1 (a_cq ci).2.1 (a_cq ci).2.2, w ∈ a_tb) ∧ (∀ k, k < (a_cq ci).2.2 → parseFieldDescriptor ((a_cq ci).2.1 k).2.2.1 = some (a_ty ci k)) ∧ (∀ a, a < (a_cq ci).2.2 → ∀ b, b < (a_cq ci).2.2 → a ≠ b → ((a_cq ci).2.1 a).2.1 ≠ ((a_cq ci).2.1 b).2.1) ∧ (∀ k, k < (a_cq ci).2.2 → a_kd ci k = a_kof (a_ty ci k) ∧ a_ty ci k ≠ .float ∧ a_ty ci k ≠ .double)
/-- the link of a field: of this class, or of a mate in the nest -/
def a_fl (own : String) (idx ci j : Nat) : Prop := Cond.fieldLink own idx ((a_cq ci).2.1 j).1 ((a_cq ci).2.1 j).2.1 ((a_cq ci).2.1 j).2.2.1 ∈ a_tb ∨ ∃ host, Cond.fieldLinkNest own idx ((a_cq ci).2.1 j).1 ((a_cq ci).2.1 j).2.1 ((a_cq ci).2.1 j).2.2.1 host ∈ a_tb
theorem a_fs_at {b : Nat} {h : A_H} {k ci j : Nat} (hj : j < (a_cq ci).2.2) : (a_fs b h k ci)[j]? = some (a_fv b h k ci j) := by
  unfold a_fs
  rw [List.getElem?_map, List.getElem?_range hj]
  rfl
theorem a_e_O {b : Nat} {aC : Nat → ClassId} {h : A_H} {k ci : Nat} (hc : ci < 100) (hk : (hsh h k).1 = ci) : a_e b aC h k = .inr (ci, a_fs b h k ci) := by
  unfold a_e
  rw [if_pos (by rw [hk]; exact hc), hk]
theorem isO_lt {h : A_H} {k ci : Nat} (ho : isO h k ci = true) : k < hn h := by
  unfold isO at ho
  simp only [Bool.and_eq_true, decide_eq_true_eq] at ho
  exact ho.1
theorem isO_sh {h : A_H} {k ci : Nat} (ho : isO h k ci = true) : (hsh h k).1 = ci := by
  unfold isO at ho
  simp only [Bool.and_eq_true, decide_eq_true_eq] at ho
  exact ho.2
section FLD
variable {l : Launch} {b : Nat} {ex : Nat → Option Nat} {D : va_G} {aC : Nat → ClassId} {h : A_H} {p : Program} {e : Env} {R : Room} {s : State} {mid : MethodId} {args : Array Value} {below : List Frame} {meth : Method} {c : Code} {H : Heap} {locs : List Loc} {cells slots : Nat} {Q : State → Prop} {lsC : Array Slot} {rest : List Value} {m i idx ci j k : Nat}
theorem a_getW (hc : a_okc ci) (hj : j < (a_cq ci).2.2) (hl : a_fl (a_y m).cls idx ci j) (hk : a_chk m i (.getfield idx) 3 = true) (k1 : a_M m p s mid args meth c) (k2 : a_St b ex D aC (hX h) s) (k5 : a_Rep b D aC h H) (ho : isO h k ci = true)
    (kk : W p l e R s mid args below meth c H locs cells slots Q (F0 mid (a_pc m i + 3) lsC (a_fv b h k ci j :: rest))) : W p l e R s mid args below meth c H locs cells slots Q (F0 mid (a_pc m i) lsC (.ref (b + k) :: rest)) := by
  have he : (a_ws b aC h)[k]? = some (b + k, .inr (ci, a_fs b h k ci)) := by rw [a_ws_at (isO_lt ho), a_e_O hc.2.1 (isO_sh ho)]
  rcases hl with hl | ⟨host, hl⟩
  · exact va_get (C := (a_cq ci).1) (T := (a_cq ci).2.1) (N := (a_cq ci).2.2) k1.1 k1.2.1 k1.2.2.2.2.2.2.2 hc.2.2.1 k1.2.2.2.2.2.2.1 k2.1 k5.2 k he hc.1 j hj (k1.2.2.2.2.2.2.2 _ hl) (fun _ h9 => h9) (a_fs_at hj) (a_chk_d hk) kk
  · exact va_getN (C := (a_cq ci).1) (T := (a_cq ci).2.1) (N := (a_cq ci).2.2) k1.1 k1.2.1 k1.2.2.2.2.2.2.2 hc.2.2.1 k1.2.2.2.2.2.2.1 k2.1 k5.2 k he hc.1 j hj (k1.2.2.2.2.2.2.2 _ hl) (fun _ h9 => h9) (a_fs_at hj) (a_chk_d hk) kk
end FLD
section GETS
variable {m i idx ci j : Nat}
theorem snd_getI (hc : a_okc ci) (hj : decide (j < (a_cq ci).2.2) = true) (hd : decide (a_kd ci j = 0) = true) (hl : a_fl (a_y m).cls idx ci j) (hk : a_chk m i (.getfield idx) 3 = true) : a_Snd m i (s_getI ci j (i + 1)) := by
  refine a_Snd.row (fun ls st h hg => ?_)
  unfold s_getI at hg ⊢
  split at hg
  · rename_i k st
    have hg : isO h k ci = true := hg
    refine ⟨i + 1, ls, .int (hI h k j) :: st, h, 0, 0, rfl, rfl, rfl, rfl, a_row.pure ?_⟩
    intro l b ex D aC p e R s mid args below meth c H locs cells slots Q lsC k1 k2 k3 k4 k5 k6 k7 kk
    have h1 := kk lsC k7
    rw [a_chk_n hk] at h1
    refine a_getW hc (of_decide_eq_true hj) hl hk k1 k2 k5 hg ?_
    unfold a_fv
    rw [of_decide_eq_true hd]
    exact h1
  · exact Bool.noConfusion hg
theorem snd_getL (hc : a_okc ci) (hj : decide (j < (a_cq ci).2.2) = true) (hd : decide (a_kd ci j = 1) = true) (hl : a_fl (a_y m).cls idx ci j) (hk : a_chk m i (.getfield idx) 3 = true) : a_Snd m i (s_getL ci j (i + 1)) := by
  refine a_Snd.row (fun ls st h hg => ?_)
  unfold s_getL at hg ⊢
  split at hg
  · rename_i k st
    have hg : isO h k ci = true := hg
    refine ⟨i + 1, ls, .long (hL h k j) :: st, h, 0, 0, rfl, rfl, rfl, rfl, a_row.pure ?_⟩
    intro l b ex D aC p e R s mid args below meth c H locs cells slots Q lsC k1 k2 k3 k4 k5 k6 k7 kk
    have h1 := kk lsC k7
    rw [a_chk_n hk] at h1
    refine a_getW hc (of_decide_eq_true hj) hl hk k1 k2 k5 hg ?_
    unfold a_fv
    rw [of_decide_eq_true hd]
    exact h1
  · exact Bool.noConfusion hg
theorem snd_getR (hc : a_okc ci) (hj : decide (j < (a_cq ci).2.2) = true) (hd : decide (a_kd ci j = 2) = true) (hl : a_fl (a_y m).cls idx ci j) (hk : a_chk m i (.getfield idx) 3 = true) : a_Snd m i (s_getR ci j (i + 1)) := by
  refine a_Snd.row (fun ls st h hg => ?_)
  unfold s_getR at hg ⊢
  split at hg
  · rename_i k st
    have hg : (isO h k ci && (hP h k j).isSome) = true := hg
    rw [Bool.and_eq_true] at hg
    refine ⟨i + 1, ls, .ref ((hP h k j).getD 0) :: st, h, 0, 0, rfl, rfl, rfl, rfl, a_row.pure ?_⟩
    intro l b ex D aC p e R s mid args below meth c H locs cells slots Q lsC k1 k2 k3 k4 k5 k6 k7 kk
    have h1 := kk lsC k7
    rw [a_chk_n hk] at h1
    refine a_getW hc (of_decide_eq_true hj) hl hk k1 k2 k5 hg.1 ?_
    unfold a_fv
    rw [of_decide_eq_true hd]
    cases hp : hP h k j with
    | none => rw [hp] at hg; exact absurd hg.2 (by decide)
    | some a => rw [hp] at h1; exact h1
  · exact Bool.noConfusion hg
theorem snd_getN (hc : a_okc ci) (hj : decide (j < (a_cq ci).2.2) = true) (hd : decide (a_kd ci j = 2) = true) (hl : a_fl (a_y m).cls idx ci j) (hk : a_chk m i (.getfield idx) 3 = true) : a_Snd m i (s_getN ci j (i + 1)) := by
  refine a_Snd.row (fun ls st h hg => ?_)
  unfold s_getN at hg ⊢
  split at hg
  · rename_i k st
    have hg : isO h k ci = true := hg
    refine ⟨i + 1, ls, va_rf (hP h k j) :: st, h, 0, 0, rfl, rfl, rfl, rfl, a_row.pure ?_⟩
    intro l b ex D aC p e R s mid args below meth c H locs cells slots Q lsC k1 k2 k3 k4 k5 k6 k7 kk
    have h1 := kk lsC k7
    rw [a_chk_n hk] at h1
    refine a_getW hc (of_decide_eq_true hj) hl hk k1 k2 k5 hg ?_
    unfold a_fv
    rw [of_decide_eq_true hd]
    cases hp : hP h k j with
    | none => rw [hp] at h1; exact h1
    | some a => rw [hp] at h1; exact h1
  · exact Bool.noConfusion hg
end GETS
/-! what a write leaves -/
theorem a_Rep.set {b : Nat} {D : va_G} {aC : Nat → ClassId} {h h' : A_H} {H H1 : Heap} {k : Nat} (hR : a_Rep b D aC h H) (hn' : hn h' = hn h) (hk : k < hn h) (he : va_at D a_cl (b + k, a_e b aC h' k) H1) (z : H1.size = H.size) (oq : ∀ q, q ≠ b + k → H1[q]? = H[q]?) (ho : ∀ q, q ≠ k → a_e b aC h' q = a_e b aC h q) : a_Rep b D aC h' H1 :=
  ⟨by rw [z, hR.1, hn'], by rw [← a_ws_set hn' hk rfl ho]; exact hR.2.set a_ws_D (a_ws_at hk) he oq⟩
theorem wI_o {b : Nat} {aC : Nat → ClassId} {h : A_H} {k j : Nat} {x : Int32} : ∀ q, q ≠ k → a_e b aC (wI h k j x) q = a_e b aC h q := by
  intro q hq
  have e1 : hI (wI h k j x) q = hI h q := by
    funext z
    show u2 (hI h) k j x q z = _
    unfold u2
    rw [if_neg (fun hh => hq hh.1)]
  have e2 : ∀ ci, a_fs b (wI h k j x) q ci = a_fs b h q ci := by
    intro ci
    unfold a_fs
    apply List.map_congr_left
    intro z _
    unfold a_fv
    rw [e1]
    rfl
  unfold a_e
  rw [e1, e2]
  rfl
theorem wL_o {b : Nat} {aC : Nat → ClassId} {h : A_H} {k j : Nat} {x : Int64} : ∀ q, q ≠ k → a_e b aC (wL h k j x) q = a_e b aC h q := by
  intro q hq
  have e1 : hL (wL h k j x) q = hL h q := by
    funext z
    show u2 (hL h) k j x q z = _
    unfold u2
    rw [if_neg (fun hh => hq hh.1)]
  have e2 : ∀ ci, a_fs b (wL h k j x) q ci = a_fs b h q ci := by
    intro ci
    unfold a_fs
    apply List.map_congr_left
    intro z _
    unfold a_fv
    rw [e1]
    rfl
  unfold a_e
  rw [e1, e2]
  rfl
theorem wP_o {b : Nat} {aC : Nat → ClassId} {h : A_H} {k j : Nat} {x : Option Nat} : ∀ q, q ≠ k → a_e b aC (wP h k j x) q = a_e b aC h q := by
  intro q hq
  have e1 : hP (wP h k j x) q = hP h q := by
    funext z
    show u2 (hP h) k j x q z = _
    unfold u2
    rw [if_neg (fun hh => hq hh.1)]
  have e2 : ∀ ci, a_fs b (wP h k j x) q ci = a_fs b h q ci := by
    intro ci
    unfold a_fs
    apply List.map_congr_left
    intro z _
    unfold a_fv
    rw [e1]
    rfl
  unfold a_e
  rw [e1, e2]
  rfl
