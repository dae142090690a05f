/-! new cells -/
theorem nw_o {b : Nat} {aC : Nat → ClassId} {h : A_H} {t N sl : Nat} : ∀ q, q < hn h → a_e b aC (nw h t N sl) q = a_e b aC h q := by
  intro q hq
  have hne : q ≠ hn h := by omega
  have e0 : hsh (nw h t N sl) q = hsh h q := by show (if q = hn h then (t, N) else hsh h q) = _; rw [if_neg hne]
  have e1 : hI (nw h t N sl) q = hI h q := by funext z; show r1 (hI h) (hn h) 0 q z = _; unfold r1; rw [if_neg hne]
  have e2 : hL (nw h t N sl) q = hL h q := by funext z; show r1 (hL h) (hn h) 0 q z = _; unfold r1; rw [if_neg hne]
  have e3 : hP (nw h t N sl) q = hP h q := by funext z; show r1 (hP h) (hn h) none q z = _; unfold r1; rw [if_neg hne]
  have e4 : ∀ ci, a_fs b (nw h t N sl) q ci = a_fs b h q ci := by
    intro ci
    unfold a_fs
    apply List.map_congr_left
    intro z _
    unfold a_fv
    rw [e1, e2, e3]
  unfold a_e
  rw [e0, e1, e2, e3, e4]
theorem nw_sh {h : A_H} {t N sl : Nat} : hsh (nw h t N sl) (hn h) = (t, N) := by show (if hn h = hn h then (t, N) else hsh h (hn h)) = _; rw [if_pos rfl]
theorem nw_I {h : A_H} {t N sl : Nat} : hI (nw h t N sl) (hn h) = fun _ => 0 := by funext z; show r1 (hI h) (hn h) 0 (hn h) z = _; unfold r1; rw [if_pos rfl]
theorem nw_L {h : A_H} {t N sl : Nat} : hL (nw h t N sl) (hn h) = fun _ => 0 := by funext z; show r1 (hL h) (hn h) 0 (hn h) z = _; unfold r1; rw [if_pos rfl]
theorem nw_P {h : A_H} {t N sl : Nat} : hP (nw h t N sl) (hn h) = fun _ => none := by funext z; show r1 (hP h) (hn h) none (hn h) z = _; unfold r1; rw [if_pos rfl]
theorem a_Rep.push {b : Nat} {D : va_G} {aC : Nat → ClassId} {h h' : A_H} {H H1 : Heap} (hR : a_Rep b D aC h H) (hn' : hn h' = hn h + 1) (he : va_at D a_cl (b + hn h, a_e b aC h' (hn h)) H1) (z : H1.size = H.size + 1) (o1 : ∀ q, q < H.size → H1[q]? = H[q]?) (ho : ∀ q, q < hn h → a_e b aC h' q = a_e b aC h q) : a_Rep b D aC h' H1 := by
  refine ⟨by rw [z, hR.1, hn']; omega, ?_⟩
  rw [← a_ws_push hn' rfl ho]
  refine (hR.2.kept (fun k q hk => o1 q.1 ((hR.2 k q hk).lt))).app (fun k q hk => ?_)
  have hz : k < 1 := (List.getElem?_eq_some_iff.mp hk).1
  rw [show k = 0 by omega] at hk
  cases hk
  exact he
theorem va_S.push {A : Nat → Prop} {H0 H H1 : Heap} {locs : List Loc} (hS : va_S A H0 H locs) (z : H1.size = H.size + 1) (o1 : ∀ q, q < H.size → H1[q]? = H[q]?) : va_S A H0 H1 locs :=
  ⟨Nat.le_trans hS.1 (by omega), fun x h1 h2 => (o1 x (Nat.lt_of_lt_of_le h1 hS.1)).trans (hS.2.1 x h1 h2), hS.2.2⟩
section NEW
variable {m i : Nat}
theorem snd_new {ci N idx : Nat} (hc : a_okc ci) (hN : (a_cq ci).2.2 = N) (hl : Cond.classLink (a_y m).cls idx (a_cq ci).1 ∈ a_tb) (hi : Cond.instantiable (a_cq ci).1 N ∈ a_tb) (hini : Cond.initialized (a_cq ci).1 ∈ a_tb) (hk : a_chk m i (.new idx) 3 = true) : a_Snd m i (s_new ci N (i + 1)) := by
  subst hN
  refine a_Snd.row (fun ls st h hg => ?_)
  refine ⟨i + 1, ls, .ref (hn h) :: st, nw h ci (a_cq ci).2.2 (a_cq ci).2.2, 1, (a_cq ci).2.2, rfl, rfl, rfl, rfl, ?_⟩
  intro l b ex D aC p e R s mid args below meth c H locs cells slots Q lsC k1 k2 k3 k4 k5 k6 k7 k8 k9 kk
  have hts := k1.2.2.2.2.2.2.2
  have hcl : a_cl[ci]? = some ((a_cq ci).1, (a_cq ci).2.1, (a_cq ci).2.2) := hc.1
  have hKn := k2.1.1 ci _ hcl
  refine W.newcK k1.1 k1.2.1 k1.2.2.2.2.2.2.1 (hts _ hl) (hts _ hi) (hts _ hini) rfl (a_chk_d hk) k5 k6 hKn.2.1 rfl fun H1 kC hkC e1 z1 o1 => ?_
  have h1 := kk H1 locs lsC (k7.push rfl ?_ z1 o1 nw_o) (k8.push z1 o1) k9
  · rw [a_chk_n hk] at h1
    have e9 : (Value.ref H.size) = a_up b ex (.ref (hn h)) := by show _ = Value.ref (b + hn h); rw [k7.1]
    show W p l e R s mid args below meth c H1 locs _ _ Q (F0 mid (a_pc m i + 3) lsC (.ref H.size :: st.map (a_up b ex)))
    rw [e9]
    exact h1
  · rw [a_e_O hc.2.1 (by rw [nw_sh])]
    rw [← k7.1]
    refine ⟨_, hcl, (u_born (a_ty ci) hts hc.2.2.1 hKn hkC e1 hc.2.2.2.1).to (fun z hz => ?_)⟩
    show defaultValue (a_ty ci z) = (a_fs b (nw h ci (a_cq ci).2.2 (a_cq ci).2.2) (hn h) ci).getD z .null
    rw [List.getD_eq_getElem?_getD, a_fs_at hz]
    obtain ⟨g1, g2, g3⟩ := hc.2.2.2.2.2 z hz
    show _ = a_fv b (nw h ci (a_cq ci).2.2 (a_cq ci).2.2) (hn h) ci z
    unfold a_fv
    rw [g1, nw_I, nw_L, nw_P]
    cases ht : a_ty ci z <;> first | rfl | exact absurd ht g2 | exact absurd ht g3
theorem snd_newarray {tg : Nat} {atp : ArrayType} (ht : decide (tg < 3) = true) (hty : newarray.typeOf atp = a_at.getD tg .int) (hl : Cond.arrayClass (newarray.typeOf atp) ∈ a_tb) (hk : a_chk m i (.newarray atp) 2 = true) : a_Snd m i (s_nar tg (i + 1)) := by
  have ht := of_decide_eq_true ht
  refine a_Snd.row (fun ls st h hg => ?_)
  unfold s_nar at hg ⊢
  split at hg
  · rename_i n st
    have hg : (!decide (n < 0) && decide (n.toNatClampNeg ≤ 2000)) = true := hg
    simp only [Bool.and_eq_true, decide_eq_true_eq, Bool.not_eq_true', decide_eq_false_iff_not] at hg
    refine ⟨i + 1, ls, .ref (hn h) :: st, nw h (100 + tg) n.toNatClampNeg n.toNatClampNeg, 1, n.toNatClampNeg, rfl, rfl, rfl, rfl, ?_⟩
    intro l b ex D aC p e R s mid args below meth c H locs cells slots Q lsC k1 k2 k3 k4 k5 k6 k7 k8 k9 kk
    have hts := k1.2.2.2.2.2.2.2
    have hcb : componentBytes (newarray.typeOf atp) ≤ 8 := by cases atp <;> decide
    refine va_newaK k1.1 k1.2.1 (hts _ hl) rfl (a_chk_d hk) rfl hg.1 rfl (Nat.le_trans (Nat.mul_le_mul hg.2 hcb) (by decide)) k5 k6 rfl fun H1 cA e1 z1 o1 hAr hNm => ?_
    have hKt := k2.1.2 tg _ (a_tys_at (by omega))
    have hcA : cA = aC tg := by
      have h2 := hKt.2
      simp only at h2
      rw [← hty] at h2
      have h3 : s.vm.findClass ("[" ++ (newarray.typeOf atp).toString) = some (aC tg) := by cases atp <;> exact h2
      exact Option.some.inj (hNm.symm.trans h3)
    subst hcA
    have h1 := kk H1 locs lsC (k7.push rfl ?_ z1 o1 nw_o) (k8.push z1 o1) k9
    · rw [a_chk_n hk] at h1
      have e9 : (Value.ref H.size) = a_up b ex (.ref (hn h)) := by show _ = Value.ref (b + hn h); rw [k7.1]
      show W p l e R s mid args below meth c H1 locs _ _ Q (F0 mid (a_pc m i + 2) lsC (.ref H.size :: st.map (a_up b ex)))
      rw [e9]
      exact h1
    · rw [← k7.1]
      rcases (show tg = 0 ∨ tg = 1 ∨ tg = 2 by omega) with rfl | rfl | rfl
      · rw [a_e_I (tg := 0) (by decide) (by rw [nw_sh]), nw_sh, nw_I]
        show H1[H.size]? = some (vp_cell _ _)
        rw [e1, vp_cell_i, hty]; rfl
      · rw [a_e_I (tg := 1) (by decide) (by rw [nw_sh]), nw_sh, nw_I]
        show H1[H.size]? = some (vp_cell _ _)
        rw [e1, vp_cell_i, hty]; rfl
      · rw [a_e_L (by rw [nw_sh]), nw_sh, nw_L]
        show H1[H.size]? = some (vp_cell _ _)
        rw [e1, vp_cell_l, hty]; rfl
  · exact Bool.noConfusion hg
theorem snd_anewarray {tg idx : Nat} {cn : String} (ht : decide (2 < tg ∧ tg < 9) = true) (hty : a_at.getD tg .int = .object cn) (hl : Cond.classLink (a_y m).cls idx cn ∈ a_tb) (ho : Cond.arrayOver (.object cn) ∈ a_tb) (hk : a_chk m i (.anewarray idx) 3 = true) : a_Snd m i (s_nar tg (i + 1)) := by
  have ht := of_decide_eq_true ht
  refine a_Snd.row (fun ls st h hg => ?_)
  unfold s_nar at hg ⊢
  split at hg
  · rename_i n st
    have hg : (!decide (n < 0) && decide (n.toNatClampNeg ≤ 2000)) = true := hg
    simp only [Bool.and_eq_true, decide_eq_true_eq, Bool.not_eq_true', decide_eq_false_iff_not] at hg
    refine ⟨i + 1, ls, .ref (hn h) :: st, nw h (100 + tg) n.toNatClampNeg n.toNatClampNeg, 1, n.toNatClampNeg, rfl, rfl, rfl, rfl, ?_⟩
    intro l b ex D aC p e R s mid args below meth c H locs cells slots Q lsC k1 k2 k3 k4 k5 k6 k7 k8 k9 kk
    have hts := k1.2.2.2.2.2.2.2
    refine W.anew k1.1 k1.2.1 k1.2.2.2.2.2.2.1 (hts _ hl) (hts _ ho) rfl (a_chk_d hk) rfl hg.1 (by omega) k5 k6 fun cA kA comp f1 f2 f3 f4 => ?_
    generalize hH1 : H.push ({ cls := cA, slots := Array.replicate n.toNatClampNeg .null, vm := .none } : Cell) = H1
    have z1 : H1.size = H.size + 1 := by rw [← hH1, Array.size_push]
    have e1 : H1[H.size]? = some (arrV cA n.toNatClampNeg (fun _ => .null)) := by rw [← hH1, Array.getElem?_push_size, ← arrV_new]
    have o1 : ∀ q : Nat, q < H.size → H1[q]? = H[q]? := fun q hq => by rw [← hH1, Array.getElem?_push, if_neg (Nat.ne_of_lt hq)]
    have hKt := k2.1.2 tg (aC tg, .object cn) (by rw [a_tys_at ht.2, hty])
    obtain ⟨kA', comp', -, -, -, h4⟩ := hKt.2
    have hcA : cA = aC tg := Option.some.inj (f1.symm.trans h4)
    subst hcA
    have h1 := kk H1 locs lsC (k7.push rfl ?_ z1 o1 nw_o) (k8.push z1 o1) k9
    · rw [a_chk_n hk] at h1
      have e9 : (Value.ref H.size) = a_up b ex (.ref (hn h)) := by show _ = Value.ref (b + hn h); rw [k7.1]
      show W p l e R s mid args below meth c H1 locs _ _ Q (F0 mid (a_pc m i + 3) lsC (.ref H.size :: st.map (a_up b ex)))
      rw [e9]
      exact h1
    · rw [← k7.1]
      rw [a_e_P (tg := tg) ht.1 (by rw [nw_sh]), nw_sh, nw_P]
      show H1[H.size]? = some (vp_cell _ _)
      rw [e1, vp_cell_q]; rfl
  · exact Bool.noConfusion hg
theorem a_cs_map (b : Nat) (ex : Nat → Option Nat) : ∀ st : List Value, ((st.map (a_up b ex)).map fun v => v.category).sum = a_cs st
  | [] => rfl
  | v :: r => by
    simp only [List.map_cons, List.sum_cons, a_cs, a_up_cat]
    rw [a_cs_map b ex r]
theorem snd_oi {idx : Nat} (hf : decide (1 ≤ a_fr m) = true) (hlo : decide (20 ≤ a_lo m) = true) (hl : Cond.methodLink (a_y m).cls idx Lib.objectInit ∈ a_tb) (hi : Cond.instanceMethod Lib.objectInit ∈ a_tb) (hcd : Cond.code Lib.objectInit ⟨#[0xb1]⟩ 1 none ∈ a_tb) (hk : a_chk m i (.invokespecial idx) 3 = true) : a_Snd m i (s_oi (i + 1)) := by
  have hf := of_decide_eq_true hf
  have hlo := of_decide_eq_true hlo
  refine a_Snd.row (fun ls st h hg => ?_)
  unfold s_oi at hg ⊢
  split at hg
  · rename_i x st
    have hg : a_cs st ≤ 8 := of_decide_eq_true hg
    refine ⟨i + 1, ls, st, h, 0, 0, rfl, rfl, rfl, rfl, a_row.pure ?_⟩
    intro l b ex D aC p e R s mid args below meth c H locs cells slots Q lsC k1 k2 k3 k4 k5 k6 k7 kk
    have h1 := kk lsC k7
    rw [a_chk_n hk] at h1
    have hts := k1.2.2.2.2.2.2.2
    refine W.objInit k1.1 k1.2.1 k1.2.2.2.2.2.2.1 (hts _ hl) (hts _ hi) (hts _ hcd) rfl (by rw [k1.2.2.1]; exact k7.1) (a := b + x) (rest := st.map (a_up b ex)) rfl (a_chk_d hk) (by omega) ?_ h1
    show 2 * 0 + ((st.map (a_up b ex)).map fun v => v.category).sum + 12 ≤ _
    rw [a_cs_map]
    omega
  · exact Bool.noConfusion hg
end NEW
theorem snd_mmax {m i idx : Nat} (hf : decide (1 ≤ a_fr m) = true) (hlo : decide (24 ≤ a_lo m) = true) (hl : Cond.methodLink (a_y m).cls idx Lib.Math.max.name ∈ a_tb) (hs9 : Cond.static Lib.Math.max.name ∈ a_tb) (hi : Cond.initialized "java/lang/Math" ∈ a_tb) (hcd : Cond.code Lib.Math.max.name Lib.Math.max.code 2 (some .int) ∈ a_tb) (hk : a_chk m i (.invokestatic idx) 3 = true) : a_Snd m i (s_mbi (fun x y => if x < y then y else x) (i + 1)) := by
  have hf := of_decide_eq_true hf
  have hlo := of_decide_eq_true hlo
  refine a_Snd.row (fun ls st h hg => ?_)
  unfold s_mbi at hg ⊢
  split at hg
  · rename_i y x st
    have hg : a_cs st ≤ 8 := of_decide_eq_true hg
    refine ⟨i + 1, ls, .int ((fun x y => if x < y then y else x) x y) :: st, h, 0, 0, rfl, rfl, rfl, rfl, ?_⟩
    intro l b ex D aC p e R s mid args below meth c H locs cells slots Q lsC k1 k2 k3 k4 k5 k6 k7 k8 k9 kk
    have h1 := kk H locs lsC k7 k8 k9
    rw [a_chk_n hk] at h1
    have hts := k1.2.2.2.2.2.2.2
    refine va_mmax k1.1 k1.2.1 (by rw [k1.2.2.1]; exact k9.1.symm) k1.2.2.2.2.2.2.1 (hts _ hl) (hts _ hs9) (hts _ hi) (hts _ hcd) (by omega) ?_ k5 k6 (a_chk_d hk) h1
    rw [a_cs_map]
    omega
  · exact Bool.noConfusion hg
theorem snd_mmin {m i idx : Nat} (hf : decide (1 ≤ a_fr m) = true) (hlo : decide (24 ≤ a_lo m) = true) (hl : Cond.methodLink (a_y m).cls idx Lib.Math.min.name ∈ a_tb) (hs9 : Cond.static Lib.Math.min.name ∈ a_tb) (hi : Cond.initialized "java/lang/Math" ∈ a_tb) (hcd : Cond.code Lib.Math.min.name Lib.Math.min.code 2 (some .int) ∈ a_tb) (hk : a_chk m i (.invokestatic idx) 3 = true) : a_Snd m i (s_mbi (fun x y => if y < x then y else x) (i + 1)) := by
  have hf := of_decide_eq_true hf
  have hlo := of_decide_eq_true hlo
  refine a_Snd.row (fun ls st h hg => ?_)
  unfold s_mbi at hg ⊢
  split at hg
  · rename_i y x st
    have hg : a_cs st ≤ 8 := of_decide_eq_true hg
    refine ⟨i + 1, ls, .int ((fun x y => if y < x then y else x) x y) :: st, h, 0, 0, rfl, rfl, rfl, rfl, ?_⟩
    intro l b ex D aC p e R s mid args below meth c H locs cells slots Q lsC k1 k2 k3 k4 k5 k6 k7 k8 k9 kk
    have h1 := kk H locs lsC k7 k8 k9
    rw [a_chk_n hk] at h1
    have hts := k1.2.2.2.2.2.2.2
    refine va_mmin k1.1 k1.2.1 (by rw [k1.2.2.1]; exact k9.1.symm) k1.2.2.2.2.2.2.1 (hts _ hl) (hts _ hs9) (hts _ hi) (hts _ hcd) (by omega) ?_ k5 k6 (a_chk_d hk) h1
    rw [a_cs_map]
    omega
  · exact Bool.noConfusion hg
theorem snd_mmaxl {m i idx : Nat} (hf : decide (1 ≤ a_fr m) = true) (hlo : decide (24 ≤ a_lo m) = true) (hl : Cond.methodLink (a_y m).cls idx Lib.MathLoose.max_long.x ∈ a_tb) (hs9 : Cond.static Lib.MathLoose.max_long.x ∈ a_tb) (hi : Cond.initialized "java/lang/Math" ∈ a_tb) (hcd : Cond.code Lib.MathLoose.max_long.x Lib.MathLoose.max_long.code 4 (some .long) ∈ a_tb) (hk : a_chk m i (.invokestatic idx) 3 = true) : a_Snd m i (s_mbl (fun x y => if y < x then x else y) (i + 1)) := by
  have hf := of_decide_eq_true hf
  have hlo := of_decide_eq_true hlo
  refine a_Snd.row (fun ls st h hg => ?_)
  unfold s_mbl at hg ⊢
  split at hg
  · rename_i y x st
    have hg : a_cs st ≤ 8 := of_decide_eq_true hg
    refine ⟨i + 1, ls, .long ((fun x y => if y < x then x else y) x y) :: st, h, 0, 0, rfl, rfl, rfl, rfl, ?_⟩
    intro l b ex D aC p e R s mid args below meth c H locs cells slots Q lsC k1 k2 k3 k4 k5 k6 k7 k8 k9 kk
    have h1 := kk H locs lsC k7 k8 k9
    rw [a_chk_n hk] at h1
    have hts := k1.2.2.2.2.2.2.2
    refine va_mmax_long k1.1 k1.2.1 (by rw [k1.2.2.1]; exact k9.1.symm) k1.2.2.2.2.2.2.1 (hts _ hl) (hts _ hs9) (hts _ hi) (hts _ hcd) (by omega) ?_ k5 k6 (a_chk_d hk) h1
    rw [a_cs_map]
    omega
  · exact Bool.noConfusion hg
/-! returns -/
section RET
variable {m i : Nat}
theorem a_ret {f : A_S} (hf : ∀ ls st h, (f ls st h).1 = true → ∃ v : Option Value, (f ls st h).2 = .inr (.inl (some v, h)) ∧
    ∀ (l : Launch) (b : Nat) (ex : Nat → Option Nat) (D : va_G) (aC : Nat → ClassId) (p : Program) (e : Env) (R : Room) (s : State) (mid : MethodId) (args : Array Value) (below : List Frame) (meth : Method) (c : Code) (H : Heap) (locs : List Loc) (cells slots : Nat) (lsC : Array Slot) (Qc : Array Value → State → Outcome → State → Prop),
      a_M m p s mid args meth c → (∀ t : State, t.heap = H → s.WarmedH t.vm → Qc args s (.returned (v.map (a_up b ex))) t) → (∀ q ∈ locs, b ≤ q.base) → W p l e R s mid args below meth c H locs cells slots (MQ below Qc args s cells slots (fun q => b ≤ q)) (F0 mid (a_pc m i) lsC (st.map (a_up b ex)))) : a_Snd m i f := by
  intro l b ex D aC X _ hX0 ls st h r hr
  cases hg : (f ls st h).1 with
  | false => rw [a_do_false hg] at hr; cases hr
  | true =>
    obtain ⟨v, he, hrow⟩ := hf ls st h hg
    rw [show f ls st h = (true, .inr (.inl (some v, h))) from Prod.ext hg he] at hr
    have hr : some (some v, h) = some r := hr
    cases hr
    refine ⟨⟨Nat.le_refl _, Nat.le_refl _, rfl⟩, ?_⟩
    intro p e R s mid args below meth c H locs n0 s0 lsC k1 k2 kt k3 k4 k5 k6 k7 k8 k9 k10 k11
    refine vx_ret (hrow l b ex D aC p e R s mid args below meth c H locs _ _ lsC _ k1 (fun t ht hW => ?_) (fun q hq => k10.2.2 q hq))
    exact ⟨⟨v, rfl, rfl⟩, by rw [ht]; exact k9, k10.F ht⟩
theorem snd_iret (hr : decide (a_rt m = some .int) = true) (hk : decide (decode (a_by m) (a_pc m i) = .ok (.ireturn, 1)) = true) : a_Snd m i s_iret := by
  refine a_ret (fun ls st h hg => ?_)
  unfold s_iret at hg ⊢
  split at hg
  · rename_i x
    refine ⟨some (.int x), rfl, fun l b ex D aC p e R s mid args below meth c H locs cells slots lsC Qc k1 hq hf => ?_⟩
    exact W.iret k1.1 k1.2.1 (k1.2.2.2.1.trans (of_decide_eq_true hr)) hq hf (of_decide_eq_true hk) k1.2.2.2.2.1
  · exact Bool.noConfusion hg
theorem snd_zret (hr : decide (a_rt m = some .boolean) = true) (hk : decide (decode (a_by m) (a_pc m i) = .ok (.ireturn, 1)) = true) : a_Snd m i s_zret := by
  refine a_ret (fun ls st h hg => ?_)
  unfold s_zret at hg ⊢
  split at hg
  · rename_i x
    have hg : (decide (x = 0) || decide (x = 1)) = true := hg
    have hx : x = 0 ∨ x = 1 := by simpa using hg
    refine ⟨some (.int x), rfl, fun l b ex D aC p e R s mid args below meth c H locs cells slots lsC Qc k1 hq hf => ?_⟩
    exact W.zret k1.1 k1.2.1 (k1.2.2.2.1.trans (of_decide_eq_true hr)) (by rcases hx with rfl | rfl <;> rfl) hq hf (of_decide_eq_true hk) k1.2.2.2.2.1
  · exact Bool.noConfusion hg
theorem snd_lret (hr : decide (a_rt m = some .long) = true) (hk : decide (decode (a_by m) (a_pc m i) = .ok (.lreturn, 1)) = true) : a_Snd m i s_lret := by
  refine a_ret (fun ls st h hg => ?_)
  unfold s_lret at hg ⊢
  split at hg
  · rename_i x
    refine ⟨some (.long x), rfl, fun l b ex D aC p e R s mid args below meth c H locs cells slots lsC Qc k1 hq hf => ?_⟩
    exact W.lret k1.1 k1.2.1 (k1.2.2.2.1.trans (of_decide_eq_true hr)) hq hf (of_decide_eq_true hk) k1.2.2.2.2.1
  · exact Bool.noConfusion hg
theorem snd_vret (hr : decide (a_rt m = none) = true) (hk : decide (decode (a_by m) (a_pc m i) = .ok (.return_, 1)) = true) : a_Snd m i s_vret := by
  refine a_ret (fun ls st h hg => ?_)
  unfold s_vret at hg ⊢
  split at hg
  · refine ⟨none, rfl, fun l b ex D aC p e R s mid args below meth c H locs cells slots lsC Qc k1 hq hf => ?_⟩
    exact W.vret k1.1 k1.2.1 (k1.2.2.2.1.trans (of_decide_eq_true hr)) hq hf (of_decide_eq_true hk) k1.2.2.2.2.1
  · exact Bool.noConfusion hg
theorem snd_aret {cn : String} (hr : decide (a_rt m = some (.object cn)) = true) (hk : decide (decode (a_by m) (a_pc m i) = .ok (.areturn, 1)) = true) : a_Snd m i s_aret := by
  refine a_ret (fun ls st h hg => ?_)
  unfold s_aret at hg ⊢
  split at hg
  · rename_i x
    refine ⟨some (.ref x), rfl, fun l b ex D aC p e R s mid args below meth c H locs cells slots lsC Qc k1 hq hf => ?_⟩
    exact W.aret k1.1 k1.2.1 (k1.2.2.2.1.trans (of_decide_eq_true hr)) (Or.inl ⟨cn, rfl⟩) (Or.inr ⟨_, rfl⟩) hq hf (of_decide_eq_true hk) k1.2.2.2.2.1
  · exact Bool.noConfusion hg
theorem a_i32 {x : Int32} {lo hi : Int} (h1 : lo ≤ x.toInt) (h2 : x.toInt ≤ hi) : lo ≤ x.toInt ∧ x.toInt ≤ hi := ⟨h1, h2⟩
theorem snd_cret (hr : decide (a_rt m = some .char) = true) (hk : decide (decode (a_by m) (a_pc m i) = .ok (.ireturn, 1)) = true) : a_Snd m i s_cret := by
  refine a_ret (fun ls st h hg => ?_)
  unfold s_cret at hg ⊢
  split at hg
  · rename_i x
    have hg : (decide (0 ≤ x) && decide (x ≤ 65535)) = true := hg
    simp only [Bool.and_eq_true, decide_eq_true_eq] at hg
    refine ⟨some (.int x), rfl, fun l b ex D aC p e R s mid args below meth c H locs cells slots lsC Qc k1 hq hf => ?_⟩
    have hn0 : ¬ x < 0 := Int32.not_lt.mpr hg.1
    obtain ⟨q, hq1, rfl⟩ := nI_of2 (M := 65535) (n := 65535) (by decide) hn0 hg.2
    exact W.zret k1.1 k1.2.1 (k1.2.2.2.1.trans (of_decide_eq_true hr)) (pk_charN (by omega)).1 hq hf (of_decide_eq_true hk) k1.2.2.2.2.1
  · exact Bool.noConfusion hg
theorem snd_bret (hr : decide (a_rt m = some .byte) = true) (hk : decide (decode (a_by m) (a_pc m i) = .ok (.ireturn, 1)) = true) : a_Snd m i s_bret := by
  refine a_ret (fun ls st h hg => ?_)
  unfold s_bret at hg ⊢
  split at hg
  · rename_i x
    have hg : (decide (-128 ≤ x) && decide (x ≤ 127)) = true := hg
    simp only [Bool.and_eq_true, decide_eq_true_eq] at hg
    refine ⟨some (.int x), rfl, fun l b ex D aC p e R s mid args below meth c H locs cells slots lsC Qc k1 hq hf => ?_⟩
    have hx : x.toInt8.toInt32 = x := by
      have a1 := Int32.le_iff_toInt_le.mp hg.1
      have a2 := Int32.le_iff_toInt_le.mp hg.2
      apply Int32.toInt_inj.mp
      simp only [Int8.toInt_toInt32, Int32.toInt_toInt8]
      have b1 : (-128 : Int) ≤ x.toInt := by simpa using a1
      have b2 : x.toInt ≤ 127 := by simpa using a2
      rw [Int.bmod_eq_of_le (by omega) (by omega)]
    exact W.zret k1.1 k1.2.1 (k1.2.2.2.1.trans (of_decide_eq_true hr)) (by show Value.int x.toInt8.toInt32 = _; rw [hx]) hq hf (of_decide_eq_true hk) k1.2.2.2.2.1
  · exact Bool.noConfusion hg
end RET
