/-! writes of fields -/
section PUT
variable {l : Launch} {b : Nat} {ex : Nat → Option Nat} {D : va_G} {aC : Nat → ClassId} {h : A_H} {p : Program} {e : Env} {R : Room} {s : State} {mid : MethodId} {args : Array Value} {below : List Frame} {meth : Method} {c : Code} {H : Heap} {locs : List Loc} {cells slots : Nat} {Q : State → Prop} {lsC : Array Slot} {rest : List Value} {m i idx ci j k : Nat}
/-- a field may be written here: it isn't final, or this is its class's constructor -/
def a_fw (m idx ci j : Nat) : Prop := ((a_cq ci).2.1 j).2.2.2 = false ∨ ((a_y m).name = "<init>" ∧ ((a_cq ci).2.1 j).1 = (a_y m).cls ∧ Cond.fieldLink (a_y m).cls idx ((a_cq ci).2.1 j).1 ((a_cq ci).2.1 j).2.1 ((a_cq ci).2.1 j).2.2.1 ∈ a_tb)
theorem a_putW {h' : A_H} {v : Value} (hc : a_okc ci) (hj : j < (a_cq ci).2.2) (hl : a_fl (a_y m).cls idx ci j) (hw : a_fw m idx ci j) (hk : a_chk m i (.putfield idx) 3 = true) (k1 : a_M m p s mid args meth c) (k2 : a_St b ex D aC (hX h) s) (k5 : a_Rep b D aC h H) (k6 : va_S (fun q => b ≤ q) s.heap H locs) (ho : isO h k ci = true)
    (hn9 : narrow (a_ty ci j) v = v) (hft : fits (a_ty ci j) v = true) (hn' : hn h' = hn h) (hsh' : (hsh h' k).1 = ci) (hfs : ∀ z, z < (a_cq ci).2.2 → a_fv b h' k ci z = if z = j then v else a_fv b h k ci z) (hoo : ∀ q, q ≠ k → a_e b aC h' q = a_e b aC h q)
    (kk : ∀ H1 locs1, a_Rep b D aC h' H1 → va_S (fun q => b ≤ q) s.heap H1 locs1 → W p l e R s mid args below meth c H1 locs1 cells slots Q (F0 mid (a_pc m i + 3) lsC rest)) : W p l e R s mid args below meth c H locs cells slots Q (F0 mid (a_pc m i) lsC (v :: .ref (b + k) :: rest)) := by
  have hts := k1.2.2.2.2.2.2.2
  have hown := k1.2.2.2.2.2.2.1
  have hcl : a_cl[ci]? = some ((a_cq ci).1, (a_cq ci).2.1, (a_cq ci).2.2) := hc.1
  have hin := hc.2.2.1
  have hap := va_apart (own := (a_y m).cls) (args := args) hts hin (a_ty ci) hc.2.2.2.1 hc.2.2.2.2.1 k2.1 hcl
  have he : (a_ws b aC h)[k]? = some (b + k, .inr (ci, a_fs b h k ci)) := by rw [a_ws_at (isO_lt ho), a_e_O hc.2.1 (isO_sh ho)]
  obtain ⟨r, h1, cell, q1, q2, q3, q4⟩ := k5.2 k _ he
  have hr : r = ((a_cq ci).1, (a_cq ci).2.1, (a_cq ci).2.2) := Option.some.inj (h1.symm.trans hcl)
  subst hr
  obtain ⟨hS, hfc, kC, hkC, hkind⟩ := k2.1.1 ci _ hcl
  obtain ⟨cf, kf, fi, f, hi, hsl⟩ := hS j hj
  have hlay := hts _ (hin _ (u_in_lay hj))
  have hst := (u_facts hfc hkC (u_lays hts hin hj) hi).1
  have hd := hc.2.2.2.1 j hj
  have fin : ∀ H' : Heap, H'[b + k]? = some (cell.setSlot f.slot v) → H'.size = H.size → (∀ q, q ≠ b + k → H'[q]? = H[q]?) → W p l e R s mid args below meth c H' (locs ++ [⟨b + k, f.slot⟩]) cells slots Q (F0 mid (a_pc m i + 3) lsC rest) := by
    intro H' e1 e2 e3
    rw [hsl] at e1
    refine kk H' _ (k5.set hn' (isO_lt ho) ?_ e2 e3 hoo) (k6.put e2 e3 (Nat.le_add_right b k))
    rw [a_e_O hc.2.1 hsh']
    refine ⟨_, hcl, t_OB.to (V := updV (vp_V (a_fs b h k ci)) j v) ⟨_, e1, q2, q3, t_set q4 hap hj v⟩ (fun z hz => ?_)⟩
    show (if z = j then v else vp_V (a_fs b h k ci) z) = vp_V (a_fs b h' k ci) z
    have a1 : vp_V (a_fs b h' k ci) z = a_fv b h' k ci z := by
      show (a_fs b h' k ci).getD z .null = _
      rw [List.getD_eq_getElem?_getD, a_fs_at hz]; rfl
    have a2 : vp_V (a_fs b h k ci) z = a_fv b h k ci z := by
      show (a_fs b h k ci).getD z .null = _
      rw [List.getD_eq_getElem?_getD, a_fs_at hz]; rfl
    rw [a1, a2, hfs z hz]
  by_cases hfin : ((a_cq ci).2.1 j).2.2.2 = true
  · have hw : (a_y m).name = "<init>" ∧ ((a_cq ci).2.1 j).1 = (a_y m).cls ∧ Cond.fieldLink (a_y m).cls idx ((a_cq ci).2.1 j).1 ((a_cq ci).2.1 j).2.1 ((a_cq ci).2.1 j).2.2.1 ∈ a_tb := by
      rcases hw with hw | hw
      · rw [hfin] at hw; cases hw
      · exact hw
    unfold u_lay at hlay
    rw [if_pos hfin] at hlay
    have hcf : mid.cls = cf := by
      obtain ⟨_, _, c', _, _, _, -, -, hf', -, -, -, hown2, -⟩ := Cond.laysFinal_spec hlay
      have e1 : c' = cf := by have := hi.symm.trans hf'; simp at this; exact this.1.symm
      rw [hw.2.1] at hown2
      rw [← e1]; exact Option.some.inj (hown.symm.trans hown2)
    have h6 := u_fits hfc hkC hkind (Or.inr hlay) hi hd hn9 hft
    have hnm : meth.name = "<init>" := k1.2.2.2.2.2.1.trans hw.1
    exact W.putFinK k1.1 k1.2.1 hown (hts _ hw.2.2) hi hst hcf hnm (by rw [q2]; exact h6) q1 q3 (by rw [hsl]; exact k2_hasslot (q4 j hj)) rfl rfl (a_chk_d hk) fin
  · have hfin : ((a_cq ci).2.1 j).2.2.2 = false := by simpa using hfin
    unfold u_lay at hlay
    rw [if_neg (by rw [hfin]; decide)] at hlay
    have h6 := u_store hfc hkC hkind hlay hi hd hn9 hft
    rcases hl with hl | ⟨host, hl⟩
    · exact W.putK k1.1 k1.2.1 (f := f) ⟨hown, hts _ hl, ⟨_, _, _, hi⟩, hst⟩ (by rw [q2]; exact h6) q1 q3 (by rw [hsl]; exact k2_hasslot (q4 j hj)) rfl rfl (a_chk_d hk) fin
    · exact va_WputK k1.1 k1.2.1 (f := f) hown (hts _ hl) hi hst (by rw [q2]; exact h6) q1 q3 (by rw [hsl]; exact k2_hasslot (q4 j hj)) rfl rfl (a_chk_d hk) fin
end PUT
section PUTS
variable {m i idx ci j : Nat}
theorem snd_putI (hc : a_okc ci) (hj : decide (j < (a_cq ci).2.2) = true) (hd : decide (a_ty ci j = .int) = true) (hl : a_fl (a_y m).cls idx ci j) (hw : a_fw m idx ci j) (hk : a_chk m i (.putfield idx) 3 = true) : a_Snd m i (s_putI ci j (i + 1)) := by
  have hty := of_decide_eq_true hd
  have hkd : a_kd ci j = 0 := by rw [(hc.2.2.2.2.2 j (of_decide_eq_true hj)).1, hty]; rfl
  refine a_Snd.row (fun ls st h hg => ?_)
  unfold s_putI at hg ⊢
  split at hg
  · rename_i x k st
    have hg : isO h k ci = true := hg
    refine ⟨i + 1, ls, st, wI h k j x, 0, 0, rfl, rfl, rfl, rfl, ?_⟩
    intro l b ex D aC p e R s mid args below meth c H locs cells slots Q lsC k1 k2 k3 k4 k5 k6 k7 k8 k9 kk
    refine a_putW (h' := wI h k j x) (v := .int x) hc (of_decide_eq_true hj) hl hw hk k1 k2 k7 k8 hg (by rw [hty]; rfl) (by rw [hty]; rfl) rfl (isO_sh hg) (fun z _ => ?_) wI_o (fun H1 locs1 q1 q2 => ?_)
    · unfold a_fv
      by_cases hz : z = j
      · subst hz; rw [hkd, if_pos rfl]; show Value.int (u2 (hI h) k z x k z) = _; unfold u2; rw [if_pos ⟨rfl, rfl⟩]
      · rw [if_neg hz]
        have : hI (wI h k j x) k z = hI h k z := by show u2 (hI h) k j x k z = _; unfold u2; rw [if_neg (fun hh => hz hh.2)]
        rw [this]; rfl
    · have h1 := kk H1 locs1 lsC q1 q2 k9
      rw [a_chk_n hk] at h1
      exact h1
  · exact Bool.noConfusion hg
theorem snd_putZ (hc : a_okc ci) (hj : decide (j < (a_cq ci).2.2) = true) (hd : decide (a_ty ci j = .boolean) = true) (hl : a_fl (a_y m).cls idx ci j) (hw : a_fw m idx ci j) (hk : a_chk m i (.putfield idx) 3 = true) : a_Snd m i (s_putZ ci j (i + 1)) := by
  have hty := of_decide_eq_true hd
  have hkd : a_kd ci j = 0 := by rw [(hc.2.2.2.2.2 j (of_decide_eq_true hj)).1, hty]; rfl
  refine a_Snd.row (fun ls st h hg => ?_)
  unfold s_putZ at hg ⊢
  split at hg
  · rename_i x k st
    have hg : (isO h k ci && (decide (x = 0) || decide (x = 1))) = true := hg
    rw [Bool.and_eq_true] at hg
    have hx : x = 0 ∨ x = 1 := by simpa using hg.2
    refine ⟨i + 1, ls, st, wI h k j x, 0, 0, rfl, rfl, rfl, rfl, ?_⟩
    intro l b ex D aC p e R s mid args below meth c H locs cells slots Q lsC k1 k2 k3 k4 k5 k6 k7 k8 k9 kk
    refine a_putW (h' := wI h k j x) (v := .int x) hc (of_decide_eq_true hj) hl hw hk k1 k2 k7 k8 hg.1 (by rw [hty]; rcases hx with rfl | rfl <;> rfl) (by rw [hty]; rcases hx with rfl | rfl <;> rfl) rfl (isO_sh hg.1) (fun z _ => ?_) wI_o (fun H1 locs1 q1 q2 => ?_)
    · unfold a_fv
      by_cases hz : z = j
      · subst hz; rw [hkd, if_pos rfl]; show Value.int (u2 (hI h) k z x k z) = _; unfold u2; rw [if_pos ⟨rfl, rfl⟩]
      · rw [if_neg hz]
        have : hI (wI h k j x) k z = hI h k z := by show u2 (hI h) k j x k z = _; unfold u2; rw [if_neg (fun hh => hz hh.2)]
        rw [this]; rfl
    · have h1 := kk H1 locs1 lsC q1 q2 k9
      rw [a_chk_n hk] at h1
      exact h1
  · exact Bool.noConfusion hg
theorem snd_putL (hc : a_okc ci) (hj : decide (j < (a_cq ci).2.2) = true) (hd : decide (a_ty ci j = .long) = true) (hl : a_fl (a_y m).cls idx ci j) (hw : a_fw m idx ci j) (hk : a_chk m i (.putfield idx) 3 = true) : a_Snd m i (s_putL ci j (i + 1)) := by
  have hty := of_decide_eq_true hd
  have hkd : a_kd ci j = 1 := by rw [(hc.2.2.2.2.2 j (of_decide_eq_true hj)).1, hty]; rfl
  refine a_Snd.row (fun ls st h hg => ?_)
  unfold s_putL at hg ⊢
  split at hg
  · rename_i x k st
    have hg : isO h k ci = true := hg
    refine ⟨i + 1, ls, st, wL h k j x, 0, 0, rfl, rfl, rfl, rfl, ?_⟩
    intro l b ex D aC p e R s mid args below meth c H locs cells slots Q lsC k1 k2 k3 k4 k5 k6 k7 k8 k9 kk
    refine a_putW (h' := wL h k j x) (v := .long x) hc (of_decide_eq_true hj) hl hw hk k1 k2 k7 k8 hg (by rw [hty]; rfl) (by rw [hty]; rfl) rfl (isO_sh hg) (fun z _ => ?_) wL_o (fun H1 locs1 q1 q2 => ?_)
    · unfold a_fv
      by_cases hz : z = j
      · subst hz; rw [hkd, if_pos rfl]; show Value.long (u2 (hL h) k z x k z) = _; unfold u2; rw [if_pos ⟨rfl, rfl⟩]
      · rw [if_neg hz]
        have : hL (wL h k j x) k z = hL h k z := by show u2 (hL h) k j x k z = _; unfold u2; rw [if_neg (fun hh => hz hh.2)]
        rw [this]; rfl
    · have h1 := kk H1 locs1 lsC q1 q2 k9
      rw [a_chk_n hk] at h1
      exact h1
  · exact Bool.noConfusion hg
theorem snd_putR (hc : a_okc ci) (hj : decide (j < (a_cq ci).2.2) = true) (hd : decide (a_kof (a_ty ci j) = 2) = true) (hl : a_fl (a_y m).cls idx ci j) (hw : a_fw m idx ci j) (hk : a_chk m i (.putfield idx) 3 = true) : a_Snd m i (s_putR ci j (i + 1)) := by
  have hty := of_decide_eq_true hd
  have hkd : a_kd ci j = 2 := by rw [(hc.2.2.2.2.2 j (of_decide_eq_true hj)).1, hty]
  refine a_Snd.row (fun ls st h hg => ?_)
  unfold s_putR at hg ⊢
  split at hg
  · rename_i x k st
    have hg : isO h k ci = true := hg
    refine ⟨i + 1, ls, st, wP h k j (some x), 0, 0, rfl, rfl, rfl, rfl, ?_⟩
    intro l b ex D aC p e R s mid args below meth c H locs cells slots Q lsC k1 k2 k3 k4 k5 k6 k7 k8 k9 kk
    refine a_putW (h' := wP h k j (some x)) (v := .ref (b + x)) hc (of_decide_eq_true hj) hl hw hk k1 k2 k7 k8 hg (by cases ht : a_ty ci j <;> rw [ht] at hty <;> first | rfl | cases hty) (by cases ht : a_ty ci j <;> rw [ht] at hty <;> first | rfl | cases hty) rfl (isO_sh hg) (fun z _ => ?_) wP_o (fun H1 locs1 q1 q2 => ?_)
    · unfold a_fv
      by_cases hz : z = j
      · subst hz; rw [hkd, if_pos rfl]; show va_rf ((u2 (hP h) k z (some x) k z).map _) = _; unfold u2; rw [if_pos ⟨rfl, rfl⟩]; rfl
      · rw [if_neg hz]
        have : hP (wP h k j (some x)) k z = hP h k z := by show u2 (hP h) k j (some x) k z = _; unfold u2; rw [if_neg (fun hh => hz hh.2)]
        rw [this]; rfl
    · have h1 := kk H1 locs1 lsC q1 q2 k9
      rw [a_chk_n hk] at h1
      exact h1
  · exact Bool.noConfusion hg
end PUTS
