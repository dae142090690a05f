/-! arrays -/
theorem a_tys_at {aC : Nat → ClassId} {t : Nat} (ht : t < 9) : (a_tys aC)[t]? = some (aC t, a_at.getD t .int) := by
  unfold a_tys
  rw [List.getElem?_map, List.getElem?_range ht]
  rfl
theorem isA_all {h : A_H} {k tg : Nat} {i : Int32} (ha : isA h k tg i = true) : k < hn h ∧ (hsh h k).1 = 100 + tg ∧ vp_in i (hsh h k).2 := by
  unfold isA at ha
  simp only [Bool.and_eq_true, decide_eq_true_eq, Bool.not_eq_true', decide_eq_false_iff_not] at ha
  exact ⟨ha.1.1.1, ha.1.1.2, fun hh => hh.elim ha.1.2 (fun z => by have := ha.2; omega)⟩
theorem a_e_I {b : Nat} {aC : Nat → ClassId} {h : A_H} {k tg : Nat} (ht : tg < 2) (hk : (hsh h k).1 = 100 + tg) : a_e b aC h k = .inl (aC tg, (hsh h k).2, .inl (hI h k)) := by
  unfold a_e
  rw [if_neg (by omega), if_pos (by omega), hk, Nat.add_sub_cancel_left]
theorem a_e_L {b : Nat} {aC : Nat → ClassId} {h : A_H} {k : Nat} (hk : (hsh h k).1 = 102) : a_e b aC h k = .inl (aC 2, (hsh h k).2, .inr (.inl (hL h k))) := by
  unfold a_e
  rw [if_neg (by omega), if_neg (by omega), if_pos hk]
theorem a_e_P {b : Nat} {aC : Nat → ClassId} {h : A_H} {k tg : Nat} (ht : 2 < tg) (hk : (hsh h k).1 = 100 + tg) : a_e b aC h k = .inl (aC tg, (hsh h k).2, .inr (.inr (.inr (.inr (fun j => (hP h k j).map (fun a => b + a)))))) := by
  unfold a_e
  rw [if_neg (by omega), if_neg (by omega), if_neg (by omega), hk, Nat.add_sub_cancel_left]
section ARR
variable {m i : Nat}
theorem snd_iaload (hk : a_chk m i .iaload 1 = true) : a_Snd m i (s_ial 0 (i + 1)) := by
  refine a_Snd.row (fun ls st h hg => ?_)
  unfold s_ial at hg ⊢
  split at hg
  · rename_i j k st
    have hg : isA h k 0 j = true := hg
    obtain ⟨g1, g2, g3⟩ := isA_all hg
    refine ⟨i + 1, ls, .int (hI h k j.toNatClampNeg) :: st, h, 0, 0, rfl, rfl, rfl, rfl, a_row.pure ?_⟩
    intro l b ex D aC p e R s mid args below meth c H locs cells slots Q lsC k1 k2 k3 k4 k5 k6 k7 kk
    have h1 := kk lsC k7
    rw [a_chk_n hk] at h1
    exact va_iald k1.1 k1.2.1 k2.1 k5.2 k 0 (by rw [a_ws_at g1, a_e_I (by decide) g2]) (a_tys_at (by decide)) g3 (a_chk_d hk) h1
  · exact Bool.noConfusion hg
theorem snd_baload (hk : a_chk m i .baload 1 = true) : a_Snd m i (s_ial 1 (i + 1)) := by
  refine a_Snd.row (fun ls st h hg => ?_)
  unfold s_ial at hg ⊢
  split at hg
  · rename_i j k st
    have hg : isA h k 1 j = true := hg
    obtain ⟨g1, g2, g3⟩ := isA_all hg
    refine ⟨i + 1, ls, .int (hI h k j.toNatClampNeg) :: st, h, 0, 0, rfl, rfl, rfl, rfl, a_row.pure ?_⟩
    intro l b ex D aC p e R s mid args below meth c H locs cells slots Q lsC k1 k2 k3 k4 k5 k6 k7 kk
    have h1 := kk lsC k7
    rw [a_chk_n hk] at h1
    exact va_bald k1.1 k1.2.1 k2.1 k5.2 k 1 (by rw [a_ws_at g1, a_e_I (by decide) g2]) (a_tys_at (by decide)) g3 (a_chk_d hk) h1
  · exact Bool.noConfusion hg
theorem snd_laload (hk : a_chk m i .laload 1 = true) : a_Snd m i (s_lal (i + 1)) := by
  refine a_Snd.row (fun ls st h hg => ?_)
  unfold s_lal at hg ⊢
  split at hg
  · rename_i j k st
    have hg : isA h k 2 j = true := hg
    obtain ⟨g1, g2, g3⟩ := isA_all hg
    refine ⟨i + 1, ls, .long (hL h k j.toNatClampNeg) :: st, h, 0, 0, rfl, rfl, rfl, rfl, a_row.pure ?_⟩
    intro l b ex D aC p e R s mid args below meth c H locs cells slots Q lsC k1 k2 k3 k4 k5 k6 k7 kk
    have h1 := kk lsC k7
    rw [a_chk_n hk] at h1
    exact va_lald k1.1 k1.2.1 k2.1 k5.2 k 2 (by rw [a_ws_at g1, a_e_L g2]) (a_tys_at (by decide)) g3 (a_chk_d hk) h1
  · exact Bool.noConfusion hg
theorem snd_aaload {tg : Nat} {cn : String} (ht : decide (2 < tg ∧ tg < 9) = true) (hc : a_at.getD tg .int = .object cn) (hk : a_chk m i .aaload 1 = true) : a_Snd m i (s_aal tg (i + 1)) := by
  have ht := of_decide_eq_true ht
  refine a_Snd.row (fun ls st h hg => ?_)
  unfold s_aal at hg ⊢
  split at hg
  · rename_i j k st
    have hg : (isA h k tg j && (hP h k j.toNatClampNeg).isSome) = true := hg
    rw [Bool.and_eq_true] at hg
    obtain ⟨g1, g2, g3⟩ := isA_all hg.1
    refine ⟨i + 1, ls, .ref ((hP h k j.toNatClampNeg).getD 0) :: st, h, 0, 0, rfl, rfl, rfl, rfl, a_row.pure ?_⟩
    intro l b ex D aC p e R s mid args below meth c H locs cells slots Q lsC k1 k2 k3 k4 k5 k6 k7 kk
    have h1 := kk lsC k7
    rw [a_chk_n hk] at h1
    refine va_aldq (C := cn) k1.1 k1.2.1 k2.1 k5.2 k tg (by rw [a_ws_at g1, a_e_P ht.1 g2]) (by rw [a_tys_at ht.2, hc]) g3 (a_chk_d hk) ?_
    cases hp : hP h k j.toNatClampNeg with
    | none => rw [hp] at hg; exact absurd hg.2 (by decide)
    | some a => rw [hp] at h1; exact h1
  · exact Bool.noConfusion hg
theorem snd_alen {tg : Nat} (ht : decide (tg < 9) = true) (hk : a_chk m i .arraylength 1 = true) : a_Snd m i (s_alen tg (i + 1)) := by
  have ht := of_decide_eq_true ht
  refine a_Snd.row (fun ls st h hg => ?_)
  unfold s_alen at hg ⊢
  split at hg
  · rename_i k st
    have hg : (decide (k < hn h) && decide ((hsh h k).1 = 100 + tg)) = true := hg
    simp only [Bool.and_eq_true, decide_eq_true_eq] at hg
    obtain ⟨g1, g2⟩ := hg
    refine ⟨i + 1, ls, .int (Int32.ofNat (hsh h k).2) :: st, h, 0, 0, rfl, rfl, rfl, rfl, a_row.pure ?_⟩
    intro l b ex D aC p e R s mid args below meth c H locs cells slots Q lsC k1 k2 k3 k4 k5 k6 k7 kk
    have h1 := kk lsC k7
    rw [a_chk_n hk] at h1
    have he : ∃ x : vp_A, (a_ws b aC h)[k]? = some (b + k, .inl (aC tg, x)) ∧ x.1 = (hsh h k).2 := by
      rw [a_ws_at g1]
      by_cases c1 : tg < 2
      · exact ⟨_, by rw [a_e_I c1 g2], rfl⟩
      · by_cases c2 : tg = 2
        · subst c2; exact ⟨_, by rw [a_e_L g2], rfl⟩
        · exact ⟨_, by rw [a_e_P (by omega) g2], rfl⟩
    obtain ⟨x, hx, hx1⟩ := he
    exact va_alen k1.1 k1.2.1 k2.1 k5.2 k tg hx (a_tys_at ht) (by rw [hx1]) (a_chk_d hk) h1
  · exact Bool.noConfusion hg
theorem snd_iastore (hk : a_chk m i .iastore 1 = true) : a_Snd m i (s_ias (i + 1)) := by
  refine a_Snd.row (fun ls st h hg => ?_)
  unfold s_ias at hg ⊢
  split at hg
  · rename_i x j k st
    have hg : isA h k 0 j = true := hg
    obtain ⟨g1, g2, g3⟩ := isA_all hg
    refine ⟨i + 1, ls, st, wI h k j.toNatClampNeg x, 0, 0, rfl, rfl, rfl, rfl, ?_⟩
    intro l b ex D aC p e R s mid args below meth c H locs cells slots Q lsC k1 k2 k3 k4 k5 k6 k7 k8 k9 kk
    have ha : (a_ws b aC h)[k]? = some (b + k, .inl (aC 0, (hsh h k).2, .inl (hI h k))) := by rw [a_ws_at g1, a_e_I (by decide) g2]
    refine W.iast k1.1 k1.2.1 (k7.2 k _ ha) ((k2.1.2 0 _ (a_tys_at (by decide))).1 (hsh h k).2 (fun z => .int (hI h k z))) (fun q => by cases q) (by show ¬ (j < 0 ∨ (arrV _ _ _).slots.size ≤ _); rw [arrV_size]; exact g3) rfl rfl (a_chk_d hk) fun H1 e z oq => ?_
    have h1 := kk H1 (locs ++ [⟨b + k, j.toNatClampNeg⟩]) lsC (k7.set rfl g1 ?_ z oq wI_o) (k8.put z oq (Nat.le_add_right b k)) k9
    · rw [a_chk_n hk] at h1
      exact h1
    · rw [a_e_I (tg := 0) (by decide) (by exact g2)]
      show H1[b + k]? = some (vp_cell _ _)
      rw [e]
      show some (Cell.setSlot (vp_cell (aC 0) ((hsh h k).2, .inl (hI h k))) _ _) = _
      rw [vp_cell_i, vp_cell_i, arrV_store]
      congr 2
      funext q
      show (if q = j.toNatClampNeg then Value.int x else Value.int (hI h k q)) = Value.int (u2 (hI h) k j.toNatClampNeg x k q)
      unfold u2
      by_cases hq : q = j.toNatClampNeg
      · rw [if_pos hq, if_pos ⟨rfl, hq⟩]
      · rw [if_neg hq, if_neg (fun hh => hq hh.2)]
  · exact Bool.noConfusion hg
theorem snd_bastore (hk : a_chk m i .bastore 1 = true) : a_Snd m i (s_bas (i + 1)) := by
  refine a_Snd.row (fun ls st h hg => ?_)
  unfold s_bas at hg ⊢
  split at hg
  · rename_i x j k st
    have hg : isA h k 1 j = true := hg
    obtain ⟨g1, g2, g3⟩ := isA_all hg
    refine ⟨i + 1, ls, st, wI h k j.toNatClampNeg x.toInt8.toInt32, 0, 0, rfl, rfl, rfl, rfl, ?_⟩
    intro l b ex D aC p e R s mid args below meth c H locs cells slots Q lsC k1 k2 k3 k4 k5 k6 k7 k8 k9 kk
    have ha : (a_ws b aC h)[k]? = some (b + k, .inl (aC 1, (hsh h k).2, .inl (hI h k))) := by rw [a_ws_at g1, a_e_I (by decide) g2]
    refine W.bast k1.1 k1.2.1 (k7.2 k _ ha) ((k2.1.2 1 _ (a_tys_at (by decide))).1 (hsh h k).2 (fun z => .int (hI h k z))) (fun q => by cases q) (by show ¬ (j < 0 ∨ (arrV _ _ _).slots.size ≤ _); rw [arrV_size]; exact g3) rfl rfl (a_chk_d hk) fun H1 e z oq => ?_
    have h1 := kk H1 (locs ++ [⟨b + k, j.toNatClampNeg⟩]) lsC (k7.set rfl g1 ?_ z oq wI_o) (k8.put z oq (Nat.le_add_right b k)) k9
    · rw [a_chk_n hk] at h1
      exact h1
    · rw [a_e_I (tg := 1) (by decide) (by exact g2)]
      show H1[b + k]? = some (vp_cell _ _)
      rw [e]
      show some (Cell.setSlot (vp_cell (aC 1) ((hsh h k).2, .inl (hI h k))) _ _) = _
      rw [vp_cell_i, vp_cell_i, arrV_store]
      congr 2
      funext q
      show (if q = j.toNatClampNeg then Value.int x.toInt8.toInt32 else Value.int (hI h k q)) = Value.int (u2 (hI h) k j.toNatClampNeg x.toInt8.toInt32 k q)
      unfold u2
      by_cases hq : q = j.toNatClampNeg
      · rw [if_pos hq, if_pos ⟨rfl, hq⟩]
      · rw [if_neg hq, if_neg (fun hh => hq hh.2)]
  · exact Bool.noConfusion hg
theorem snd_lastore (hk : a_chk m i .lastore 1 = true) : a_Snd m i (s_las (i + 1)) := by
  refine a_Snd.row (fun ls st h hg => ?_)
  unfold s_las at hg ⊢
  split at hg
  · rename_i x j k st
    have hg : isA h k 2 j = true := hg
    obtain ⟨g1, g2, g3⟩ := isA_all hg
    refine ⟨i + 1, ls, st, wL h k j.toNatClampNeg x, 0, 0, rfl, rfl, rfl, rfl, ?_⟩
    intro l b ex D aC p e R s mid args below meth c H locs cells slots Q lsC k1 k2 k3 k4 k5 k6 k7 k8 k9 kk
    have ha : (a_ws b aC h)[k]? = some (b + k, .inl (aC 2, (hsh h k).2, .inr (.inl (hL h k)))) := by rw [a_ws_at g1, a_e_L g2]
    refine W.last k1.1 k1.2.1 (k7.2 k _ ha) ((k2.1.2 2 _ (a_tys_at (by decide))).1 (hsh h k).2 (fun z => .long (hL h k z))) (fun q => by cases q) (by show ¬ (j < 0 ∨ (arrV _ _ _).slots.size ≤ _); rw [arrV_size]; exact g3) rfl rfl (a_chk_d hk) fun H1 e z oq => ?_
    have h1 := kk H1 (locs ++ [⟨b + k, j.toNatClampNeg⟩]) lsC (k7.set rfl g1 ?_ z oq wL_o) (k8.put z oq (Nat.le_add_right b k)) k9
    · rw [a_chk_n hk] at h1
      exact h1
    · rw [a_e_L (by exact g2)]
      show H1[b + k]? = some (vp_cell _ _)
      rw [e]
      show some (Cell.setSlot (vp_cell (aC 2) ((hsh h k).2, .inr (.inl (hL h k)))) _ _) = _
      rw [vp_cell_l, vp_cell_l, arrV_store]
      congr 2
      funext q
      show (if q = j.toNatClampNeg then Value.long x else Value.long (hL h k q)) = Value.long (u2 (hL h) k j.toNatClampNeg x k q)
      unfold u2
      by_cases hq : q = j.toNatClampNeg
      · rw [if_pos hq, if_pos ⟨rfl, hq⟩]
      · rw [if_neg hq, if_neg (fun hh => hq hh.2)]
  · exact Bool.noConfusion hg
theorem snd_aastore {tg ci : Nat} (ht : decide (2 < tg ∧ tg < 9) = true) (hc : a_okc ci) (hcn : a_at.getD tg .int = .object (a_cq ci).1) (hk : a_chk m i .aastore 1 = true) : a_Snd m i (s_aas tg ci (i + 1)) := by
  have ht := of_decide_eq_true ht
  refine a_Snd.row (fun ls st h hg => ?_)
  unfold s_aas at hg ⊢
  split at hg
  · rename_i x j k st
    have hg : (isA h k tg j && isO h x ci) = true := hg
    rw [Bool.and_eq_true] at hg
    obtain ⟨g1, g2, g3⟩ := isA_all hg.1
    refine ⟨i + 1, ls, st, wP h k j.toNatClampNeg (some x), 0, 0, rfl, rfl, rfl, rfl, ?_⟩
    intro l b ex D aC p e R s mid args below meth c H locs cells slots Q lsC k1 k2 k3 k4 k5 k6 k7 k8 k9 kk
    have ha : (a_ws b aC h)[k]? = some (b + k, .inl (aC tg, (hsh h k).2, .inr (.inr (.inr (.inr (fun j => (hP h k j).map (fun a => b + a))))))) := by rw [a_ws_at g1, a_e_P ht.1 g2]
    have hv : (a_ws b aC h)[x]? = some (b + x, .inr (ci, a_fs b h x ci)) := by rw [a_ws_at (isO_lt hg.2), a_e_O hc.2.1 (isO_sh hg.2)]
    obtain ⟨r', hr', cellV, v1, v2, v3, -⟩ := k7.2 x _ hv
    have hcls := (k2.1.1 ci _ hc.1).2
    have hty : (a_tys aC)[tg]? = some (aC tg, .object (a_cq ci).1) := by rw [a_tys_at ht.2, hcn]
    obtain ⟨kA, comp, t1, t2, t3, -⟩ := (k2.1.2 tg _ hty).2
    have hcomp : comp = D.1 ci := Option.some.inj (t3.symm.trans hcls.1)
    subst hcomp
    obtain ⟨kC, hkC, -⟩ := hcls.2
    have hlt : j.toNatClampNeg < (hsh h k).2 := Nat.not_le.mp fun q => g3 (Or.inr q)
    refine W.aast k1.1 k1.2.1 (k7.2 k _ ha) (fun q h => by cases h) (fun h => by cases h) t1 t2 rfl hkC ⟨fun q => g3 (Or.inl q), by show _ < (arrV _ _ _).slots.size; rw [arrV_size]; exact hlt⟩ v1 (fun q h => by rw [v3] at h; cases h) (by rw [v2]; exact hkC) (by rw [v2]; exact va_assign hcls) rfl rfl (a_chk_d hk) fun H1 e z oq => ?_
    have h1 := kk H1 (locs ++ [⟨b + k, j.toNatClampNeg⟩]) lsC (k7.set rfl g1 ?_ z oq wP_o) (k8.put z oq (Nat.le_add_right b k)) k9
    · rw [a_chk_n hk] at h1
      exact h1
    · rw [a_e_P (tg := tg) ht.1 (by exact g2)]
      show H1[b + k]? = some (vp_cell _ _)
      rw [e]
      show some (Cell.setSlot (vp_cell (aC tg) ((hsh h k).2, .inr (.inr (.inr (.inr (fun j => (hP h k j).map (fun a => b + a))))))) _ _) = _
      rw [vp_cell_q, vp_cell_q, arrV_store]
      congr 2
      funext q
      show (if q = j.toNatClampNeg then Value.ref (b + x) else va_rf ((hP h k q).map (fun a => b + a))) = va_rf ((u2 (hP h) k j.toNatClampNeg (some x) k q).map (fun a => b + a))
      unfold u2
      by_cases hq : q = j.toNatClampNeg
      · rw [if_pos hq, if_pos ⟨rfl, hq⟩]; rfl
      · rw [if_neg hq, if_neg (fun hh => hq hh.2)]
  · exact Bool.noConfusion hg
/-! the script and the texts -/
theorem snd_xlen (hk : a_chk m i .arraylength 1 = true) : a_Snd m i (s_xlen (i + 1)) := by
  refine a_Snd.row (fun ls st h hg => ?_)
  unfold s_xlen at hg ⊢
  split at hg
  · rename_i q st
    have hg : q = 0 := of_decide_eq_true hg
    subst hg
    refine ⟨i + 1, ls, .int (Int32.ofNat (hX h).1) :: st, h, 0, 0, rfl, rfl, rfl, rfl, a_row.pure ?_⟩
    intro l b ex D aC p e R s mid args below meth c H locs cells slots Q lsC k1 k2 k3 k4 k5 k6 k7 kk
    have h1 := kk lsC k7
    rw [a_chk_n hk] at h1
    obtain ⟨sa, x1, x2, x3⟩ := k2.2.1.1
    have e0 : a_up b ex (.float 0) = .ref sa := by show va_rf (ex (0 : UInt32).toNat) = _; rw [show (0 : UInt32).toNat = 0 from rfl, x1]; rfl
    rw [List.map_cons, e0]
    exact va_slen k1.1 k1.2.1 x3 (Nat.lt_of_lt_of_le x2 k2.2.2) (by omega) k6 (a_chk_d hk) h1
  · exact Bool.noConfusion hg
theorem snd_xal (hk : a_chk m i .iaload 1 = true) : a_Snd m i (s_xal (i + 1)) := by
  refine a_Snd.row (fun ls st h hg => ?_)
  unfold s_xal at hg ⊢
  split at hg
  · rename_i j q st
    have hg : (decide (q = 0) && !decide (j < 0) && decide (j.toNatClampNeg < (hX h).1)) = true := hg
    simp only [Bool.and_eq_true, decide_eq_true_eq, Bool.not_eq_true', decide_eq_false_iff_not] at hg
    obtain ⟨⟨g1, g2⟩, g3⟩ := hg
    subst g1
    refine ⟨i + 1, ls, .int ((hX h).2 j.toNatClampNeg) :: st, h, 0, 0, rfl, rfl, rfl, rfl, a_row.pure ?_⟩
    intro l b ex D aC p e R s mid args below meth c H locs cells slots Q lsC k1 k2 k3 k4 k5 k6 k7 kk
    have h1 := kk lsC k7
    rw [a_chk_n hk] at h1
    obtain ⟨sa, x1, x2, x3⟩ := k2.2.1.1
    have e0 : a_up b ex (.float 0) = .ref sa := by show va_rf (ex (0 : UInt32).toNat) = _; rw [show (0 : UInt32).toNat = 0 from rfl, x1]; rfl
    rw [List.map_cons, List.map_cons, e0]
    exact va_sld k1.1 k1.2.1 x3 (Nat.lt_of_lt_of_le x2 k2.2.2) (by omega) k6 (fun hh => hh.elim g2 (fun z => by omega)) (a_chk_d hk) h1
  · exact Bool.noConfusion hg
theorem snd_xgv {idx : Nat} (hw : Cond.fieldLink (a_y m).cls idx "java/lang/String" "value" "[B" ∈ a_tb) (hk : a_chk m i (.getfield idx) 3 = true) : a_Snd m i (s_xgv (i + 1)) := by
  refine a_Snd.row (fun ls st h hg => ?_)
  unfold s_xgv at hg ⊢
  split at hg
  · rename_i q st
    have hg : (decide (0 < q.toNat) && decide (q.toNat ≤ 32)) = true := hg
    simp only [Bool.and_eq_true, decide_eq_true_eq] at hg
    refine ⟨i + 1, ls, .float (q + 32) :: st, h, 0, 0, rfl, rfl, rfl, rfl, a_row.pure ?_⟩
    intro l b ex D aC p e R s mid args below meth c H locs cells slots Q lsC k1 k2 k3 k4 k5 k6 k7 kk
    have h1 := kk lsC k7
    rw [a_chk_n hk] at h1
    obtain ⟨ka, kv, x1, x2, x3, x4, x5, x6⟩ := k2.2.1.2.1 (q.toNat - 1) (by omega)
    have e0 : a_up b ex (.float q) = .ref ka := by show va_rf (ex q.toNat) = _; rw [show q.toNat = q.toNat - 1 + 1 by omega, x1]; rfl
    have e1 : a_up b ex (.float (q + 32)) = .ref kv := by
      show va_rf (ex (q + 32).toNat) = _
      rw [show (q + 32).toNat = q.toNat - 1 + 33 by rw [UInt32.toNat_add]; show (q.toNat + 32) % 2 ^ 32 = _; omega, x2]; rfl
    rw [List.map_cons, e1] at h1
    rw [List.map_cons, e0]
    exact vk_getf k1.1 k1.2.1 x5 k6 k1.2.2.2.2.2.2.1 (k1.2.2.2.2.2.2.2 _ hw) (fun _ h9 => h9) (a_chk_d hk) h1
  · exact Bool.noConfusion hg
theorem snd_xgc {idx : Nat} (hw : Cond.fieldLink (a_y m).cls idx "java/lang/String" "coder" "B" ∈ a_tb) (hk : a_chk m i (.getfield idx) 3 = true) : a_Snd m i (s_xgc (i + 1)) := by
  refine a_Snd.row (fun ls st h hg => ?_)
  unfold s_xgc at hg ⊢
  split at hg
  · rename_i q st
    have hg : (decide (0 < q.toNat) && decide (q.toNat ≤ 32)) = true := hg
    simp only [Bool.and_eq_true, decide_eq_true_eq] at hg
    refine ⟨i + 1, ls, .int 0 :: st, h, 0, 0, rfl, rfl, rfl, rfl, a_row.pure ?_⟩
    intro l b ex D aC p e R s mid args below meth c H locs cells slots Q lsC k1 k2 k3 k4 k5 k6 k7 kk
    have h1 := kk lsC k7
    rw [a_chk_n hk] at h1
    obtain ⟨ka, kv, x1, x2, x3, x4, x5, x6⟩ := k2.2.1.2.1 (q.toNat - 1) (by omega)
    have e0 : a_up b ex (.float q) = .ref ka := by show va_rf (ex q.toNat) = _; rw [show q.toNat = q.toNat - 1 + 1 by omega, x1]; rfl
    rw [List.map_cons, e0]
    exact vk_getf k1.1 k1.2.1 x4 k6 k1.2.2.2.2.2.2.1 (k1.2.2.2.2.2.2.2 _ hw) (fun _ h9 => h9) (a_chk_d hk) h1
  · exact Bool.noConfusion hg
theorem snd_xbl (hk : a_chk m i .arraylength 1 = true) : a_Snd m i (s_xbl (i + 1)) := by
  refine a_Snd.row (fun ls st h hg => ?_)
  unfold s_xbl at hg ⊢
  split at hg
  · rename_i q st
    have hg : (decide (32 < q.toNat) && decide (q.toNat ≤ 64)) = true := hg
    simp only [Bool.and_eq_true, decide_eq_true_eq] at hg
    refine ⟨i + 1, ls, .int (Int32.ofNat (a_T.getD (q.toNat - 33) []).length) :: st, h, 0, 0, rfl, rfl, rfl, rfl, a_row.pure ?_⟩
    intro l b ex D aC p e R s mid args below meth c H locs cells slots Q lsC k1 k2 k3 k4 k5 k6 k7 kk
    have h1 := kk lsC k7
    rw [a_chk_n hk] at h1
    obtain ⟨ka, kv, x1, x2, x3, x4, x5, x6⟩ := k2.2.1.2.1 (q.toNat - 33) (by omega)
    have e0 : a_up b ex (.float q) = .ref kv := by show va_rf (ex q.toNat) = _; rw [show q.toNat = q.toNat - 33 + 33 by omega, x2]; rfl
    rw [List.map_cons, e0]
    obtain ⟨cell, y1, y2, y3, y4, y5, y6, y7⟩ := x6.kept (fun a ha hb => k6.2.1 a ha hb)
    exact W.alen k1.1 k1.2.1 y1 y2 y5 rfl rfl (a_chk_d hk) h1
  · exact Bool.noConfusion hg
theorem snd_xba (hk : a_chk m i .baload 1 = true) : a_Snd m i (s_xba (i + 1)) := by
  refine a_Snd.row (fun ls st h hg => ?_)
  unfold s_xba at hg ⊢
  split at hg
  · rename_i j q st
    have hg : (decide (32 < q.toNat) && decide (q.toNat ≤ 64) && !decide (j < 0) && decide (j.toNatClampNeg < (a_T.getD (q.toNat - 33) []).length)) = true := hg
    simp only [Bool.and_eq_true, decide_eq_true_eq, Bool.not_eq_true', decide_eq_false_iff_not] at hg
    obtain ⟨⟨⟨g1, g2⟩, g3⟩, g4⟩ := hg
    refine ⟨i + 1, ls, .int (Int32.ofNat ((a_T.getD (q.toNat - 33) []).getD j.toNatClampNeg 0)) :: st, h, 0, 0, rfl, rfl, rfl, rfl, a_row.pure ?_⟩
    intro l b ex D aC p e R s mid args below meth c H locs cells slots Q lsC k1 k2 k3 k4 k5 k6 k7 kk
    have h1 := kk lsC k7
    rw [a_chk_n hk] at h1
    obtain ⟨ka, kv, x1, x2, x3, x4, x5, x6⟩ := k2.2.1.2.1 (q.toNat - 33) (by omega)
    have e0 : a_up b ex (.float q) = .ref kv := by show va_rf (ex q.toNat) = _; rw [show q.toNat = q.toNat - 33 + 33 by omega, x2]; rfl
    rw [List.map_cons, List.map_cons, e0]
    obtain ⟨cell, y1, y2, y3, y4, y5, y6, y7⟩ := x6.kept (fun a ha hb => k6.2.1 a ha hb)
    exact W.bald k1.1 k1.2.1 y1 y2 y3 (fun hh => hh.elim g3 (fun z => by omega)) (y6 _ g4) rfl rfl (a_chk_d hk) h1
  · exact Bool.noConfusion hg
theorem snd_gets1 {idx : Nat} (hw : Cond.fieldLink (a_y m).cls idx "java/lang/String" "COMPACT_STRINGS" "Z" ∈ a_tb) (hk : a_chk m i (.getstatic idx) 3 = true) : a_Snd m i (s_push (.int 1) (i + 1)) :=
  a_push hk (fun _ _ _ _ _ _ _ _ _ _ _ _ _ _ _ _ _ _ _ _ _ _ k1 k2 k6 k => va_gets k1.1 k1.2.1 k2.2.1.2.2.2.1 k6 k1.2.2.2.2.2.2.1 (k1.2.2.2.2.2.2.2 _ hw) (fun _ h9 => h9) (a_chk_d hk) k)
theorem snd_gets2 {idx : Nat} (hw : Cond.fieldLink (a_y m).cls idx "jdk/internal/util/Preconditions" "SIOOBE_FORMATTER" "Ljava/util/function/BiFunction;" ∈ a_tb) (hk : a_chk m i (.getstatic idx) 3 = true) : a_Snd m i (s_push (.float 65) (i + 1)) :=
  a_push hk (fun _ _ _ _ _ _ _ _ _ _ _ _ _ _ _ _ _ _ _ _ _ _ k1 k2 k6 k => va_gets k1.1 k1.2.1 k2.2.1.2.2.2.2.1 k6 k1.2.2.2.2.2.2.1 (k1.2.2.2.2.2.2.2 _ hw) (fun _ h9 => h9) (a_chk_d hk) k)
end ARR
