/-! branches -/
theorem a_if1 {m i t : Nat} {p0 : Int32 → Bool} {P : Int32 → Prop} {ins : Instr} {off : Int} (hp : ∀ x, p0 x = true ↔ P x) (hk : a_chkT m i ins 3 off t = true) (row : ∀ {p : Program} {l : Launch} {e : Env} {R : Room} {s : State} {mid : MethodId} {args : Array Value} {below : List Frame} {meth : Method} {c : Code} {H : Heap} {locs : List Loc} {cells slots : Nat} {Q : State → Prop} {cc : ByteArray} {pc : Nat} {ls : Array Slot} {rest : List Value} {x : Int32} {tgt : Nat}, p.tables.exec = Jvm.exec → c.code = cc → decode cc pc = .ok (ins, 3) → (pc : Int) + off = (tgt : Int) →
    (P x → W p l e R s mid args below meth c H locs cells slots Q (F0 mid tgt ls rest)) → (¬ P x → W p l e R s mid args below meth c H locs cells slots Q (F0 mid (pc + 3) ls rest)) → W p l e R s mid args below meth c H locs cells slots Q (F0 mid pc ls (.int x :: rest))) : a_Snd m i (s_if1 p0 t (i + 1)) := by
  intro l b ex D aC X _ hX0 ls st h r hr
  unfold s_if1 at hr
  split at hr
  · rename_i x st
    have hr : cond (p0 x) (X m t ls st h) (X m (i + 1) ls st h) = some r := hr
    have g1 : hn h ≤ hn r.2 ∧ hs h ≤ hs r.2 ∧ hX r.2 = hX h := by
      cases hq : p0 x with
      | true => rw [hq] at hr; exact (hX0 _ _ _ _ _ _ hr).1
      | false => rw [hq] at hr; exact (hX0 _ _ _ _ _ _ hr).1
    refine ⟨g1, ?_⟩
    intro p e R s mid args below meth c H locs n0 s0 lsC k1 k2 kt k3 k4 k5 k6 k7 k8 k9 k10 k11
    refine row k1.1 k1.2.1 (a_chk_d (a_chkT_c hk)) (a_chkT_t hk) (fun hx => ?_) (fun hx => ?_)
    · rw [(hp x).mpr hx] at hr
      exact (hX0 _ _ _ _ _ _ hr).2 p e R s mid args below meth c H locs n0 s0 lsC k1 k2 kt k3 k4 k5 k6 k7 k8 k9 k10 k11
    · have hq : p0 x = false := by
        cases hq : p0 x with
        | true => exact absurd ((hp x).mp hq) hx
        | false => rfl
      rw [hq] at hr
      have := (hX0 _ _ _ _ _ _ hr).2 p e R s mid args below meth c H locs n0 s0 lsC k1 k2 kt k3 k4 k5 k6 k7 k8 k9 k10 k11
      rw [a_chk_n (a_chkT_c hk)] at this
      exact this
  · cases hr
theorem a_if2 {m i t : Nat} {p0 : Int32 → Int32 → Bool} {P : Int32 → Int32 → Prop} {ins : Instr} {off : Int} (hp : ∀ x y, p0 x y = true ↔ P x y) (hk : a_chkT m i ins 3 off t = true) (row : ∀ {p : Program} {l : Launch} {e : Env} {R : Room} {s : State} {mid : MethodId} {args : Array Value} {below : List Frame} {meth : Method} {c : Code} {H : Heap} {locs : List Loc} {cells slots : Nat} {Q : State → Prop} {cc : ByteArray} {pc : Nat} {ls : Array Slot} {rest : List Value} {x y : Int32} {tgt : Nat}, p.tables.exec = Jvm.exec → c.code = cc → decode cc pc = .ok (ins, 3) → (pc : Int) + off = (tgt : Int) →
    (P x y → W p l e R s mid args below meth c H locs cells slots Q (F0 mid tgt ls rest)) → (¬ P x y → W p l e R s mid args below meth c H locs cells slots Q (F0 mid (pc + 3) ls rest)) → W p l e R s mid args below meth c H locs cells slots Q (F0 mid pc ls (.int y :: .int x :: rest))) : a_Snd m i (s_if2 p0 t (i + 1)) := by
  intro l b ex D aC X _ hX0 ls st h r hr
  unfold s_if2 at hr
  split at hr
  · rename_i y x st
    have hr : cond (p0 x y) (X m t ls st h) (X m (i + 1) ls st h) = some r := hr
    have g1 : hn h ≤ hn r.2 ∧ hs h ≤ hs r.2 ∧ hX r.2 = hX h := by
      cases hq : p0 x y with
      | true => rw [hq] at hr; exact (hX0 _ _ _ _ _ _ hr).1
      | false => rw [hq] at hr; exact (hX0 _ _ _ _ _ _ hr).1
    refine ⟨g1, ?_⟩
    intro p e R s mid args below meth c H locs n0 s0 lsC k1 k2 kt k3 k4 k5 k6 k7 k8 k9 k10 k11
    refine row k1.1 k1.2.1 (a_chk_d (a_chkT_c hk)) (a_chkT_t hk) (fun hx => ?_) (fun hx => ?_)
    · rw [(hp x y).mpr hx] at hr
      exact (hX0 _ _ _ _ _ _ hr).2 p e R s mid args below meth c H locs n0 s0 lsC k1 k2 kt k3 k4 k5 k6 k7 k8 k9 k10 k11
    · have hq : p0 x y = false := by
        cases hq : p0 x y with
        | true => exact absurd ((hp x y).mp hq) hx
        | false => rfl
      rw [hq] at hr
      have := (hX0 _ _ _ _ _ _ hr).2 p e R s mid args below meth c H locs n0 s0 lsC k1 k2 kt k3 k4 k5 k6 k7 k8 k9 k10 k11
      rw [a_chk_n (a_chkT_c hk)] at this
      exact this
  · cases hr
section IFS
variable {m i t : Nat} {off : Int}
theorem snd_ifeq (hk : a_chkT m i (.ifCond .eq off) 3 off t = true) : a_Snd m i (s_if1 (fun x => decide (x = 0)) t (i + 1)) := a_if1 (P := fun x => x = 0) (fun x => by simp) hk (fun hx hb hd ht kt kf => lv_if_eq hx hb hd ht kt kf)
theorem snd_ifne (hk : a_chkT m i (.ifCond .ne off) 3 off t = true) : a_Snd m i (s_if1 (fun x => !decide (x = 0)) t (i + 1)) := a_if1 (P := fun x => ¬ x = 0) (fun x => by simp) hk (fun hx hb hd ht kt kf => lv_if_ne hx hb hd ht kt (fun hz => kf (fun hn => hn hz)))
theorem snd_iflt (hk : a_chkT m i (.ifCond .lt off) 3 off t = true) : a_Snd m i (s_if1 (fun x => decide (x < 0)) t (i + 1)) := a_if1 (P := fun x => x < 0) (fun x => by simp) hk (fun hx hb hd ht kt kf => lv_if_lt hx hb hd ht kt kf)
theorem snd_ifge (hk : a_chkT m i (.ifCond .ge off) 3 off t = true) : a_Snd m i (s_if1 (fun x => decide (0 ≤ x)) t (i + 1)) := a_if1 (P := fun x => 0 ≤ x) (fun x => by simp) hk (fun hx hb hd ht kt kf => lv_if_ge hx hb hd ht kt kf)
theorem snd_ifgt (hk : a_chkT m i (.ifCond .gt off) 3 off t = true) : a_Snd m i (s_if1 (fun x => decide (0 < x)) t (i + 1)) := a_if1 (P := fun x => 0 < x) (fun x => by simp) hk (fun hx hb hd ht kt kf => lv_if_gt hx hb hd ht kt kf)
theorem snd_ifle (hk : a_chkT m i (.ifCond .le off) 3 off t = true) : a_Snd m i (s_if1 (fun x => decide (x ≤ 0)) t (i + 1)) := a_if1 (P := fun x => x ≤ 0) (fun x => by simp) hk (fun hx hb hd ht kt kf => lv_if_le hx hb hd ht kt kf)
theorem snd_icmpeq (hk : a_chkT m i (.if_icmp .eq off) 3 off t = true) : a_Snd m i (s_if2 (fun x y => decide (x = y)) t (i + 1)) := a_if2 (P := fun x y => x = y) (fun x y => by simp) hk (fun hx hb hd ht kt kf => lv_icmp_eq hx hb hd ht kt kf)
theorem snd_icmpne (hk : a_chkT m i (.if_icmp .ne off) 3 off t = true) : a_Snd m i (s_if2 (fun x y => !decide (x = y)) t (i + 1)) := a_if2 (P := fun x y => ¬ x = y) (fun x y => by simp) hk (fun hx hb hd ht kt kf => lv_icmp_ne hx hb hd ht kt (fun hz => kf (fun hn => hn hz)))
theorem snd_icmplt (hk : a_chkT m i (.if_icmp .lt off) 3 off t = true) : a_Snd m i (s_if2 (fun x y => decide (x < y)) t (i + 1)) := a_if2 (P := fun x y => x < y) (fun x y => by simp) hk (fun hx hb hd ht kt kf => lv_icmp_lt hx hb hd ht kt kf)
theorem snd_icmpge (hk : a_chkT m i (.if_icmp .ge off) 3 off t = true) : a_Snd m i (s_if2 (fun x y => decide (y ≤ x)) t (i + 1)) := a_if2 (P := fun x y => y ≤ x) (fun x y => by simp) hk (fun hx hb hd ht kt kf => lv_icmp_ge hx hb hd ht kt kf)
theorem snd_icmpgt (hk : a_chkT m i (.if_icmp .gt off) 3 off t = true) : a_Snd m i (s_if2 (fun x y => decide (y < x)) t (i + 1)) := a_if2 (P := fun x y => y < x) (fun x y => by simp) hk (fun hx hb hd ht kt kf => lv_icmp_gt hx hb hd ht kt kf)
theorem snd_icmple (hk : a_chkT m i (.if_icmp .le off) 3 off t = true) : a_Snd m i (s_if2 (fun x y => decide (x ≤ y)) t (i + 1)) := a_if2 (P := fun x y => x ≤ y) (fun x y => by simp) hk (fun hx hb hd ht kt kf => lv_icmp_le hx hb hd ht kt kf)
end IFS
theorem a_up_nul {b : Nat} {ex : Nat → Option Nat} {v : Value} (h : a_isR v = true) : (a_nul v = true ∧ a_up b ex v = .null) ∨ (a_nul v = false ∧ ∃ a, a_up b ex v = .ref a) := by
  cases v with
  | null => exact Or.inl ⟨rfl, rfl⟩
  | ref k => exact Or.inr ⟨rfl, _, rfl⟩
  | float t => cases h
  | int x => cases h
  | long x => cases h
  | double x => cases h
  | retAddr x => cases h
