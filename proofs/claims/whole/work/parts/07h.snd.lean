/-! calls -/
/-- words that stay when the tables warm -/
def a_gw (w : Cond) : Bool := (w.onTables && w.keepsFace) || (w.onTables && w.keepsH) || (match w with | .arrayClass _ => true | .arrayOver (.object _) => true | .stringRef .. => true | _ => false)
theorem a_warm {w : Cond} {args a' : Array Value} {s U : State} (hg : a_gw w = true) (hW : s.WarmedH U.vm) (h : w.before args s = true) : w.before a' U = true := by
  unfold a_gw at hg
  rw [Bool.or_eq_true, Bool.or_eq_true] at hg
  rcases hg with (hg | hg) | hg
  · exact Cond.onTables_atFace hW hg h
  · rw [Bool.and_eq_true] at hg
    have h1 := Cond.onTables_warmH (T := U) (args' := a') hW hg.1 hg.2 h
    rwa [State.setVm_self] at h1
  · cases w with
    | arrayClass ty => exact word_at hW (Or.inr ⟨ty, rfl⟩) h
    | arrayOver ty =>
      cases ty with
      | object n => exact Cond.arrayOver_alike hW.alike h
      | _ => cases hg
    | stringRef own k tx =>
      have h1 := Cond.stringRef_warmed hW h
      first
        | exact va_tabs rfl (rfl : (s.setVm U.vm).vm = U.vm) h1
        | (simp only [Cond.before, Cond.holds, Cond.value, State.names, State.poolOf?, State.resolvedAt?, State.vm_setVm] at h1 ⊢; exact h1)
    | _ => cases hg
theorem a_tbl_ok : a_tb.all a_gw = true := by decide +kernel
theorem a_words {args : Array Value} {s : State} (hts : ∀ w ∈ a_tb, w.before args s = true) : ∀ w ∈ a_tb, ∀ (a' : Array Value) (U : State), s.WarmedH U.vm → w.before a' U = true :=
  fun w hw a' U hW => a_warm (List.all_eq_true.mp a_tbl_ok w hw) hW (hts w hw)
theorem a_ld_pad : ∀ (n : Nat) (ls : A_V) (i : Nat) (v : Value), a_ld (a_pad n ls) i = some v → a_ld ls i = some v
  | 0, ls, i, v, h => by simp [a_pad, a_ld] at h
  | n + 1, [], i, v, h => by
    cases i with
    | zero => simp [a_pad, a_ld] at h
    | succ i => simp only [a_pad, a_ld] at h; have := a_ld_pad n [] i v h; simp [a_ld] at this
  | n + 1, x :: r, i, v, h => by
    cases i with
    | zero => simpa [a_pad, a_ld] using h
    | succ i => simp only [a_pad, a_ld] at h ⊢; exact a_ld_pad n r i v h
theorem a_ld_arg {b : Nat} {ex : Nat → Option Nat} : ∀ (vs : List Value) (k i : Nat) (v : Value), a_ld (a_arg vs) i = some v → (k + i, a_up b ex v) ∈ lv_args k (vs.map (a_up b ex))
  | [], _, i, v, h => by simp [a_arg, a_ld] at h
  | w :: r, k, i, v, h => by
    have one : ∀ (hw : w.category = 1) (ha : a_arg (w :: r) = some w :: a_arg r), (k + i, a_up b ex v) ∈ lv_args k ((w :: r).map (a_up b ex)) := by
      intro hw ha
      rw [ha] at h
      rw [List.map_cons, lv_args, a_up_cat, hw]
      cases i with
      | zero => simp only [a_ld] at h; cases h; exact List.mem_cons_self
      | succ i =>
        simp only [a_ld] at h
        have := a_ld_arg (b := b) (ex := ex) r (k + 1) i v h
        exact List.mem_cons_of_mem _ (by rw [show k + (i + 1) = k + 1 + i by omega]; exact this)
    have two : ∀ (hw : w.category = 2) (ha : a_arg (w :: r) = some w :: none :: a_arg r), (k + i, a_up b ex v) ∈ lv_args k ((w :: r).map (a_up b ex)) := by
      intro hw ha
      rw [ha] at h
      rw [List.map_cons, lv_args, a_up_cat, hw]
      cases i with
      | zero => simp only [a_ld] at h; cases h; exact List.mem_cons_self
      | succ i =>
        cases i with
        | zero => simp [a_ld] at h
        | succ i =>
          simp only [a_ld] at h
          have := a_ld_arg (b := b) (ex := ex) r (k + 2) i v h
          exact List.mem_cons_of_mem _ (by rw [show k + (i + 1 + 1) = k + 2 + i by omega]; exact this)
    cases w with
    | int x => exact one rfl rfl
    | long x => exact two rfl rfl
    | float x => exact one rfl rfl
    | double x => exact two rfl rfl
    | null => exact one rfl rfl
    | ref x => exact one rfl rfl
    | retAddr x => exact one rfl rfl
theorem a_sl_len {b : Nat} {ex : Nat → Option Nat} : ∀ vs : List Value, (lg_sl (vs.map (a_up b ex))).length = a_cs vs
  | [] => rfl
  | v :: r => by
    have ih := a_sl_len (b := b) (ex := ex) r
    unfold lg_sl at ih ⊢
    rw [List.map_cons, List.flatMap_cons, List.length_append, ih, a_up_cat, a_cs]
    congr 1
    cases v <;> rfl
theorem a_met {l : Launch} {b : Nat} {ex : Nat → Option Nat} {D : va_G} {aC : Nat → ClassId} {m : Nat} {as : List Value} {h : A_H} {r : A_R} (hpl : plainName (a_y m).cls = true) (hcs : a_cs as ≤ a_nL m) (hp0 : a_pc m 0 = 0 ∧ m ≠ 282) (hW : a_W l b ex D aC m 0 (a_ent (a_nL m) as) [] h r) :
    vx_Met l (a_y m) (Cond.code (a_y m) (a_by m) (a_nL m) (a_rt m) :: a_tb) { frames := a_fr m, cells := hn r.2 - hn h, slots := hs r.2 - hs h, locals := a_lo m } (va_Pc (as.map (a_up b ex)) (fun U => a_St b ex D aC (hX h) U ∧ a_Rep b D aC h U.heap)) (a_Q b ex D aC r) (a_XC b D aC r) (hn r.2 - hn h) (hs r.2 - hs h) (fun q => b ≤ q) := by
  refine vx_ofW (cc := a_by m) (maxL := a_nL m) (ret := a_rt m) hpl rfl ?_
  intro p e s mid args' below meth c s₁ B hml htab hv
  obtain ⟨rfl, hSt, hRep⟩ := hv
  have hts := atoms_spec (ws := Cond.code (a_y m) (a_by m) (a_nL m) (a_rt m) :: a_tb) B.pre
  rw [lg_entry_eq]
  have hent := lv_entry (as.map (a_up b ex)) (n := a_nL m) (by rw [a_sl_len]; exact hcs)
  generalize (lg_sl (as.map (a_up b ex)) ++ List.replicate (a_nL m - (lg_sl (as.map (a_up b ex))).length) Slot.unset).toArray = lsC at hent ⊢
  have hM : a_M m p s mid (as.map (a_up b ex)).toArray meth c := ⟨B.exec, B.bytes, hml, B.returns, B.notSynchronized, (name_of_methodNamed B.named B.method).1, findClass_of_methodNamed B.named, fun w hw => hts w (List.mem_cons_of_mem _ hw)⟩
  have hL : a_Loc b ex m (a_ent (a_nL m) as) lsC := ⟨hent.1, hent.2.1, fun i v hv => hent.2.2 (i, a_up b ex v) (by have := a_ld_arg (b := b) (ex := ex) as 0 i v (a_ld_pad _ _ _ _ hv); rwa [Nat.zero_add] at this)⟩
  have h9 := hW.2 p e { frames := a_fr m, cells := hn r.2 - hn h, slots := hs r.2 - hs h, locals := a_lo m } s mid _ below meth c s.heap [] (hn h) (hs h) lsC hM hSt (Or.inl ⟨hp0.2, htab⟩) (Nat.le_refl _) (Nat.le_refl _) (Nat.le_refl _) (Nat.le_refl _) (Nat.le_refl _) (Nat.le_refl _) hRep va_S.rf hL
  rw [Nat.sub_self, Nat.sub_self, hp0.1] at h9
  exact h9
theorem a_metN {l : Launch} {b : Nat} {ex : Nat → Option Nat} {D : va_G} {aC : Nat → ClassId} {y : MethodName} {ws : List Cond} {rm : Room} {Pc : Array Value → State → Prop} {r : A_R} {mc ms : Nat} {free : Addr → Prop} {v : Option Value} (hr : r.1 = some v) (hM : vx_Met l y ws rm Pc (a_Q b ex D aC r) (a_XC b D aC r) mc ms free) : Met l y ws rm Pc (a_Q b ex D aC r) mc ms free := by
  intro p e h1 h2 h3 s m args below h4 h5 h6 h7
  obtain ⟨n, o, g1, g2, g3, g4⟩ := hM p e h1 h2 h3 s m args below h4 h5 h6 h7
  refine ⟨n, o, g1, g2, g3, ?_⟩
  rcases g4 with g4 | ⟨q, -, E, ce, L, hx, -⟩
  · exact g4
  · have := hx.2.1
    rw [hr] at this
    cases this
section CALL
variable {l : Launch} {b : Nat} {ex : Nat → Option Nat} {D : va_G} {aC : Nat → ClassId} {p : Program} {e : Env} {R : Room} {s : State} {mid : MethodId} {args : Array Value} {below : List Frame} {meth : Method} {c : Code} {H : Heap} {locs : List Loc} {cells slots : Nat} {Q : State → Prop}
theorem a_contN {r : A_R} {v : Option Value} {mc ms pc : Nat} {lsC : Array Slot} {stC restC : List Value} {av : Array Value} (hv : r.1 = some v) (hr : va_Run p l e R s mid args below meth c H locs cells slots mc ms (F0 mid pc lsC stC) restC (a_Q b ex D aC r av) (fun q => b ≤ q)) (hS : va_S (fun q => b ≤ q) s.heap H locs)
    (kk : ∀ H1 locs1, a_Rep b D aC r.2 H1 → va_S (fun q => b ≤ q) s.heap H1 locs1 → W p l e R s mid args below meth c H1 locs1 (cells + mc) (slots + ms) Q (F0 mid (pc + 3) lsC ((v.map (a_up b ex)).toList ++ restC))) : W p l e R s mid args below meth c H locs cells slots Q (F0 mid pc lsC stC) := by
  intro T hT X
  obtain ⟨v', st₀, t, T', L, h0, X', hL, e1, e2, ⟨⟨v2, hv2, ho⟩, hR, hz, hk⟩, st⟩ := hr T hT X
  rw [hv] at hv2
  cases hv2
  cases ho
  rw [h0] at hz hk
  obtain ⟨t2, a1, b1⟩ := kk T'.heap (locs ++ L) (by rw [e1]; exact hR)
    ⟨Nat.le_trans hS.1 (by rw [e1]; exact hz), fun q h1 h2 => by rw [e1, hk q (Nat.lt_of_lt_of_le h1 hS.1) h2]; exact hS.2.1 q h1 h2, fun q hq => by
      rcases List.mem_append.mp hq with h | h
      · exact hS.2.2 q h
      · exact hL q h⟩ T' rfl X'
  exact ⟨t2, st t2 a1, b1⟩
end CALL
/-- the callee's start, whatever stands on the frames -/
theorem a_blind {b : Nat} {ex : Nat → Option Nat} {D : va_G} {aC : Nat → ClassId} {vs : List Value} {h : A_H} : FrameBlind (va_Pc vs (fun U => a_St b ex D aC (hX h) U ∧ a_Rep b D aC h U.heap)) := by
  intro a U g mk q
  obtain ⟨q0, ⟨q1, q2, q3⟩, q4⟩ := q
  exact ⟨q0, ⟨va_K.moved (u := U) (U := U.calling g mk a) (Vm.Alike.refl U.vm) q1, q2.go q3 (State.WarmedH.refl U) (fun _ _ _ => rfl), q3⟩, q4⟩
theorem a_preS {b : Nat} {ex : Nat → Option Nat} {D : va_G} {aC : Nat → ClassId} {vs : List Value} {h : A_H} {s : State} {H : Heap} {locs : List Loc} (k2 : a_St b ex D aC (hX h) s) (k7 : a_Rep b D aC h H) (k8 : va_S (fun q => b ≤ q) s.heap H locs) : PreS s H (va_Pc vs (fun U => a_St b ex D aC (hX h) U ∧ a_Rep b D aC h U.heap)) vs := by
  refine ⟨a_blind, fun U hU hW => ⟨rfl, ⟨va_K.moved hW.alike k2.1, ?_, ?_⟩, by rw [hU]; exact k7⟩⟩
  · rw [hU]; exact k2.2.1.go k2.2.2 hW (fun a ha hb => k8.2.1 a ha hb)
  · rw [hU]; exact Nat.le_trans k2.2.2 k8.1
/-- the callee's words -/
def a_mw (m n : Nat) : Prop := Cond.code (a_y m) (a_by m) (a_nL m) (a_rt m) ∈ a_tb ∧ Cond.initialized (a_y m).cls ∈ a_tb ∧ ((a_y m).cls ≠ "java/lang/invoke/MethodHandle" ∧ (a_y m).cls ≠ "java/lang/invoke/VarHandle") ∧ (parseMethodDescriptor (a_y m).desc).map (fun d => d.parameters.length) = some n ∧ plainName (a_y m).cls = true ∧ (a_pc m 0 = 0 ∧ m ≠ 282)
theorem a_mw.par {m n : Nat} (h : a_mw m n) : ∀ sig, parseMethodDescriptor (a_y m).desc = some sig → n = sig.parameters.length := by
  intro sig hs
  have := h.2.2.2.1
  rw [hs] at this
  exact (Option.some.inj this).symm
/-- the room of a call -/
def a_rm2 (m m' : Nat) : Bool := decide (a_fr m' + 1 ≤ a_fr m) && decide (8 + (a_nL m' + 11) + a_lo m' ≤ a_lo m)
theorem a_callG {m i kd m' n nl : Nat} {bb : Bool} {ws9 : List Cond} (met : ∀ (l : Launch) (b : Nat) (ex : Nat → Option Nat) (D : va_G) (aC : Nat → ClassId) (as : List Value) (h : A_H) (r : A_R), l.stackTraces = false → a_cs as ≤ a_nL m' → a_W l b ex D aC m' 0 (a_ent (a_nL m') as) [] h r → vx_Met l (a_y m') ws9 { frames := a_fr m', cells := hn r.2 - hn h, slots := hs r.2 - hs h, locals := a_lo m' } (va_Pc (as.map (a_up b ex)) (fun U => a_St b ex D aC (hX h) U ∧ a_Rep b D aC h U.heap)) (a_Q b ex D aC r) (a_XC b D aC r) (hn r.2 - hn h) (hs r.2 - hs h) (fun q => b ≤ q)) (hnl : nl = a_nL m') (hnx : a_pc m (i + 1) = a_pc m i + 3)
    (run : ∀ (l : Launch) (b : Nat) (ex : Nat → Option Nat) (D : va_G) (aC : Nat → ClassId) (p : Program) (e : Env) (R : Room) (s : State) (mid : MethodId) (args : Array Value) (below : List Frame) (meth : Method) (c : Code) (H : Heap) (locs : List Loc) (cells slots : Nat) (lsC : Array Slot) (h : A_H) (as rest : List Value) (mc ms : Nat) (Qc : Array Value → State → Outcome → State → Prop),
      Met l (a_y m') ws9 { frames := a_fr m', cells := mc, slots := ms, locals := a_lo m' } (va_Pc (as.map (a_up b ex)) (fun U => a_St b ex D aC (hX h) U ∧ a_Rep b D aC h U.heap)) Qc mc ms (fun q => b ≤ q) →
      a_M m p s mid args meth c → a_St b ex D aC (hX h) s → a_Rep b D aC h H → va_S (fun q => b ≤ q) s.heap H locs → lsC.size = a_nL m → as.length = n → a_rk kd h (as.headD .null) = true → ((rest.map (a_up b ex)).map fun v => v.category).sum ≤ 8 → a_fr m ≤ R.frames → a_lo m ≤ R.locals → cells + mc ≤ R.cells → slots + ms ≤ R.slots →
      va_Run p l e R s mid args below meth c H locs cells slots mc ms (F0 mid (a_pc m i) lsC ((as.reverse ++ rest).map (a_up b ex))) (rest.map (a_up b ex)) (Qc (as.map (a_up b ex)).toArray) (fun q => b ≤ q)) : a_Snd m i (s_call kd m' n nl bb (i + 1)) := by
  intro l b ex D aC X hst hX0 ls st h r hr
  cases hg : (s_call kd m' n nl bb (i + 1) ls st h).1 with
  | false => rw [a_do_false hg] at hr; cases hr
  | true =>
    have hg : (decide (n ≤ st.length) && decide (a_cs (st.drop n) ≤ 8) && decide (a_cs (st.take n) ≤ nl) && a_rk kd h ((st.take n).reverse.headD .null)) = true := hg
    have hr : a_do a_nL X X m ((decide (n ≤ st.length) && decide (a_cs (st.drop n) ≤ 8) && decide (a_cs (st.take n) ≤ nl) && a_rk kd h ((st.take n).reverse.headD .null)), .inr (.inr (m', (st.take n).reverse, h, bb, none, i + 1, ls, st.drop n))) = some r := hr
    rw [hg] at hr
    have hr : a_back X m (m', (st.take n).reverse, h, bb, none, i + 1, ls, st.drop n) (X m' 0 (a_ent (a_nL m') (st.take n).reverse) [] h) = some r := hr
    simp only [Bool.and_eq_true, decide_eq_true_eq] at hg
    obtain ⟨⟨⟨g1, g2⟩, g3⟩, g4⟩ := hg
    generalize has : (st.take n).reverse = as at hr g4
    have hasl : as.length = n := by rw [← has, List.length_reverse, List.length_take]; omega
    have hst2 : st = as.reverse ++ st.drop n := by rw [← has, List.reverse_reverse]; exact (List.take_append_drop n st).symm
    have hcs : a_cs as ≤ a_nL m' := by
      have hrev : ∀ (x y : List Value), a_cs (x ++ y) = a_cs x + a_cs y := by
        intro x y
        induction x with
        | nil => simp [a_cs]
        | cons v x ih => simp only [List.cons_append, a_cs, ih]; omega
      have hrv : ∀ x : List Value, a_cs x.reverse = a_cs x := by
        intro x
        induction x with
        | nil => rfl
        | cons v x ih => rw [List.reverse_cons, hrev, ih]; simp only [a_cs]; omega
      rw [← has, hrv, ← hnl]; exact g3
    cases hy : X m' 0 (a_ent (a_nL m') as) [] h with
    | none => rw [hy] at hr; cases hr
    | some r0 =>
      rw [hy] at hr
      have W0 := hX0 _ _ _ _ _ _ hy
      obtain ⟨o0, h1⟩ := r0
      cases o0 with
      | none => cases hr
      | some v =>
        have hnext : X m (i + 1) ls (v.toList ++ st.drop n) h1 = some r := by
          cases v with
          | none =>
            have hr : (bif bb then none else X m (i + 1) ls (st.drop n) h1) = some r := hr
            cases bb with
            | true => cases hr
            | false => exact hr
          | some v =>
            have hr : (bif bb then X m (i + 1) ls (v :: st.drop n) h1 else none) = some r := hr
            cases bb with
            | true => exact hr
            | false => cases hr
        obtain ⟨⟨u1, u2, u3⟩, W1⟩ := hX0 _ _ _ _ _ _ hnext
        obtain ⟨w1, w2, w3⟩ := W0.1
        simp only at w1 w2 w3
        refine ⟨⟨by omega, by omega, by rw [u3, w3]⟩, ?_⟩
        intro p e R s mid args below meth c H locs n0 s0 lsC k1 k2 kt k3 k4 k5 k6 k7 k8 k9 k10 k11
        have hM := a_metN (v := v) rfl (met l b ex D aC as h _ hst hcs W0)
        have hrun := run l b ex D aC p e R s mid args below meth c H locs (hn h - n0) (hs h - s0) lsC h as (st.drop n) (hn h1 - hn h) (hs h1 - hs h) _ hM k1 k2 k9 k10 k11.1 hasl g4 (by rw [a_cs_map]; exact g2) k3 k4 (by omega) (by omega)
        rw [← hst2] at hrun
        refine a_contN (v := v) rfl hrun k10 (fun H1 locs1 q1 q2 => ?_)
        have h9 := W1 p e R s mid args below meth c H1 locs1 n0 s0 lsC k1 (by rw [w3]; exact k2) kt k3 k4 k5 k6 (by omega) (by omega) q1 q2 k11
        rw [hnx] at h9
        rw [show hn h - n0 + (hn h1 - hn h) = hn h1 - n0 by omega, show hs h - s0 + (hs h1 - hs h) = hs h1 - s0 by omega]
        rw [show (v.map (a_up b ex)).toList ++ (st.drop n).map (a_up b ex) = (v.toList ++ st.drop n).map (a_up b ex) by cases v <;> rfl]
        exact h9
