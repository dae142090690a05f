/-! the call that catches, and the method that holds it -/
theorem a_Loc.rmv {b : Nat} {ex : Nat → Option Nat} {m : Nat} {ls : A_V} {lsC : Array Slot} (h : a_Loc b ex m ls lsC) {j : Nat} {v : Value} {lsC' : Array Slot} (hnl : a_nl2 ls j = true) (h' : lv_has lsC' (a_nL m) ((j, v) :: (a_all b ex (a_nL m) ls).filter (fun q => !(q.1 == j) && !(q.1 + 1 == j && q.2.category == 2)))) : a_Loc b ex m (a_rm ls j) lsC' := by
  refine ⟨h'.1, h'.2.1, fun i w hw => ?_⟩
  obtain ⟨n2, hw2⟩ := a_ld_rm _ _ _ _ hw
  refine h'.2.2 (i, a_up b ex w) (List.mem_cons_of_mem _ (List.mem_filter.mpr ⟨h.mem hw2, ?_⟩))
  simp only [a_up_cat]
  have n1 : (i == j) = false := by simpa using n2
  rw [n1]
  by_cases hc : i + 1 = j
  · subst hc
    have hc2 : (w.category == 2) = false := by
      have hnl : (!a_c2 (a_ld ls i)) = true := hnl
      rw [hw2] at hnl
      cases w <;> first | rfl | (cases hnl)
    simp [hc2]
  · have : (i + 1 == j) = false := by simpa using hc
    simp [this]
theorem snd_callX {m i ci m' n nl np idx j : Nat} {bb : Bool} (hm : m = 282) (hc : a_okc ci) (hcn : (a_cq ci).1 = (a_y m').cls) (hmw : a_mw m' np) (hnp : np + 1 = n) (hnl : nl = a_nL m') (hrm : a_rm2 m m' = true) (hi9 : Cond.instanceMethod (a_y m') ∈ a_tb) (hse : Cond.selects (a_y m').cls (a_y m') (a_y m') ∈ a_tb) (hl : Cond.methodLink (a_y m).cls idx (a_y m') ∈ a_tb) (hk : a_chk m i (.invokevirtual idx) 3 = true)
    (hcov : decide (a_pc m i < 9) = true) (hcl9 : Cond.classLink (a_y m).cls 13 RN0 ∈ a_tb) (hcast : Cond.castable RN0 RN0 ∈ a_tb) (h3 : decide (3 < a_nL m) = true) (hd12 : decode (a_by m) 12 = .ok (.astore_n 3, 1)) (hj : a_pc m j = 13) : a_Snd m i (s_callX (ci + 3) m' n nl bb (i + 1) j 3) := by
  unfold a_rm2 at hrm
  simp only [Bool.and_eq_true, decide_eq_true_eq] at hrm
  intro l b ex D aC X hst0 hX0 ls st h r hr
  cases hg : (s_callX (ci + 3) m' n nl bb (i + 1) j 3 ls st h).1 with
  | false => rw [a_do_false hg] at hr; cases hr
  | true =>
    have hg : (decide (n ≤ st.length) && decide (a_cs (st.drop n) ≤ 8) && decide (a_cs (st.take n) ≤ nl) && a_nl2 ls 3 && a_rk (ci + 3) h ((st.take n).reverse.headD .null)) = true := hg
    have hr : a_do a_nL X X m ((decide (n ≤ st.length) && decide (a_cs (st.drop n) ≤ 8) && decide (a_cs (st.take n) ≤ nl) && a_nl2 ls 3 && a_rk (ci + 3) h ((st.take n).reverse.headD .null)), .inr (.inr (m', (st.take n).reverse, h, bb, some (j, 3), i + 1, ls, st.drop n))) = some r := hr
    rw [hg] at hr
    have hr : a_back X m (m', (st.take n).reverse, h, bb, some (j, 3), i + 1, ls, st.drop n) (X m' 0 (a_ent (a_nL m') (st.take n).reverse) [] h) = some r := hr
    simp only [Bool.and_eq_true, decide_eq_true_eq] at hg
    obtain ⟨⟨⟨⟨g1, g2⟩, g3⟩, g5⟩, g4⟩ := hg
    generalize has : (st.take n).reverse = as at hr g4
    have hasl : as.length = n := by rw [← has, List.length_reverse, List.length_take]; omega
    have hst2 : st = as.reverse ++ st.drop n := by rw [← has, List.reverse_reverse]; exact (List.take_append_drop n st).symm
    have hcs : a_cs as ≤ a_nL m' := by
      have hrev : ∀ (x y : List Value), a_cs (x ++ y) = a_cs x + a_cs y := by
        intro x y
        induction x with
        | nil => simp [a_cs]
        | cons v x ih => simp only [List.cons_append, a_cs, ih]; omega
      have hrv : ∀ x : List Value, a_cs x.reverse = a_cs x := by
        intro x
        induction x with
        | nil => rfl
        | cons v x ih => rw [List.reverse_cons, hrev, ih]; simp only [a_cs]; omega
      rw [← has, hrv, ← hnl]; exact g3
    cases hy : X m' 0 (a_ent (a_nL m') as) [] h with
    | none => rw [hy] at hr; cases hr
    | some r0 =>
      rw [hy] at hr
      have W0 := hX0 _ _ _ _ _ _ hy
      have hM := a_met hmw.2.2.2.2.1 hcs hmw.2.2.2.2.2 W0
      obtain ⟨w1, w2, w3⟩ := W0.1
      -- what comes behind, and how much there is then
      have hafter : hn r0.2 ≤ hn r.2 ∧ hs r0.2 ≤ hs r.2 ∧ hX r.2 = hX r0.2 := by
        obtain ⟨o0, h1⟩ := r0
        cases o0 with
        | none => exact (hX0 m j (a_rm ls 3) [] h1 r hr).1
        | some v =>
          cases v with
          | none =>
            have hr : (bif bb then none else X m (i + 1) ls (st.drop n) h1) = some r := hr
            cases bb with
            | true => cases hr
            | false => exact (hX0 _ _ _ _ _ _ hr).1
          | some v =>
            have hr : (bif bb then X m (i + 1) ls (v :: st.drop n) h1 else none) = some r := hr
            cases bb with
            | true => exact (hX0 _ _ _ _ _ _ hr).1
            | false => cases hr
      obtain ⟨u1, u2, u3⟩ := hafter
      refine ⟨⟨by omega, by omega, by rw [u3, w3]⟩, ?_⟩
      intro p e R s mid args below meth c H locs n0 s0 lsC k1 k2 kt k3 k4 k5 k6 k7 k8 k9 k10 k11
      have hts := k1.2.2.2.2.2.2.2
      have htab : c.exceptionTable.toList = tableOf [(0, 9, 12, 13)] := by
        rcases kt with kt | kt
        · exact absurd hm kt.1
        · exact kt.2
      cases as with
      | nil => simp at hasl; omega
      | cons v0 as =>
        cases v0 with
        | ref k =>
          have ho : isO h k ci = true := g4
          have hp := a_preS (vs := (Value.ref k :: as).map (a_up b ex)) k2 k9 k10
          have hpv : PreV s H (a_y m').cls (b + k) (va_Pc ((Value.ref k :: as).map (a_up b ex)) (fun U => a_St b ex D aC (hX h) U ∧ a_Rep b D aC h U.heap)) (as.map (a_up b ex)) := ⟨hp.1, by rw [← hcn]; exact a_recvW hc k2 k9 ho, fun U hU hW => hp.2 U hU hW⟩
          have hws : ∀ w ∈ (Cond.code (a_y m') (a_by m') (a_nL m') (a_rt m') :: a_tb), ∀ (a' : Array Value) (U : State), s.WarmedH U.vm → w.before a' U = true := by
            intro w hw
            rcases List.mem_cons.mp hw with rfl | hw
            · exact a_words hts _ hmw.1
            · exact a_words hts w hw
          have hlen : as.length = np := by simp only [List.length_cons] at hasl; omega
          have hst : st.map (a_up b ex) = (as.map (a_up b ex)).reverse ++ .ref (b + k) :: (st.drop n).map (a_up b ex) := by
            rw [show st.map (a_up b ex) = ((Value.ref k :: as).reverse ++ st.drop n).map (a_up b ex) by rw [← hst2], a_up_reverse, List.map_cons, List.reverse_cons, List.append_assoc]; rfl
          have hrun := vx_runV (cc := a_by m) (nL := a_nL m) (own := (a_y m).cls) (index := idx) (bytes := a_by m') (maxL := a_nL m') (ret := a_rt m') (n := np) (Ts := a_tb) (C := (a_y m').cls) (e := e) (R := R) (args := args) (below := below) (meth := meth) (locs := locs) (cells := hn h - n0) (slots := hs h - s0) (g := F0 mid (a_pc m i) lsC (st.map (a_up b ex))) (rest := (st.drop n).map (a_up b ex)) ⟨k1.1, k1.2.1, k1.2.2.1, k1.2.2.2.2.2.2.1, hts⟩ hM ⟨⟨rfl, rfl, by show a_fr m' + 1 ≤ _; omega, by show 8 + (a_nL m' + 11) + a_lo m' ≤ _; omega, hws, List.mem_cons_self, hts _ hmw.1, hts _ hmw.2.1, hmw.2.2.1, hmw.par, hts _ hl⟩, hts _ hi9, hts _ hse⟩ hpv rfl (by rw [List.length_map]; exact hlen) k11.1 hst (lv_room (by rw [a_cs_map]; exact g2)) (a_chk_d hk) ⟨by omega, by omega⟩
          intro T hT XT
          rcases hrun T hT XT with ⟨v', st₀, t, T', L, h0, X', hL, e1, e2, ⟨⟨v2, hv2, hov⟩, hR, hz, hkq⟩, stp⟩ | ⟨q, st₀, t, T', L, E, ce, h0, X', hL, e1, e2, ⟨hE, hno, hR, hz, hkq⟩, hce, hcv, hcl, stp⟩
          · obtain ⟨o0, h1⟩ := r0
            have hv2 : o0 = some v2 := hv2
            subst hv2
            cases hov
            rw [h0] at hz hkq
            have hnext : X m (i + 1) ls (v2.toList ++ st.drop n) h1 = some r := by
              cases v2 with
              | none =>
                have hr : (bif bb then none else X m (i + 1) ls (st.drop n) h1) = some r := hr
                cases bb with
                | true => cases hr
                | false => exact hr
              | some v =>
                have hr : (bif bb then X m (i + 1) ls (v :: st.drop n) h1 else none) = some r := hr
                cases bb with
                | true => exact hr
                | false => cases hr
            simp only at w1 w2 w3 u1 u2 u3 X'
            have h9 := (hX0 _ _ _ _ _ _ hnext).2 p e R s mid args below meth c T'.heap (locs ++ L) n0 s0 lsC k1 (by rw [w3]; exact k2) kt k3 k4 k5 k6 (by omega) (by omega) (by rw [e1]; exact hR)
              ⟨Nat.le_trans k10.1 (by rw [e1]; exact hz), fun q h1 h2 => by rw [e1, hkq q (Nat.lt_of_lt_of_le h1 k10.1) h2]; exact k10.2.1 q h1 h2, fun q hq => by
                rcases List.mem_append.mp hq with h | h
                · exact k10.2.2 q h
                · exact hL q h⟩ k11
            rw [a_chk_n hk] at h9
            rw [show (v2.toList ++ st.drop n).map (a_up b ex) = (v2.map (a_up b ex)).toList ++ (st.drop n).map (a_up b ex) by cases v2 <;> rfl] at h9
            rw [show hn h - n0 + (hn h1 - hn h) = hn h1 - n0 by omega, show hs h - s0 + (hs h1 - hs h) = hs h1 - s0 by omega] at X'
            obtain ⟨t2, a1, b1⟩ := h9 T' rfl X'
            exact ⟨t2, stp t2 a1, b1⟩
          · obtain ⟨o0, h1⟩ := r0
            have hno : o0 = none := hno
            subst hno
            rw [h0] at hz hkq
            have hr : X m j (a_rm ls 3) [] h1 = some r := hr
            simp only at w1 w2 w3 u1 u2 u3 X' hR
            subst hE
            have hS1 : va_S (fun q => b ≤ q) s.heap T'.heap (locs ++ L) := ⟨Nat.le_trans k10.1 (by rw [e1]; exact hz), fun q h1 h2 => by rw [e1, hkq q (Nat.lt_of_lt_of_le h1 k10.1) h2]; exact k10.2.1 q h1 h2, fun q hq => by
                rcases List.mem_append.mp hq with h | h
                · exact k10.2.2 q h
                · exact hL q h⟩
            rw [show hn h - n0 + (hn h1 - hn h) = hn h1 - n0 by omega, show hs h - s0 + (hs h1 - hs h) = hs h1 - s0 by omega] at X'
            have hcat : vx_W p l e R s mid args below meth c T'.heap (locs ++ L) (hn h1 - n0) (hs h1 - s0) (vx_MQ below (a_Q b ex D aC r) (a_XC b D aC r) args s (hn r.2 - n0) (hs r.2 - s0) (fun q => b ≤ q)) (F0 mid (a_pc m i) lsC ((st.drop n).map (a_up b ex))) q := by
              refine vx_catch (own := (a_y m).cls) (name := RN0) (E := RN0) (ce := ce) k1.2.2.2.2.2.2.1 [] ⟨0, 9, 12, 13⟩ [] htab (fun z hz => nomatch hz) (by have := of_decide_eq_true hcov; simp [covers]; omega) (by decide) (hts _ hcl9) (hts _ hcast) (by rw [e1]; exact hce) hcv hcl ?_
              refine lv_astore_n (i := 3) k1.1 k1.2.1 hd12 rfl k11.has (of_decide_eq_true h3) rfl (fun ls' hl' => ?_)
              have h9 := (hX0 _ _ _ _ _ _ hr).2 p e R s mid args below meth c T'.heap (locs ++ L) n0 s0 ls' k1 (by rw [w3]; exact k2) kt k3 k4 k5 k6 (by omega) (by omega) (by rw [e1]; exact hR) hS1 (k11.rmv g5 hl')
              rw [hj] at h9
              exact h9
            obtain ⟨t2, a1, b1⟩ := hcat T' rfl X'
            exact ⟨t2, stp.trans a1, b1⟩
        | _ => exact Bool.noConfusion (show false = true from g4)
/-- the method that holds the catching call: by its table -/
theorem a_metH {l : Launch} {b : Nat} {ex : Nat → Option Nat} {D : va_G} {aC : Nat → ClassId} {as : List Value} {h : A_H} {r : A_R} (hpl : plainName (a_y 282).cls = true) (hcs : a_cs as ≤ a_nL 282) (hp0 : a_pc 282 0 = 0) (hW : a_W l b ex D aC 282 0 (a_ent (a_nL 282) as) [] h r) :
    vx_Met l (a_y 282) (Cond.codeWith (a_y 282) (a_by 282) (a_nL 282) (a_rt 282) [(0, 9, 12, 13)] :: a_tb) { frames := a_fr 282, cells := hn r.2 - hn h, slots := hs r.2 - hs h, locals := a_lo 282 } (va_Pc (as.map (a_up b ex)) (fun U => a_St b ex D aC (hX h) U ∧ a_Rep b D aC h U.heap)) (a_Q b ex D aC r) (a_XC b D aC r) (hn r.2 - hn h) (hs r.2 - hs h) (fun q => b ≤ q) := by
  refine vx_ofWH (cc := a_by 282) (maxL := a_nL 282) (ret := a_rt 282) (hh := [(0, 9, 12, 13)]) hpl rfl ?_
  intro p e s mid args' below meth c s₁ B hml hv
  obtain ⟨rfl, hSt, hRep⟩ := hv
  have hts := atoms_spec (ws := Cond.codeWith (a_y 282) (a_by 282) (a_nL 282) (a_rt 282) [(0, 9, 12, 13)] :: a_tb) B.pre
  have htab := vx_table (x := a_y 282) B (hts _ List.mem_cons_self)
  rw [lg_entry_eq]
  have hent := lv_entry (as.map (a_up b ex)) (n := a_nL 282) (by rw [a_sl_len]; exact hcs)
  generalize (lg_sl (as.map (a_up b ex)) ++ List.replicate (a_nL 282 - (lg_sl (as.map (a_up b ex))).length) Slot.unset).toArray = lsC at hent ⊢
  have hM : a_M 282 p s mid (as.map (a_up b ex)).toArray meth c := ⟨B.exec, B.bytes, hml, B.returns, B.notSynchronized, (name_of_methodNamed B.named B.method).1, findClass_of_methodNamed B.named, fun w hw => hts w (List.mem_cons_of_mem _ hw)⟩
  have hL : a_Loc b ex 282 (a_ent (a_nL 282) as) lsC := ⟨hent.1, hent.2.1, fun i v hv => hent.2.2 (i, a_up b ex v) (by have := a_ld_arg (b := b) (ex := ex) as 0 i v (a_ld_pad _ _ _ _ hv); rwa [Nat.zero_add] at this)⟩
  have h9 := hW.2 p e { frames := a_fr 282, cells := hn r.2 - hn h, slots := hs r.2 - hs h, locals := a_lo 282 } s mid _ below meth c s.heap [] (hn h) (hs h) lsC hM hSt (Or.inr ⟨rfl, htab⟩) (Nat.le_refl _) (Nat.le_refl _) (Nat.le_refl _) (Nat.le_refl _) (Nat.le_refl _) (Nat.le_refl _) hRep va_S.rf hL
  rw [Nat.sub_self, Nat.sub_self, hp0] at h9
  exact h9
theorem snd_callH {m i n nl np idx : Nat} {bb : Bool} (hcw : Cond.codeWith (a_y 282) (a_by 282) (a_nL 282) (a_rt 282) [(0, 9, 12, 13)] ∈ a_tb) (hini : Cond.initialized (a_y 282).cls ∈ a_tb) (hpar : (parseMethodDescriptor (a_y 282).desc).map (fun d => d.parameters.length) = some np) (hpl : plainName (a_y 282).cls = true) (hp0 : a_pc 282 0 = 0) (hnp : np = n) (hnl : nl = a_nL 282) (hrm : a_rm2 m 282 = true) (hs9 : Cond.static (a_y 282) ∈ a_tb) (hl : Cond.methodLink (a_y m).cls idx (a_y 282) ∈ a_tb) (hk : a_chk m i (.invokestatic idx) 3 = true) : a_Snd m i (s_call 0 282 n nl bb (i + 1)) := by
  unfold a_rm2 at hrm
  simp only [Bool.and_eq_true, decide_eq_true_eq] at hrm
  refine a_callG (ws9 := Cond.codeWith (a_y 282) (a_by 282) (a_nL 282) (a_rt 282) [(0, 9, 12, 13)] :: a_tb) (fun _ _ _ _ _ _ _ _ _ hcs9 W9 => a_metH hpl hcs9 hp0 W9) hnl (a_chk_n hk) (fun l b ex D aC p e R s mid args below meth c H locs cells slots lsC h as rest mc ms Qc hM k1 k2 k7 k8 hsz hlen hrk hcat k3 k4 k5 k6 => ?_)
  have hts := k1.2.2.2.2.2.2.2
  rw [a_up_reverse]
  refine vx_runSW (cc := a_by m) (nL := a_nL m) (own := (a_y m).cls) (index := idx) (bytes := a_by 282) (maxL := a_nL 282) (ret := a_rt 282) (hh := [(0, 9, 12, 13)]) (n := n) (Ts := a_tb) ⟨k1.1, k1.2.1, k1.2.2.1, k1.2.2.2.2.2.2.1, hts⟩ hM ⟨⟨rfl, rfl, by show a_fr 282 + 1 ≤ _; omega, by show 8 + (a_nL 282 + 11) + a_lo 282 ≤ _; omega, ?_, List.mem_cons_self⟩, hts _ hcw, hts _ hini, by decide +kernel, fun sig hs => ?_, hts _ hl, hts _ hs9⟩ (a_preS k2 k7 k8) rfl (by rw [List.length_map]; exact hlen) hsz rfl (lv_room hcat) (a_chk_d hk) ⟨k5, k6⟩
  · intro w hw
    rcases List.mem_cons.mp hw with rfl | hw
    · exact a_words hts _ hcw
    · exact a_words hts w hw
  · rw [hs] at hpar
    rw [← hnp]
    exact (Option.some.inj hpar).symm
