section KINDS
variable {m i m' n nl np idx : Nat} {bb : Bool}
theorem a_up_reverse (b : Nat) (ex : Nat → Option Nat) (as rest : List Value) : (as.reverse ++ rest).map (a_up b ex) = (as.map (a_up b ex)).reverse ++ rest.map (a_up b ex) := by
  rw [List.map_append, List.map_reverse]
theorem snd_callS (hmw : a_mw m' np) (hnp : np = n) (hnl : nl = a_nL m') (hrm : a_rm2 m m' = true) (hs9 : Cond.static (a_y m') ∈ a_tb) (hl : Cond.methodLink (a_y m).cls idx (a_y m') ∈ a_tb) (hk : a_chk m i (.invokestatic idx) 3 = true) : a_Snd m i (s_call 0 m' n nl bb (i + 1)) := by
  unfold a_rm2 at hrm
  simp only [Bool.and_eq_true, decide_eq_true_eq] at hrm
  refine a_callG (ws9 := Cond.code (a_y m') (a_by m') (a_nL m') (a_rt m') :: a_tb) (fun _ _ _ _ _ _ _ _ _ hcs9 W9 => a_met hmw.2.2.2.2.1 hcs9 hmw.2.2.2.2.2 W9) hnl (a_chk_n hk) (fun l b ex D aC p e R s mid args below meth c H locs cells slots lsC h as rest mc ms Qc hM k1 k2 k7 k8 hsz hlen hrk hcat k3 k4 k5 k6 => ?_)
  have hts := k1.2.2.2.2.2.2.2
  rw [a_up_reverse]
  refine va_runS (cc := a_by m) (nL := a_nL m) (own := (a_y m).cls) (index := idx) (bytes := a_by m') (maxL := a_nL m') (ret := a_rt m') (n := n) (Ts := a_tb) ⟨k1.1, k1.2.1, k1.2.2.1, k1.2.2.2.2.2.2.1, hts⟩ hM ⟨⟨rfl, rfl, by show a_fr m' + 1 ≤ _; omega, by show 8 + (a_nL m' + 11) + a_lo m' ≤ _; omega, ?_, List.mem_cons_self, hts _ hmw.1, hts _ hmw.2.1, hmw.2.2.1, fun sig hs => hnp ▸ hmw.par sig hs, hts _ hl⟩, hts _ hs9⟩ (a_preS k2 k7 k8) rfl (by rw [List.length_map]; exact hlen) hsz rfl (lv_room hcat) (a_chk_d hk) ⟨k5, k6⟩
  intro w hw
  rcases List.mem_cons.mp hw with rfl | hw
  · exact a_words hts _ hmw.1
  · exact a_words hts w hw
/-- the link of a method: of this class, or of a mate in the nest -/
def a_ml (own : String) (idx m' : Nat) : Prop := Cond.methodLink own idx (a_y m') ∈ a_tb ∨ ∃ host, Cond.methodLinkNest own idx (a_y m') host ∈ a_tb
theorem a_recvW {b : Nat} {ex : Nat → Option Nat} {D : va_G} {aC : Nat → ClassId} {h : A_H} {s : State} {H : Heap} {k ci : Nat} (hc : a_okc ci) (k2 : a_St b ex D aC (hX h) s) (k7 : a_Rep b D aC h H) (ho : isO h k ci = true) : ∃ cell : Cell, H[b + k]? = some cell ∧ cell.vm.isStatics = false ∧ s.vm.findClass (a_cq ci).1 = some cell.cls :=
  va_recv k2.1 k7.2 hc.1 (show (a_ws b aC h)[k]? = some (b + k, .inr (ci, a_fs b h k ci)) by rw [a_ws_at (isO_lt ho), a_e_O hc.2.1 (isO_sh ho)])
theorem snd_callV {ci : Nat} (hc : a_okc ci) (hcn : (a_cq ci).1 = (a_y m').cls) (hmw : a_mw m' np) (hnp : np + 1 = n) (hnl : nl = a_nL m') (hrm : a_rm2 m m' = true) (hi9 : Cond.instanceMethod (a_y m') ∈ a_tb) (hse : Cond.selects (a_y m').cls (a_y m') (a_y m') ∈ a_tb) (hl : a_ml (a_y m).cls idx m') (hk : a_chk m i (.invokevirtual idx) 3 = true) : a_Snd m i (s_call (ci + 3) m' n nl bb (i + 1)) := by
  unfold a_rm2 at hrm
  simp only [Bool.and_eq_true, decide_eq_true_eq] at hrm
  refine a_callG (ws9 := Cond.code (a_y m') (a_by m') (a_nL m') (a_rt m') :: a_tb) (fun _ _ _ _ _ _ _ _ _ hcs9 W9 => a_met hmw.2.2.2.2.1 hcs9 hmw.2.2.2.2.2 W9) hnl (a_chk_n hk) (fun l b ex D aC p e R s mid args below meth c H locs cells slots lsC h as rest mc ms Qc hM k1 k2 k7 k8 hsz hlen hrk hcat k3 k4 k5 k6 => ?_)
  have hts := k1.2.2.2.2.2.2.2
  cases as with
  | nil => simp at hlen; omega
  | cons v0 as =>
    cases v0 with
    | ref k =>
      have ho : isO h k ci = true := hrk
      have hp := a_preS (vs := (Value.ref k :: as).map (a_up b ex)) k2 k7 k8
      have hpv : PreV s H (a_y m').cls (b + k) (va_Pc ((Value.ref k :: as).map (a_up b ex)) (fun U => a_St b ex D aC (hX h) U ∧ a_Rep b D aC h U.heap)) (as.map (a_up b ex)) := ⟨hp.1, by rw [← hcn]; exact a_recvW hc k2 k7 ho, fun U hU hW => hp.2 U hU hW⟩
      have hws : ∀ w ∈ (Cond.code (a_y m') (a_by m') (a_nL m') (a_rt m') :: a_tb), ∀ (a' : Array Value) (U : State), s.WarmedH U.vm → w.before a' U = true := by
        intro w hw
        rcases List.mem_cons.mp hw with rfl | hw
        · exact a_words hts _ hmw.1
        · exact a_words hts w hw
      have hst : ((Value.ref k :: as).reverse ++ rest).map (a_up b ex) = (as.map (a_up b ex)).reverse ++ .ref (b + k) :: rest.map (a_up b ex) := by
        rw [a_up_reverse, List.map_cons, List.reverse_cons, List.append_assoc]; rfl
      rw [hst]
      have hlen : as.length = np := by simp only [List.length_cons] at hlen; omega
      rcases hl with hl | ⟨host, hl⟩
      · exact va_runV (cc := a_by m) (nL := a_nL m) (own := (a_y m).cls) (index := idx) (bytes := a_by m') (maxL := a_nL m') (ret := a_rt m') (n := np) (Ts := a_tb) (C := (a_y m').cls) ⟨k1.1, k1.2.1, k1.2.2.1, k1.2.2.2.2.2.2.1, hts⟩ hM ⟨⟨rfl, rfl, by show a_fr m' + 1 ≤ _; omega, by show 8 + (a_nL m' + 11) + a_lo m' ≤ _; omega, hws, List.mem_cons_self, hts _ hmw.1, hts _ hmw.2.1, hmw.2.2.1, hmw.par, hts _ hl⟩, hts _ hi9, hts _ hse⟩ hpv rfl (by rw [List.length_map]; exact hlen) hsz rfl (lv_room hcat) (a_chk_d hk) ⟨k5, k6⟩
      · exact va_runVN (cc := a_by m) (nL := a_nL m) (own := (a_y m).cls) (index := idx) (bytes := a_by m') (maxL := a_nL m') (ret := a_rt m') (n := np) (Ts := a_tb) (C := (a_y m').cls) (host := host) ⟨k1.1, k1.2.1, k1.2.2.1, k1.2.2.2.2.2.2.1, hts⟩ hM ⟨⟨⟨rfl, rfl, by show a_fr m' + 1 ≤ _; omega, by show 8 + (a_nL m' + 11) + a_lo m' ≤ _; omega, hws, List.mem_cons_self⟩, hts _ hmw.1, hts _ hmw.2.1, hmw.2.2.1, hmw.par, hts _ hl⟩, hts _ hi9, hts _ hse⟩ hpv rfl (by rw [List.length_map]; exact hlen) hsz rfl (lv_room hcat) (a_chk_d hk) ⟨k5, k6⟩
    | _ => exact Bool.noConfusion (show false = true from hrk)
theorem snd_callI (hnm : (a_y m').name = "<init>") (hrt : a_rt m' = none) (hmw : a_mw m' np) (hnp : np + 1 = n) (hnl : nl = a_nL m') (hrm : a_rm2 m m' = true) (hi9 : Cond.instanceMethod (a_y m') ∈ a_tb) (hl : a_ml (a_y m).cls idx m') (hk : a_chk m i (.invokespecial idx) 3 = true) : a_Snd m i (s_call 1 m' n nl bb (i + 1)) := by
  unfold a_rm2 at hrm
  simp only [Bool.and_eq_true, decide_eq_true_eq] at hrm
  refine a_callG (ws9 := Cond.code (a_y m') (a_by m') (a_nL m') (a_rt m') :: a_tb) (fun _ _ _ _ _ _ _ _ _ hcs9 W9 => a_met hmw.2.2.2.2.1 hcs9 hmw.2.2.2.2.2 W9) hnl (a_chk_n hk) (fun l b ex D aC p e R s mid args below meth c H locs cells slots lsC h as rest mc ms Qc hM k1 k2 k7 k8 hsz hlen hrk hcat k3 k4 k5 k6 => ?_)
  have hts := k1.2.2.2.2.2.2.2
  cases as with
  | nil => simp at hlen; omega
  | cons v0 as =>
    cases v0 with
    | ref k =>
      have hp := a_preS (vs := (Value.ref k :: as).map (a_up b ex)) k2 k7 k8
      have hws : ∀ w ∈ (Cond.code (a_y m') (a_by m') (a_nL m') (a_rt m') :: a_tb), ∀ (a' : Array Value) (U : State), s.WarmedH U.vm → w.before a' U = true := by
        intro w hw
        rcases List.mem_cons.mp hw with rfl | hw
        · exact a_words hts _ hmw.1
        · exact a_words hts w hw
      have hst : ((Value.ref k :: as).reverse ++ rest).map (a_up b ex) = (as.map (a_up b ex)).reverse ++ .ref (b + k) :: rest.map (a_up b ex) := by
        rw [a_up_reverse, List.map_cons, List.reverse_cons, List.append_assoc]; rfl
      rw [hst]
      have hlen : as.length = np := by simp only [List.length_cons] at hlen; omega
      have hcd := hmw.1
      rw [hrt] at hM hws hcd
      rcases hl with hl | ⟨host, hl⟩
      · exact va_runI (cc := a_by m) (nL := a_nL m) (own := (a_y m).cls) (index := idx) (bytes := a_by m') (maxL := a_nL m') (n := np) (Ts := a_tb) ⟨k1.1, k1.2.1, k1.2.2.1, k1.2.2.2.2.2.2.1, hts⟩ hM ⟨⟨rfl, rfl, by show a_fr m' + 1 ≤ _; omega, by show 8 + (a_nL m' + 11) + a_lo m' ≤ _; omega, hws, List.mem_cons_self, hts _ hcd, hts _ hmw.2.1, hmw.2.2.1, hmw.par, hts _ hl⟩, hnm, hts _ hi9⟩ hp rfl (by rw [List.length_map]; exact hlen) hsz rfl (lv_room hcat) (a_chk_d hk) ⟨k5, k6⟩
      · exact va_runIN (cc := a_by m) (nL := a_nL m) (own := (a_y m).cls) (index := idx) (bytes := a_by m') (maxL := a_nL m') (n := np) (Ts := a_tb) (host := host) ⟨k1.1, k1.2.1, k1.2.2.1, k1.2.2.2.2.2.2.1, hts⟩ hM ⟨⟨⟨rfl, rfl, by show a_fr m' + 1 ≤ _; omega, by show 8 + (a_nL m' + 11) + a_lo m' ≤ _; omega, hws, List.mem_cons_self⟩, hts _ hcd, hts _ hmw.2.1, hmw.2.2.1, hmw.par, hts _ hl⟩, hnm, hts _ hi9⟩ hp rfl (by rw [List.length_map]; exact hlen) hsz rfl (lv_room hcat) (a_chk_d hk) ⟨k5, k6⟩
    | _ => exact Bool.noConfusion (show false = true from hrk)
theorem snd_callT (hcn : (a_y m').cls = "java/lang/String") (hmw : a_mw m' np) (hnp : np + 1 = n) (hnl : nl = a_nL m') (hrm : a_rm2 m m' = true) (hi9 : Cond.instanceMethod (a_y m') ∈ a_tb) (hse : Cond.selects (a_y m').cls (a_y m') (a_y m') ∈ a_tb) (hl : Cond.methodLink (a_y m).cls idx (a_y m') ∈ a_tb) (hk : a_chk m i (.invokevirtual idx) 3 = true) : a_Snd m i (s_call 2 m' n nl bb (i + 1)) := by
  unfold a_rm2 at hrm
  simp only [Bool.and_eq_true, decide_eq_true_eq] at hrm
  refine a_callG (ws9 := Cond.code (a_y m') (a_by m') (a_nL m') (a_rt m') :: a_tb) (fun _ _ _ _ _ _ _ _ _ hcs9 W9 => a_met hmw.2.2.2.2.1 hcs9 hmw.2.2.2.2.2 W9) hnl (a_chk_n hk) (fun l b ex D aC p e R s mid args below meth c H locs cells slots lsC h as rest mc ms Qc hM k1 k2 k7 k8 hsz hlen hrk hcat k3 k4 k5 k6 => ?_)
  have hts := k1.2.2.2.2.2.2.2
  cases as with
  | nil => simp at hlen; omega
  | cons v0 as =>
    cases v0 with
    | float t =>
      have hrk : (decide (0 < t.toNat) && decide (t.toNat ≤ 32)) = true := hrk
      simp only [Bool.and_eq_true, decide_eq_true_eq] at hrk
      obtain ⟨ka, kv, x1, x2, x3, x4, x5, x6⟩ := k2.2.1.2.1 (t.toNat - 1) (by omega)
      have e0 : a_up b ex (.float t) = .ref ka := by show va_rf (ex t.toNat) = _; rw [show t.toNat = t.toNat - 1 + 1 by omega, x1]; rfl
      have hp := a_preS (vs := (Value.float t :: as).map (a_up b ex)) k2 k7 k8
      have hpv : PreV s H (a_y m').cls ka (va_Pc ((Value.float t :: as).map (a_up b ex)) (fun U => a_St b ex D aC (hX h) U ∧ a_Rep b D aC h U.heap)) (as.map (a_up b ex)) := by
        refine ⟨hp.1, ?_, fun U hU hW => ?_⟩
        · obtain ⟨cell, y1, y2, y3, y4⟩ := x3.kept (fun a ha hb => k8.2.1 a ha hb)
          exact ⟨cell, y1, y2, by rw [hcn]; exact y3⟩
        · have := hp.2 U hU hW
          rw [List.map_cons, e0] at this ⊢
          exact this
      have hws : ∀ w ∈ (Cond.code (a_y m') (a_by m') (a_nL m') (a_rt m') :: a_tb), ∀ (a' : Array Value) (U : State), s.WarmedH U.vm → w.before a' U = true := by
        intro w hw
        rcases List.mem_cons.mp hw with rfl | hw
        · exact a_words hts _ hmw.1
        · exact a_words hts w hw
      have hst : ((Value.float t :: as).reverse ++ rest).map (a_up b ex) = (as.map (a_up b ex)).reverse ++ .ref ka :: rest.map (a_up b ex) := by
        rw [a_up_reverse, List.map_cons, List.reverse_cons, List.append_assoc, e0]; rfl
      rw [hst]
      have hlen : as.length = np := by simp only [List.length_cons] at hlen; omega
      have hfin := va_runV (cc := a_by m) (nL := a_nL m) (own := (a_y m).cls) (index := idx) (bytes := a_by m') (maxL := a_nL m') (ret := a_rt m') (n := np) (Ts := a_tb) (C := (a_y m').cls) (R := R) (args := args) (below := below) (meth := meth) (locs := locs) (cells := cells) (slots := slots) (e := e) (g := F0 mid (a_pc m i) lsC ((as.map (a_up b ex)).reverse ++ .ref ka :: rest.map (a_up b ex))) (rest := rest.map (a_up b ex)) ⟨k1.1, k1.2.1, k1.2.2.1, k1.2.2.2.2.2.2.1, hts⟩ hM ⟨⟨rfl, rfl, by show a_fr m' + 1 ≤ _; omega, by show 8 + (a_nL m' + 11) + a_lo m' ≤ _; omega, hws, List.mem_cons_self, hts _ hmw.1, hts _ hmw.2.1, hmw.2.2.1, hmw.par, hts _ hl⟩, hts _ hi9, hts _ hse⟩ hpv rfl (by rw [List.length_map]; exact hlen) hsz rfl (lv_room hcat) (a_chk_d hk) ⟨k5, k6⟩
      rw [List.map_cons, e0]
      exact hfin
    | _ => exact Bool.noConfusion (show false = true from hrk)
end KINDS
