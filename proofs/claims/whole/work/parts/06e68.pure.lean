set_option maxRecDepth 16384 in
theorem sSt_z {bs : Nat → Int32} {n : Nat} {τ : Nat → Nat} (h : τ 4 = 0) : (sSt bs n τ) 4 = 0 := by rw [sSt_0 h]; rfl
set_option maxRecDepth 16384 in
theorem z_st {bs : Nat → Int32} {n : Nat} {τ : Nat → Nat} (h : (sSt bs n τ) 4 = 0) : τ 4 = 0 := Classical.byContradiction (fun c => c (by rw [sSt_1 c] at h; exact h))
set_option maxRecDepth 16384 in
theorem z_wd {bs : Nat → Int32} {n : Nat} {x : UInt32} {τ : Nat → Nat} (h : (sWd bs n x τ) 4 = 0) : τ 4 = 0 := Classical.byContradiction (fun c => c (by rw [sWd_1 c] at h; exact h))
set_option maxRecDepth 16384 in
theorem z_wh {bs : Nat → Int32} {n lo hi : Nat} {τ : Nat → Nat} (h : (sWh bs n lo hi τ) 4 = 0) : τ 4 = 0 := Classical.byContradiction (fun c => c (by rw [sWh_1 c] at h; exact h))
set_option maxRecDepth 16384 in
theorem z_nw {bs : Nat → Int32} {n : Nat} {P : Gh} {τ : Nat → Nat} (h : (sNw bs n P τ) 4 = 0) : τ 4 = 0 := Classical.byContradiction (fun c => c (by rw [sNw_1 c] at h; exact h))
set_option maxRecDepth 16384 in
theorem z_ki {bs : Nat → Int32} {n : Nat} {τ : Nat → Nat} (h : (sKi bs n τ) 4 = 0) : τ 4 = 0 := Classical.byContradiction (fun c => c (by rw [sKi_1 c] at h; exact h))
set_option maxRecDepth 16384 in
theorem z_kn {s : Nat} {P : Gh} {τ : Nat → Nat} (h : (sKn s P τ) 4 = 0) : τ 4 = 0 := Classical.byContradiction (fun c => c (by rw [sKn_1 c] at h; exact h))
set_option maxRecDepth 16384 in
theorem wh_b {bs : Nat → Int32} {n lo hi : Nat} {τ : Nat → Nat} (h : (sWh bs n lo hi τ) 4 = 0) : lo ≤ τ 3 ∧ τ 3 ≤ hi := by
  have e := z_wh h
  unfold sWh at h
  by_cases c : τ 0 = 2
  · rw [if_pos c] at h
    by_cases d : lo ≤ τ 3 ∧ τ 3 ≤ hi
    · exact d
    · rw [if_neg d] at h; exact absurd h (sFa_n e (by decide))
  · rw [if_neg c] at h; exact absurd h (sFa_n e (by decide))
set_option maxRecDepth 16384 in
theorem nw_b {bs : Nat → Int32} {n : Nat} {P : Gh} {τ : Nat → Nat} (h : (sNw bs n P τ) 4 = 0) : τ 0 = 1 ∧ fd P (τ 3) = none := by
  have e := z_nw h
  unfold sNw at h
  cases hn : inm τ with
  | false => rw [hn] at h; exact absurd h (sFa_n e (by decide))
  | true =>
    rw [hn, cond_true] at h
    refine ⟨inm_1 hn, ?_⟩
    cases hf : fd P (τ 3) with
    | none => rfl
    | some i => rw [hf] at h; exact absurd h (sFa_n e (by decide))
def ug (P : Gh) (a b v : Nat) : Gh := fun x y => if x = a ∧ y = b then v else P x y
set_option maxRecDepth 16384 in
theorem ug_e {P : Gh} {a b v : Nat} : ug P a b v a b = v := if_pos ⟨rfl, rfl⟩
set_option maxRecDepth 16384 in
theorem ug_n {P : Gh} {a b v x y : Nat} (h : ¬ (x = a ∧ y = b)) : ug P a b v x y = P x y := if_neg h
def rdP (T a b : Nat) : Prop := rP a b ∨ (T ≤ a ∧ a < T + 35)
def RD (T : Nat) (h h' : A_H) : Prop := FG (rdP T) rQ h h'
set_option maxRecDepth 16384 in
theorem RD_rfl (T : Nat) (h : A_H) : RD T h h := FG_rfl _ _ h
set_option maxRecDepth 16384 in
theorem RD_B {T : Nat} {h h' h'' : A_H} (a : RD T h h') (f : FB TF h' h'') : RD T h h'' := FG_tr a (FG_mo (fun a b q => Or.inl q) (fun _ _ q => q) (FB_G f))
set_option maxRecDepth 16384 in
theorem RD_G {T : Nat} {h h' h'' : A_H} (a : RD T h h') (f : FG rP rQ h' h'') : RD T h h'' := FG_tr a (FG_mo (fun a b q => Or.inl q) (fun _ _ q => q) f)
set_option maxRecDepth 16384 in
theorem RD_w {T : Nat} {h h' : A_H} (a : RD T h h') {k j : Nat} (v : Int32) (hk : T ≤ k ∧ k < T + 35) : RD T h (wI h' k j v) := FG_wI a v (Or.inr hk)
def RB (T : Nat) (h h' : A_H) : Prop := FG (fun a b => rdP T a b ∨ (a = 2 ∧ b = 3)) rQ h h'
set_option maxRecDepth 16384 in
theorem RB_of {T : Nat} {h h' : A_H} (a : RD T h h') : RB T h h' := FG_mo (fun _ _ q => Or.inl q) (fun _ _ q => q) a
set_option maxRecDepth 16384 in
theorem RB_23 (T : Nat) (h : A_H) (v : Int32) : RB T h (wI h 2 3 v) := FG_wI (FG_rfl _ _ h) v (Or.inr ⟨rfl, rfl⟩)
set_option maxRecDepth 16384 in
theorem RD_23 {T : Nat} (hT : isT T) {h h' : A_H} (a : RD T h h') : hI h' 2 3 = hI h 2 3 := FG_I a (by have hT3 : T = 3 ∨ T = 42 := hT; unfold rdP rP; omega)
set_option maxRecDepth 16384 in
theorem RD_Ly {T : Nat} {h h' : A_H} (a : RD T h h') (L : Ly h) : Ly h' := FG_Ly a L
set_option maxRecDepth 16384 in
theorem TR_B {T : Nat} (hT : isT T) {h h' : A_H} (f : FB TF h h') {a b : Nat} (h1 : T ≤ a) (h2 : a < T + 35) : hI h' a b = hI h a b := FB_I f (by unfold TF; rcases hT with rfl | rfl <;> omega)
set_option maxRecDepth 16384 in
theorem TR_G {T : Nat} (hT : isT T) {h h' : A_H} (f : FG rP rQ h h') {a b : Nat} (h1 : T ≤ a) (h2 : a < T + 35) : hI h' a b = hI h a b := FG_I f (by unfold rP; rcases hT with rfl | rfl <;> omega)
set_option maxRecDepth 16384 in
theorem CKt_w {h : A_H} {bs : Nat → Int32} {n : Nat} {τ : Nat → Nat} (t : CKt h bs n τ) {a b : Nat} (v : Int32) (h2 : ¬ a = 2) (h1 : ¬ a = 1) : CKt (wI h a b v) bs n τ := by
  have q : ∀ x y, (x = 2 ∨ x = 1) → hI (wI h a b v) x y = hI h x y := fun x y hx => by rw [hI_wI, if_neg (by omega)]
  obtain ⟨t1, t2, t3, e, t4, t5⟩ := t
  refine ⟨⟨(q 2 1 (Or.inl rfl)).trans t1.1, t1.2.1, fun k hk => (q 1 k (Or.inr rfl)).trans (t1.2.2 k hk)⟩, fun c => ?_, fun c => ?_, e, t4, (q 2 8 (Or.inl rfl)).trans t5⟩
  · obtain ⟨a1, a2, a3, a4, a5, a6⟩ := t2 c
    exact ⟨(q _ _ (Or.inl rfl)).trans a1, (q _ _ (Or.inl rfl)).trans a2, (q _ _ (Or.inl rfl)).trans a3, (q _ _ (Or.inl rfl)).trans a4, a5, a6⟩
  · obtain ⟨a1, a2, a3⟩ := t3 c
    exact ⟨(q _ _ (Or.inl rfl)).trans a1, a2, (q _ _ (Or.inl rfl)).trans a3⟩
set_option maxRecDepth 16384 in
theorem CN_w {h : A_H} {P : Gh} (c : CN h P) {a b : Nat} (v : Int32) (h2 : ¬ a = 2 ∧ ¬ a = 39 ∧ ¬ a = 40) : CN (wI h a b v) P := ⟨by rw [hI_wI, if_neg (by omega)]; exact c.1, c.2.1, fun i hi => by
  obtain ⟨c1, c2, c3, c4, c5, c6⟩ := c.2.2 i hi
  exact ⟨c1, c2, by rw [hI_wI, if_neg (by omega)]; exact c3, c4, by rw [hI_wI, if_neg (by omega)]; exact c5, c6⟩⟩
set_option maxRecDepth 16384 in
theorem CN_eq {h : A_H} {P P' : Gh} (c : CN h P) (e : ∀ a b, 30 ≤ a → P' a b = P a b) : CN h P' := by
  unfold CN
  rw [e 30 0 (by decide)]
  refine ⟨c.1, c.2.1, fun i hi => ?_⟩
  rw [e 31 i (by decide), e 32 i (by decide), e 33 i (by decide)]
  exact c.2.2 i hi
set_option maxRecDepth 16384 in
theorem CRs_w {h : A_H} (r : CRs h) {a b : Nat} (v : Int32) : CRs (wI h a b v) := r
set_option maxRecDepth 16384 in
theorem CRs_G {h h' : A_H} (f : FG rP rQ h h') (r : CRs h) : CRs h' := fun i hi => (FG_L f (by unfold rQ; omega)).trans (r i hi)
def CL (h : A_H) (T : Nat) (P : Gh) : Prop := ∀ i, P 0 2 ≤ i → i < 4 → hI h (T + 10 + i) 3 = 0
def NC (P : Gh) : Prop := P 30 0 = P 0 2 + P 0 3 + P 0 4 + P 0 5 ∧ (∀ i, i < P 30 0 → (P 31 i = 1 ∧ P 32 i < P 0 2) ∨ (P 31 i = 2 ∧ P 32 i < P 0 3) ∨ (P 31 i = 3 ∧ P 32 i < P 0 4) ∨ (P 31 i = 4 ∧ P 32 i < P 0 5)) ∧ P 0 7 = cnt (P 0 2) (fun i => decide (P 4 i = 1)) ∧ ∀ i, i < P 30 0 → P 33 i < 35184372088832
set_option maxRecDepth 16384 in
theorem nT {T k : Nat} (hT : isT T) (h : k < 35) : ¬ T + k = 2 ∧ ¬ T + k = 1 ∧ ¬ T + k = 39 ∧ ¬ T + k = 40 := by rcases hT with rfl | rfl <;> omega
def me1 (bs : Nat → Int32) (n : Nat) (P : Gh) (τ : Nat → Nat) : Nat → Nat := sRm bs n (P 0 2) 4 τ
def me2 (bs : Nat → Int32) (n : Nat) (P : Gh) (τ : Nat → Nat) : Nat → Nat := sNw bs n P (me1 bs n P τ)
def me3 (bs : Nat → Int32) (n : Nat) (P : Gh) (τ : Nat → Nat) : Nat → Nat := sWd bs n 14 (me2 bs n P τ)
def me4 (bs : Nat → Int32) (n : Nat) (P : Gh) (τ : Nat → Nat) : Nat → Nat := sWh bs n 0 9 (me3 bs n P τ)
def me5 (bs : Nat → Int32) (n : Nat) (P : Gh) (τ : Nat → Nat) : Nat → Nat := sWd bs n 15 (me4 bs n P τ)
def me6 (bs : Nat → Int32) (n : Nat) (P : Gh) (τ : Nat → Nat) : Nat → Nat := sWh bs n 0 9 (me5 bs n P τ)
def me7 (bs : Nat → Int32) (n : Nat) (P : Gh) (τ : Nat → Nat) : Nat → Nat := sWd bs n 16 (me6 bs n P τ)
def me8 (bs : Nat → Int32) (n : Nat) (P : Gh) (τ : Nat → Nat) : Nat → Nat := sWh bs n 1 300 (me7 bs n P τ)
def tr1 (bs : Nat → Int32) (n : Nat) (P : Gh) (τ : Nat → Nat) : Nat → Nat := sRm bs n (P 0 3) 4 τ
def tr2 (bs : Nat → Int32) (n : Nat) (P : Gh) (τ : Nat → Nat) : Nat → Nat := sNw bs n P (tr1 bs n P τ)
def tr3 (bs : Nat → Int32) (n : Nat) (P : Gh) (τ : Nat → Nat) : Nat → Nat := sWd bs n 17 (tr2 bs n P τ)
def tr4 (bs : Nat → Int32) (n : Nat) (P : Gh) (τ : Nat → Nat) : Nat → Nat := sWh bs n 0 99 (tr3 bs n P τ)
def tr5 (bs : Nat → Int32) (n : Nat) (P : Gh) (τ : Nat → Nat) : Nat → Nat := sWd bs n 18 (tr4 bs n P τ)
def tr6 (bs : Nat → Int32) (n : Nat) (P : Gh) (τ : Nat → Nat) : Nat → Nat := sWh bs n 0 3 (tr5 bs n P τ)
def ga1 (bs : Nat → Int32) (n : Nat) (P : Gh) (τ : Nat → Nat) : Nat → Nat := sRm bs n (P 0 4) 3 τ
def ga2 (bs : Nat → Int32) (n : Nat) (P : Gh) (τ : Nat → Nat) : Nat → Nat := sNw bs n P (ga1 bs n P τ)
def ga3 (bs : Nat → Int32) (n : Nat) (P : Gh) (τ : Nat → Nat) : Nat → Nat := sWd bs n 19 (ga2 bs n P τ)
def ga4 (bs : Nat → Int32) (n : Nat) (P : Gh) (τ : Nat → Nat) : Nat → Nat := sWh bs n 1 99 (ga3 bs n P τ)
def ga5 (bs : Nat → Int32) (n : Nat) (P : Gh) (τ : Nat → Nat) : Nat → Nat := sWd bs n 20 (ga4 bs n P τ)
def ga6 (bs : Nat → Int32) (n : Nat) (P : Gh) (τ : Nat → Nat) : Nat → Nat := sWh bs n 0 23 (ga5 bs n P τ)
def ga7 (bs : Nat → Int32) (n : Nat) (P : Gh) (τ : Nat → Nat) : Nat → Nat := sWd bs n 21 (ga6 bs n P τ)
def ga8 (bs : Nat → Int32) (n : Nat) (P : Gh) (τ : Nat → Nat) : Nat → Nat := sWh bs n (ga5 bs n P τ 3) 23 (ga7 bs n P τ)
def go1 (bs : Nat → Int32) (n : Nat) (P : Gh) (τ : Nat → Nat) : Nat → Nat := sRm bs n (P 0 5) 8 τ
def go2 (bs : Nat → Int32) (n : Nat) (P : Gh) (τ : Nat → Nat) : Nat → Nat := sNw bs n P (go1 bs n P τ)
def go3 (bs : Nat → Int32) (n : Nat) (P : Gh) (τ : Nat → Nat) : Nat → Nat := sKi bs n (go2 bs n P τ)
def go4 (bs : Nat → Int32) (n : Nat) (P : Gh) (τ : Nat → Nat) : Nat → Nat := sSt bs n (sKn 2 P (go3 bs n P τ))
def go5 (bs : Nat → Int32) (n : Nat) (P : Gh) (τ : Nat → Nat) : Nat → Nat := sWd bs n 11 (go4 bs n P τ)
def go6 (bs : Nat → Int32) (n : Nat) (P : Gh) (τ : Nat → Nat) : Nat → Nat := sSt bs n (sKn 1 P (go5 bs n P τ))
def go7 (bs : Nat → Int32) (n : Nat) (P : Gh) (τ : Nat → Nat) : Nat → Nat := if kd (go2 bs n P τ) = 0 then go4 bs n P τ else go6 bs n P τ
def go8 (bs : Nat → Int32) (n : Nat) (P : Gh) (τ : Nat → Nat) : Nat → Nat := sWd bs n 26 (go7 bs n P τ)
def go9 (bs : Nat → Int32) (n : Nat) (P : Gh) (τ : Nat → Nat) : Nat → Nat := sWh bs n 0 300 (go8 bs n P τ)
def go10 (bs : Nat → Int32) (n : Nat) (P : Gh) (τ : Nat → Nat) : Nat → Nat := sWd bs n 27 (go9 bs n P τ)
def go11 (bs : Nat → Int32) (n : Nat) (P : Gh) (τ : Nat → Nat) : Nat → Nat := sWh bs n 1 9 (go10 bs n P τ)
def go12 (bs : Nat → Int32) (n : Nat) (P : Gh) (τ : Nat → Nat) : Nat → Nat := sWd bs n 28 (go11 bs n P τ)
def go13 (bs : Nat → Int32) (n : Nat) (P : Gh) (τ : Nat → Nat) : Nat → Nat := sWh bs n 0 99 (go12 bs n P τ)
def cr1 (bs : Nat → Int32) (n : Nat) (P : Gh) (τ : Nat → Nat) : Nat → Nat := sRm bs n (P 0 6) 6 τ
def cr2 (bs : Nat → Int32) (n : Nat) (P : Gh) (τ : Nat → Nat) : Nat → Nat := sKn 2 P (cr1 bs n P τ)
def cr3 (bs : Nat → Int32) (n : Nat) (P : Gh) (τ : Nat → Nat) : Nat → Nat := sSt bs n (cr2 bs n P τ)
def cr4 (bs : Nat → Int32) (n : Nat) (P : Gh) (τ : Nat → Nat) : Nat → Nat := sKn 3 P (cr3 bs n P τ)
def cr5 (bs : Nat → Int32) (n : Nat) (P : Gh) (τ : Nat → Nat) : Nat → Nat := sSt bs n (cr4 bs n P τ)
def cr6 (bs : Nat → Int32) (n : Nat) (P : Gh) (τ : Nat → Nat) : Nat → Nat := sWd bs n 29 (cr5 bs n P τ)
def cr7 (bs : Nat → Int32) (n : Nat) (P : Gh) (τ : Nat → Nat) : Nat → Nat := sWh bs n (if P 0 6 = 0 then 0 else P 20 (P 0 6 - 1)) 60 (cr6 bs n P τ)
def cr8 (bs : Nat → Int32) (n : Nat) (P : Gh) (τ : Nat → Nat) : Nat → Nat := sWd bs n 30 (cr7 bs n P τ)
def cr9 (bs : Nat → Int32) (n : Nat) (P : Gh) (τ : Nat → Nat) : Nat → Nat := sWh bs n 0 23 (cr8 bs n P τ)
def cu1 (bs : Nat → Int32) (n : Nat) (P : Gh) (τ : Nat → Nat) : Nat → Nat := sRm bs n (P 0 9) 5 τ
def cu2 (bs : Nat → Int32) (n : Nat) (P : Gh) (τ : Nat → Nat) : Nat → Nat := sKn 1 P (cu1 bs n P τ)
def cu3 (bs : Nat → Int32) (n : Nat) (P : Gh) (τ : Nat → Nat) : Nat → Nat := sSt bs n (cu2 bs n P τ)
def cu4 (bs : Nat → Int32) (n : Nat) (P : Gh) (τ : Nat → Nat) : Nat → Nat := sWd bs n 29 (cu3 bs n P τ)
def cu5 (bs : Nat → Int32) (n : Nat) (P : Gh) (τ : Nat → Nat) : Nat → Nat := sWh bs n 0 60 (cu4 bs n P τ)
def hi1 (bs : Nat → Int32) (n : Nat) (P : Gh) (τ : Nat → Nat) : Nat → Nat := sSt bs n τ
def hi2 (bs : Nat → Int32) (n : Nat) (P : Gh) (τ : Nat → Nat) : Nat → Nat := sKn 4 P (hi1 bs n P τ)
def hi3 (bs : Nat → Int32) (n : Nat) (P : Gh) (τ : Nat → Nat) : Nat → Nat := bif (P 0 8).testBit (knV P (hi1 bs n P τ)) then sFa 3 (hi2 bs n P τ) else hi2 bs n P τ
def hi4 (bs : Nat → Int32) (n : Nat) (P : Gh) (τ : Nat → Nat) : Nat → Nat := sSt bs n (hi3 bs n P τ)
def pr1 (bs : Nat → Int32) (n : Nat) (P : Gh) (τ : Nat → Nat) : Nat → Nat := sSt bs n τ
def pr2 (bs : Nat → Int32) (n : Nat) (P : Gh) (τ : Nat → Nat) : Nat → Nat := sKn 1 P (pr1 bs n P τ)
def pr3 (bs : Nat → Int32) (n : Nat) (P : Gh) (τ : Nat → Nat) : Nat → Nat := bif decide (P 4 (knV P (pr1 bs n P τ)) = 1) then sFa 3 (pr2 bs n P τ) else pr2 bs n P τ
def pr4 (bs : Nat → Int32) (n : Nat) (P : Gh) (τ : Nat → Nat) : Nat → Nat := sSt bs n (pr3 bs n P τ)
def pr5 (bs : Nat → Int32) (n : Nat) (P : Gh) (τ : Nat → Nat) : Nat → Nat := sWd bs n 31 (pr4 bs n P τ)
def pr6 (bs : Nat → Int32) (n : Nat) (P : Gh) (τ : Nat → Nat) : Nat → Nat := sWh bs n 0 99 (pr5 bs n P τ)
def pr7 (bs : Nat → Int32) (n : Nat) (P : Gh) (τ : Nat → Nat) : Nat → Nat := sWd bs n 32 (pr6 bs n P τ)
def pr8 (bs : Nat → Int32) (n : Nat) (P : Gh) (τ : Nat → Nat) : Nat → Nat := sWh bs n 0 99 (pr7 bs n P τ)
def pMe (bs : Nat → Int32) (n : Nat) (P : Gh) (τ : Nat → Nat) : Gh := ug (ug (ug (ug (ug (ug (ug (adN P (me1 bs n P τ 3) 1 (P 0 2)) 1 (P 0 2) (me3 bs n P τ 3)) 2 (P 0 2) (me5 bs n P τ 3)) 3 (P 0 2) (me7 bs n P τ 3)) 4 (P 0 2) (0)) 5 (P 0 2) (0)) 6 (P 0 2) (0)) 0 2 (P 0 2 + 1)
set_option maxRecDepth 16384 in
theorem pMe_0 {bs : Nat → Int32} {n : Nat} {P : Gh} {τ : Nat → Nat} : ∀ j, ¬ j = 2 → pMe bs n P τ 0 j = P 0 j := by
  intro j hj
  unfold pMe
  rw [ug_n (by omega), ug_n (by omega), ug_n (by omega), ug_n (by omega), ug_n (by omega), ug_n (by omega), ug_n (by omega), adN_lo (by decide)]
set_option maxRecDepth 16384 in
theorem pMe_1 {bs : Nat → Int32} {n : Nat} {P : Gh} {τ : Nat → Nat} : pMe bs n P τ 0 2 = P 0 2 + 1 := by
  unfold pMe
  rw [ug_e]
set_option maxRecDepth 16384 in
theorem pMe_r {bs : Nat → Int32} {n : Nat} {P : Gh} {τ : Nat → Nat} : ∀ c i, 1 ≤ c → c ≤ 23 → ¬ ((1 ≤ c ∧ c ≤ 6) ∧ i = P 0 2) → pMe bs n P τ c i = P c i := by
  intro c i h1 h2 h3
  unfold pMe
  rw [ug_n (by omega), ug_n (by omega), ug_n (by omega), ug_n (by omega), ug_n (by omega), ug_n (by omega), ug_n (by omega), adN_lo (by omega)]
set_option maxRecDepth 16384 in
theorem pMe_n {bs : Nat → Int32} {n : Nat} {P : Gh} {τ : Nat → Nat} : ∀ a b, 30 ≤ a → pMe bs n P τ a b = (adN P (me1 bs n P τ 3) 1 (P 0 2)) a b := by
  intro a b h1
  unfold pMe
  rw [ug_n (by omega), ug_n (by omega), ug_n (by omega), ug_n (by omega), ug_n (by omega), ug_n (by omega), ug_n (by omega)]
set_option maxRecDepth 16384 in
theorem pMe_1v {bs : Nat → Int32} {n : Nat} {P : Gh} {τ : Nat → Nat} : pMe bs n P τ 1 (P 0 2) = me3 bs n P τ 3 := by
  unfold pMe
  rw [ug_n (by omega), ug_n (by omega), ug_n (by omega), ug_n (by omega), ug_n (by omega), ug_n (by omega), ug_e]
set_option maxRecDepth 16384 in
theorem pMe_2v {bs : Nat → Int32} {n : Nat} {P : Gh} {τ : Nat → Nat} : pMe bs n P τ 2 (P 0 2) = me5 bs n P τ 3 := by
  unfold pMe
  rw [ug_n (by omega), ug_n (by omega), ug_n (by omega), ug_n (by omega), ug_n (by omega), ug_e]
set_option maxRecDepth 16384 in
theorem pMe_3v {bs : Nat → Int32} {n : Nat} {P : Gh} {τ : Nat → Nat} : pMe bs n P τ 3 (P 0 2) = me7 bs n P τ 3 := by
  unfold pMe
  rw [ug_n (by omega), ug_n (by omega), ug_n (by omega), ug_n (by omega), ug_e]
set_option maxRecDepth 16384 in
theorem pMe_4v {bs : Nat → Int32} {n : Nat} {P : Gh} {τ : Nat → Nat} : pMe bs n P τ 4 (P 0 2) = 0 := by
  unfold pMe
  rw [ug_n (by omega), ug_n (by omega), ug_n (by omega), ug_e]
set_option maxRecDepth 16384 in
theorem pMe_5v {bs : Nat → Int32} {n : Nat} {P : Gh} {τ : Nat → Nat} : pMe bs n P τ 5 (P 0 2) = 0 := by
  unfold pMe
  rw [ug_n (by omega), ug_n (by omega), ug_e]
set_option maxRecDepth 16384 in
theorem pMe_6v {bs : Nat → Int32} {n : Nat} {P : Gh} {τ : Nat → Nat} : pMe bs n P τ 6 (P 0 2) = 0 := by
  unfold pMe
  rw [ug_n (by omega), ug_e]
def pTr (bs : Nat → Int32) (n : Nat) (P : Gh) (τ : Nat → Nat) : Gh := ug (ug (ug (adN P (tr1 bs n P τ 3) 2 (P 0 3)) 7 (P 0 3) (tr3 bs n P τ 3)) 8 (P 0 3) (tr5 bs n P τ 3)) 0 3 (P 0 3 + 1)
set_option maxRecDepth 16384 in
theorem pTr_0 {bs : Nat → Int32} {n : Nat} {P : Gh} {τ : Nat → Nat} : ∀ j, ¬ j = 3 → pTr bs n P τ 0 j = P 0 j := by
  intro j hj
  unfold pTr
  rw [ug_n (by omega), ug_n (by omega), ug_n (by omega), adN_lo (by decide)]
set_option maxRecDepth 16384 in
theorem pTr_1 {bs : Nat → Int32} {n : Nat} {P : Gh} {τ : Nat → Nat} : pTr bs n P τ 0 3 = P 0 3 + 1 := by
  unfold pTr
  rw [ug_e]
set_option maxRecDepth 16384 in
theorem pTr_r {bs : Nat → Int32} {n : Nat} {P : Gh} {τ : Nat → Nat} : ∀ c i, 1 ≤ c → c ≤ 23 → ¬ ((7 ≤ c ∧ c ≤ 8) ∧ i = P 0 3) → pTr bs n P τ c i = P c i := by
  intro c i h1 h2 h3
  unfold pTr
  rw [ug_n (by omega), ug_n (by omega), ug_n (by omega), adN_lo (by omega)]
set_option maxRecDepth 16384 in
theorem pTr_n {bs : Nat → Int32} {n : Nat} {P : Gh} {τ : Nat → Nat} : ∀ a b, 30 ≤ a → pTr bs n P τ a b = (adN P (tr1 bs n P τ 3) 2 (P 0 3)) a b := by
  intro a b h1
  unfold pTr
  rw [ug_n (by omega), ug_n (by omega), ug_n (by omega)]
set_option maxRecDepth 16384 in
theorem pTr_7v {bs : Nat → Int32} {n : Nat} {P : Gh} {τ : Nat → Nat} : pTr bs n P τ 7 (P 0 3) = tr3 bs n P τ 3 := by
  unfold pTr
  rw [ug_n (by omega), ug_n (by omega), ug_e]
set_option maxRecDepth 16384 in
theorem pTr_8v {bs : Nat → Int32} {n : Nat} {P : Gh} {τ : Nat → Nat} : pTr bs n P τ 8 (P 0 3) = tr5 bs n P τ 3 := by
  unfold pTr
  rw [ug_n (by omega), ug_e]
def pGa (bs : Nat → Int32) (n : Nat) (P : Gh) (τ : Nat → Nat) : Gh := ug (ug (ug (ug (adN P (ga1 bs n P τ 3) 3 (P 0 4)) 9 (P 0 4) (ga3 bs n P τ 3)) 10 (P 0 4) (ga5 bs n P τ 3)) 11 (P 0 4) (ga7 bs n P τ 3)) 0 4 (P 0 4 + 1)
set_option maxRecDepth 16384 in
theorem pGa_0 {bs : Nat → Int32} {n : Nat} {P : Gh} {τ : Nat → Nat} : ∀ j, ¬ j = 4 → pGa bs n P τ 0 j = P 0 j := by
  intro j hj
  unfold pGa
  rw [ug_n (by omega), ug_n (by omega), ug_n (by omega), ug_n (by omega), adN_lo (by decide)]
set_option maxRecDepth 16384 in
theorem pGa_1 {bs : Nat → Int32} {n : Nat} {P : Gh} {τ : Nat → Nat} : pGa bs n P τ 0 4 = P 0 4 + 1 := by
  unfold pGa
  rw [ug_e]
set_option maxRecDepth 16384 in
theorem pGa_r {bs : Nat → Int32} {n : Nat} {P : Gh} {τ : Nat → Nat} : ∀ c i, 1 ≤ c → c ≤ 23 → ¬ ((9 ≤ c ∧ c ≤ 11) ∧ i = P 0 4) → pGa bs n P τ c i = P c i := by
  intro c i h1 h2 h3
  unfold pGa
  rw [ug_n (by omega), ug_n (by omega), ug_n (by omega), ug_n (by omega), adN_lo (by omega)]
set_option maxRecDepth 16384 in
theorem pGa_n {bs : Nat → Int32} {n : Nat} {P : Gh} {τ : Nat → Nat} : ∀ a b, 30 ≤ a → pGa bs n P τ a b = (adN P (ga1 bs n P τ 3) 3 (P 0 4)) a b := by
  intro a b h1
  unfold pGa
  rw [ug_n (by omega), ug_n (by omega), ug_n (by omega), ug_n (by omega)]
set_option maxRecDepth 16384 in
theorem pGa_9v {bs : Nat → Int32} {n : Nat} {P : Gh} {τ : Nat → Nat} : pGa bs n P τ 9 (P 0 4) = ga3 bs n P τ 3 := by
  unfold pGa
  rw [ug_n (by omega), ug_n (by omega), ug_n (by omega), ug_e]
set_option maxRecDepth 16384 in
theorem pGa_10v {bs : Nat → Int32} {n : Nat} {P : Gh} {τ : Nat → Nat} : pGa bs n P τ 10 (P 0 4) = ga5 bs n P τ 3 := by
  unfold pGa
  rw [ug_n (by omega), ug_n (by omega), ug_e]
set_option maxRecDepth 16384 in
theorem pGa_11v {bs : Nat → Int32} {n : Nat} {P : Gh} {τ : Nat → Nat} : pGa bs n P τ 11 (P 0 4) = ga7 bs n P τ 3 := by
  unfold pGa
  rw [ug_n (by omega), ug_e]
def pGo (bs : Nat → Int32) (n : Nat) (P : Gh) (τ : Nat → Nat) : Gh := ug (ug (ug (ug (ug (ug (ug (adN P (go1 bs n P τ 3) 4 (P 0 5)) 12 (P 0 5) (kd (go2 bs n P τ))) 13 (P 0 5) (knV P (go5 bs n P τ))) 14 (P 0 5) (knV P (go3 bs n P τ))) 15 (P 0 5) (go8 bs n P τ 3)) 16 (P 0 5) (go10 bs n P τ 3)) 17 (P 0 5) (go12 bs n P τ 3)) 0 5 (P 0 5 + 1)
set_option maxRecDepth 16384 in
theorem pGo_0 {bs : Nat → Int32} {n : Nat} {P : Gh} {τ : Nat → Nat} : ∀ j, ¬ j = 5 → pGo bs n P τ 0 j = P 0 j := by
  intro j hj
  unfold pGo
  rw [ug_n (by omega), ug_n (by omega), ug_n (by omega), ug_n (by omega), ug_n (by omega), ug_n (by omega), ug_n (by omega), adN_lo (by decide)]
set_option maxRecDepth 16384 in
theorem pGo_1 {bs : Nat → Int32} {n : Nat} {P : Gh} {τ : Nat → Nat} : pGo bs n P τ 0 5 = P 0 5 + 1 := by
  unfold pGo
  rw [ug_e]
set_option maxRecDepth 16384 in
theorem pGo_r {bs : Nat → Int32} {n : Nat} {P : Gh} {τ : Nat → Nat} : ∀ c i, 1 ≤ c → c ≤ 23 → ¬ ((12 ≤ c ∧ c ≤ 17) ∧ i = P 0 5) → pGo bs n P τ c i = P c i := by
  intro c i h1 h2 h3
  unfold pGo
  rw [ug_n (by omega), ug_n (by omega), ug_n (by omega), ug_n (by omega), ug_n (by omega), ug_n (by omega), ug_n (by omega), adN_lo (by omega)]
set_option maxRecDepth 16384 in
theorem pGo_n {bs : Nat → Int32} {n : Nat} {P : Gh} {τ : Nat → Nat} : ∀ a b, 30 ≤ a → pGo bs n P τ a b = (adN P (go1 bs n P τ 3) 4 (P 0 5)) a b := by
  intro a b h1
  unfold pGo
  rw [ug_n (by omega), ug_n (by omega), ug_n (by omega), ug_n (by omega), ug_n (by omega), ug_n (by omega), ug_n (by omega)]
set_option maxRecDepth 16384 in
theorem pGo_12v {bs : Nat → Int32} {n : Nat} {P : Gh} {τ : Nat → Nat} : pGo bs n P τ 12 (P 0 5) = kd (go2 bs n P τ) := by
  unfold pGo
  rw [ug_n (by omega), ug_n (by omega), ug_n (by omega), ug_n (by omega), ug_n (by omega), ug_n (by omega), ug_e]
set_option maxRecDepth 16384 in
theorem pGo_13v {bs : Nat → Int32} {n : Nat} {P : Gh} {τ : Nat → Nat} : pGo bs n P τ 13 (P 0 5) = knV P (go5 bs n P τ) := by
  unfold pGo
  rw [ug_n (by omega), ug_n (by omega), ug_n (by omega), ug_n (by omega), ug_n (by omega), ug_e]
set_option maxRecDepth 16384 in
theorem pGo_14v {bs : Nat → Int32} {n : Nat} {P : Gh} {τ : Nat → Nat} : pGo bs n P τ 14 (P 0 5) = knV P (go3 bs n P τ) := by
  unfold pGo
  rw [ug_n (by omega), ug_n (by omega), ug_n (by omega), ug_n (by omega), ug_e]
set_option maxRecDepth 16384 in
theorem pGo_15v {bs : Nat → Int32} {n : Nat} {P : Gh} {τ : Nat → Nat} : pGo bs n P τ 15 (P 0 5) = go8 bs n P τ 3 := by
  unfold pGo
  rw [ug_n (by omega), ug_n (by omega), ug_n (by omega), ug_e]
set_option maxRecDepth 16384 in
theorem pGo_16v {bs : Nat → Int32} {n : Nat} {P : Gh} {τ : Nat → Nat} : pGo bs n P τ 16 (P 0 5) = go10 bs n P τ 3 := by
  unfold pGo
  rw [ug_n (by omega), ug_n (by omega), ug_e]
set_option maxRecDepth 16384 in
theorem pGo_17v {bs : Nat → Int32} {n : Nat} {P : Gh} {τ : Nat → Nat} : pGo bs n P τ 17 (P 0 5) = go12 bs n P τ 3 := by
  unfold pGo
  rw [ug_n (by omega), ug_e]
def pCr (bs : Nat → Int32) (n : Nat) (P : Gh) (τ : Nat → Nat) : Gh := ug (ug (ug (ug (ug (P) 18 (P 0 6) (knV P (cr1 bs n P τ))) 19 (P 0 6) (knV P (cr3 bs n P τ))) 20 (P 0 6) (cr6 bs n P τ 3)) 21 (P 0 6) (cr8 bs n P τ 3)) 0 6 (P 0 6 + 1)
set_option maxRecDepth 16384 in
theorem pCr_0 {bs : Nat → Int32} {n : Nat} {P : Gh} {τ : Nat → Nat} : ∀ j, ¬ j = 6 → pCr bs n P τ 0 j = P 0 j := by
  intro j hj
  unfold pCr
  rw [ug_n (by omega), ug_n (by omega), ug_n (by omega), ug_n (by omega), ug_n (by omega)]
set_option maxRecDepth 16384 in
theorem pCr_1 {bs : Nat → Int32} {n : Nat} {P : Gh} {τ : Nat → Nat} : pCr bs n P τ 0 6 = P 0 6 + 1 := by
  unfold pCr
  rw [ug_e]
set_option maxRecDepth 16384 in
theorem pCr_r {bs : Nat → Int32} {n : Nat} {P : Gh} {τ : Nat → Nat} : ∀ c i, 1 ≤ c → c ≤ 23 → ¬ ((18 ≤ c ∧ c ≤ 21) ∧ i = P 0 6) → pCr bs n P τ c i = P c i := by
  intro c i h1 h2 h3
  unfold pCr
  rw [ug_n (by omega), ug_n (by omega), ug_n (by omega), ug_n (by omega), ug_n (by omega)]
set_option maxRecDepth 16384 in
theorem pCr_n {bs : Nat → Int32} {n : Nat} {P : Gh} {τ : Nat → Nat} : ∀ a b, 30 ≤ a → pCr bs n P τ a b = (P) a b := by
  intro a b h1
  unfold pCr
  rw [ug_n (by omega), ug_n (by omega), ug_n (by omega), ug_n (by omega), ug_n (by omega)]
set_option maxRecDepth 16384 in
theorem pCr_18v {bs : Nat → Int32} {n : Nat} {P : Gh} {τ : Nat → Nat} : pCr bs n P τ 18 (P 0 6) = knV P (cr1 bs n P τ) := by
  unfold pCr
  rw [ug_n (by omega), ug_n (by omega), ug_n (by omega), ug_n (by omega), ug_e]
set_option maxRecDepth 16384 in
theorem pCr_19v {bs : Nat → Int32} {n : Nat} {P : Gh} {τ : Nat → Nat} : pCr bs n P τ 19 (P 0 6) = knV P (cr3 bs n P τ) := by
  unfold pCr
  rw [ug_n (by omega), ug_n (by omega), ug_n (by omega), ug_e]
set_option maxRecDepth 16384 in
theorem pCr_20v {bs : Nat → Int32} {n : Nat} {P : Gh} {τ : Nat → Nat} : pCr bs n P τ 20 (P 0 6) = cr6 bs n P τ 3 := by
  unfold pCr
  rw [ug_n (by omega), ug_n (by omega), ug_e]
set_option maxRecDepth 16384 in
theorem pCr_21v {bs : Nat → Int32} {n : Nat} {P : Gh} {τ : Nat → Nat} : pCr bs n P τ 21 (P 0 6) = cr8 bs n P τ 3 := by
  unfold pCr
  rw [ug_n (by omega), ug_e]
def pCu (bs : Nat → Int32) (n : Nat) (P : Gh) (τ : Nat → Nat) : Gh := ug (ug (ug (P) 22 (P 0 9) (knV P (cu1 bs n P τ))) 23 (P 0 9) (cu4 bs n P τ 3)) 0 9 (P 0 9 + 1)
set_option maxRecDepth 16384 in
theorem pCu_0 {bs : Nat → Int32} {n : Nat} {P : Gh} {τ : Nat → Nat} : ∀ j, ¬ j = 9 → pCu bs n P τ 0 j = P 0 j := by
  intro j hj
  unfold pCu
  rw [ug_n (by omega), ug_n (by omega), ug_n (by omega)]
set_option maxRecDepth 16384 in
theorem pCu_1 {bs : Nat → Int32} {n : Nat} {P : Gh} {τ : Nat → Nat} : pCu bs n P τ 0 9 = P 0 9 + 1 := by
  unfold pCu
  rw [ug_e]
set_option maxRecDepth 16384 in
theorem pCu_r {bs : Nat → Int32} {n : Nat} {P : Gh} {τ : Nat → Nat} : ∀ c i, 1 ≤ c → c ≤ 23 → ¬ ((22 ≤ c ∧ c ≤ 23) ∧ i = P 0 9) → pCu bs n P τ c i = P c i := by
  intro c i h1 h2 h3
  unfold pCu
  rw [ug_n (by omega), ug_n (by omega), ug_n (by omega)]
set_option maxRecDepth 16384 in
theorem pCu_n {bs : Nat → Int32} {n : Nat} {P : Gh} {τ : Nat → Nat} : ∀ a b, 30 ≤ a → pCu bs n P τ a b = (P) a b := by
  intro a b h1
  unfold pCu
  rw [ug_n (by omega), ug_n (by omega), ug_n (by omega)]
set_option maxRecDepth 16384 in
theorem pCu_22v {bs : Nat → Int32} {n : Nat} {P : Gh} {τ : Nat → Nat} : pCu bs n P τ 22 (P 0 9) = knV P (cu1 bs n P τ) := by
  unfold pCu
  rw [ug_n (by omega), ug_n (by omega), ug_e]
set_option maxRecDepth 16384 in
theorem pCu_23v {bs : Nat → Int32} {n : Nat} {P : Gh} {τ : Nat → Nat} : pCu bs n P τ 23 (P 0 9) = cu4 bs n P τ 3 := by
  unfold pCu
  rw [ug_n (by omega), ug_e]
