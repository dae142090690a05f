def BR (h : A_H) (D : Gh) (S : Nat → Nat) (n m : Nat) : Prop := (hP h 124 3 = none ∧ hI h 0 4 = 0 ∧ D = (fun _ _ => 0) ∧ S = (fun _ => 0) ∧ n = 0 ∧ m = 0) ∨ ∃ B, hP h 124 3 = some B ∧ ML h B ∧ MB h B D ∧ hI h 0 4 = 1 ∧ 0 < D 0 3 ∧ 0 < D 0 4
def J (X : Nat × (Nat → Int32)) (k : Nat) (h : A_H) (T : Nat) (D : Gh) (S : Nat → Nat) (o n : Nat) (H : Nat → Nat → Nat) (m : Nat) (K : Nat → Nat → Nat) (tn : Nat) : Prop := (Ly h ∧ hn h ≤ 134 + 25 * k ∧ hs h ≤ 20000 + 400 * k ∧ hX h = X ∧ CRs h) ∧ (isT T ∧ hP h 0 3 = some T ∧ hP h 2 2 = some (45 - T) ∧ WF D ∧ CT h T D ∧ CS h 77 D S ∧ WD D S ∧ RW h 126 S) ∧ (HC h D o n H ∧ MC h D m K ∧ HM h n H ∧ MM h m K ∧ (∀ i, i < n → WD D (H i)) ∧ (∀ i, i < m → WD D (K i))) ∧ BR h D S n m ∧ (hI h 124 1 = hI h 0 8 ∧ hI h 124 2 = (bif decide (hI h 0 8 = 4) then hI h 2 5 else -1) ∧ hI h 2 4 = hI h 124 12) ∧ (hI h 0 1 = nI tn ∧ hI h 124 6 = nI tn ∧ tn ≤ 1100 ∧ ∀ k, k < tn → hI h 125 k = hI h 1 k ∧ ∃ i : Int8, hI h 1 k = i.toInt32)
def Inv (X : Nat × (Nat → Int32)) (k : Nat) (h : A_H) : Prop := ∃ T D S o n H m K tn, J X k h T D S o n H m K tn
def vV (a b : Nat) : Prop := (a = 0 ∧ b = 8) ∨ a = 77 ∨ a = 78 ∨ (a = 79 ∧ (b = 1 ∨ b = 2 ∨ b = 4)) ∨ (82 ≤ a ∧ a < 120) ∨ (120 ≤ a ∧ a ≤ 123) ∨ a = 12 ∨ a = 51 ∨ (a = 124 ∧ (b ≤ 2 ∨ 19 ≤ b)) ∨ a = 126 ∨ a = 127 ∨ a = 128 ∨ a = 129 ∨ (130 ≤ a ∧ a ≤ 132)
set_option maxRecDepth 16384 in
theorem cq_v {h h' : A_H} (f : FR cq h h') : FR vV h h' := FR_mo (fun a b q => by unfold cq at q; unfold vV; omega) f
set_option maxRecDepth 16384 in
theorem ca_v {h h' : A_H} (f : FR ca h h') : FR vV h h' := FR_mo (fun a b q => by unfold ca at q; unfold vV; omega) f
set_option maxRecDepth 16384 in
theorem ma_v {h h' : A_H} (f : FR ma h h') : FR vV h h' := FR_mo (fun a b q => by unfold ma at q; unfold vV; omega) f
set_option maxRecDepth 16384 in
theorem qs_v {h h' : A_H} (f : QF h h') : FR vV h h' := FR_mo (P := qs) (fun a b q => by unfold qs at q; unfold vV; omega) f
set_option maxRecDepth 16384 in
theorem J_mk {X : Nat × (Nat → Int32)} {k : Nat} {h h2 : A_H} {T : Nat} {D : Gh} {S : Nat → Nat} {o n : Nat} {H : Nat → Nat → Nat} {m : Nat} {K : Nat → Nat → Nat} {tn : Nat} (j : J X k h T D S o n H m K tn) {S' : Nat → Nat} {o' n' : Nat} {H' : Nat → Nat → Nat} {m' : Nat} {K' : Nat → Nat → Nat} (f : FR vV h h2) (hb : hP h 124 3 = none → S' = S ∧ n' = n ∧ m' = m) (cs : CS h2 77 D S') (wd : WD D S') (rw' : RW h2 126 S') (hc : HC h2 D o' n' H') (mc : MC h2 D m' K') (hm : HM h2 n' H') (mm : MM h2 m' K') (w1 : ∀ i, i < n' → WD D (H' i)) (w2 : ∀ i, i < m' → WD D (K' i)) (e1 : hI h2 124 1 = hI h2 0 8) (e2 : hI h2 124 2 = -1) (e4 : ¬ hI h2 0 8 = 4) : Inv X (k + 1) h2 := by
  obtain ⟨⟨L, jn, js, jx, jr⟩, ⟨hT, p03, p22, w, ct, -, -, -⟩, -, br, ⟨-, -, jf⟩, ⟨t1, t2, t3, t4⟩⟩ := j
  have hT3 : T = 3 ∨ T = 42 := hT
  have P := FR_P f
  have I : ∀ a b, ¬ vV a b → hI h2 a b = hI h a b := fun a b q => FR_I f q
  refine ⟨T, D, S', o', n', H', m', K', tn, ⟨FR_Ly f L, by rw [f.1]; omega, by rw [f.2.1]; omega, by rw [f.2.2.2.2.2.1]; exact jx, fun i hi => by rw [f.2.2.2.1]; exact jr i hi⟩, ⟨hT, by rw [P]; exact p03, by rw [P]; exact p22, w, FR_CT f w ct (fun a b i1 i2 i3 q => by unfold vV at q; omega), cs, wd, rw'⟩, ⟨hc, mc, hm, mm, w1, w2⟩, ?_, ⟨e1, by rw [e2, dF e4]; rfl, by rw [I 2 4 (by unfold vV; omega), I 124 12 (by unfold vV; omega)]; exact jf⟩, ⟨by rw [I 0 1 (by unfold vV; omega)]; exact t1, by rw [I 124 6 (by unfold vV; omega)]; exact t2, t3, fun i hi => by rw [I 125 i (by unfold vV; omega), I 1 i (by unfold vV; omega)]; exact t4 i hi⟩⟩
  rcases br with ⟨b1, b2, b3, b4, b5, b6⟩ | ⟨B, b1, b2, b3, b4, b5, b6⟩
  · obtain ⟨c1, c2, c3⟩ := hb b1
    exact Or.inl ⟨by rw [P]; exact b1, by rw [I 0 4 (by unfold vV; omega)]; exact b2, b3, c1.trans b4, c2.trans b5, c3.trans b6⟩
  · have := m_134 b2
    exact Or.inr ⟨B, by rw [P]; exact b1, FR_ML f b2, FR_MB f b3 (fun a b ha q => by unfold vV at q; omega), by rw [I 0 4 (by unfold vV; omega)]; exact b4, b5, b6⟩
set_option maxRecDepth 16384 in
theorem MC_FR {P : Nat → Nat → Prop} {h h' : A_H} {D : Gh} {m : Nat} {K : Nat → Nat → Nat} (f : FR P h h') (k : MC h D m K) (n1 : ¬ P 79 4) (n2 : ∀ a b, (114 ≤ a ∧ a < 120) → ¬ P a b) : MC h' D m K := by
  obtain ⟨k1, k2, k3⟩ := k
  exact ⟨(FR_I f n1).trans k1, k2, fun i hi => FR_CS f (k3 i hi) (fun a b i1 i2 => n2 a b (by omega))⟩
set_option maxRecDepth 16384 in
theorem MM_FR {P : Nat → Nat → Prop} {h h' : A_H} {m : Nat} {K : Nat → Nat → Nat} (f : FR P h h') (k : MM h m K) (n1 : ¬ P 124 20) (n2 : ∀ b, ¬ P 129 b) : MM h' m K := ⟨(FR_I f n1).trans k.1, fun i hi j hj => (FR_I f (n2 _)).trans (k.2 i hi j hj)⟩
set_option maxRecDepth 16384 in
theorem J_q {X : Nat × (Nat → Int32)} {k : Nat} {h h1 h2 : A_H} {T : Nat} {D : Gh} {S : Nat → Nat} {o n : Nat} {H : Nat → Nat → Nat} {m : Nat} {K : Nat → Nat → Nat} {tn : Nat} (j : J X k h T D S o n H m K tn) {x : Int32} (f1 : FR cq h h1) (x1 : hI h1 0 8 = x) (f2 : QF h1 h2) (y1 : hI h2 124 1 = x) (y2 : hI h2 124 2 = -1) (x4 : ¬ x = 4) : Inv X (k + 1) h2 := by
  obtain ⟨-, ⟨-, -, -, w, -, cs, wd, r⟩, ⟨hc, mc, hm, mm, w1, w2⟩, -, -, -⟩ := id j
  have f2' : FR qs h1 h2 := f2
  have x2 : hI h2 0 8 = x := by rw [FR_I f2' (by unfold qs; omega)]; exact x1
  refine J_mk j (FR_tr (cq_v f1) (qs_v f2)) (fun _ => ⟨rfl, rfl, rfl⟩) ?_ wd ?_ (o' := o) (n' := n) (H' := H) (m' := m) (K' := K) ?_ ?_ ?_ ?_ w1 w2 (by rw [y1, x2]) y2 (by rw [x2]; exact x4)
  · exact FR_CS f2' (FR_CS f1 cs (fun a b i1 i2 => by unfold cq; omega)) (fun a b i1 i2 => by unfold qs; omega)
  · intro i hi
    rw [FR_I f2' (by unfold qs; omega), FR_I f1 (by unfold cq; omega)]; exact r i hi
  · exact HC_FR f2' (HC_FR f1 hc (fun a b i1 => by unfold cq; omega)) (fun a b i1 => by unfold qs; omega)
  · exact MC_FR f2' (MC_FR f1 mc (by unfold cq; omega) (fun a b i1 => by unfold cq; omega)) (by unfold qs; omega) (fun a b i1 => by unfold qs; omega)
  · exact HM_FR f2' (HM_FR f1 hm (by unfold cq; omega) (fun b => by unfold cq; omega)) (by unfold qs; omega) (fun b => by unfold qs; omega)
  · exact MM_FR f2' (MM_FR f1 mm (by unfold cq; omega) (fun b => by unfold cq; omega)) (by unfold qs; omega) (fun b => by unfold qs; omega)
def Stq (X : Nat × (Nat → Int32)) (k c m : Nat) (as : List Value) (h : A_H) : Prop := ∃ v h1 h2, C c (.ref 0 :: as) h = some (some (some (.int v)), h1) ∧ C m (.ref 124 :: as) h1 = some (some (some (.int v)), h2) ∧ Ly h1 ∧ hX h1 = X ∧ Inv X (k + 1) h2
def StqL (X : Nat × (Nat → Int32)) (k c m : Nat) (as : List Value) (h : A_H) : Prop := ∃ v h1 h2, C c (.ref 0 :: as) h = some (some (some (.long v)), h1) ∧ C m (.ref 124 :: as) h1 = some (some (some (.long v)), h2) ∧ Ly h1 ∧ hX h1 = X ∧ Inv X (k + 1) h2
set_option maxRecDepth 16384 in
theorem Stq_q {X : Nat × (Nat → Int32)} {k : Nat} {h : A_H} {T : Nat} {D : Gh} {S : Nat → Nat} {o n : Nat} {H : Nat → Nat → Nat} {m : Nat} {K : Nat → Nat → Nat} {tn : Nat} (j : J X k h T D S o n H m K tn) {c m' : Nat} {as : List Value} {v x : Int32} (ce : Ce c (.ref 0 :: as) h v x) (qe : ∀ h1, FR cq h h1 → Qe m' (.ref 124 :: as) h1 v x) (x4 : ¬ x = 4) : Stq X k c m' as h := by
  obtain ⟨h1, c1, c2, c3⟩ := ce
  obtain ⟨h2, d1, d2, d3, d4⟩ := qe h1 c2
  exact ⟨v, h1, h2, c1, d1, FR_Ly c2 j.1.1, by rw [c2.2.2.2.2.2.1]; exact j.1.2.2.2.1, J_q j c2 c3 d2 d3 d4 x4⟩
set_option maxRecDepth 16384 in
theorem Stq_L {X : Nat × (Nat → Int32)} {k : Nat} {h : A_H} {T : Nat} {D : Gh} {S : Nat → Nat} {o n : Nat} {H : Nat → Nat → Nat} {m : Nat} {K : Nat → Nat → Nat} {tn : Nat} (j : J X k h T D S o n H m K tn) {c m' : Nat} {as : List Value} {v : Int64} {x : Int32} (ce : CeL c (.ref 0 :: as) h v x) (qe : ∀ h1, FR cq h h1 → QeL m' (.ref 124 :: as) h1 v x) (x4 : ¬ x = 4) : StqL X k c m' as h := by
  obtain ⟨h1, c1, c2, c3⟩ := ce
  obtain ⟨h2, d1, d2, d3, d4⟩ := qe h1 c2
  exact ⟨v, h1, h2, c1, d1, FR_Ly c2 j.1.1, by rw [c2.2.2.2.2.2.1]; exact j.1.2.2.2.1, J_q j c2 c3 d2 d3 d4 x4⟩
set_option maxRecDepth 16384 in
theorem M_at {h h1 : A_H} {B : Nat} {D : Gh} {S : Nat → Nat} (f : FR cq h h1) (L : Ly h) (b1 : hP h 124 3 = some B) (b2 : ML h B) (b3 : MB h B D) (r : RW h 126 S) : Ly h1 ∧ hP h1 124 3 = some B ∧ ML h1 B ∧ MB h1 B D ∧ RW h1 126 S := by
  have := m_134 b2
  exact ⟨FR_Ly f L, by rw [FR_P f]; exact b1, FR_ML f b2, FR_MB f b3 (fun a b ha q => by unfold cq at q; omega), fun i hi => by rw [FR_I f (by unfold cq; omega)]; exact r i hi⟩
set_option maxRecDepth 16384 in
theorem Mq_at {h h1 : A_H} {D : Gh} {S : Nat → Nat} {n m : Nat} (f : FR cq h h1) (br : BR h D S n m) : Mq h1 D := by
  rcases br with ⟨b1, -, b3, -⟩ | ⟨B, b1, b2, b3, -⟩
  · exact Or.inl ⟨by rw [FR_P f]; exact b1, b3⟩
  · have := m_134 b2
    exact Or.inr ⟨B, by rw [FR_P f]; exact b1, FR_ML f b2, FR_MB f b3 (fun a b ha q => by unfold cq at q; omega)⟩
set_option maxRecDepth 16384 in
theorem eit_T {x y : Int32} (e : decide (eit x y = 0) = true) : decide (x = 0) = true ∧ decide (y = 0) = true := by
  unfold eit at e
  cases h : decide (x = 0) with
  | true => rw [h] at e; exact ⟨rfl, e⟩
  | false => rw [h, cond_false, h] at e; exact absurd e (by decide)
set_option maxRecDepth 16384 in
theorem gv_T {n : Nat} (hn : n < 1000) {x : Int32} (e : decide (gv n x = 0) = true) : ∃ g, g < n ∧ x = nI g := by
  unfold gv at e
  cases h : vd n x with
  | true => exact vd_T (by omega) h
  | false => rw [h] at e; exact absurd e (by decide)
set_option maxRecDepth 16384 in
theorem dv_T {x : Int32} (e : decide (dv x = 0) = true) : ∃ d, d ≤ 60 ∧ x = nI d := by
  unfold dv at e
  cases h : vd 61 x with
  | true => obtain ⟨d, h1, h2⟩ := vd_T (by decide) h; exact ⟨d, by omega, h2⟩
  | false => rw [h] at e; exact absurd e (by decide)
set_option maxRecDepth 16384 in
theorem sv_T {x : Int32} (e : decide (sv x = 0) = true) : ∃ d, d < 65537 ∧ x = nI d := by
  unfold sv at e
  cases h : vd 65537 x with
  | true => exact vd_T (by decide) h
  | false => rw [h] at e; exact absurd e (by decide)
def cc2 (x : Int32) : Prop := x = 0 ∨ x = 1 ∨ x = 2
set_option maxRecDepth 16384 in
theorem cc2_4 {x : Int32} (h : cc2 x) : ¬ x = 4 := by rcases h with h | h | h <;> rw [h] <;> decide
set_option maxRecDepth 16384 in
theorem cc2_e {x y : Int32} (h1 : cc2 x) (h2 : cc2 y) : cc2 (eit x y) := by
  unfold eit
  cases decide (x = 0) with
  | true => exact h2
  | false => exact h1
set_option maxRecDepth 16384 in
theorem cc2_g (n : Nat) (x : Int32) : cc2 (gv n x) := by unfold gv; cases vd n x with | true => exact Or.inl rfl | false => exact Or.inr (Or.inl rfl)
set_option maxRecDepth 16384 in
theorem cc2_d (x : Int32) : cc2 (dv x) := by unfold dv; cases vd 61 x with | true => exact Or.inl rfl | false => exact Or.inr (Or.inr rfl)
set_option maxRecDepth 16384 in
theorem cc2_s (x : Int32) : cc2 (sv x) := by unfold sv; cases vd 65537 x with | true => exact Or.inl rfl | false => exact Or.inr (Or.inr rfl)
set_option maxRecDepth 16384 in
theorem cc2_n (x : Int32) : cc2 (nv x) := by
  unfold nv
  cases decide (x < 1) with
  | true => exact Or.inr (Or.inr rfl)
  | false => cases decide ((50 : Int32) < x) with
    | true => exact Or.inr (Or.inr rfl)
    | false => exact Or.inl rfl
set_option maxRecDepth 16384 in
theorem s83 {X : Nat × (Nat → Int32)} {k : Nat} {h : A_H} {T : Nat} {D : Gh} {S : Nat → Nat} {o n : Nat} {H : Nat → Nat → Nat} {m : Nat} {K : Nat → Nat → Nat} {tn : Nat} (j : J X k h T D S o n H m K tn) (x : Int32) (y : Int32) : Stq X k 83 220 [.int x, .int y] h := by
  obtain ⟨⟨L, -, -, jx, -⟩, ⟨hT, p03, -, w, ct, cs, wd, r⟩, -, br, -, -⟩ := id j
  have k2 := f_nm w
  have k3 := f_nt w
  have k4 := f_ng w
  have k5 := f_nG w
  have k6 := f_nx w
  have k9 := f_nc w
  cases e : decide (eit (gv (D 0 5) x) (dv y) = 0) with
  | true =>
    obtain ⟨e1, e2⟩ := eit_T e
    obtain ⟨g, hg, rfl⟩ := gv_T (by omega) e1
    obtain ⟨d, hd, rfl⟩ := dv_T e2
    rcases br with ⟨b1, b2, b3, -⟩ | ⟨B, b1, b2, b3, b4, b5, b6⟩
    · subst b3; exact absurd hg (Nat.not_lt_zero _)
    · exact Stq_q j (Ce_of (a83 L hT w ct p03 cs wd hg hd)) (fun h1 f1 => by
        obtain ⟨L1, hB1, l1, mb1, r1⟩ := M_at f1 L b1 b2 b3 r
        exact Qe_of (m220 L1 hB1 l1 w mb1 wd r1 hg hd) (QF_wp (QF_0 h1) _ _)) (by decide)
  | false => exact Stq_q j (Ce_of (a83b L hT w ct p03 cs wd e)) (fun h1 f1 => Qe_of (m220b (FR_Ly f1 L) (Mq_at f1 br) e) (QF_0 h1)) (cc2_4 (cc2_e (cc2_g _ _) (cc2_d _)))
set_option maxRecDepth 16384 in
theorem s84 {X : Nat × (Nat → Int32)} {k : Nat} {h : A_H} {T : Nat} {D : Gh} {S : Nat → Nat} {o n : Nat} {H : Nat → Nat → Nat} {m : Nat} {K : Nat → Nat → Nat} {tn : Nat} (j : J X k h T D S o n H m K tn) (x : Int32) (y : Int32) : Stq X k 84 221 [.int x, .int y] h := by
  obtain ⟨⟨L, -, -, jx, -⟩, ⟨hT, p03, -, w, ct, cs, wd, r⟩, -, br, -, -⟩ := id j
  have k2 := f_nm w
  have k3 := f_nt w
  have k4 := f_ng w
  have k5 := f_nG w
  have k6 := f_nx w
  have k9 := f_nc w
  cases e : decide (eit (gv (D 0 5) x) (dv y) = 0) with
  | true =>
    obtain ⟨e1, e2⟩ := eit_T e
    obtain ⟨g, hg, rfl⟩ := gv_T (by omega) e1
    obtain ⟨d, hd, rfl⟩ := dv_T e2
    rcases br with ⟨b1, b2, b3, -⟩ | ⟨B, b1, b2, b3, b4, b5, b6⟩
    · subst b3; exact absurd hg (Nat.not_lt_zero _)
    · exact Stq_q j (Ce_of (a84 L hT w ct p03 cs wd hg hd)) (fun h1 f1 => by
        obtain ⟨L1, hB1, l1, mb1, r1⟩ := M_at f1 L b1 b2 b3 r
        exact Qe_of (m221 L1 hB1 l1 w mb1 wd r1 hg hd) (QF_wp (QF_0 h1) _ _)) (by decide)
  | false => exact Stq_q j (Ce_of (a84b L hT w ct p03 cs wd e)) (fun h1 f1 => Qe_of (m221b (FR_Ly f1 L) (Mq_at f1 br) e) (QF_0 h1)) (cc2_4 (cc2_e (cc2_g _ _) (cc2_d _)))
set_option maxRecDepth 16384 in
theorem s85 {X : Nat × (Nat → Int32)} {k : Nat} {h : A_H} {T : Nat} {D : Gh} {S : Nat → Nat} {o n : Nat} {H : Nat → Nat → Nat} {m : Nat} {K : Nat → Nat → Nat} {tn : Nat} (j : J X k h T D S o n H m K tn) (x : Int32) (y : Int32) : Stq X k 85 222 [.int x, .int y] h := by
  obtain ⟨⟨L, -, -, jx, -⟩, ⟨hT, p03, -, w, ct, cs, wd, r⟩, -, br, -, -⟩ := id j
  have k2 := f_nm w
  have k3 := f_nt w
  have k4 := f_ng w
  have k5 := f_nG w
  have k6 := f_nx w
  have k9 := f_nc w
  cases e : decide (eit (gv (D 0 5) x) (dv y) = 0) with
  | true =>
    obtain ⟨e1, e2⟩ := eit_T e
    obtain ⟨g, hg, rfl⟩ := gv_T (by omega) e1
    obtain ⟨d, hd, rfl⟩ := dv_T e2
    rcases br with ⟨b1, b2, b3, -⟩ | ⟨B, b1, b2, b3, b4, b5, b6⟩
    · subst b3; exact absurd hg (Nat.not_lt_zero _)
    · exact Stq_q j (Ce_of (a85 L hT w ct p03 cs wd hg hd)) (fun h1 f1 => by
        obtain ⟨L1, hB1, l1, mb1, r1⟩ := M_at f1 L b1 b2 b3 r
        exact Qe_of (m222 L1 hB1 l1 w mb1 wd r1 hg hd) (QF_wp (QF_0 h1) _ _)) (by decide)
  | false => exact Stq_q j (Ce_of (a85b L hT w ct p03 cs wd e)) (fun h1 f1 => Qe_of (m222b (FR_Ly f1 L) (Mq_at f1 br) e) (QF_0 h1)) (cc2_4 (cc2_e (cc2_g _ _) (cc2_d _)))
set_option maxRecDepth 16384 in
theorem s86 {X : Nat × (Nat → Int32)} {k : Nat} {h : A_H} {T : Nat} {D : Gh} {S : Nat → Nat} {o n : Nat} {H : Nat → Nat → Nat} {m : Nat} {K : Nat → Nat → Nat} {tn : Nat} (j : J X k h T D S o n H m K tn) (x : Int32) (y : Int32) : Stq X k 86 223 [.int x, .int y] h := by
  obtain ⟨⟨L, -, -, jx, -⟩, ⟨hT, p03, -, w, ct, cs, wd, r⟩, -, br, -, -⟩ := id j
  have k2 := f_nm w
  have k3 := f_nt w
  have k4 := f_ng w
  have k5 := f_nG w
  have k6 := f_nx w
  have k9 := f_nc w
  cases e : decide (eit (gv (D 0 5) x) (dv y) = 0) with
  | true =>
    obtain ⟨e1, e2⟩ := eit_T e
    obtain ⟨g, hg, rfl⟩ := gv_T (by omega) e1
    obtain ⟨d, hd, rfl⟩ := dv_T e2
    rcases br with ⟨b1, b2, b3, -⟩ | ⟨B, b1, b2, b3, b4, b5, b6⟩
    · subst b3; exact absurd hg (Nat.not_lt_zero _)
    · exact Stq_q j (Ce_of (a86 L hT w ct p03 cs wd hg hd)) (fun h1 f1 => by
        obtain ⟨L1, hB1, l1, mb1, r1⟩ := M_at f1 L b1 b2 b3 r
        exact Qe_of (m223 L1 hB1 l1 w mb1 wd r1 hg hd) (QF_wp (QF_0 h1) _ _)) (by decide)
  | false => exact Stq_q j (Ce_of (a86b L hT w ct p03 cs wd e)) (fun h1 f1 => Qe_of (m223b (FR_Ly f1 L) (Mq_at f1 br) e) (QF_0 h1)) (cc2_4 (cc2_e (cc2_g _ _) (cc2_d _)))
set_option maxRecDepth 16384 in
theorem s110 {X : Nat × (Nat → Int32)} {k : Nat} {h : A_H} {T : Nat} {D : Gh} {S : Nat → Nat} {o n : Nat} {H : Nat → Nat → Nat} {m : Nat} {K : Nat → Nat → Nat} {tn : Nat} (j : J X k h T D S o n H m K tn) (x : Int32) (y : Int32) : Stq X k 110 247 [.int x, .int y] h := by
  obtain ⟨⟨L, -, -, jx, -⟩, ⟨hT, p03, -, w, ct, cs, wd, r⟩, -, br, -, -⟩ := id j
  have k2 := f_nm w
  have k3 := f_nt w
  have k4 := f_ng w
  have k5 := f_nG w
  have k6 := f_nx w
  have k9 := f_nc w
  cases e : decide (eit (gv (D 0 5) x) (dv y) = 0) with
  | true =>
    obtain ⟨e1, e2⟩ := eit_T e
    obtain ⟨g, hg, rfl⟩ := gv_T (by omega) e1
    obtain ⟨d, hd, rfl⟩ := dv_T e2
    rcases br with ⟨b1, b2, b3, -⟩ | ⟨B, b1, b2, b3, b4, b5, b6⟩
    · subst b3; exact absurd hg (Nat.not_lt_zero _)
    · exact Stq_q j (Ce_of (a110 L hT w ct p03 cs wd hg hd)) (fun h1 f1 => by
        obtain ⟨L1, hB1, l1, mb1, r1⟩ := M_at f1 L b1 b2 b3 r
        exact Qe_of (m247 L1 hB1 l1 w mb1 wd r1 hg hd) (QF_wp (QF_0 h1) _ _)) (by decide)
  | false => exact Stq_q j (Ce_of (a110b L hT w ct p03 cs wd e)) (fun h1 f1 => Qe_of (m247b (FR_Ly f1 L) (Mq_at f1 br) e) (QF_0 h1)) (cc2_4 (cc2_e (cc2_g _ _) (cc2_d _)))
set_option maxRecDepth 16384 in
theorem s88 {X : Nat × (Nat → Int32)} {k : Nat} {h : A_H} {T : Nat} {D : Gh} {S : Nat → Nat} {o n : Nat} {H : Nat → Nat → Nat} {m : Nat} {K : Nat → Nat → Nat} {tn : Nat} (j : J X k h T D S o n H m K tn) (x : Int32) (y : Int32) (z : Int32) : Stq X k 88 225 [.int x, .int y, .int z] h := by
  obtain ⟨⟨L, -, -, jx, -⟩, ⟨hT, p03, -, w, ct, cs, wd, r⟩, -, br, -, -⟩ := id j
  have k2 := f_nm w
  have k3 := f_nt w
  have k4 := f_ng w
  have k5 := f_nG w
  have k6 := f_nx w
  have k9 := f_nc w
  cases e : decide (eit (eit (gv (D 0 3) x) (gv (D 0 4) y)) (dv z) = 0) with
  | true =>
    obtain ⟨e0, e3⟩ := eit_T e
    obtain ⟨e1, e2⟩ := eit_T e0
    obtain ⟨t, ht, rfl⟩ := gv_T (by omega) e1
    obtain ⟨g, hg, rfl⟩ := gv_T (by omega) e2
    obtain ⟨d, hd, rfl⟩ := dv_T e3
    rcases br with ⟨b1, b2, b3, -⟩ | ⟨B, b1, b2, b3, b4, b5, b6⟩
    · subst b3; exact absurd ht (Nat.not_lt_zero _)
    · exact Stq_q j (Ce_of (a88 L hT w ct p03 cs wd ht hg hd)) (fun h1 f1 => by
        obtain ⟨L1, hB1, l1, mb1, r1⟩ := M_at f1 L b1 b2 b3 r
        exact Qe_of (m225 L1 hB1 l1 w mb1 wd r1 ht hg hd) (QF_wp (QF_0 h1) _ _)) (by decide)
  | false => exact Stq_q j (Ce_of (a88b L hT w ct p03 cs wd e)) (fun h1 f1 => Qe_of (m225b (FR_Ly f1 L) (Mq_at f1 br) e) (QF_0 h1)) (cc2_4 (cc2_e (cc2_e (cc2_g _ _) (cc2_g _ _)) (cc2_d _)))
set_option maxRecDepth 16384 in
theorem s89 {X : Nat × (Nat → Int32)} {k : Nat} {h : A_H} {T : Nat} {D : Gh} {S : Nat → Nat} {o n : Nat} {H : Nat → Nat → Nat} {m : Nat} {K : Nat → Nat → Nat} {tn : Nat} (j : J X k h T D S o n H m K tn) (x : Int32) (y : Int32) (z : Int32) : Stq X k 89 226 [.int x, .int y, .int z] h := by
  obtain ⟨⟨L, -, -, jx, -⟩, ⟨hT, p03, -, w, ct, cs, wd, r⟩, -, br, -, -⟩ := id j
  have k2 := f_nm w
  have k3 := f_nt w
  have k4 := f_ng w
  have k5 := f_nG w
  have k6 := f_nx w
  have k9 := f_nc w
  cases e : decide (eit (eit (gv (D 0 3) x) (gv (D 0 4) y)) (dv z) = 0) with
  | true =>
    obtain ⟨e0, e3⟩ := eit_T e
    obtain ⟨e1, e2⟩ := eit_T e0
    obtain ⟨t, ht, rfl⟩ := gv_T (by omega) e1
    obtain ⟨g, hg, rfl⟩ := gv_T (by omega) e2
    obtain ⟨d, hd, rfl⟩ := dv_T e3
    rcases br with ⟨b1, b2, b3, -⟩ | ⟨B, b1, b2, b3, b4, b5, b6⟩
    · subst b3; exact absurd ht (Nat.not_lt_zero _)
    · exact Stq_q j (Ce_of (a89 L hT w ct p03 cs wd ht hg hd)) (fun h1 f1 => by
        obtain ⟨L1, hB1, l1, mb1, r1⟩ := M_at f1 L b1 b2 b3 r
        exact Qe_of (m226 L1 hB1 l1 w mb1 wd r1 ht hg hd) (QF_wp (QF_0 h1) _ _)) (by decide)
  | false => exact Stq_q j (Ce_of (a89b L hT w ct p03 cs wd e)) (fun h1 f1 => Qe_of (m226b (FR_Ly f1 L) (Mq_at f1 br) e) (QF_0 h1)) (cc2_4 (cc2_e (cc2_e (cc2_g _ _) (cc2_g _ _)) (cc2_d _)))
set_option maxRecDepth 16384 in
theorem s90 {X : Nat × (Nat → Int32)} {k : Nat} {h : A_H} {T : Nat} {D : Gh} {S : Nat → Nat} {o n : Nat} {H : Nat → Nat → Nat} {m : Nat} {K : Nat → Nat → Nat} {tn : Nat} (j : J X k h T D S o n H m K tn) (x : Int32) (y : Int32) (z : Int32) : Stq X k 90 227 [.int x, .int y, .int z] h := by
  obtain ⟨⟨L, -, -, jx, -⟩, ⟨hT, p03, -, w, ct, cs, wd, r⟩, -, br, -, -⟩ := id j
  have k2 := f_nm w
  have k3 := f_nt w
  have k4 := f_ng w
  have k5 := f_nG w
  have k6 := f_nx w
  have k9 := f_nc w
  cases e : decide (eit (eit (gv (D 0 3) x) (gv (D 0 4) y)) (dv z) = 0) with
  | true =>
    obtain ⟨e0, e3⟩ := eit_T e
    obtain ⟨e1, e2⟩ := eit_T e0
    obtain ⟨t, ht, rfl⟩ := gv_T (by omega) e1
    obtain ⟨g, hg, rfl⟩ := gv_T (by omega) e2
    obtain ⟨d, hd, rfl⟩ := dv_T e3
    rcases br with ⟨b1, b2, b3, -⟩ | ⟨B, b1, b2, b3, b4, b5, b6⟩
    · subst b3; exact absurd ht (Nat.not_lt_zero _)
    · exact Stq_q j (Ce_of (a90 L hT w ct p03 cs wd ht hg hd)) (fun h1 f1 => by
        obtain ⟨L1, hB1, l1, mb1, r1⟩ := M_at f1 L b1 b2 b3 r
        exact Qe_of (m227 L1 hB1 l1 w mb1 wd r1 ht hg hd) (QF_wp (QF_0 h1) _ _)) (by decide)
  | false => exact Stq_q j (Ce_of (a90b L hT w ct p03 cs wd e)) (fun h1 f1 => Qe_of (m227b (FR_Ly f1 L) (Mq_at f1 br) e) (QF_0 h1)) (cc2_4 (cc2_e (cc2_e (cc2_g _ _) (cc2_g _ _)) (cc2_d _)))
set_option maxRecDepth 16384 in
theorem s93 {X : Nat × (Nat → Int32)} {k : Nat} {h : A_H} {T : Nat} {D : Gh} {S : Nat → Nat} {o n : Nat} {H : Nat → Nat → Nat} {m : Nat} {K : Nat → Nat → Nat} {tn : Nat} (j : J X k h T D S o n H m K tn) (x : Int32) (y : Int32) (z : Int32) : Stq X k 93 230 [.int x, .int y, .int z] h := by
  obtain ⟨⟨L, -, -, jx, -⟩, ⟨hT, p03, -, w, ct, cs, wd, r⟩, -, br, -, -⟩ := id j
  have k2 := f_nm w
  have k3 := f_nt w
  have k4 := f_ng w
  have k5 := f_nG w
  have k6 := f_nx w
  have k9 := f_nc w
  cases e : decide (eit (eit (gv (D 0 3) x) (gv (D 0 4) y)) (dv z) = 0) with
  | true =>
    obtain ⟨e0, e3⟩ := eit_T e
    obtain ⟨e1, e2⟩ := eit_T e0
    obtain ⟨t, ht, rfl⟩ := gv_T (by omega) e1
    obtain ⟨g, hg, rfl⟩ := gv_T (by omega) e2
    obtain ⟨d, hd, rfl⟩ := dv_T e3
    rcases br with ⟨b1, b2, b3, -⟩ | ⟨B, b1, b2, b3, b4, b5, b6⟩
    · subst b3; exact absurd ht (Nat.not_lt_zero _)
    · exact Stq_q j (Ce_of (a93 L hT w ct p03 cs wd ht hg hd)) (fun h1 f1 => by
        obtain ⟨L1, hB1, l1, mb1, r1⟩ := M_at f1 L b1 b2 b3 r
        exact Qe_of (m230 L1 hB1 l1 w mb1 wd r1 ht hg hd) (QF_wp (QF_0 h1) _ _)) (by decide)
  | false => exact Stq_q j (Ce_of (a93b L hT w ct p03 cs wd e)) (fun h1 f1 => Qe_of (m230b (FR_Ly f1 L) (Mq_at f1 br) e) (QF_0 h1)) (cc2_4 (cc2_e (cc2_e (cc2_g _ _) (cc2_g _ _)) (cc2_d _)))
set_option maxRecDepth 16384 in
theorem s98 {X : Nat × (Nat → Int32)} {k : Nat} {h : A_H} {T : Nat} {D : Gh} {S : Nat → Nat} {o n : Nat} {H : Nat → Nat → Nat} {m : Nat} {K : Nat → Nat → Nat} {tn : Nat} (j : J X k h T D S o n H m K tn) (x : Int32) (y : Int32) (z : Int32) : Stq X k 98 237 [.int x, .int y, .int z] h := by
  obtain ⟨⟨L, -, -, jx, -⟩, ⟨hT, p03, -, w, ct, cs, wd, r⟩, -, br, -, -⟩ := id j
  have k2 := f_nm w
  have k3 := f_nt w
  have k4 := f_ng w
  have k5 := f_nG w
  have k6 := f_nx w
  have k9 := f_nc w
  cases e : decide (eit (eit (gv (D 0 3) x) (gv (D 0 4) y)) (dv z) = 0) with
  | true =>
    obtain ⟨e0, e3⟩ := eit_T e
    obtain ⟨e1, e2⟩ := eit_T e0
    obtain ⟨t, ht, rfl⟩ := gv_T (by omega) e1
    obtain ⟨g, hg, rfl⟩ := gv_T (by omega) e2
    obtain ⟨d, hd, rfl⟩ := dv_T e3
    rcases br with ⟨b1, b2, b3, -⟩ | ⟨B, b1, b2, b3, b4, b5, b6⟩
    · subst b3; exact absurd ht (Nat.not_lt_zero _)
    · exact Stq_q j (Ce_of (a98 L hT w ct p03 cs wd ht hg hd)) (fun h1 f1 => by
        obtain ⟨L1, hB1, l1, mb1, r1⟩ := M_at f1 L b1 b2 b3 r
        exact m237 L1 hB1 l1 w mb1 wd r1 ht hg hd) (by decide)
  | false => exact Stq_q j (Ce_of (a98b L hT w ct p03 cs wd e)) (fun h1 f1 => Qe_of (m237b (FR_Ly f1 L) (Mq_at f1 br) e) (QF_0 h1)) (cc2_4 (cc2_e (cc2_e (cc2_g _ _) (cc2_g _ _)) (cc2_d _)))
set_option maxRecDepth 16384 in
theorem s99 {X : Nat × (Nat → Int32)} {k : Nat} {h : A_H} {T : Nat} {D : Gh} {S : Nat → Nat} {o n : Nat} {H : Nat → Nat → Nat} {m : Nat} {K : Nat → Nat → Nat} {tn : Nat} (j : J X k h T D S o n H m K tn) (x : Int32) (y : Int32) (z : Int32) : Stq X k 99 238 [.int x, .int y, .int z] h := by
  obtain ⟨⟨L, -, -, jx, -⟩, ⟨hT, p03, -, w, ct, cs, wd, r⟩, -, br, -, -⟩ := id j
  have k2 := f_nm w
  have k3 := f_nt w
  have k4 := f_ng w
  have k5 := f_nG w
  have k6 := f_nx w
  have k9 := f_nc w
  cases e : decide (eit (eit (gv (D 0 3) x) (gv (D 0 4) y)) (dv z) = 0) with
  | true =>
    obtain ⟨e0, e3⟩ := eit_T e
    obtain ⟨e1, e2⟩ := eit_T e0
    obtain ⟨t, ht, rfl⟩ := gv_T (by omega) e1
    obtain ⟨g, hg, rfl⟩ := gv_T (by omega) e2
    obtain ⟨d, hd, rfl⟩ := dv_T e3
    rcases br with ⟨b1, b2, b3, -⟩ | ⟨B, b1, b2, b3, b4, b5, b6⟩
    · subst b3; exact absurd ht (Nat.not_lt_zero _)
    · exact Stq_q j (Ce_of (a99 L hT w ct p03 cs wd ht hg hd)) (fun h1 f1 => by
        obtain ⟨L1, hB1, l1, mb1, r1⟩ := M_at f1 L b1 b2 b3 r
        exact m238 L1 hB1 l1 w mb1 wd r1 ht hg hd) (by decide)
  | false => exact Stq_q j (Ce_of (a99b L hT w ct p03 cs wd e)) (fun h1 f1 => Qe_of (m238b (FR_Ly f1 L) (Mq_at f1 br) e) (QF_0 h1)) (cc2_4 (cc2_e (cc2_e (cc2_g _ _) (cc2_g _ _)) (cc2_d _)))
set_option maxRecDepth 16384 in
theorem s102 {X : Nat × (Nat → Int32)} {k : Nat} {h : A_H} {T : Nat} {D : Gh} {S : Nat → Nat} {o n : Nat} {H : Nat → Nat → Nat} {m : Nat} {K : Nat → Nat → Nat} {tn : Nat} (j : J X k h T D S o n H m K tn) (x : Int32) (y : Int32) (z : Int32) : Stq X k 102 240 [.int x, .int y, .int z] h := by
  obtain ⟨⟨L, -, -, jx, -⟩, ⟨hT, p03, -, w, ct, cs, wd, r⟩, -, br, -, -⟩ := id j
  have k2 := f_nm w
  have k3 := f_nt w
  have k4 := f_ng w
  have k5 := f_nG w
  have k6 := f_nx w
  have k9 := f_nc w
  cases e : decide (eit (eit (gv (D 0 3) x) (gv (D 0 4) y)) (dv z) = 0) with
  | true =>
    obtain ⟨e0, e3⟩ := eit_T e
    obtain ⟨e1, e2⟩ := eit_T e0
    obtain ⟨t, ht, rfl⟩ := gv_T (by omega) e1
    obtain ⟨g, hg, rfl⟩ := gv_T (by omega) e2
    obtain ⟨d, hd, rfl⟩ := dv_T e3
    rcases br with ⟨b1, b2, b3, -⟩ | ⟨B, b1, b2, b3, b4, b5, b6⟩
    · subst b3; exact absurd ht (Nat.not_lt_zero _)
    · exact Stq_q j (Ce_of (a102 L hT w ct p03 cs wd ht hg hd)) (fun h1 f1 => by
        obtain ⟨L1, hB1, l1, mb1, r1⟩ := M_at f1 L b1 b2 b3 r
        exact m240 L1 hB1 l1 w mb1 wd r1 ht hg hd) (by decide)
  | false => exact Stq_q j (Ce_of (a102b L hT w ct p03 cs wd e)) (fun h1 f1 => Qe_of (m240b (FR_Ly f1 L) (Mq_at f1 br) e) (QF_0 h1)) (cc2_4 (cc2_e (cc2_e (cc2_g _ _) (cc2_g _ _)) (cc2_d _)))
set_option maxRecDepth 16384 in
theorem s103 {X : Nat × (Nat → Int32)} {k : Nat} {h : A_H} {T : Nat} {D : Gh} {S : Nat → Nat} {o n : Nat} {H : Nat → Nat → Nat} {m : Nat} {K : Nat → Nat → Nat} {tn : Nat} (j : J X k h T D S o n H m K tn) (x : Int32) (y : Int32) (z : Int32) : Stq X k 103 241 [.int x, .int y, .int z] h := by
  obtain ⟨⟨L, -, -, jx, -⟩, ⟨hT, p03, -, w, ct, cs, wd, r⟩, -, br, -, -⟩ := id j
  have k2 := f_nm w
  have k3 := f_nt w
  have k4 := f_ng w
  have k5 := f_nG w
  have k6 := f_nx w
  have k9 := f_nc w
  cases e : decide (eit (eit (gv (D 0 3) x) (gv (D 0 4) y)) (dv z) = 0) with
  | true =>
    obtain ⟨e0, e3⟩ := eit_T e
    obtain ⟨e1, e2⟩ := eit_T e0
    obtain ⟨t, ht, rfl⟩ := gv_T (by omega) e1
    obtain ⟨g, hg, rfl⟩ := gv_T (by omega) e2
    obtain ⟨d, hd, rfl⟩ := dv_T e3
    rcases br with ⟨b1, b2, b3, -⟩ | ⟨B, b1, b2, b3, b4, b5, b6⟩
    · subst b3; exact absurd ht (Nat.not_lt_zero _)
    · exact Stq_q j (Ce_of (a103 L hT w ct p03 cs wd ht hg hd)) (fun h1 f1 => by
        obtain ⟨L1, hB1, l1, mb1, r1⟩ := M_at f1 L b1 b2 b3 r
        exact m241 L1 hB1 l1 w mb1 wd r1 ht hg hd) (by decide)
  | false => exact Stq_q j (Ce_of (a103b L hT w ct p03 cs wd e)) (fun h1 f1 => Qe_of (m241b (FR_Ly f1 L) (Mq_at f1 br) e) (QF_0 h1)) (cc2_4 (cc2_e (cc2_e (cc2_g _ _) (cc2_g _ _)) (cc2_d _)))
set_option maxRecDepth 16384 in
theorem s105 {X : Nat × (Nat → Int32)} {k : Nat} {h : A_H} {T : Nat} {D : Gh} {S : Nat → Nat} {o n : Nat} {H : Nat → Nat → Nat} {m : Nat} {K : Nat → Nat → Nat} {tn : Nat} (j : J X k h T D S o n H m K tn) (x : Int32) (y : Int32) (z : Int32) : Stq X k 105 242 [.int x, .int y, .int z] h := by
  obtain ⟨⟨L, -, -, jx, -⟩, ⟨hT, p03, -, w, ct, cs, wd, r⟩, -, br, -, -⟩ := id j
  have k2 := f_nm w
  have k3 := f_nt w
  have k4 := f_ng w
  have k5 := f_nG w
  have k6 := f_nx w
  have k9 := f_nc w
  cases e : decide (eit (eit (gv (D 0 3) x) (gv (D 0 4) y)) (dv z) = 0) with
  | true =>
    obtain ⟨e0, e3⟩ := eit_T e
    obtain ⟨e1, e2⟩ := eit_T e0
    obtain ⟨t, ht, rfl⟩ := gv_T (by omega) e1
    obtain ⟨g, hg, rfl⟩ := gv_T (by omega) e2
    obtain ⟨d, hd, rfl⟩ := dv_T e3
    rcases br with ⟨b1, b2, b3, -⟩ | ⟨B, b1, b2, b3, b4, b5, b6⟩
    · subst b3; exact absurd ht (Nat.not_lt_zero _)
    · exact Stq_q j (Ce_of (a105 L hT w ct p03 cs wd ht hg hd)) (fun h1 f1 => by
        obtain ⟨L1, hB1, l1, mb1, r1⟩ := M_at f1 L b1 b2 b3 r
        exact Qe_of (m242 L1 hB1 l1 w mb1 wd r1 ht hg hd) (QF_wp (QF_0 h1) _ _)) (by decide)
  | false => exact Stq_q j (Ce_of (a105b L hT w ct p03 cs wd e)) (fun h1 f1 => Qe_of (m242b (FR_Ly f1 L) (Mq_at f1 br) e) (QF_0 h1)) (cc2_4 (cc2_e (cc2_e (cc2_g _ _) (cc2_g _ _)) (cc2_d _)))
set_option maxRecDepth 16384 in
theorem s91 {X : Nat × (Nat → Int32)} {k : Nat} {h : A_H} {T : Nat} {D : Gh} {S : Nat → Nat} {o n : Nat} {H : Nat → Nat → Nat} {m : Nat} {K : Nat → Nat → Nat} {tn : Nat} (j : J X k h T D S o n H m K tn) (x : Int32) (y : Int32) : Stq X k 91 228 [.int x, .int y] h := by
  obtain ⟨⟨L, -, -, jx, -⟩, ⟨hT, p03, -, w, ct, cs, wd, r⟩, -, br, -, -⟩ := id j
  have k2 := f_nm w
  have k3 := f_nt w
  have k4 := f_ng w
  have k5 := f_nG w
  have k6 := f_nx w
  have k9 := f_nc w
  cases e : decide (eit (gv (D 0 3) x) (dv y) = 0) with
  | true =>
    obtain ⟨e1, e2⟩ := eit_T e
    obtain ⟨g, hg, rfl⟩ := gv_T (by omega) e1
    obtain ⟨d, hd, rfl⟩ := dv_T e2
    rcases br with ⟨b1, b2, b3, -⟩ | ⟨B, b1, b2, b3, b4, b5, b6⟩
    · subst b3; exact absurd hg (Nat.not_lt_zero _)
    · exact Stq_q j (Ce_of (a91 L hT w ct p03 cs wd hg hd)) (fun h1 f1 => by
        obtain ⟨L1, hB1, l1, mb1, r1⟩ := M_at f1 L b1 b2 b3 r
        exact Qe_of (m228 L1 hB1 l1 w mb1 wd r1 hg hd) (QF_wp (QF_0 h1) _ _)) (by decide)
  | false => exact Stq_q j (Ce_of (a91b L hT w ct p03 cs wd e)) (fun h1 f1 => Qe_of (m228b (FR_Ly f1 L) (Mq_at f1 br) e) (QF_0 h1)) (cc2_4 (cc2_e (cc2_g _ _) (cc2_d _)))
set_option maxRecDepth 16384 in
theorem s92 {X : Nat × (Nat → Int32)} {k : Nat} {h : A_H} {T : Nat} {D : Gh} {S : Nat → Nat} {o n : Nat} {H : Nat → Nat → Nat} {m : Nat} {K : Nat → Nat → Nat} {tn : Nat} (j : J X k h T D S o n H m K tn) (x : Int32) (y : Int32) : Stq X k 92 229 [.int x, .int y] h := by
  obtain ⟨⟨L, -, -, jx, -⟩, ⟨hT, p03, -, w, ct, cs, wd, r⟩, -, br, -, -⟩ := id j
  have k2 := f_nm w
  have k3 := f_nt w
  have k4 := f_ng w
  have k5 := f_nG w
  have k6 := f_nx w
  have k9 := f_nc w
  cases e : decide (eit (gv (D 0 2) x) (dv y) = 0) with
  | true =>
    obtain ⟨e1, e2⟩ := eit_T e
    obtain ⟨g, hg, rfl⟩ := gv_T (by omega) e1
    obtain ⟨d, hd, rfl⟩ := dv_T e2
    rcases br with ⟨b1, b2, b3, -⟩ | ⟨B, b1, b2, b3, b4, b5, b6⟩
    · subst b3; exact absurd hg (Nat.not_lt_zero _)
    · exact Stq_q j (Ce_of (a92 L hT w ct p03 cs wd hg hd)) (fun h1 f1 => by
        obtain ⟨L1, hB1, l1, mb1, r1⟩ := M_at f1 L b1 b2 b3 r
        exact Qe_of (m229 L1 hB1 l1 w mb1 wd r1 hg hd) (QF_wp (QF_0 h1) _ _)) (by decide)
  | false => exact Stq_q j (Ce_of (a92b L hT w ct p03 cs wd e)) (fun h1 f1 => Qe_of (m229b (FR_Ly f1 L) (Mq_at f1 br) e) (QF_0 h1)) (cc2_4 (cc2_e (cc2_g _ _) (cc2_d _)))
set_option maxRecDepth 16384 in
theorem s94 {X : Nat × (Nat → Int32)} {k : Nat} {h : A_H} {T : Nat} {D : Gh} {S : Nat → Nat} {o n : Nat} {H : Nat → Nat → Nat} {m : Nat} {K : Nat → Nat → Nat} {tn : Nat} (j : J X k h T D S o n H m K tn) (x : Int32) (y : Int32) : Stq X k 94 231 [.int x, .int y] h := by
  obtain ⟨⟨L, -, -, jx, -⟩, ⟨hT, p03, -, w, ct, cs, wd, r⟩, -, br, -, -⟩ := id j
  have k2 := f_nm w
  have k3 := f_nt w
  have k4 := f_ng w
  have k5 := f_nG w
  have k6 := f_nx w
  have k9 := f_nc w
  cases e : decide (eit (gv (D 0 3) x) (dv y) = 0) with
  | true =>
    obtain ⟨e1, e2⟩ := eit_T e
    obtain ⟨g, hg, rfl⟩ := gv_T (by omega) e1
    obtain ⟨d, hd, rfl⟩ := dv_T e2
    rcases br with ⟨b1, b2, b3, -⟩ | ⟨B, b1, b2, b3, b4, b5, b6⟩
    · subst b3; exact absurd hg (Nat.not_lt_zero _)
    · exact Stq_q j (Ce_of (a94 L hT w ct p03 cs wd hg hd b6)) (fun h1 f1 => by
        obtain ⟨L1, hB1, l1, mb1, r1⟩ := M_at f1 L b1 b2 b3 r
        exact Qe_of (m231 L1 hB1 l1 w mb1 wd r1 hg hd b6) (QF_wp (QF_0 h1) _ _)) (by decide)
  | false => exact Stq_q j (Ce_of (a94b L hT w ct p03 cs wd e)) (fun h1 f1 => Qe_of (m231b (FR_Ly f1 L) (Mq_at f1 br) e) (QF_0 h1)) (cc2_4 (cc2_e (cc2_g _ _) (cc2_d _)))
set_option maxRecDepth 16384 in
theorem s95 {X : Nat × (Nat → Int32)} {k : Nat} {h : A_H} {T : Nat} {D : Gh} {S : Nat → Nat} {o n : Nat} {H : Nat → Nat → Nat} {m : Nat} {K : Nat → Nat → Nat} {tn : Nat} (j : J X k h T D S o n H m K tn) (x : Int32) (y : Int32) : Stq X k 95 233 [.int x, .int y] h := by
  obtain ⟨⟨L, -, -, jx, -⟩, ⟨hT, p03, -, w, ct, cs, wd, r⟩, -, br, -, -⟩ := id j
  have k2 := f_nm w
  have k3 := f_nt w
  have k4 := f_ng w
  have k5 := f_nG w
  have k6 := f_nx w
  have k9 := f_nc w
  cases e : decide (eit (eit (gv (D 0 3) x) (gv (D 0 4) y)) (dv 0) = 0) with
  | true =>
    obtain ⟨e0, -⟩ := eit_T e
    obtain ⟨e1, e2⟩ := eit_T e0
    obtain ⟨t, ht, rfl⟩ := gv_T (by omega) e1
    obtain ⟨g, hg, rfl⟩ := gv_T (by omega) e2
    rcases br with ⟨b1, b2, b3, -⟩ | ⟨B, b1, b2, b3, b4, b5, b6⟩
    · subst b3; exact absurd ht (Nat.not_lt_zero _)
    · exact Stq_q j (Ce_of (a95 L hT w ct p03 cs wd ht hg)) (fun h1 f1 => by
        obtain ⟨L1, hB1, l1, mb1, r1⟩ := M_at f1 L b1 b2 b3 r
        exact m233 L1 hB1 l1 w mb1 wd r1 ht hg) (by decide)
  | false => exact Stq_q j (Ce_of (a95b L hT w ct p03 cs wd e)) (fun h1 f1 => m233b (FR_Ly f1 L) (Mq_at f1 br) e) (cc2_4 (cc2_e (cc2_e (cc2_g _ _) (cc2_g _ _)) (cc2_d _)))
set_option maxRecDepth 16384 in
theorem s96 {X : Nat × (Nat → Int32)} {k : Nat} {h : A_H} {T : Nat} {D : Gh} {S : Nat → Nat} {o n : Nat} {H : Nat → Nat → Nat} {m : Nat} {K : Nat → Nat → Nat} {tn : Nat} (j : J X k h T D S o n H m K tn) (x : Int32) (y : Int32) : Stq X k 96 234 [.int x, .int y] h := by
  obtain ⟨⟨L, -, -, jx, -⟩, ⟨hT, p03, -, w, ct, cs, wd, r⟩, -, br, -, -⟩ := id j
  have k2 := f_nm w
  have k3 := f_nt w
  have k4 := f_ng w
  have k5 := f_nG w
  have k6 := f_nx w
  have k9 := f_nc w
  cases e : decide (eit (eit (gv (D 0 3) x) (gv (D 0 4) y)) (dv 0) = 0) with
  | true =>
    obtain ⟨e0, -⟩ := eit_T e
    obtain ⟨e1, e2⟩ := eit_T e0
    obtain ⟨t, ht, rfl⟩ := gv_T (by omega) e1
    obtain ⟨g, hg, rfl⟩ := gv_T (by omega) e2
    rcases br with ⟨b1, b2, b3, -⟩ | ⟨B, b1, b2, b3, b4, b5, b6⟩
    · subst b3; exact absurd ht (Nat.not_lt_zero _)
    · exact Stq_q j (Ce_of (a96 L hT w ct p03 cs wd ht hg)) (fun h1 f1 => by
        obtain ⟨L1, hB1, l1, mb1, r1⟩ := M_at f1 L b1 b2 b3 r
        exact m234 L1 hB1 l1 w mb1 wd r1 ht hg) (by decide)
  | false => exact Stq_q j (Ce_of (a96b L hT w ct p03 cs wd e)) (fun h1 f1 => m234b (FR_Ly f1 L) (Mq_at f1 br) e) (cc2_4 (cc2_e (cc2_e (cc2_g _ _) (cc2_g _ _)) (cc2_d _)))
set_option maxRecDepth 16384 in
theorem s87 {X : Nat × (Nat → Int32)} {k : Nat} {h : A_H} {T : Nat} {D : Gh} {S : Nat → Nat} {o n : Nat} {H : Nat → Nat → Nat} {m : Nat} {K : Nat → Nat → Nat} {tn : Nat} (j : J X k h T D S o n H m K tn) (x : Int32) : Stq X k 87 224 [.int x] h := by
  obtain ⟨⟨L, -, -, jx, -⟩, ⟨hT, p03, -, w, ct, cs, wd, r⟩, -, br, -, -⟩ := id j
  have k2 := f_nm w
  have k3 := f_nt w
  have k4 := f_ng w
  have k5 := f_nG w
  have k6 := f_nx w
  have k9 := f_nc w
  cases e : vd (D 0 5) x with
  | true =>
    obtain ⟨g, hg, rfl⟩ := vd_T (by omega) e
    rcases br with ⟨b1, b2, b3, -⟩ | ⟨B, b1, b2, b3, b4, b5, b6⟩
    · subst b3; exact absurd hg (Nat.not_lt_zero _)
    · exact Stq_q j (Ce_of (a87 L hT w ct p03 cs wd hg)) (fun h1 f1 => by
        obtain ⟨L1, hB1, l1, mb1, r1⟩ := M_at f1 L b1 b2 b3 r
        exact Qe_of (m224 L1 hB1 l1 w mb1 wd r1 hg) (QF_0 h1)) (by decide)
  | false => exact Stq_q j (Ce_of (a87b L hT w ct p03 cs wd e)) (fun h1 f1 => Qe_of (m224b (FR_Ly f1 L) (Mq_at f1 br) e) (QF_0 h1)) (by decide)
set_option maxRecDepth 16384 in
theorem s106 {X : Nat × (Nat → Int32)} {k : Nat} {h : A_H} {T : Nat} {D : Gh} {S : Nat → Nat} {o n : Nat} {H : Nat → Nat → Nat} {m : Nat} {K : Nat → Nat → Nat} {tn : Nat} (j : J X k h T D S o n H m K tn) (x : Int32) : Stq X k 106 244 [.int x] h := by
  obtain ⟨⟨L, -, -, jx, -⟩, ⟨hT, p03, -, w, ct, cs, wd, r⟩, -, br, -, -⟩ := id j
  have k2 := f_nm w
  have k3 := f_nt w
  have k4 := f_ng w
  have k5 := f_nG w
  have k6 := f_nx w
  have k9 := f_nc w
  cases e : vd (D 0 5) x with
  | true =>
    obtain ⟨g, hg, rfl⟩ := vd_T (by omega) e
    rcases br with ⟨b1, b2, b3, -⟩ | ⟨B, b1, b2, b3, b4, b5, b6⟩
    · subst b3; exact absurd hg (Nat.not_lt_zero _)
    · exact Stq_q j (Ce_of (a106 L hT w ct p03 cs wd hg)) (fun h1 f1 => by
        obtain ⟨L1, hB1, l1, mb1, r1⟩ := M_at f1 L b1 b2 b3 r
        exact m244 L1 hB1 l1 w mb1 wd r1 hg) (by decide)
  | false => exact Stq_q j (Ce_of (a106b L hT w ct p03 cs wd e)) (fun h1 f1 => m244b (FR_Ly f1 L) (Mq_at f1 br) e) (by decide)
set_option maxRecDepth 16384 in
theorem s107 {X : Nat × (Nat → Int32)} {k : Nat} {h : A_H} {T : Nat} {D : Gh} {S : Nat → Nat} {o n : Nat} {H : Nat → Nat → Nat} {m : Nat} {K : Nat → Nat → Nat} {tn : Nat} (j : J X k h T D S o n H m K tn) (x : Int32) : Stq X k 107 245 [.int x] h := by
  obtain ⟨⟨L, -, -, jx, -⟩, ⟨hT, p03, -, w, ct, cs, wd, r⟩, -, br, -, -⟩ := id j
  have k2 := f_nm w
  have k3 := f_nt w
  have k4 := f_ng w
  have k5 := f_nG w
  have k6 := f_nx w
  have k9 := f_nc w
  cases e : vd (D 0 5) x with
  | true =>
    obtain ⟨g, hg, rfl⟩ := vd_T (by omega) e
    rcases br with ⟨b1, b2, b3, -⟩ | ⟨B, b1, b2, b3, b4, b5, b6⟩
    · subst b3; exact absurd hg (Nat.not_lt_zero _)
    · exact Stq_q j (Ce_of (a107 L hT w ct p03 cs wd hg)) (fun h1 f1 => by
        obtain ⟨L1, hB1, l1, mb1, r1⟩ := M_at f1 L b1 b2 b3 r
        exact m245 L1 hB1 l1 w mb1 wd r1 hg) (by decide)
  | false => exact Stq_q j (Ce_of (a107b L hT w ct p03 cs wd e)) (fun h1 f1 => m245b (FR_Ly f1 L) (Mq_at f1 br) e) (by decide)
set_option maxRecDepth 16384 in
theorem s80 {X : Nat × (Nat → Int32)} {k : Nat} {h : A_H} {T : Nat} {D : Gh} {S : Nat → Nat} {o n : Nat} {H : Nat → Nat → Nat} {m : Nat} {K : Nat → Nat → Nat} {tn : Nat} (j : J X k h T D S o n H m K tn) (x : Int32) (y : Int32) : Stq X k 80 215 [.int x, .int y] h := by
  obtain ⟨⟨L, -, -, jx, -⟩, ⟨hT, p03, -, w, ct, cs, wd, r⟩, -, br, -, -⟩ := id j
  have k2 := f_nm w
  have k3 := f_nt w
  have k4 := f_ng w
  have k5 := f_nG w
  have k6 := f_nx w
  have k9 := f_nc w
  cases e : (vd 6 y && vd (D 0 5) x) with
  | true =>
    rw [Bool.and_eq_true] at e
    obtain ⟨g, hg, rfl⟩ := vd_T (by omega) e.2
    obtain ⟨i, hi, rfl⟩ := vd_T (by decide) e.1
    rcases br with ⟨b1, b2, b3, -⟩ | ⟨B, b1, b2, b3, b4, b5, b6⟩
    · subst b3; exact absurd hg (Nat.not_lt_zero _)
    · exact Stq_q j (Ce_of (a80 L hT w ct p03 cs wd hg hi)) (fun h1 f1 => by
        obtain ⟨L1, hB1, l1, mb1, r1⟩ := M_at f1 L b1 b2 b3 r
        exact Qe_of (m215 L1 hB1 l1 w mb1 wd r1 hg hi) (QF_0 h1)) (by decide)
  | false => exact Stq_q j (Ce_of (a80b L hT w ct p03 cs wd e)) (fun h1 f1 => Qe_of (m215b (FR_Ly f1 L) (Mq_at f1 br) e) (QF_0 h1)) (by decide)
set_option maxRecDepth 16384 in
theorem s81 {X : Nat × (Nat → Int32)} {k : Nat} {h : A_H} {T : Nat} {D : Gh} {S : Nat → Nat} {o n : Nat} {H : Nat → Nat → Nat} {m : Nat} {K : Nat → Nat → Nat} {tn : Nat} (j : J X k h T D S o n H m K tn) (x : Int32) (y : Int32) : Stq X k 81 217 [.int x, .int y] h := by
  obtain ⟨⟨L, -, -, jx, -⟩, ⟨hT, p03, -, w, ct, cs, wd, r⟩, -, br, -, -⟩ := id j
  have k2 := f_nm w
  have k3 := f_nt w
  have k4 := f_ng w
  have k5 := f_nG w
  have k6 := f_nx w
  have k9 := f_nc w
  cases e : (vd 4 y && vd (D 0 3) x) with
  | true =>
    rw [Bool.and_eq_true] at e
    obtain ⟨g, hg, rfl⟩ := vd_T (by omega) e.2
    obtain ⟨i, hi, rfl⟩ := vd_T (by decide) e.1
    rcases br with ⟨b1, b2, b3, -⟩ | ⟨B, b1, b2, b3, b4, b5, b6⟩
    · subst b3; exact absurd hg (Nat.not_lt_zero _)
    · exact Stq_q j (Ce_of (a81 L hT w ct p03 cs wd hg hi)) (fun h1 f1 => by
        obtain ⟨L1, hB1, l1, mb1, r1⟩ := M_at f1 L b1 b2 b3 r
        exact Qe_of (m217 L1 hB1 l1 w mb1 wd r1 hg hi) (QF_0 h1)) (by decide)
  | false => exact Stq_q j (Ce_of (a81b L hT w ct p03 cs wd e)) (fun h1 f1 => Qe_of (m217b (FR_Ly f1 L) (Mq_at f1 br) e) (QF_0 h1)) (by decide)
set_option maxRecDepth 16384 in
theorem s82 {X : Nat × (Nat → Int32)} {k : Nat} {h : A_H} {T : Nat} {D : Gh} {S : Nat → Nat} {o n : Nat} {H : Nat → Nat → Nat} {m : Nat} {K : Nat → Nat → Nat} {tn : Nat} (j : J X k h T D S o n H m K tn) (x : Int32) (y : Int32) : Stq X k 82 218 [.int x, .int y] h := by
  obtain ⟨⟨L, -, -, jx, -⟩, ⟨hT, p03, -, w, ct, cs, wd, r⟩, -, br, -, -⟩ := id j
  have k2 := f_nm w
  have k3 := f_nt w
  have k4 := f_ng w
  have k5 := f_nG w
  have k6 := f_nx w
  have k9 := f_nc w
  cases e : (vd 3 y && vd (D 0 4) x) with
  | true =>
    rw [Bool.and_eq_true] at e
    obtain ⟨g, hg, rfl⟩ := vd_T (by omega) e.2
    obtain ⟨i, hi, rfl⟩ := vd_T (by decide) e.1
    rcases br with ⟨b1, b2, b3, -⟩ | ⟨B, b1, b2, b3, b4, b5, b6⟩
    · subst b3; exact absurd hg (Nat.not_lt_zero _)
    · exact Stq_q j (Ce_of (a82 L hT w ct p03 cs wd hg hi)) (fun h1 f1 => by
        obtain ⟨L1, hB1, l1, mb1, r1⟩ := M_at f1 L b1 b2 b3 r
        exact Qe_of (m218 L1 hB1 l1 w mb1 wd r1 hg hi) (QF_0 h1)) (by decide)
  | false => exact Stq_q j (Ce_of (a82b L hT w ct p03 cs wd e)) (fun h1 f1 => Qe_of (m218b (FR_Ly f1 L) (Mq_at f1 br) e) (QF_0 h1)) (by decide)
set_option maxRecDepth 16384 in
theorem s114 {X : Nat × (Nat → Int32)} {k : Nat} {h : A_H} {T : Nat} {D : Gh} {S : Nat → Nat} {o n : Nat} {H : Nat → Nat → Nat} {m : Nat} {K : Nat → Nat → Nat} {tn : Nat} (j : J X k h T D S o n H m K tn) (x : Int32) : Stq X k 114 254 [.int x] h := by
  obtain ⟨⟨L, -, -, jx, -⟩, ⟨hT, p03, -, w, ct, cs, wd, r⟩, -, br, -, -⟩ := id j
  have k2 := f_nm w
  have k3 := f_nt w
  have k4 := f_ng w
  have k5 := f_nG w
  have k6 := f_nx w
  have k9 := f_nc w
  cases e : vd (D 0 6) x with
  | true =>
    obtain ⟨g, hg, rfl⟩ := vd_T (by omega) e
    rcases br with ⟨b1, b2, b3, -⟩ | ⟨B, b1, b2, b3, b4, b5, b6⟩
    · subst b3; exact absurd hg (Nat.not_lt_zero _)
    · exact Stq_q j (a114 L hT w ct p03 cs wd hg) (fun h1 f1 => by
        obtain ⟨L1, hB1, l1, mb1, r1⟩ := M_at f1 L b1 b2 b3 r
        exact m254 L1 hB1 l1 w mb1 wd r1 hg) (by decide)
  | false => exact Stq_q j (a114b L hT w ct p03 cs wd e) (fun h1 f1 => m254b (FR_Ly f1 L) w (Mq_at f1 br) e) (by decide)
set_option maxRecDepth 16384 in
theorem s118 {X : Nat × (Nat → Int32)} {k : Nat} {h : A_H} {T : Nat} {D : Gh} {S : Nat → Nat} {o n : Nat} {H : Nat → Nat → Nat} {m : Nat} {K : Nat → Nat → Nat} {tn : Nat} (j : J X k h T D S o n H m K tn) (x : Int32) : Stq X k 118 262 [.int x] h := by
  obtain ⟨⟨L, -, -, jx, -⟩, ⟨hT, p03, -, w, ct, cs, wd, r⟩, -, br, -, -⟩ := id j
  have k2 := f_nm w
  have k3 := f_nt w
  have k4 := f_ng w
  have k5 := f_nG w
  have k6 := f_nx w
  have k9 := f_nc w
  cases e : vd (D 0 9) x with
  | true =>
    obtain ⟨g, hg, rfl⟩ := vd_T (by omega) e
    rcases br with ⟨b1, b2, b3, -⟩ | ⟨B, b1, b2, b3, b4, b5, b6⟩
    · subst b3; exact absurd hg (Nat.not_lt_zero _)
    · exact Stq_q j (a118 L hT w ct p03 cs wd hg) (fun h1 f1 => by
        obtain ⟨L1, hB1, l1, mb1, r1⟩ := M_at f1 L b1 b2 b3 r
        exact m262 L1 hB1 l1 w mb1 wd r1 hg) (by decide)
  | false => exact Stq_q j (a118b L hT w ct p03 cs wd e) (fun h1 f1 => m262b (FR_Ly f1 L) (Mq_at f1 br) e) (by decide)
set_option maxRecDepth 16384 in
theorem s119 {X : Nat × (Nat → Int32)} {k : Nat} {h : A_H} {T : Nat} {D : Gh} {S : Nat → Nat} {o n : Nat} {H : Nat → Nat → Nat} {m : Nat} {K : Nat → Nat → Nat} {tn : Nat} (j : J X k h T D S o n H m K tn) (x : Int32) : Stq X k 119 263 [.int x] h := by
  obtain ⟨⟨L, -, -, jx, -⟩, ⟨hT, p03, -, w, ct, cs, wd, r⟩, -, br, -, -⟩ := id j
  have k2 := f_nm w
  have k3 := f_nt w
  have k4 := f_ng w
  have k5 := f_nG w
  have k6 := f_nx w
  have k9 := f_nc w
  cases e : vd (D 0 9) x with
  | true =>
    obtain ⟨g, hg, rfl⟩ := vd_T (by omega) e
    rcases br with ⟨b1, b2, b3, -⟩ | ⟨B, b1, b2, b3, b4, b5, b6⟩
    · subst b3; exact absurd hg (Nat.not_lt_zero _)
    · exact Stq_q j (a119 L hT w ct p03 cs wd hg) (fun h1 f1 => by
        obtain ⟨L1, hB1, l1, mb1, r1⟩ := M_at f1 L b1 b2 b3 r
        exact m263 L1 hB1 l1 w mb1 wd r1 hg) (by decide)
  | false => exact Stq_q j (a119b L hT w ct p03 cs wd e) (fun h1 f1 => m263b (FR_Ly f1 L) (Mq_at f1 br) e) (by decide)
set_option maxRecDepth 16384 in
theorem s123 {X : Nat × (Nat → Int32)} {k : Nat} {h : A_H} {T : Nat} {D : Gh} {S : Nat → Nat} {o n : Nat} {H : Nat → Nat → Nat} {m : Nat} {K : Nat → Nat → Nat} {tn : Nat} (j : J X k h T D S o n H m K tn) (x : Int32) (y : Int32) (z : Int32) : Stq X k 123 266 [.int x, .int y, .int z] h := by
  obtain ⟨⟨L, -, -, jx, -⟩, ⟨hT, p03, -, w, ct, cs, wd, r⟩, -, br, -, -⟩ := id j
  have k2 := f_nm w
  have k3 := f_nt w
  have k4 := f_ng w
  have k5 := f_nG w
  have k6 := f_nx w
  have k9 := f_nc w
  cases e : decide (eit (gv (D 0 5) x) (eit (sv y) (nv z)) = 0) with
  | true =>
    obtain ⟨e1, e0⟩ := eit_T e
    obtain ⟨e2, e3⟩ := eit_T e0
    obtain ⟨g, hg, rfl⟩ := gv_T (by omega) e1
    obtain ⟨d, hd, rfl⟩ := sv_T e2
    obtain ⟨i, rfl, hi1, hi2⟩ := nv_T e3
    rcases br with ⟨b1, b2, b3, -⟩ | ⟨B, b1, b2, b3, b4, b5, b6⟩
    · subst b3; exact absurd hg (Nat.not_lt_zero _)
    · exact Stq_q j (a123 L hT w ct p03 cs wd hg hd hi1 hi2) (fun h1 f1 => by
        obtain ⟨L1, hB1, l1, mb1, r1⟩ := M_at f1 L b1 b2 b3 r
        exact m266 L1 hB1 l1 w mb1 wd r1 hg hd hi1 hi2) (by decide)
  | false => exact Stq_q j (a123b L hT w ct p03 cs wd e) (fun h1 f1 => m266b (FR_Ly f1 L) (Mq_at f1 br) e) (cc2_4 (cc2_e (cc2_g _ _) (cc2_e (cc2_s _) (cc2_n _))))
set_option maxRecDepth 16384 in
theorem s111 {X : Nat × (Nat → Int32)} {k : Nat} {h : A_H} {T : Nat} {D : Gh} {S : Nat → Nat} {o n : Nat} {H : Nat → Nat → Nat} {m : Nat} {K : Nat → Nat → Nat} {tn : Nat} (j : J X k h T D S o n H m K tn)  : Stq X k 111 248 [] h := by
  obtain ⟨⟨L, -, -, jx, -⟩, ⟨hT, p03, -, w, ct, cs, wd, r⟩, -, br, -, -⟩ := id j
  have k2 := f_nm w
  have k3 := f_nt w
  have k4 := f_ng w
  have k5 := f_nG w
  have k6 := f_nx w
  have k9 := f_nc w
  rcases id br with ⟨b1, b2, b3, -⟩ | ⟨B, b1, b2, b3, b4, b5, b6⟩
  · exact Stq_q j (Ce_of (a111b L hT w ct p03 cs wd b2)) (fun h1 f1 => m248b (FR_Ly f1 L) (by rw [FR_P f1]; exact b1)) (by decide)
  · exact Stq_q j (Ce_of (a111 L hT w ct p03 cs wd b4)) (fun h1 f1 => by
      obtain ⟨L1, hB1, l1, mb1, r1⟩ := M_at f1 L b1 b2 b3 r
      exact m248 L1 hB1 l1 w mb1 wd r1) (by decide)
set_option maxRecDepth 16384 in
theorem s115 {X : Nat × (Nat → Int32)} {k : Nat} {h : A_H} {T : Nat} {D : Gh} {S : Nat → Nat} {o n : Nat} {H : Nat → Nat → Nat} {m : Nat} {K : Nat → Nat → Nat} {tn : Nat} (j : J X k h T D S o n H m K tn)  : Stq X k 115 255 [] h := by
  obtain ⟨⟨L, -, -, jx, -⟩, ⟨hT, p03, -, w, ct, cs, wd, r⟩, -, br, -, -⟩ := id j
  have k2 := f_nm w
  have k3 := f_nt w
  have k4 := f_ng w
  have k5 := f_nG w
  have k6 := f_nx w
  have k9 := f_nc w
  rcases id br with ⟨b1, b2, b3, -⟩ | ⟨B, b1, b2, b3, b4, b5, b6⟩
  · exact Stq_q j (a115b L hT w ct p03 cs wd b2) (fun h1 f1 => m255b (FR_Ly f1 L) (by rw [FR_P f1]; exact b1)) (by decide)
  · exact Stq_q j (a115 L hT w ct p03 cs wd b4) (fun h1 f1 => by
      obtain ⟨L1, hB1, l1, mb1, r1⟩ := M_at f1 L b1 b2 b3 r
      exact m255 L1 hB1 l1 w mb1 wd r1) (by decide)
set_option maxRecDepth 16384 in
theorem s116 {X : Nat × (Nat → Int32)} {k : Nat} {h : A_H} {T : Nat} {D : Gh} {S : Nat → Nat} {o n : Nat} {H : Nat → Nat → Nat} {m : Nat} {K : Nat → Nat → Nat} {tn : Nat} (j : J X k h T D S o n H m K tn) (z : Bool) : Stq X k 116 256 [.int (bI z)] h := by
  obtain ⟨⟨L, -, -, jx, -⟩, ⟨hT, p03, -, w, ct, cs, wd, r⟩, -, br, -, -⟩ := id j
  have k2 := f_nm w
  have k3 := f_nt w
  have k4 := f_ng w
  have k5 := f_nG w
  have k6 := f_nx w
  have k9 := f_nc w
  rcases id br with ⟨b1, b2, b3, -⟩ | ⟨B, b1, b2, b3, b4, b5, b6⟩
  · exact Stq_q j (a116b L hT w ct p03 cs wd b2 _) (fun h1 f1 => m256b (FR_Ly f1 L) (by rw [FR_P f1]; exact b1) _) (by decide)
  · exact Stq_q j (a116 L hT w ct p03 cs wd b4 z) (fun h1 f1 => by
      obtain ⟨L1, hB1, l1, mb1, r1⟩ := M_at f1 L b1 b2 b3 r
      exact m256 L1 hB1 l1 w mb1 wd r1 z) (by decide)
set_option maxRecDepth 16384 in
theorem s117 {X : Nat × (Nat → Int32)} {k : Nat} {h : A_H} {T : Nat} {D : Gh} {S : Nat → Nat} {o n : Nat} {H : Nat → Nat → Nat} {m : Nat} {K : Nat → Nat → Nat} {tn : Nat} (j : J X k h T D S o n H m K tn)  : Stq X k 117 260 [] h := by
  obtain ⟨⟨L, -, -, jx, -⟩, ⟨hT, p03, -, w, ct, cs, wd, r⟩, -, br, -, -⟩ := id j
  have k2 := f_nm w
  have k3 := f_nt w
  have k4 := f_ng w
  have k5 := f_nG w
  have k6 := f_nx w
  have k9 := f_nc w
  rcases id br with ⟨b1, b2, b3, -⟩ | ⟨B, b1, b2, b3, b4, b5, b6⟩
  · have g := a117b L hT w ct p03 cs wd (Or.inl b2) (Or.inl b2)
    rw [show decide (hI h 0 4 = 0) = true from dT b2] at g
    exact Stq_q j g (fun h1 f1 => by
      have e := m260b (FR_Ly f1 L) (Mq_at f1 br) (Or.inl (by rw [FR_P f1]; exact b1))
      rw [FR_P f1, b1] at e
      exact e) (by decide)
  · by_cases z : 0 < D 0 9
    · exact Stq_q j (a117 L hT w ct p03 cs wd b4 z) (fun h1 f1 => by
        obtain ⟨L1, hB1, l1, mb1, r1⟩ := M_at f1 L b1 b2 b3 r
        exact m260 L1 hB1 l1 w mb1 wd r1 z) (by decide)
    · have g := a117b L hT w ct p03 cs wd (Or.inr b4) (Or.inr (by omega))
      rw [show decide (hI h 0 4 = 0) = false by rw [b4]; rfl] at g
      exact Stq_q j g (fun h1 f1 => by
        have e := m260b (FR_Ly f1 L) (Mq_at f1 br) (Or.inr (by omega))
        rw [FR_P f1, b1] at e
        exact e) (by decide)
set_option maxRecDepth 16384 in
theorem s112 {X : Nat × (Nat → Int32)} {k : Nat} {h : A_H} {T : Nat} {D : Gh} {S : Nat → Nat} {o n : Nat} {H : Nat → Nat → Nat} {m : Nat} {K : Nat → Nat → Nat} {tn : Nat} (j : J X k h T D S o n H m K tn) (x : Int32) : Stq X k 112 250 [.int x] h := by
  obtain ⟨⟨L, -, -, jx, -⟩, ⟨hT, p03, -, w, ct, cs, wd, r⟩, -, br, -, -⟩ := id j
  have k2 := f_nm w
  have k3 := f_nt w
  have k4 := f_ng w
  have k5 := f_nG w
  have k6 := f_nx w
  have k9 := f_nc w
  rcases id br with ⟨b1, b2, b3, -⟩ | ⟨B, b1, b2, b3, b4, b5, b6⟩
  · have g := a112b L hT w ct p03 cs wd (x := x) (Or.inl b2) (by rw [dT b2]; rfl)
    rw [show decide (hI h 0 4 = 0) = true from dT b2] at g
    exact Stq_q j (Ce_of g) (fun h1 f1 => by
      have e := m250b (FR_Ly f1 L) (Mq_at f1 br) (x := x) (Or.inl (by rw [FR_P f1]; exact b1))
      rw [FR_P f1, b1] at e
      exact Qe_of e (QF_0 h1)) (show ¬ (1 : Int32) = 4 by decide)
  · cases e : vd 5 x with
    | true =>
      obtain ⟨g, hg, rfl⟩ := vd_T (by decide) e
      exact Stq_q j (Ce_of (a112 L hT w ct p03 cs wd b4 (y := g) (by omega))) (fun h1 f1 => by
        obtain ⟨L1, hB1, l1, mb1, r1⟩ := M_at f1 L b1 b2 b3 r
        exact Qe_of (m250 L1 hB1 l1 w mb1 wd r1 (by omega)) (QF_0 h1)) (by decide)
    | false =>
      have d0 : decide (hI h 0 4 = 0) = false := by rw [b4]; rfl
      have g := a112b L hT w ct p03 cs wd (x := x) (Or.inr b4) (by rw [d0, e]; rfl)
      rw [d0, e] at g
      exact Stq_q j (Ce_of g) (fun h1 f1 => by
        have e := m250b (FR_Ly f1 L) (Mq_at f1 br) (x := x) (Or.inr e)
        rw [FR_P f1, b1] at e
        exact Qe_of e (QF_0 h1)) (by decide)
set_option maxRecDepth 16384 in
theorem s122 {X : Nat × (Nat → Int32)} {k : Nat} {h : A_H} {T : Nat} {D : Gh} {S : Nat → Nat} {o n : Nat} {H : Nat → Nat → Nat} {m : Nat} {K : Nat → Nat → Nat} {tn : Nat} (j : J X k h T D S o n H m K tn) (x : Int32) : Stq X k 122 265 [.int x] h := by
  obtain ⟨⟨L, -, -, jx, -⟩, ⟨hT, p03, -, w, ct, cs, wd, r⟩, -, br, -, -⟩ := id j
  have k2 := f_nm w
  have k3 := f_nt w
  have k4 := f_ng w
  have k5 := f_nG w
  have k6 := f_nx w
  have k9 := f_nc w
  rcases id br with ⟨b1, b2, b3, -⟩ | ⟨B, b1, b2, b3, b4, b5, b6⟩
  · have g := a122b L hT w ct p03 cs wd (x := x) (by rw [dT b2]; rfl)
    rw [show decide (hI h 0 4 = 0) = true from dT b2] at g
    exact Stq_q j g (fun h1 f1 => by
      have e := m265b (FR_Ly f1 L) (Mq_at f1 br) (x := x) (Or.inl (by rw [FR_P f1]; exact b1))
      rw [FR_P f1, b1] at e
      exact e) (show ¬ (1 : Int32) = 4 by decide)
  · cases e : vd 65537 x with
    | true =>
      obtain ⟨g, hg, rfl⟩ := vd_T (by decide) e
      exact Stq_q j (a122 L hT w ct p03 cs wd b4 hg) (fun h1 f1 => by
        obtain ⟨L1, hB1, l1, mb1, r1⟩ := M_at f1 L b1 b2 b3 r
        exact m265 L1 hB1 l1 w mb1 wd r1 hg) (by decide)
    | false =>
      have d0 : decide (hI h 0 4 = 0) = false := by rw [b4]; rfl
      have sv2 : sv x = 2 := by unfold sv; rw [e]; rfl
      have g := a122b L hT w ct p03 cs wd (x := x) (by rw [d0, sv2]; rfl)
      rw [d0, sv2] at g
      exact Stq_q j g (fun h1 f1 => by
        have e := m265b (FR_Ly f1 L) (Mq_at f1 br) (x := x) (Or.inr e)
        rw [FR_P f1, b1] at e
        exact e) (by decide)
set_option maxRecDepth 16384 in
theorem s120 {X : Nat × (Nat → Int32)} {k : Nat} {h : A_H} {T : Nat} {D : Gh} {S : Nat → Nat} {o n : Nat} {H : Nat → Nat → Nat} {m : Nat} {K : Nat → Nat → Nat} {tn : Nat} (j : J X k h T D S o n H m K tn) (x y : Int32) (z : Bool) : StqL X k 120 264 [.int x, .int y, .int (bI z)] h := by
  obtain ⟨⟨L, -, -, jx, -⟩, ⟨hT, p03, -, w, ct, cs, wd, r⟩, -, br, -, -⟩ := id j
  have k2 := f_nm w
  have k3 := f_nt w
  have k4 := f_ng w
  have k5 := f_nG w
  have k6 := f_nx w
  have k9 := f_nc w
  rcases id br with ⟨b1, b2, b3, -⟩ | ⟨B, b1, b2, b3, b4, b5, b6⟩
  · have g := a120b L hT w ct p03 cs wd (x := x) (y := y) (z := bI z) (by rw [dT b2]; rfl)
    rw [show decide (hI h 0 4 = 0) = true from dT b2] at g
    exact Stq_L j g (fun h1 f1 => by
      have e := m264b (FR_Ly f1 L) (Mq_at f1 br) (x := x) (y := y) (z := bI z) (Or.inl (by rw [FR_P f1]; exact b1))
      rw [FR_P f1, b1] at e
      exact e) (show ¬ (1 : Int32) = 4 by decide)
  · cases e : (vd 1000 x && vd 6 y) with
    | true =>
      rw [Bool.and_eq_true] at e
      obtain ⟨g, hg, rfl⟩ := vd_T (by decide) e.1
      obtain ⟨i, hi, rfl⟩ := vd_T (by decide) e.2
      exact Stq_L j (a120 L hT w ct p03 cs wd b4 hg (by omega) z) (fun h1 f1 => by
        obtain ⟨L1, hB1, l1, mb1, r1⟩ := M_at f1 L b1 b2 b3 r
        exact m264 L1 hB1 l1 w mb1 wd r1 hg (by omega) z) (by decide)
    | false =>
      have d0 : decide (hI h 0 4 = 0) = false := by rw [b4]; rfl
      have sv2 : owR x y = 2 := by unfold owR; rw [e]; rfl
      have g := a120b L hT w ct p03 cs wd (x := x) (y := y) (z := bI z) (by rw [d0, sv2]; rfl)
      rw [d0, sv2] at g
      exact Stq_L j g (fun h1 f1 => by
        have e := m264b (FR_Ly f1 L) (Mq_at f1 br) (x := x) (y := y) (z := bI z) (Or.inr e)
        rw [FR_P f1, b1] at e
        exact e) (by decide)
