set_option maxRecDepth 16384 in
theorem own_c {P P' : Gh} {t : Nat} (e1 : P' 0 5 = P 0 5) (e2 : ∀ g, g < P 0 5 → P' 14 g = P 14 g) : own P' t = own P t := by
  unfold own
  rw [e1]
  exact msk_congr (fun g hg => by rw [e2 g hg])
set_option maxRecDepth 16384 in
theorem byI_c {P P' : Gh} {i : Nat} (e1 : P' 12 i = P 12 i) (e2 : P' 13 i = P 13 i) : byI P' i = byI P i := by unfold byI; rw [e1, e2]
set_option maxRecDepth 16384 in
theorem kpI_c {P P' : Gh} {i : Nat} (e1 : P' 12 i = P 12 i) (e2 : P' 13 i = P 13 i) (e3 : ¬ P 12 i = 0 → P' 3 (P 13 i) = P 3 (P 13 i)) : kpI P' i = kpI P i := by
  unfold kpI tks
  rw [e1, e2]
  by_cases c : P 12 i = 0
  · rw [dT c]; rfl
  · rw [e3 c]
set_option maxRecDepth 16384 in
theorem CT_a2 {h h' : A_H} {T : Nat} {P P' : Gh} (w : WF P) (c : CT h T P) (hk : P 0 2 < 4) (q0 : ∀ j, ¬ j = 2 → P' 0 j = P 0 j) (q1 : P' 0 2 = P 0 2 + 1) (qr : ∀ c i, 1 ≤ c → c ≤ 23 → ¬ ((1 ≤ c ∧ c ≤ 6) ∧ i = P 0 2) → P' c i = P c i) (e : ∀ a b, T ≤ a → a < T + 35 → ¬ a = T + 9 → ¬ (a = T ∧ b = 2) → ¬ (a = T + 10 + P 0 2) → hI h' a b = hI h a b) (s : hI h' T 2 = nI (P 0 2 + 1)) (n_rate : hI h' (T + 10 + P 0 2) 0 = nI (P' 1 (P 0 2))) (n_oth : hI h' (T + 10 + P 0 2) 1 = nI (P' 2 (P 0 2))) (n_keeps : hI h' (T + 10 + P 0 2) 2 = nI (P' 3 (P 0 2))) (n_pri : hI h' (T + 10 + P 0 2) 3 = nI (P' 4 (P 0 2))) (n4 : P' 4 (P 0 2) = 0) : CT h' T P' := by
  have z0 : P' 0 0 = P 0 0 := q0 0 (by omega)
  have z1 : P' 0 1 = P 0 1 := q0 1 (by omega)
  have z3 : P' 0 3 = P 0 3 := q0 3 (by omega)
  have z4 : P' 0 4 = P 0 4 := q0 4 (by omega)
  have z5 : P' 0 5 = P 0 5 := q0 5 (by omega)
  have z6 : P' 0 6 = P 0 6 := q0 6 (by omega)
  have z7 : P' 0 7 = P 0 7 := q0 7 (by omega)
  have z8 : P' 0 8 = P 0 8 := q0 8 (by omega)
  have z9 : P' 0 9 = P 0 9 := q0 9 (by omega)
  have k1 := f_nm w
  have k2 := f_nt w
  have k3 := f_ng w
  have k4 := f_nG w
  have k5 := f_nx w
  have k6 := f_nc w
  exact ⟨(e _ _ (by omega) (by omega) (by omega) (by omega) (by omega)).trans (by rw [z0]; exact c_s0 c), (e _ _ (by omega) (by omega) (by omega) (by omega) (by omega)).trans (by rw [z1]; exact c_s1 c), by rw [q1]; exact s, (e _ _ (by omega) (by omega) (by omega) (by omega) (by omega)).trans (by rw [z3]; exact c_s3 c), (e _ _ (by omega) (by omega) (by omega) (by omega) (by omega)).trans (by rw [z4]; exact c_s4 c), (e _ _ (by omega) (by omega) (by omega) (by omega) (by omega)).trans (by rw [z5]; exact c_s5 c), (e _ _ (by omega) (by omega) (by omega) (by omega) (by omega)).trans (by rw [z6]; exact c_s6 c), (e _ _ (by omega) (by omega) (by omega) (by omega) (by omega)).trans (by rw [z7]; exact c_s7 c), (e _ _ (by omega) (by omega) (by omega) (by omega) (by omega)).trans (by rw [z8]; exact c_s8 c), (e _ _ (by omega) (by omega) (by omega) (by omega) (by omega)).trans (by rw [z9]; exact c_nc c), fun {i} h0 => by
    by_cases ei : i = P 0 2
    · rw [ei]; exact n_rate
    · rw [e _ _ (by omega) (by omega) (by omega) (by omega) (by omega), qr 1 i (by omega) (by omega) (by omega)]; exact c_rate c (by omega), fun {i} h0 => by
    by_cases ei : i = P 0 2
    · rw [ei]; exact n_oth
    · rw [e _ _ (by omega) (by omega) (by omega) (by omega) (by omega), qr 2 i (by omega) (by omega) (by omega)]; exact c_oth c (by omega), fun {i} h0 => by
    by_cases ei : i = P 0 2
    · rw [ei]; exact n_keeps
    · rw [e _ _ (by omega) (by omega) (by omega) (by omega) (by omega), qr 3 i (by omega) (by omega) (by omega)]; exact c_keeps c (by omega), fun {i} h0 => by
    by_cases ei : i = P 0 2
    · rw [ei]; exact n_pri
    · rw [e _ _ (by omega) (by omega) (by omega) (by omega) (by omega), qr 4 i (by omega) (by omega) (by omega)]; exact c_pri c (by omega), fun {i} h0 h1 => by
    by_cases ei : i = P 0 2
    · exfalso; rw [ei] at h1; omega
    · rw [e _ _ (by omega) (by omega) (by omega) (by omega) (by omega), qr 5 i (by omega) (by omega) (by omega)]; exact c_here c (by omega) (by have := qr 4 i (by omega) (by omega) (by omega); omega), fun {i} h0 h1 => by
    by_cases ei : i = P 0 2
    · exfalso; rw [ei] at h1; omega
    · rw [e _ _ (by omega) (by omega) (by omega) (by omega) (by omega), qr 6 i (by omega) (by omega) (by omega)]; exact c_there c (by omega) (by have := qr 4 i (by omega) (by omega) (by omega); omega), fun {i} h0 => (e _ _ (by omega) (by omega) (by omega) (by omega) (by omega)).trans (by rw [qr 7 i (by omega) (by omega) (by omega)]; exact c_all c (by omega)), fun {i} h0 => (e _ _ (by omega) (by omega) (by omega) (by omega) (by omega)).trans (by rw [qr 8 i (by omega) (by omega) (by omega)]; exact c_hun c (by omega)), fun {i} h0 => (e _ _ (by omega) (by omega) (by omega) (by omega) (by omega)).trans (by rw [own_c z5 (fun g hg => qr 14 g (by omega) (by omega) (by omega))]; exact c_own c h0), fun {i} h0 => (e _ _ (by omega) (by omega) (by omega) (by omega) (by omega)).trans (by rw [qr 9 i (by omega) (by omega) (by omega)]; exact c_nose c (by omega)), fun {i} h0 => (e _ _ (by omega) (by omega) (by omega) (by omega) (by omega)).trans (by rw [qr 10 i (by omega) (by omega) (by omega)]; exact c_op c (by omega)), fun {i} h0 => (e _ _ (by omega) (by omega) (by omega) (by omega) (by omega)).trans (by rw [qr 11 i (by omega) (by omega) (by omega)]; exact c_sh c (by omega)), fun {i} h0 => (e _ _ (by omega) (by omega) (by omega) (by omega) (by omega)).trans (by rw [qr 12 i (by omega) (by omega) (by omega)]; exact c_kind c (by omega)), fun {i} h0 => (e _ _ (by omega) (by omega) (by omega) (by omega) (by omega)).trans (by rw [byI_c (qr 12 i (by omega) (by omega) (by omega)) (qr 13 i (by omega) (by omega) (by omega))]; exact c_by c (by omega)), fun {i} h0 => (e _ _ (by omega) (by omega) (by omega) (by omega) (by omega)).trans (by rw [qr 14 i (by omega) (by omega) (by omega)]; exact c_owner c (by omega)), fun {i} h0 => (e _ _ (by omega) (by omega) (by omega) (by omega) (by omega)).trans (by rw [qr 15 i (by omega) (by omega) (by omega)]; exact c_age c (by omega)), fun {i} h0 => (e _ _ (by omega) (by omega) (by omega) (by omega) (by omega)).trans (by rw [kpI_c (qr 12 i (by omega) (by omega) (by omega)) (qr 13 i (by omega) (by omega) (by omega)) (fun c0 => qr 3 _ (by omega) (by omega) (by have := f_by w (show i < P 0 5 by omega) c0; omega))]; exact c_kp c (by omega)), fun {i} h0 => (e _ _ (by omega) (by omega) (by omega) (by omega) (by omega)).trans (by rw [qr 16 i (by omega) (by omega) (by omega)]; exact c_wei c (by omega)), fun {i} h0 => (e _ _ (by omega) (by omega) (by omega) (by omega) (by omega)).trans (by rw [qr 17 i (by omega) (by omega) (by omega)]; exact c_wor c (by omega)), fun {i} h0 => (e _ _ (by omega) (by omega) (by omega) (by omega) (by omega)).trans (by rw [qr 18 i (by omega) (by omega) (by omega)]; exact c_cro c (by omega)), fun {i} h0 => (e _ _ (by omega) (by omega) (by omega) (by omega) (by omega)).trans (by rw [qr 19 i (by omega) (by omega) (by omega)]; exact c_gat c (by omega)), fun {i} h0 => (e _ _ (by omega) (by omega) (by omega) (by omega) (by omega)).trans (by rw [qr 20 i (by omega) (by omega) (by omega)]; exact c_day c (by omega)), fun {i} h0 => (e _ _ (by omega) (by omega) (by omega) (by omega) (by omega)).trans (by rw [qr 21 i (by omega) (by omega) (by omega)]; exact c_hour c (by omega)), fun {i} h0 => (e _ _ (by omega) (by omega) (by omega) (by omega) (by omega)).trans (by rw [qr 22 i (by omega) (by omega) (by omega)]; exact c_cm c (by omega)), fun {i} h0 => (e _ _ (by omega) (by omega) (by omega) (by omega) (by omega)).trans (by rw [qr 23 i (by omega) (by omega) (by omega)]; exact c_cd c (by omega))⟩
set_option maxRecDepth 16384 in
theorem MB_a2 {h h' : A_H} {B : Nat} {P P' : Gh} (w : WF P) (b : MB h B P) (hk : P 0 2 < 4) (q0 : ∀ j, ¬ j = 2 → P' 0 j = P 0 j) (q1 : P' 0 2 = P 0 2 + 1) (qr : ∀ c i, 1 ≤ c → c ≤ 23 → ¬ ((1 ≤ c ∧ c ≤ 6) ∧ i = P 0 2) → P' c i = P c i) (e : ∀ a j, B ≤ a → a < B + 22 → ¬ (a = B ∧ (j = 2 ∨ j = 10)) → ¬ (B + 1 ≤ a ∧ a ≤ B + 4 ∧ (j = P 0 2 ∨ j = 4 + P 0 2)) → hI h' a j = hI h a j) (s : hI h' B 2 = nI (P 0 2 + 1)) (n_rate : hI h' (B + 1) (P 0 2) = nI (P' 1 (P 0 2))) (n_oth : hI h' (B + 1) (4 + P 0 2) = nI (P' 2 (P 0 2))) (n_keeps : hI h' (B + 2) (P 0 2) = nI (P' 3 (P 0 2))) (n_here : hI h' (B + 3) (P 0 2) = -1) (n4 : P' 4 (P 0 2) = 0) : MB h' B P' := by
  have z0 : P' 0 0 = P 0 0 := q0 0 (by omega)
  have z1 : P' 0 1 = P 0 1 := q0 1 (by omega)
  have z3 : P' 0 3 = P 0 3 := q0 3 (by omega)
  have z4 : P' 0 4 = P 0 4 := q0 4 (by omega)
  have z5 : P' 0 5 = P 0 5 := q0 5 (by omega)
  have z6 : P' 0 6 = P 0 6 := q0 6 (by omega)
  have z7 : P' 0 7 = P 0 7 := q0 7 (by omega)
  have z8 : P' 0 8 = P 0 8 := q0 8 (by omega)
  have z9 : P' 0 9 = P 0 9 := q0 9 (by omega)
  have k1 := f_nm w
  have k2 := f_nt w
  have k3 := f_ng w
  have k4 := f_nG w
  have k5 := f_nx w
  have k6 := f_nc w
  exact ⟨(e _ _ (by omega) (by omega) (by omega) (by omega)).trans (by rw [z0]; exact b_s0 b), (e _ _ (by omega) (by omega) (by omega) (by omega)).trans (by rw [z1]; exact b_s1 b), by rw [q1]; exact s, (e _ _ (by omega) (by omega) (by omega) (by omega)).trans (by rw [z3]; exact b_s3 b), (e _ _ (by omega) (by omega) (by omega) (by omega)).trans (by rw [z4]; exact b_s4 b), (e _ _ (by omega) (by omega) (by omega) (by omega)).trans (by rw [z5]; exact b_s5 b), (e _ _ (by omega) (by omega) (by omega) (by omega)).trans (by rw [z6]; exact b_s6 b), (e _ _ (by omega) (by omega) (by omega) (by omega)).trans (by rw [z7]; exact b_s7 b), (e _ _ (by omega) (by omega) (by omega) (by omega)).trans (by rw [z9]; exact b_nc b), (e _ _ (by omega) (by omega) (by omega) (by omega)).trans (by rw [z8]; exact b_hid b), fun {i} h0 => by
    by_cases ei : i = P 0 2
    · rw [ei]; exact n_rate
    · rw [e _ _ (by omega) (by omega) (by omega) (by omega), qr 1 i (by omega) (by omega) (by omega)]; exact b_rate b (by omega), fun {i} h0 => by
    by_cases ei : i = P 0 2
    · rw [ei]; exact n_oth
    · rw [e _ _ (by omega) (by omega) (by omega) (by omega), qr 2 i (by omega) (by omega) (by omega)]; exact b_oth b (by omega), fun {i} h0 => by
    by_cases ei : i = P 0 2
    · rw [ei]; exact n_keeps
    · rw [e _ _ (by omega) (by omega) (by omega) (by omega), qr 3 i (by omega) (by omega) (by omega)]; exact b_keeps b (by omega), fun {i} h0 => by
    by_cases ei : i = P 0 2
    · rw [ei, n4]; exact n_here
    · rw [e _ _ (by omega) (by omega) (by omega) (by omega), qr 4 i (by omega) (by omega) (by omega), qr 5 i (by omega) (by omega) (by omega)]; exact b_here b (by omega), fun {i} h0 h1 => by
    by_cases ei : i = P 0 2
    · exfalso; rw [ei] at h1; omega
    · rw [e _ _ (by omega) (by omega) (by omega) (by omega), qr 6 i (by omega) (by omega) (by omega)]; exact b_there b (by omega) (by have := qr 4 i (by omega) (by omega) (by omega); omega), fun {i} h0 => (e _ _ (by omega) (by omega) (by omega) (by omega)).trans (by rw [qr 7 i (by omega) (by omega) (by omega)]; exact b_all b (by omega)), fun {i} h0 => (e _ _ (by omega) (by omega) (by omega) (by omega)).trans (by rw [qr 8 i (by omega) (by omega) (by omega)]; exact b_hun b (by omega)), fun {i} h0 => (e _ _ (by omega) (by omega) (by omega) (by omega)).trans (by rw [qr 9 i (by omega) (by omega) (by omega)]; exact b_nose b (by omega)), fun {i} h0 => (e _ _ (by omega) (by omega) (by omega) (by omega)).trans (by rw [qr 10 i (by omega) (by omega) (by omega)]; exact b_op b (by omega)), fun {i} h0 => (e _ _ (by omega) (by omega) (by omega) (by omega)).trans (by rw [qr 11 i (by omega) (by omega) (by omega)]; exact b_sh b (by omega)), fun {i} h0 => (e _ _ (by omega) (by omega) (by omega) (by omega)).trans (by rw [qr 12 i (by omega) (by omega) (by omega)]; exact b_kind b (by omega)), fun {i} h0 => (e _ _ (by omega) (by omega) (by omega) (by omega)).trans (by rw [byI_c (qr 12 i (by omega) (by omega) (by omega)) (qr 13 i (by omega) (by omega) (by omega))]; exact b_by b (by omega)), fun {i} h0 => (e _ _ (by omega) (by omega) (by omega) (by omega)).trans (by rw [qr 14 i (by omega) (by omega) (by omega)]; exact b_owner b (by omega)), fun {i} h0 => (e _ _ (by omega) (by omega) (by omega) (by omega)).trans (by rw [qr 15 i (by omega) (by omega) (by omega)]; exact b_age b (by omega)), fun {i} h0 => (e _ _ (by omega) (by omega) (by omega) (by omega)).trans (by rw [qr 16 i (by omega) (by omega) (by omega)]; exact b_wei b (by omega)), fun {i} h0 => (e _ _ (by omega) (by omega) (by omega) (by omega)).trans (by rw [qr 17 i (by omega) (by omega) (by omega)]; exact b_wor b (by omega)), fun {i} h0 => (e _ _ (by omega) (by omega) (by omega) (by omega)).trans (by rw [qr 18 i (by omega) (by omega) (by omega)]; exact b_cro b (by omega)), fun {i} h0 => (e _ _ (by omega) (by omega) (by omega) (by omega)).trans (by rw [qr 19 i (by omega) (by omega) (by omega)]; exact b_gat b (by omega)), fun {i} h0 => (e _ _ (by omega) (by omega) (by omega) (by omega)).trans (by rw [qr 20 i (by omega) (by omega) (by omega)]; exact b_day b (by omega)), fun {i} h0 => (e _ _ (by omega) (by omega) (by omega) (by omega)).trans (by rw [qr 21 i (by omega) (by omega) (by omega)]; exact b_hour b (by omega)), fun {i} h0 => (e _ _ (by omega) (by omega) (by omega) (by omega)).trans (by rw [qr 22 i (by omega) (by omega) (by omega)]; exact b_cm b (by omega)), fun {i} h0 => (e _ _ (by omega) (by omega) (by omega) (by omega)).trans (by rw [qr 23 i (by omega) (by omega) (by omega)]; exact b_cd b (by omega))⟩
set_option maxRecDepth 16384 in
theorem WF_a2 {P P' : Gh} (w : WF P) (hk : P 0 2 < 4) (q0 : ∀ j, ¬ j = 2 → P' 0 j = P 0 j) (q1 : P' 0 2 = P 0 2 + 1) (qr : ∀ c i, 1 ≤ c → c ≤ 23 → ¬ ((1 ≤ c ∧ c ≤ 6) ∧ i = P 0 2) → P' c i = P c i) (n_rate : P' 1 (P 0 2) ≤ 9) (n_oth : P' 2 (P 0 2) ≤ 9) (n_keeps : 1 ≤ P' 3 (P 0 2) ∧ P' 3 (P 0 2) ≤ 300) (n_pri : P' 4 (P 0 2) ≤ 1) (n_here : P' 5 (P 0 2) ≤ 99) (n_there : P' 6 (P 0 2) ≤ 99) : WF P' := by
  have z0 : P' 0 0 = P 0 0 := q0 0 (by omega)
  have z1 : P' 0 1 = P 0 1 := q0 1 (by omega)
  have z3 : P' 0 3 = P 0 3 := q0 3 (by omega)
  have z4 : P' 0 4 = P 0 4 := q0 4 (by omega)
  have z5 : P' 0 5 = P 0 5 := q0 5 (by omega)
  have z6 : P' 0 6 = P 0 6 := q0 6 (by omega)
  have z7 : P' 0 7 = P 0 7 := q0 7 (by omega)
  have z8 : P' 0 8 = P 0 8 := q0 8 (by omega)
  have z9 : P' 0 9 = P 0 9 := q0 9 (by omega)
  have k1 := f_nm w
  have k2 := f_nt w
  have k3 := f_ng w
  have k4 := f_nG w
  have k5 := f_nx w
  have k6 := f_nc w
  exact ⟨by rw [z0]; exact f_fee w, by rw [z1]; exact f_int w, by rw [q1]; omega, by rw [z3]; exact f_nt w, by rw [z4]; exact f_ng w, by rw [z5]; exact f_nG w, by rw [z6]; exact f_nx w, by rw [z7]; exact f_np w, by rw [z8, z5]; exact f_hid w, by rw [z9]; exact f_nc w, fun {i} h0 => by
    by_cases ei : i = P 0 2
    · rw [ei]; have := n_rate; omega
    · have r1 := qr 1 i (by omega) (by omega) (by omega)
      have o0 := f_rate w (show i < P 0 2 by omega)
      omega, fun {i} h0 => by
    by_cases ei : i = P 0 2
    · rw [ei]; have := n_oth; omega
    · have r2 := qr 2 i (by omega) (by omega) (by omega)
      have o0 := f_oth w (show i < P 0 2 by omega)
      omega, fun {i} h0 => by
    by_cases ei : i = P 0 2
    · rw [ei]; have := n_keeps; omega
    · have r3 := qr 3 i (by omega) (by omega) (by omega)
      have o0 := f_keeps w (show i < P 0 2 by omega)
      omega, fun {i} h0 => by
    by_cases ei : i = P 0 2
    · rw [ei]; have := n_pri; omega
    · have r4 := qr 4 i (by omega) (by omega) (by omega)
      have o0 := f_pri w (show i < P 0 2 by omega)
      omega, fun {i} h0 => by
    by_cases ei : i = P 0 2
    · rw [ei]; have := n_here; omega
    · have r5 := qr 5 i (by omega) (by omega) (by omega)
      have o0 := f_here w (show i < P 0 2 by omega)
      omega, fun {i} h0 => by
    by_cases ei : i = P 0 2
    · rw [ei]; have := n_there; omega
    · have r6 := qr 6 i (by omega) (by omega) (by omega)
      have o0 := f_there w (show i < P 0 2 by omega)
      omega, fun {i} h0 => by
    have r7 := qr 7 i (by omega) (by omega) (by omega)
    have o0 := f_all w (show i < P 0 3 by omega)
    omega, fun {i} h0 => by
    have r8 := qr 8 i (by omega) (by omega) (by omega)
    have o0 := f_hun w (show i < P 0 3 by omega)
    omega, fun {i} h0 => by
    have r9 := qr 9 i (by omega) (by omega) (by omega)
    have o0 := f_nose w (show i < P 0 4 by omega)
    omega, fun {i} h0 => by
    have r10 := qr 10 i (by omega) (by omega) (by omega)
    have o0 := f_op w (show i < P 0 4 by omega)
    omega, fun {i} h0 => by
    have r11 := qr 11 i (by omega) (by omega) (by omega)
    have o0 := f_sh w (show i < P 0 4 by omega)
    omega, fun {i} h0 => by
    have r12 := qr 12 i (by omega) (by omega) (by omega)
    have o0 := f_kind w (show i < P 0 5 by omega)
    omega, fun {i} h0 h1 => by
    have r13 := qr 13 i (by omega) (by omega) (by omega)
    have r12 := qr 12 i (by omega) (by omega) (by omega)
    have o0 := f_by w (show i < P 0 5 by omega) (fun c0 => h1 (r12.trans c0))
    omega, fun {i} h0 => by
    have r14 := qr 14 i (by omega) (by omega) (by omega)
    have o0 := f_own w (show i < P 0 5 by omega)
    omega, fun {i} h0 => by
    have r15 := qr 15 i (by omega) (by omega) (by omega)
    have o0 := f_age w (show i < P 0 5 by omega)
    omega, fun {i} h0 => by
    have r16 := qr 16 i (by omega) (by omega) (by omega)
    have o0 := f_wei w (show i < P 0 5 by omega)
    omega, fun {i} h0 => by
    have r17 := qr 17 i (by omega) (by omega) (by omega)
    have o0 := f_wor w (show i < P 0 5 by omega)
    omega, fun {i} h0 => by
    have r18 := qr 18 i (by omega) (by omega) (by omega)
    have o0 := f_cro w (show i < P 0 6 by omega)
    omega, fun {i} h0 => by
    have r19 := qr 19 i (by omega) (by omega) (by omega)
    have o0 := f_gat w (show i < P 0 6 by omega)
    omega, fun {i} h0 => by
    have r20 := qr 20 i (by omega) (by omega) (by omega)
    have o0 := f_day w (show i < P 0 6 by omega)
    omega, fun {i} h0 => by
    have r21 := qr 21 i (by omega) (by omega) (by omega)
    have o0 := f_hour w (show i < P 0 6 by omega)
    omega, fun {i} h0 => by
    have r22 := qr 22 i (by omega) (by omega) (by omega)
    have o0 := f_cm w (show i < P 0 9 by omega)
    omega, fun {i} h0 => by
    have r23 := qr 23 i (by omega) (by omega) (by omega)
    have o0 := f_cd w (show i < P 0 9 by omega)
    omega⟩
set_option maxRecDepth 16384 in
theorem CT_a3 {h h' : A_H} {T : Nat} {P P' : Gh} (w : WF P) (c : CT h T P) (hk : P 0 3 < 4) (q0 : ∀ j, ¬ j = 3 → P' 0 j = P 0 j) (q1 : P' 0 3 = P 0 3 + 1) (qr : ∀ c i, 1 ≤ c → c ≤ 23 → ¬ ((7 ≤ c ∧ c ≤ 8) ∧ i = P 0 3) → P' c i = P c i) (e : ∀ a b, T ≤ a → a < T + 35 → ¬ a = T + 9 → ¬ (a = T ∧ b = 3) → ¬ (a = T + 14 + P 0 3 ∧ ¬ b = 2) → hI h' a b = hI h a b) (s : hI h' T 3 = nI (P 0 3 + 1)) (n_all : hI h' (T + 14 + P 0 3) 0 = nI (P' 7 (P 0 3))) (n_hun : hI h' (T + 14 + P 0 3) 1 = nI (P' 8 (P 0 3))) : CT h' T P' := by
  have z0 : P' 0 0 = P 0 0 := q0 0 (by omega)
  have z1 : P' 0 1 = P 0 1 := q0 1 (by omega)
  have z2 : P' 0 2 = P 0 2 := q0 2 (by omega)
  have z4 : P' 0 4 = P 0 4 := q0 4 (by omega)
  have z5 : P' 0 5 = P 0 5 := q0 5 (by omega)
  have z6 : P' 0 6 = P 0 6 := q0 6 (by omega)
  have z7 : P' 0 7 = P 0 7 := q0 7 (by omega)
  have z8 : P' 0 8 = P 0 8 := q0 8 (by omega)
  have z9 : P' 0 9 = P 0 9 := q0 9 (by omega)
  have k1 := f_nm w
  have k2 := f_nt w
  have k3 := f_ng w
  have k4 := f_nG w
  have k5 := f_nx w
  have k6 := f_nc w
  exact ⟨(e _ _ (by omega) (by omega) (by omega) (by omega) (by omega)).trans (by rw [z0]; exact c_s0 c), (e _ _ (by omega) (by omega) (by omega) (by omega) (by omega)).trans (by rw [z1]; exact c_s1 c), (e _ _ (by omega) (by omega) (by omega) (by omega) (by omega)).trans (by rw [z2]; exact c_s2 c), by rw [q1]; exact s, (e _ _ (by omega) (by omega) (by omega) (by omega) (by omega)).trans (by rw [z4]; exact c_s4 c), (e _ _ (by omega) (by omega) (by omega) (by omega) (by omega)).trans (by rw [z5]; exact c_s5 c), (e _ _ (by omega) (by omega) (by omega) (by omega) (by omega)).trans (by rw [z6]; exact c_s6 c), (e _ _ (by omega) (by omega) (by omega) (by omega) (by omega)).trans (by rw [z7]; exact c_s7 c), (e _ _ (by omega) (by omega) (by omega) (by omega) (by omega)).trans (by rw [z8]; exact c_s8 c), (e _ _ (by omega) (by omega) (by omega) (by omega) (by omega)).trans (by rw [z9]; exact c_nc c), fun {i} h0 => (e _ _ (by omega) (by omega) (by omega) (by omega) (by omega)).trans (by rw [qr 1 i (by omega) (by omega) (by omega)]; exact c_rate c (by omega)), fun {i} h0 => (e _ _ (by omega) (by omega) (by omega) (by omega) (by omega)).trans (by rw [qr 2 i (by omega) (by omega) (by omega)]; exact c_oth c (by omega)), fun {i} h0 => (e _ _ (by omega) (by omega) (by omega) (by omega) (by omega)).trans (by rw [qr 3 i (by omega) (by omega) (by omega)]; exact c_keeps c (by omega)), fun {i} h0 => (e _ _ (by omega) (by omega) (by omega) (by omega) (by omega)).trans (by rw [qr 4 i (by omega) (by omega) (by omega)]; exact c_pri c (by omega)), fun {i} h0 h1 => (e _ _ (by omega) (by omega) (by omega) (by omega) (by omega)).trans (by rw [qr 5 i (by omega) (by omega) (by omega)]; exact c_here c (by omega) (by have := qr 4 i (by omega) (by omega) (by omega); omega)), fun {i} h0 h1 => (e _ _ (by omega) (by omega) (by omega) (by omega) (by omega)).trans (by rw [qr 6 i (by omega) (by omega) (by omega)]; exact c_there c (by omega) (by have := qr 4 i (by omega) (by omega) (by omega); omega)), fun {i} h0 => by
    by_cases ei : i = P 0 3
    · rw [ei]; exact n_all
    · rw [e _ _ (by omega) (by omega) (by omega) (by omega) (by omega), qr 7 i (by omega) (by omega) (by omega)]; exact c_all c (by omega), fun {i} h0 => by
    by_cases ei : i = P 0 3
    · rw [ei]; exact n_hun
    · rw [e _ _ (by omega) (by omega) (by omega) (by omega) (by omega), qr 8 i (by omega) (by omega) (by omega)]; exact c_hun c (by omega), fun {i} h0 => (e _ _ (by omega) (by omega) (by omega) (by omega) (by omega)).trans (by rw [own_c z5 (fun g hg => qr 14 g (by omega) (by omega) (by omega))]; exact c_own c h0), fun {i} h0 => (e _ _ (by omega) (by omega) (by omega) (by omega) (by omega)).trans (by rw [qr 9 i (by omega) (by omega) (by omega)]; exact c_nose c (by omega)), fun {i} h0 => (e _ _ (by omega) (by omega) (by omega) (by omega) (by omega)).trans (by rw [qr 10 i (by omega) (by omega) (by omega)]; exact c_op c (by omega)), fun {i} h0 => (e _ _ (by omega) (by omega) (by omega) (by omega) (by omega)).trans (by rw [qr 11 i (by omega) (by omega) (by omega)]; exact c_sh c (by omega)), fun {i} h0 => (e _ _ (by omega) (by omega) (by omega) (by omega) (by omega)).trans (by rw [qr 12 i (by omega) (by omega) (by omega)]; exact c_kind c (by omega)), fun {i} h0 => (e _ _ (by omega) (by omega) (by omega) (by omega) (by omega)).trans (by rw [byI_c (qr 12 i (by omega) (by omega) (by omega)) (qr 13 i (by omega) (by omega) (by omega))]; exact c_by c (by omega)), fun {i} h0 => (e _ _ (by omega) (by omega) (by omega) (by omega) (by omega)).trans (by rw [qr 14 i (by omega) (by omega) (by omega)]; exact c_owner c (by omega)), fun {i} h0 => (e _ _ (by omega) (by omega) (by omega) (by omega) (by omega)).trans (by rw [qr 15 i (by omega) (by omega) (by omega)]; exact c_age c (by omega)), fun {i} h0 => (e _ _ (by omega) (by omega) (by omega) (by omega) (by omega)).trans (by rw [kpI_c (qr 12 i (by omega) (by omega) (by omega)) (qr 13 i (by omega) (by omega) (by omega)) (fun c0 => qr 3 _ (by omega) (by omega) (by omega))]; exact c_kp c (by omega)), fun {i} h0 => (e _ _ (by omega) (by omega) (by omega) (by omega) (by omega)).trans (by rw [qr 16 i (by omega) (by omega) (by omega)]; exact c_wei c (by omega)), fun {i} h0 => (e _ _ (by omega) (by omega) (by omega) (by omega) (by omega)).trans (by rw [qr 17 i (by omega) (by omega) (by omega)]; exact c_wor c (by omega)), fun {i} h0 => (e _ _ (by omega) (by omega) (by omega) (by omega) (by omega)).trans (by rw [qr 18 i (by omega) (by omega) (by omega)]; exact c_cro c (by omega)), fun {i} h0 => (e _ _ (by omega) (by omega) (by omega) (by omega) (by omega)).trans (by rw [qr 19 i (by omega) (by omega) (by omega)]; exact c_gat c (by omega)), fun {i} h0 => (e _ _ (by omega) (by omega) (by omega) (by omega) (by omega)).trans (by rw [qr 20 i (by omega) (by omega) (by omega)]; exact c_day c (by omega)), fun {i} h0 => (e _ _ (by omega) (by omega) (by omega) (by omega) (by omega)).trans (by rw [qr 21 i (by omega) (by omega) (by omega)]; exact c_hour c (by omega)), fun {i} h0 => (e _ _ (by omega) (by omega) (by omega) (by omega) (by omega)).trans (by rw [qr 22 i (by omega) (by omega) (by omega)]; exact c_cm c (by omega)), fun {i} h0 => (e _ _ (by omega) (by omega) (by omega) (by omega) (by omega)).trans (by rw [qr 23 i (by omega) (by omega) (by omega)]; exact c_cd c (by omega))⟩
set_option maxRecDepth 16384 in
theorem MB_a3 {h h' : A_H} {B : Nat} {P P' : Gh} (w : WF P) (b : MB h B P) (hk : P 0 3 < 4) (q0 : ∀ j, ¬ j = 3 → P' 0 j = P 0 j) (q1 : P' 0 3 = P 0 3 + 1) (qr : ∀ c i, 1 ≤ c → c ≤ 23 → ¬ ((7 ≤ c ∧ c ≤ 8) ∧ i = P 0 3) → P' c i = P c i) (e : ∀ a j, B ≤ a → a < B + 22 → ¬ (a = B ∧ (j = 3 ∨ j = 10)) → ¬ (B + 5 ≤ a ∧ a ≤ B + 6 ∧ (j = P 0 3)) → hI h' a j = hI h a j) (s : hI h' B 3 = nI (P 0 3 + 1)) (n_all : hI h' (B + 5) (P 0 3) = nI (P' 7 (P 0 3))) (n_hun : hI h' (B + 6) (P 0 3) = nI (P' 8 (P 0 3))) : MB h' B P' := by
  have z0 : P' 0 0 = P 0 0 := q0 0 (by omega)
  have z1 : P' 0 1 = P 0 1 := q0 1 (by omega)
  have z2 : P' 0 2 = P 0 2 := q0 2 (by omega)
  have z4 : P' 0 4 = P 0 4 := q0 4 (by omega)
  have z5 : P' 0 5 = P 0 5 := q0 5 (by omega)
  have z6 : P' 0 6 = P 0 6 := q0 6 (by omega)
  have z7 : P' 0 7 = P 0 7 := q0 7 (by omega)
  have z8 : P' 0 8 = P 0 8 := q0 8 (by omega)
  have z9 : P' 0 9 = P 0 9 := q0 9 (by omega)
  have k1 := f_nm w
  have k2 := f_nt w
  have k3 := f_ng w
  have k4 := f_nG w
  have k5 := f_nx w
  have k6 := f_nc w
  exact ⟨(e _ _ (by omega) (by omega) (by omega) (by omega)).trans (by rw [z0]; exact b_s0 b), (e _ _ (by omega) (by omega) (by omega) (by omega)).trans (by rw [z1]; exact b_s1 b), (e _ _ (by omega) (by omega) (by omega) (by omega)).trans (by rw [z2]; exact b_s2 b), by rw [q1]; exact s, (e _ _ (by omega) (by omega) (by omega) (by omega)).trans (by rw [z4]; exact b_s4 b), (e _ _ (by omega) (by omega) (by omega) (by omega)).trans (by rw [z5]; exact b_s5 b), (e _ _ (by omega) (by omega) (by omega) (by omega)).trans (by rw [z6]; exact b_s6 b), (e _ _ (by omega) (by omega) (by omega) (by omega)).trans (by rw [z7]; exact b_s7 b), (e _ _ (by omega) (by omega) (by omega) (by omega)).trans (by rw [z9]; exact b_nc b), (e _ _ (by omega) (by omega) (by omega) (by omega)).trans (by rw [z8]; exact b_hid b), fun {i} h0 => (e _ _ (by omega) (by omega) (by omega) (by omega)).trans (by rw [qr 1 i (by omega) (by omega) (by omega)]; exact b_rate b (by omega)), fun {i} h0 => (e _ _ (by omega) (by omega) (by omega) (by omega)).trans (by rw [qr 2 i (by omega) (by omega) (by omega)]; exact b_oth b (by omega)), fun {i} h0 => (e _ _ (by omega) (by omega) (by omega) (by omega)).trans (by rw [qr 3 i (by omega) (by omega) (by omega)]; exact b_keeps b (by omega)), fun {i} h0 => (e _ _ (by omega) (by omega) (by omega) (by omega)).trans (by rw [qr 4 i (by omega) (by omega) (by omega), qr 5 i (by omega) (by omega) (by omega)]; exact b_here b (by omega)), fun {i} h0 h1 => (e _ _ (by omega) (by omega) (by omega) (by omega)).trans (by rw [qr 6 i (by omega) (by omega) (by omega)]; exact b_there b (by omega) (by have := qr 4 i (by omega) (by omega) (by omega); omega)), fun {i} h0 => by
    by_cases ei : i = P 0 3
    · rw [ei]; exact n_all
    · rw [e _ _ (by omega) (by omega) (by omega) (by omega), qr 7 i (by omega) (by omega) (by omega)]; exact b_all b (by omega), fun {i} h0 => by
    by_cases ei : i = P 0 3
    · rw [ei]; exact n_hun
    · rw [e _ _ (by omega) (by omega) (by omega) (by omega), qr 8 i (by omega) (by omega) (by omega)]; exact b_hun b (by omega), fun {i} h0 => (e _ _ (by omega) (by omega) (by omega) (by omega)).trans (by rw [qr 9 i (by omega) (by omega) (by omega)]; exact b_nose b (by omega)), fun {i} h0 => (e _ _ (by omega) (by omega) (by omega) (by omega)).trans (by rw [qr 10 i (by omega) (by omega) (by omega)]; exact b_op b (by omega)), fun {i} h0 => (e _ _ (by omega) (by omega) (by omega) (by omega)).trans (by rw [qr 11 i (by omega) (by omega) (by omega)]; exact b_sh b (by omega)), fun {i} h0 => (e _ _ (by omega) (by omega) (by omega) (by omega)).trans (by rw [qr 12 i (by omega) (by omega) (by omega)]; exact b_kind b (by omega)), fun {i} h0 => (e _ _ (by omega) (by omega) (by omega) (by omega)).trans (by rw [byI_c (qr 12 i (by omega) (by omega) (by omega)) (qr 13 i (by omega) (by omega) (by omega))]; exact b_by b (by omega)), fun {i} h0 => (e _ _ (by omega) (by omega) (by omega) (by omega)).trans (by rw [qr 14 i (by omega) (by omega) (by omega)]; exact b_owner b (by omega)), fun {i} h0 => (e _ _ (by omega) (by omega) (by omega) (by omega)).trans (by rw [qr 15 i (by omega) (by omega) (by omega)]; exact b_age b (by omega)), fun {i} h0 => (e _ _ (by omega) (by omega) (by omega) (by omega)).trans (by rw [qr 16 i (by omega) (by omega) (by omega)]; exact b_wei b (by omega)), fun {i} h0 => (e _ _ (by omega) (by omega) (by omega) (by omega)).trans (by rw [qr 17 i (by omega) (by omega) (by omega)]; exact b_wor b (by omega)), fun {i} h0 => (e _ _ (by omega) (by omega) (by omega) (by omega)).trans (by rw [qr 18 i (by omega) (by omega) (by omega)]; exact b_cro b (by omega)), fun {i} h0 => (e _ _ (by omega) (by omega) (by omega) (by omega)).trans (by rw [qr 19 i (by omega) (by omega) (by omega)]; exact b_gat b (by omega)), fun {i} h0 => (e _ _ (by omega) (by omega) (by omega) (by omega)).trans (by rw [qr 20 i (by omega) (by omega) (by omega)]; exact b_day b (by omega)), fun {i} h0 => (e _ _ (by omega) (by omega) (by omega) (by omega)).trans (by rw [qr 21 i (by omega) (by omega) (by omega)]; exact b_hour b (by omega)), fun {i} h0 => (e _ _ (by omega) (by omega) (by omega) (by omega)).trans (by rw [qr 22 i (by omega) (by omega) (by omega)]; exact b_cm b (by omega)), fun {i} h0 => (e _ _ (by omega) (by omega) (by omega) (by omega)).trans (by rw [qr 23 i (by omega) (by omega) (by omega)]; exact b_cd b (by omega))⟩
set_option maxRecDepth 16384 in
theorem WF_a3 {P P' : Gh} (w : WF P) (hk : P 0 3 < 4) (q0 : ∀ j, ¬ j = 3 → P' 0 j = P 0 j) (q1 : P' 0 3 = P 0 3 + 1) (qr : ∀ c i, 1 ≤ c → c ≤ 23 → ¬ ((7 ≤ c ∧ c ≤ 8) ∧ i = P 0 3) → P' c i = P c i) (n_all : P' 7 (P 0 3) ≤ 99) (n_hun : P' 8 (P 0 3) ≤ 3) : WF P' := by
  have z0 : P' 0 0 = P 0 0 := q0 0 (by omega)
  have z1 : P' 0 1 = P 0 1 := q0 1 (by omega)
  have z2 : P' 0 2 = P 0 2 := q0 2 (by omega)
  have z4 : P' 0 4 = P 0 4 := q0 4 (by omega)
  have z5 : P' 0 5 = P 0 5 := q0 5 (by omega)
  have z6 : P' 0 6 = P 0 6 := q0 6 (by omega)
  have z7 : P' 0 7 = P 0 7 := q0 7 (by omega)
  have z8 : P' 0 8 = P 0 8 := q0 8 (by omega)
  have z9 : P' 0 9 = P 0 9 := q0 9 (by omega)
  have k1 := f_nm w
  have k2 := f_nt w
  have k3 := f_ng w
  have k4 := f_nG w
  have k5 := f_nx w
  have k6 := f_nc w
  exact ⟨by rw [z0]; exact f_fee w, by rw [z1]; exact f_int w, by rw [z2]; exact f_nm w, by rw [q1]; omega, by rw [z4]; exact f_ng w, by rw [z5]; exact f_nG w, by rw [z6]; exact f_nx w, by rw [z7]; exact f_np w, by rw [z8, z5]; exact f_hid w, by rw [z9]; exact f_nc w, fun {i} h0 => by
    have r1 := qr 1 i (by omega) (by omega) (by omega)
    have o0 := f_rate w (show i < P 0 2 by omega)
    omega, fun {i} h0 => by
    have r2 := qr 2 i (by omega) (by omega) (by omega)
    have o0 := f_oth w (show i < P 0 2 by omega)
    omega, fun {i} h0 => by
    have r3 := qr 3 i (by omega) (by omega) (by omega)
    have o0 := f_keeps w (show i < P 0 2 by omega)
    omega, fun {i} h0 => by
    have r4 := qr 4 i (by omega) (by omega) (by omega)
    have o0 := f_pri w (show i < P 0 2 by omega)
    omega, fun {i} h0 => by
    have r5 := qr 5 i (by omega) (by omega) (by omega)
    have o0 := f_here w (show i < P 0 2 by omega)
    omega, fun {i} h0 => by
    have r6 := qr 6 i (by omega) (by omega) (by omega)
    have o0 := f_there w (show i < P 0 2 by omega)
    omega, fun {i} h0 => by
    by_cases ei : i = P 0 3
    · rw [ei]; have := n_all; omega
    · have r7 := qr 7 i (by omega) (by omega) (by omega)
      have o0 := f_all w (show i < P 0 3 by omega)
      omega, fun {i} h0 => by
    by_cases ei : i = P 0 3
    · rw [ei]; have := n_hun; omega
    · have r8 := qr 8 i (by omega) (by omega) (by omega)
      have o0 := f_hun w (show i < P 0 3 by omega)
      omega, fun {i} h0 => by
    have r9 := qr 9 i (by omega) (by omega) (by omega)
    have o0 := f_nose w (show i < P 0 4 by omega)
    omega, fun {i} h0 => by
    have r10 := qr 10 i (by omega) (by omega) (by omega)
    have o0 := f_op w (show i < P 0 4 by omega)
    omega, fun {i} h0 => by
    have r11 := qr 11 i (by omega) (by omega) (by omega)
    have o0 := f_sh w (show i < P 0 4 by omega)
    omega, fun {i} h0 => by
    have r12 := qr 12 i (by omega) (by omega) (by omega)
    have o0 := f_kind w (show i < P 0 5 by omega)
    omega, fun {i} h0 h1 => by
    have r13 := qr 13 i (by omega) (by omega) (by omega)
    have r12 := qr 12 i (by omega) (by omega) (by omega)
    have o0 := f_by w (show i < P 0 5 by omega) (fun c0 => h1 (r12.trans c0))
    omega, fun {i} h0 => by
    have r14 := qr 14 i (by omega) (by omega) (by omega)
    have o0 := f_own w (show i < P 0 5 by omega)
    omega, fun {i} h0 => by
    have r15 := qr 15 i (by omega) (by omega) (by omega)
    have o0 := f_age w (show i < P 0 5 by omega)
    omega, fun {i} h0 => by
    have r16 := qr 16 i (by omega) (by omega) (by omega)
    have o0 := f_wei w (show i < P 0 5 by omega)
    omega, fun {i} h0 => by
    have r17 := qr 17 i (by omega) (by omega) (by omega)
    have o0 := f_wor w (show i < P 0 5 by omega)
    omega, fun {i} h0 => by
    have r18 := qr 18 i (by omega) (by omega) (by omega)
    have o0 := f_cro w (show i < P 0 6 by omega)
    omega, fun {i} h0 => by
    have r19 := qr 19 i (by omega) (by omega) (by omega)
    have o0 := f_gat w (show i < P 0 6 by omega)
    omega, fun {i} h0 => by
    have r20 := qr 20 i (by omega) (by omega) (by omega)
    have o0 := f_day w (show i < P 0 6 by omega)
    omega, fun {i} h0 => by
    have r21 := qr 21 i (by omega) (by omega) (by omega)
    have o0 := f_hour w (show i < P 0 6 by omega)
    omega, fun {i} h0 => by
    have r22 := qr 22 i (by omega) (by omega) (by omega)
    have o0 := f_cm w (show i < P 0 9 by omega)
    omega, fun {i} h0 => by
    have r23 := qr 23 i (by omega) (by omega) (by omega)
    have o0 := f_cd w (show i < P 0 9 by omega)
    omega⟩
set_option maxRecDepth 16384 in
theorem CT_a4 {h h' : A_H} {T : Nat} {P P' : Gh} (w : WF P) (c : CT h T P) (hk : P 0 4 < 3) (q0 : ∀ j, ¬ j = 4 → P' 0 j = P 0 j) (q1 : P' 0 4 = P 0 4 + 1) (qr : ∀ c i, 1 ≤ c → c ≤ 23 → ¬ ((9 ≤ c ∧ c ≤ 11) ∧ i = P 0 4) → P' c i = P c i) (e : ∀ a b, T ≤ a → a < T + 35 → ¬ a = T + 9 → ¬ (a = T ∧ b = 4) → ¬ (a = T + 18 + P 0 4) → hI h' a b = hI h a b) (s : hI h' T 4 = nI (P 0 4 + 1)) (n_nose : hI h' (T + 18 + P 0 4) 0 = nI (P' 9 (P 0 4))) (n_op : hI h' (T + 18 + P 0 4) 1 = nI (P' 10 (P 0 4))) (n_sh : hI h' (T + 18 + P 0 4) 2 = nI (P' 11 (P 0 4))) : CT h' T P' := by
  have z0 : P' 0 0 = P 0 0 := q0 0 (by omega)
  have z1 : P' 0 1 = P 0 1 := q0 1 (by omega)
  have z2 : P' 0 2 = P 0 2 := q0 2 (by omega)
  have z3 : P' 0 3 = P 0 3 := q0 3 (by omega)
  have z5 : P' 0 5 = P 0 5 := q0 5 (by omega)
  have z6 : P' 0 6 = P 0 6 := q0 6 (by omega)
  have z7 : P' 0 7 = P 0 7 := q0 7 (by omega)
  have z8 : P' 0 8 = P 0 8 := q0 8 (by omega)
  have z9 : P' 0 9 = P 0 9 := q0 9 (by omega)
  have k1 := f_nm w
  have k2 := f_nt w
  have k3 := f_ng w
  have k4 := f_nG w
  have k5 := f_nx w
  have k6 := f_nc w
  exact ⟨(e _ _ (by omega) (by omega) (by omega) (by omega) (by omega)).trans (by rw [z0]; exact c_s0 c), (e _ _ (by omega) (by omega) (by omega) (by omega) (by omega)).trans (by rw [z1]; exact c_s1 c), (e _ _ (by omega) (by omega) (by omega) (by omega) (by omega)).trans (by rw [z2]; exact c_s2 c), (e _ _ (by omega) (by omega) (by omega) (by omega) (by omega)).trans (by rw [z3]; exact c_s3 c), by rw [q1]; exact s, (e _ _ (by omega) (by omega) (by omega) (by omega) (by omega)).trans (by rw [z5]; exact c_s5 c), (e _ _ (by omega) (by omega) (by omega) (by omega) (by omega)).trans (by rw [z6]; exact c_s6 c), (e _ _ (by omega) (by omega) (by omega) (by omega) (by omega)).trans (by rw [z7]; exact c_s7 c), (e _ _ (by omega) (by omega) (by omega) (by omega) (by omega)).trans (by rw [z8]; exact c_s8 c), (e _ _ (by omega) (by omega) (by omega) (by omega) (by omega)).trans (by rw [z9]; exact c_nc c), fun {i} h0 => (e _ _ (by omega) (by omega) (by omega) (by omega) (by omega)).trans (by rw [qr 1 i (by omega) (by omega) (by omega)]; exact c_rate c (by omega)), fun {i} h0 => (e _ _ (by omega) (by omega) (by omega) (by omega) (by omega)).trans (by rw [qr 2 i (by omega) (by omega) (by omega)]; exact c_oth c (by omega)), fun {i} h0 => (e _ _ (by omega) (by omega) (by omega) (by omega) (by omega)).trans (by rw [qr 3 i (by omega) (by omega) (by omega)]; exact c_keeps c (by omega)), fun {i} h0 => (e _ _ (by omega) (by omega) (by omega) (by omega) (by omega)).trans (by rw [qr 4 i (by omega) (by omega) (by omega)]; exact c_pri c (by omega)), fun {i} h0 h1 => (e _ _ (by omega) (by omega) (by omega) (by omega) (by omega)).trans (by rw [qr 5 i (by omega) (by omega) (by omega)]; exact c_here c (by omega) (by have := qr 4 i (by omega) (by omega) (by omega); omega)), fun {i} h0 h1 => (e _ _ (by omega) (by omega) (by omega) (by omega) (by omega)).trans (by rw [qr 6 i (by omega) (by omega) (by omega)]; exact c_there c (by omega) (by have := qr 4 i (by omega) (by omega) (by omega); omega)), fun {i} h0 => (e _ _ (by omega) (by omega) (by omega) (by omega) (by omega)).trans (by rw [qr 7 i (by omega) (by omega) (by omega)]; exact c_all c (by omega)), fun {i} h0 => (e _ _ (by omega) (by omega) (by omega) (by omega) (by omega)).trans (by rw [qr 8 i (by omega) (by omega) (by omega)]; exact c_hun c (by omega)), fun {i} h0 => (e _ _ (by omega) (by omega) (by omega) (by omega) (by omega)).trans (by rw [own_c z5 (fun g hg => qr 14 g (by omega) (by omega) (by omega))]; exact c_own c h0), fun {i} h0 => by
    by_cases ei : i = P 0 4
    · rw [ei]; exact n_nose
    · rw [e _ _ (by omega) (by omega) (by omega) (by omega) (by omega), qr 9 i (by omega) (by omega) (by omega)]; exact c_nose c (by omega), fun {i} h0 => by
    by_cases ei : i = P 0 4
    · rw [ei]; exact n_op
    · rw [e _ _ (by omega) (by omega) (by omega) (by omega) (by omega), qr 10 i (by omega) (by omega) (by omega)]; exact c_op c (by omega), fun {i} h0 => by
    by_cases ei : i = P 0 4
    · rw [ei]; exact n_sh
    · rw [e _ _ (by omega) (by omega) (by omega) (by omega) (by omega), qr 11 i (by omega) (by omega) (by omega)]; exact c_sh c (by omega), fun {i} h0 => (e _ _ (by omega) (by omega) (by omega) (by omega) (by omega)).trans (by rw [qr 12 i (by omega) (by omega) (by omega)]; exact c_kind c (by omega)), fun {i} h0 => (e _ _ (by omega) (by omega) (by omega) (by omega) (by omega)).trans (by rw [byI_c (qr 12 i (by omega) (by omega) (by omega)) (qr 13 i (by omega) (by omega) (by omega))]; exact c_by c (by omega)), fun {i} h0 => (e _ _ (by omega) (by omega) (by omega) (by omega) (by omega)).trans (by rw [qr 14 i (by omega) (by omega) (by omega)]; exact c_owner c (by omega)), fun {i} h0 => (e _ _ (by omega) (by omega) (by omega) (by omega) (by omega)).trans (by rw [qr 15 i (by omega) (by omega) (by omega)]; exact c_age c (by omega)), fun {i} h0 => (e _ _ (by omega) (by omega) (by omega) (by omega) (by omega)).trans (by rw [kpI_c (qr 12 i (by omega) (by omega) (by omega)) (qr 13 i (by omega) (by omega) (by omega)) (fun c0 => qr 3 _ (by omega) (by omega) (by omega))]; exact c_kp c (by omega)), fun {i} h0 => (e _ _ (by omega) (by omega) (by omega) (by omega) (by omega)).trans (by rw [qr 16 i (by omega) (by omega) (by omega)]; exact c_wei c (by omega)), fun {i} h0 => (e _ _ (by omega) (by omega) (by omega) (by omega) (by omega)).trans (by rw [qr 17 i (by omega) (by omega) (by omega)]; exact c_wor c (by omega)), fun {i} h0 => (e _ _ (by omega) (by omega) (by omega) (by omega) (by omega)).trans (by rw [qr 18 i (by omega) (by omega) (by omega)]; exact c_cro c (by omega)), fun {i} h0 => (e _ _ (by omega) (by omega) (by omega) (by omega) (by omega)).trans (by rw [qr 19 i (by omega) (by omega) (by omega)]; exact c_gat c (by omega)), fun {i} h0 => (e _ _ (by omega) (by omega) (by omega) (by omega) (by omega)).trans (by rw [qr 20 i (by omega) (by omega) (by omega)]; exact c_day c (by omega)), fun {i} h0 => (e _ _ (by omega) (by omega) (by omega) (by omega) (by omega)).trans (by rw [qr 21 i (by omega) (by omega) (by omega)]; exact c_hour c (by omega)), fun {i} h0 => (e _ _ (by omega) (by omega) (by omega) (by omega) (by omega)).trans (by rw [qr 22 i (by omega) (by omega) (by omega)]; exact c_cm c (by omega)), fun {i} h0 => (e _ _ (by omega) (by omega) (by omega) (by omega) (by omega)).trans (by rw [qr 23 i (by omega) (by omega) (by omega)]; exact c_cd c (by omega))⟩
set_option maxRecDepth 16384 in
theorem MB_a4 {h h' : A_H} {B : Nat} {P P' : Gh} (w : WF P) (b : MB h B P) (hk : P 0 4 < 3) (q0 : ∀ j, ¬ j = 4 → P' 0 j = P 0 j) (q1 : P' 0 4 = P 0 4 + 1) (qr : ∀ c i, 1 ≤ c → c ≤ 23 → ¬ ((9 ≤ c ∧ c ≤ 11) ∧ i = P 0 4) → P' c i = P c i) (e : ∀ a j, B ≤ a → a < B + 22 → ¬ (a = B ∧ (j = 4 ∨ j = 10)) → ¬ (B + 7 ≤ a ∧ a ≤ B + 9 ∧ (j = P 0 4)) → hI h' a j = hI h a j) (s : hI h' B 4 = nI (P 0 4 + 1)) (n_nose : hI h' (B + 7) (P 0 4) = nI (P' 9 (P 0 4))) (n_op : hI h' (B + 8) (P 0 4) = nI (P' 10 (P 0 4))) (n_sh : hI h' (B + 9) (P 0 4) = nI (P' 11 (P 0 4))) : MB h' B P' := by
  have z0 : P' 0 0 = P 0 0 := q0 0 (by omega)
  have z1 : P' 0 1 = P 0 1 := q0 1 (by omega)
  have z2 : P' 0 2 = P 0 2 := q0 2 (by omega)
  have z3 : P' 0 3 = P 0 3 := q0 3 (by omega)
  have z5 : P' 0 5 = P 0 5 := q0 5 (by omega)
  have z6 : P' 0 6 = P 0 6 := q0 6 (by omega)
  have z7 : P' 0 7 = P 0 7 := q0 7 (by omega)
  have z8 : P' 0 8 = P 0 8 := q0 8 (by omega)
  have z9 : P' 0 9 = P 0 9 := q0 9 (by omega)
  have k1 := f_nm w
  have k2 := f_nt w
  have k3 := f_ng w
  have k4 := f_nG w
  have k5 := f_nx w
  have k6 := f_nc w
  exact ⟨(e _ _ (by omega) (by omega) (by omega) (by omega)).trans (by rw [z0]; exact b_s0 b), (e _ _ (by omega) (by omega) (by omega) (by omega)).trans (by rw [z1]; exact b_s1 b), (e _ _ (by omega) (by omega) (by omega) (by omega)).trans (by rw [z2]; exact b_s2 b), (e _ _ (by omega) (by omega) (by omega) (by omega)).trans (by rw [z3]; exact b_s3 b), by rw [q1]; exact s, (e _ _ (by omega) (by omega) (by omega) (by omega)).trans (by rw [z5]; exact b_s5 b), (e _ _ (by omega) (by omega) (by omega) (by omega)).trans (by rw [z6]; exact b_s6 b), (e _ _ (by omega) (by omega) (by omega) (by omega)).trans (by rw [z7]; exact b_s7 b), (e _ _ (by omega) (by omega) (by omega) (by omega)).trans (by rw [z9]; exact b_nc b), (e _ _ (by omega) (by omega) (by omega) (by omega)).trans (by rw [z8]; exact b_hid b), fun {i} h0 => (e _ _ (by omega) (by omega) (by omega) (by omega)).trans (by rw [qr 1 i (by omega) (by omega) (by omega)]; exact b_rate b (by omega)), fun {i} h0 => (e _ _ (by omega) (by omega) (by omega) (by omega)).trans (by rw [qr 2 i (by omega) (by omega) (by omega)]; exact b_oth b (by omega)), fun {i} h0 => (e _ _ (by omega) (by omega) (by omega) (by omega)).trans (by rw [qr 3 i (by omega) (by omega) (by omega)]; exact b_keeps b (by omega)), fun {i} h0 => (e _ _ (by omega) (by omega) (by omega) (by omega)).trans (by rw [qr 4 i (by omega) (by omega) (by omega), qr 5 i (by omega) (by omega) (by omega)]; exact b_here b (by omega)), fun {i} h0 h1 => (e _ _ (by omega) (by omega) (by omega) (by omega)).trans (by rw [qr 6 i (by omega) (by omega) (by omega)]; exact b_there b (by omega) (by have := qr 4 i (by omega) (by omega) (by omega); omega)), fun {i} h0 => (e _ _ (by omega) (by omega) (by omega) (by omega)).trans (by rw [qr 7 i (by omega) (by omega) (by omega)]; exact b_all b (by omega)), fun {i} h0 => (e _ _ (by omega) (by omega) (by omega) (by omega)).trans (by rw [qr 8 i (by omega) (by omega) (by omega)]; exact b_hun b (by omega)), fun {i} h0 => by
    by_cases ei : i = P 0 4
    · rw [ei]; exact n_nose
    · rw [e _ _ (by omega) (by omega) (by omega) (by omega), qr 9 i (by omega) (by omega) (by omega)]; exact b_nose b (by omega), fun {i} h0 => by
    by_cases ei : i = P 0 4
    · rw [ei]; exact n_op
    · rw [e _ _ (by omega) (by omega) (by omega) (by omega), qr 10 i (by omega) (by omega) (by omega)]; exact b_op b (by omega), fun {i} h0 => by
    by_cases ei : i = P 0 4
    · rw [ei]; exact n_sh
    · rw [e _ _ (by omega) (by omega) (by omega) (by omega), qr 11 i (by omega) (by omega) (by omega)]; exact b_sh b (by omega), fun {i} h0 => (e _ _ (by omega) (by omega) (by omega) (by omega)).trans (by rw [qr 12 i (by omega) (by omega) (by omega)]; exact b_kind b (by omega)), fun {i} h0 => (e _ _ (by omega) (by omega) (by omega) (by omega)).trans (by rw [byI_c (qr 12 i (by omega) (by omega) (by omega)) (qr 13 i (by omega) (by omega) (by omega))]; exact b_by b (by omega)), fun {i} h0 => (e _ _ (by omega) (by omega) (by omega) (by omega)).trans (by rw [qr 14 i (by omega) (by omega) (by omega)]; exact b_owner b (by omega)), fun {i} h0 => (e _ _ (by omega) (by omega) (by omega) (by omega)).trans (by rw [qr 15 i (by omega) (by omega) (by omega)]; exact b_age b (by omega)), fun {i} h0 => (e _ _ (by omega) (by omega) (by omega) (by omega)).trans (by rw [qr 16 i (by omega) (by omega) (by omega)]; exact b_wei b (by omega)), fun {i} h0 => (e _ _ (by omega) (by omega) (by omega) (by omega)).trans (by rw [qr 17 i (by omega) (by omega) (by omega)]; exact b_wor b (by omega)), fun {i} h0 => (e _ _ (by omega) (by omega) (by omega) (by omega)).trans (by rw [qr 18 i (by omega) (by omega) (by omega)]; exact b_cro b (by omega)), fun {i} h0 => (e _ _ (by omega) (by omega) (by omega) (by omega)).trans (by rw [qr 19 i (by omega) (by omega) (by omega)]; exact b_gat b (by omega)), fun {i} h0 => (e _ _ (by omega) (by omega) (by omega) (by omega)).trans (by rw [qr 20 i (by omega) (by omega) (by omega)]; exact b_day b (by omega)), fun {i} h0 => (e _ _ (by omega) (by omega) (by omega) (by omega)).trans (by rw [qr 21 i (by omega) (by omega) (by omega)]; exact b_hour b (by omega)), fun {i} h0 => (e _ _ (by omega) (by omega) (by omega) (by omega)).trans (by rw [qr 22 i (by omega) (by omega) (by omega)]; exact b_cm b (by omega)), fun {i} h0 => (e _ _ (by omega) (by omega) (by omega) (by omega)).trans (by rw [qr 23 i (by omega) (by omega) (by omega)]; exact b_cd b (by omega))⟩
set_option maxRecDepth 16384 in
theorem WF_a4 {P P' : Gh} (w : WF P) (hk : P 0 4 < 3) (q0 : ∀ j, ¬ j = 4 → P' 0 j = P 0 j) (q1 : P' 0 4 = P 0 4 + 1) (qr : ∀ c i, 1 ≤ c → c ≤ 23 → ¬ ((9 ≤ c ∧ c ≤ 11) ∧ i = P 0 4) → P' c i = P c i) (n_nose : 1 ≤ P' 9 (P 0 4) ∧ P' 9 (P 0 4) ≤ 99) (n_op : P' 10 (P 0 4) ≤ 23) (n_sh : P' 11 (P 0 4) ≤ 23) : WF P' := by
  have z0 : P' 0 0 = P 0 0 := q0 0 (by omega)
  have z1 : P' 0 1 = P 0 1 := q0 1 (by omega)
  have z2 : P' 0 2 = P 0 2 := q0 2 (by omega)
  have z3 : P' 0 3 = P 0 3 := q0 3 (by omega)
  have z5 : P' 0 5 = P 0 5 := q0 5 (by omega)
  have z6 : P' 0 6 = P 0 6 := q0 6 (by omega)
  have z7 : P' 0 7 = P 0 7 := q0 7 (by omega)
  have z8 : P' 0 8 = P 0 8 := q0 8 (by omega)
  have z9 : P' 0 9 = P 0 9 := q0 9 (by omega)
  have k1 := f_nm w
  have k2 := f_nt w
  have k3 := f_ng w
  have k4 := f_nG w
  have k5 := f_nx w
  have k6 := f_nc w
  exact ⟨by rw [z0]; exact f_fee w, by rw [z1]; exact f_int w, by rw [z2]; exact f_nm w, by rw [z3]; exact f_nt w, by rw [q1]; omega, by rw [z5]; exact f_nG w, by rw [z6]; exact f_nx w, by rw [z7]; exact f_np w, by rw [z8, z5]; exact f_hid w, by rw [z9]; exact f_nc w, fun {i} h0 => by
    have r1 := qr 1 i (by omega) (by omega) (by omega)
    have o0 := f_rate w (show i < P 0 2 by omega)
    omega, fun {i} h0 => by
    have r2 := qr 2 i (by omega) (by omega) (by omega)
    have o0 := f_oth w (show i < P 0 2 by omega)
    omega, fun {i} h0 => by
    have r3 := qr 3 i (by omega) (by omega) (by omega)
    have o0 := f_keeps w (show i < P 0 2 by omega)
    omega, fun {i} h0 => by
    have r4 := qr 4 i (by omega) (by omega) (by omega)
    have o0 := f_pri w (show i < P 0 2 by omega)
    omega, fun {i} h0 => by
    have r5 := qr 5 i (by omega) (by omega) (by omega)
    have o0 := f_here w (show i < P 0 2 by omega)
    omega, fun {i} h0 => by
    have r6 := qr 6 i (by omega) (by omega) (by omega)
    have o0 := f_there w (show i < P 0 2 by omega)
    omega, fun {i} h0 => by
    have r7 := qr 7 i (by omega) (by omega) (by omega)
    have o0 := f_all w (show i < P 0 3 by omega)
    omega, fun {i} h0 => by
    have r8 := qr 8 i (by omega) (by omega) (by omega)
    have o0 := f_hun w (show i < P 0 3 by omega)
    omega, fun {i} h0 => by
    by_cases ei : i = P 0 4
    · rw [ei]; have := n_nose; omega
    · have r9 := qr 9 i (by omega) (by omega) (by omega)
      have o0 := f_nose w (show i < P 0 4 by omega)
      omega, fun {i} h0 => by
    by_cases ei : i = P 0 4
    · rw [ei]; have := n_op; omega
    · have r10 := qr 10 i (by omega) (by omega) (by omega)
      have o0 := f_op w (show i < P 0 4 by omega)
      omega, fun {i} h0 => by
    by_cases ei : i = P 0 4
    · rw [ei]; have := n_sh; omega
    · have r11 := qr 11 i (by omega) (by omega) (by omega)
      have o0 := f_sh w (show i < P 0 4 by omega)
      omega, fun {i} h0 => by
    have r12 := qr 12 i (by omega) (by omega) (by omega)
    have o0 := f_kind w (show i < P 0 5 by omega)
    omega, fun {i} h0 h1 => by
    have r13 := qr 13 i (by omega) (by omega) (by omega)
    have r12 := qr 12 i (by omega) (by omega) (by omega)
    have o0 := f_by w (show i < P 0 5 by omega) (fun c0 => h1 (r12.trans c0))
    omega, fun {i} h0 => by
    have r14 := qr 14 i (by omega) (by omega) (by omega)
    have o0 := f_own w (show i < P 0 5 by omega)
    omega, fun {i} h0 => by
    have r15 := qr 15 i (by omega) (by omega) (by omega)
    have o0 := f_age w (show i < P 0 5 by omega)
    omega, fun {i} h0 => by
    have r16 := qr 16 i (by omega) (by omega) (by omega)
    have o0 := f_wei w (show i < P 0 5 by omega)
    omega, fun {i} h0 => by
    have r17 := qr 17 i (by omega) (by omega) (by omega)
    have o0 := f_wor w (show i < P 0 5 by omega)
    omega, fun {i} h0 => by
    have r18 := qr 18 i (by omega) (by omega) (by omega)
    have o0 := f_cro w (show i < P 0 6 by omega)
    omega, fun {i} h0 => by
    have r19 := qr 19 i (by omega) (by omega) (by omega)
    have o0 := f_gat w (show i < P 0 6 by omega)
    omega, fun {i} h0 => by
    have r20 := qr 20 i (by omega) (by omega) (by omega)
    have o0 := f_day w (show i < P 0 6 by omega)
    omega, fun {i} h0 => by
    have r21 := qr 21 i (by omega) (by omega) (by omega)
    have o0 := f_hour w (show i < P 0 6 by omega)
    omega, fun {i} h0 => by
    have r22 := qr 22 i (by omega) (by omega) (by omega)
    have o0 := f_cm w (show i < P 0 9 by omega)
    omega, fun {i} h0 => by
    have r23 := qr 23 i (by omega) (by omega) (by omega)
    have o0 := f_cd w (show i < P 0 9 by omega)
    omega⟩
set_option maxRecDepth 16384 in
theorem CT_a5 {h h' : A_H} {T : Nat} {P P' : Gh} (w : WF P) (c : CT h T P) (hk : P 0 5 < 8) (q0 : ∀ j, ¬ j = 5 → P' 0 j = P 0 j) (q1 : P' 0 5 = P 0 5 + 1) (qr : ∀ c i, 1 ≤ c → c ≤ 23 → ¬ ((12 ≤ c ∧ c ≤ 17) ∧ i = P 0 5) → P' c i = P c i) (e : ∀ a b, T ≤ a → a < T + 35 → ¬ a = T + 9 → ¬ (a = T ∧ b = 5) → ¬ a = T + 21 + P 0 5 → ¬ (T + 14 ≤ a ∧ a < T + 18 ∧ b = 2) → hI h' a b = hI h a b) (s : hI h' T 5 = nI (P 0 5 + 1)) (no : ∀ {i : Nat}, i < 4 → hI h' (T + 14 + i) 2 = nI (own P' i)) (n_kind : hI h' (T + 21 + P 0 5) 0 = nI (P' 12 (P 0 5))) (n_by : hI h' (T + 21 + P 0 5) 1 = byI P' (P 0 5)) (n_owner : hI h' (T + 21 + P 0 5) 2 = nI (P' 14 (P 0 5))) (n_age : hI h' (T + 21 + P 0 5) 3 = nI (P' 15 (P 0 5))) (n_kp : hI h' (T + 21 + P 0 5) 4 = kpI P' (P 0 5)) (n_wei : hI h' (T + 21 + P 0 5) 5 = nI (P' 16 (P 0 5))) (n_wor : hI h' (T + 21 + P 0 5) 6 = nI (P' 17 (P 0 5))) : CT h' T P' := by
  have z0 : P' 0 0 = P 0 0 := q0 0 (by omega)
  have z1 : P' 0 1 = P 0 1 := q0 1 (by omega)
  have z2 : P' 0 2 = P 0 2 := q0 2 (by omega)
  have z3 : P' 0 3 = P 0 3 := q0 3 (by omega)
  have z4 : P' 0 4 = P 0 4 := q0 4 (by omega)
  have z6 : P' 0 6 = P 0 6 := q0 6 (by omega)
  have z7 : P' 0 7 = P 0 7 := q0 7 (by omega)
  have z8 : P' 0 8 = P 0 8 := q0 8 (by omega)
  have z9 : P' 0 9 = P 0 9 := q0 9 (by omega)
  have k1 := f_nm w
  have k2 := f_nt w
  have k3 := f_ng w
  have k4 := f_nG w
  have k5 := f_nx w
  have k6 := f_nc w
  exact ⟨(e _ _ (by omega) (by omega) (by omega) (by omega) (by omega) (by omega)).trans (by rw [z0]; exact c_s0 c), (e _ _ (by omega) (by omega) (by omega) (by omega) (by omega) (by omega)).trans (by rw [z1]; exact c_s1 c), (e _ _ (by omega) (by omega) (by omega) (by omega) (by omega) (by omega)).trans (by rw [z2]; exact c_s2 c), (e _ _ (by omega) (by omega) (by omega) (by omega) (by omega) (by omega)).trans (by rw [z3]; exact c_s3 c), (e _ _ (by omega) (by omega) (by omega) (by omega) (by omega) (by omega)).trans (by rw [z4]; exact c_s4 c), by rw [q1]; exact s, (e _ _ (by omega) (by omega) (by omega) (by omega) (by omega) (by omega)).trans (by rw [z6]; exact c_s6 c), (e _ _ (by omega) (by omega) (by omega) (by omega) (by omega) (by omega)).trans (by rw [z7]; exact c_s7 c), (e _ _ (by omega) (by omega) (by omega) (by omega) (by omega) (by omega)).trans (by rw [z8]; exact c_s8 c), (e _ _ (by omega) (by omega) (by omega) (by omega) (by omega) (by omega)).trans (by rw [z9]; exact c_nc c), fun {i} h0 => (e _ _ (by omega) (by omega) (by omega) (by omega) (by omega) (by omega)).trans (by rw [qr 1 i (by omega) (by omega) (by omega)]; exact c_rate c (by omega)), fun {i} h0 => (e _ _ (by omega) (by omega) (by omega) (by omega) (by omega) (by omega)).trans (by rw [qr 2 i (by omega) (by omega) (by omega)]; exact c_oth c (by omega)), fun {i} h0 => (e _ _ (by omega) (by omega) (by omega) (by omega) (by omega) (by omega)).trans (by rw [qr 3 i (by omega) (by omega) (by omega)]; exact c_keeps c (by omega)), fun {i} h0 => (e _ _ (by omega) (by omega) (by omega) (by omega) (by omega) (by omega)).trans (by rw [qr 4 i (by omega) (by omega) (by omega)]; exact c_pri c (by omega)), fun {i} h0 h1 => (e _ _ (by omega) (by omega) (by omega) (by omega) (by omega) (by omega)).trans (by rw [qr 5 i (by omega) (by omega) (by omega)]; exact c_here c (by omega) (by have := qr 4 i (by omega) (by omega) (by omega); omega)), fun {i} h0 h1 => (e _ _ (by omega) (by omega) (by omega) (by omega) (by omega) (by omega)).trans (by rw [qr 6 i (by omega) (by omega) (by omega)]; exact c_there c (by omega) (by have := qr 4 i (by omega) (by omega) (by omega); omega)), fun {i} h0 => (e _ _ (by omega) (by omega) (by omega) (by omega) (by omega) (by omega)).trans (by rw [qr 7 i (by omega) (by omega) (by omega)]; exact c_all c (by omega)), fun {i} h0 => (e _ _ (by omega) (by omega) (by omega) (by omega) (by omega) (by omega)).trans (by rw [qr 8 i (by omega) (by omega) (by omega)]; exact c_hun c (by omega)), no, fun {i} h0 => (e _ _ (by omega) (by omega) (by omega) (by omega) (by omega) (by omega)).trans (by rw [qr 9 i (by omega) (by omega) (by omega)]; exact c_nose c (by omega)), fun {i} h0 => (e _ _ (by omega) (by omega) (by omega) (by omega) (by omega) (by omega)).trans (by rw [qr 10 i (by omega) (by omega) (by omega)]; exact c_op c (by omega)), fun {i} h0 => (e _ _ (by omega) (by omega) (by omega) (by omega) (by omega) (by omega)).trans (by rw [qr 11 i (by omega) (by omega) (by omega)]; exact c_sh c (by omega)), fun {i} h0 => by
    by_cases ei : i = P 0 5
    · rw [ei]; exact n_kind
    · rw [e _ _ (by omega) (by omega) (by omega) (by omega) (by omega) (by omega), qr 12 i (by omega) (by omega) (by omega)]; exact c_kind c (by omega), fun {i} h0 => by
    by_cases ei : i = P 0 5
    · rw [ei]; exact n_by
    · rw [e _ _ (by omega) (by omega) (by omega) (by omega) (by omega) (by omega), byI_c (qr 12 i (by omega) (by omega) (by omega)) (qr 13 i (by omega) (by omega) (by omega))]; exact c_by c (by omega), fun {i} h0 => by
    by_cases ei : i = P 0 5
    · rw [ei]; exact n_owner
    · rw [e _ _ (by omega) (by omega) (by omega) (by omega) (by omega) (by omega), qr 14 i (by omega) (by omega) (by omega)]; exact c_owner c (by omega), fun {i} h0 => by
    by_cases ei : i = P 0 5
    · rw [ei]; exact n_age
    · rw [e _ _ (by omega) (by omega) (by omega) (by omega) (by omega) (by omega), qr 15 i (by omega) (by omega) (by omega)]; exact c_age c (by omega), fun {i} h0 => by
    by_cases ei : i = P 0 5
    · rw [ei]; exact n_kp
    · rw [e _ _ (by omega) (by omega) (by omega) (by omega) (by omega) (by omega), kpI_c (qr 12 i (by omega) (by omega) (by omega)) (qr 13 i (by omega) (by omega) (by omega)) (fun c0 => qr 3 _ (by omega) (by omega) (by omega))]; exact c_kp c (by omega), fun {i} h0 => by
    by_cases ei : i = P 0 5
    · rw [ei]; exact n_wei
    · rw [e _ _ (by omega) (by omega) (by omega) (by omega) (by omega) (by omega), qr 16 i (by omega) (by omega) (by omega)]; exact c_wei c (by omega), fun {i} h0 => by
    by_cases ei : i = P 0 5
    · rw [ei]; exact n_wor
    · rw [e _ _ (by omega) (by omega) (by omega) (by omega) (by omega) (by omega), qr 17 i (by omega) (by omega) (by omega)]; exact c_wor c (by omega), fun {i} h0 => (e _ _ (by omega) (by omega) (by omega) (by omega) (by omega) (by omega)).trans (by rw [qr 18 i (by omega) (by omega) (by omega)]; exact c_cro c (by omega)), fun {i} h0 => (e _ _ (by omega) (by omega) (by omega) (by omega) (by omega) (by omega)).trans (by rw [qr 19 i (by omega) (by omega) (by omega)]; exact c_gat c (by omega)), fun {i} h0 => (e _ _ (by omega) (by omega) (by omega) (by omega) (by omega) (by omega)).trans (by rw [qr 20 i (by omega) (by omega) (by omega)]; exact c_day c (by omega)), fun {i} h0 => (e _ _ (by omega) (by omega) (by omega) (by omega) (by omega) (by omega)).trans (by rw [qr 21 i (by omega) (by omega) (by omega)]; exact c_hour c (by omega)), fun {i} h0 => (e _ _ (by omega) (by omega) (by omega) (by omega) (by omega) (by omega)).trans (by rw [qr 22 i (by omega) (by omega) (by omega)]; exact c_cm c (by omega)), fun {i} h0 => (e _ _ (by omega) (by omega) (by omega) (by omega) (by omega) (by omega)).trans (by rw [qr 23 i (by omega) (by omega) (by omega)]; exact c_cd c (by omega))⟩
set_option maxRecDepth 16384 in
theorem MB_a5 {h h' : A_H} {B : Nat} {P P' : Gh} (w : WF P) (b : MB h B P) (hk : P 0 5 < 8) (q0 : ∀ j, ¬ j = 5 → P' 0 j = P 0 j) (q1 : P' 0 5 = P 0 5 + 1) (qr : ∀ c i, 1 ≤ c → c ≤ 23 → ¬ ((12 ≤ c ∧ c ≤ 17) ∧ i = P 0 5) → P' c i = P c i) (e : ∀ a j, B ≤ a → a < B + 22 → ¬ (a = B ∧ (j = 5 ∨ j = 10)) → ¬ (B + 10 ≤ a ∧ a ≤ B + 15 ∧ (j = P 0 5)) → hI h' a j = hI h a j) (s : hI h' B 5 = nI (P 0 5 + 1)) (n_kind : hI h' (B + 10) (P 0 5) = nI (P' 12 (P 0 5))) (n_by : hI h' (B + 11) (P 0 5) = byI P' (P 0 5)) (n_owner : hI h' (B + 12) (P 0 5) = nI (P' 14 (P 0 5))) (n_age : hI h' (B + 13) (P 0 5) = nI (P' 15 (P 0 5))) (n_wei : hI h' (B + 14) (P 0 5) = nI (P' 16 (P 0 5))) (n_wor : hI h' (B + 15) (P 0 5) = nI (P' 17 (P 0 5))) : MB h' B P' := by
  have z0 : P' 0 0 = P 0 0 := q0 0 (by omega)
  have z1 : P' 0 1 = P 0 1 := q0 1 (by omega)
  have z2 : P' 0 2 = P 0 2 := q0 2 (by omega)
  have z3 : P' 0 3 = P 0 3 := q0 3 (by omega)
  have z4 : P' 0 4 = P 0 4 := q0 4 (by omega)
  have z6 : P' 0 6 = P 0 6 := q0 6 (by omega)
  have z7 : P' 0 7 = P 0 7 := q0 7 (by omega)
  have z8 : P' 0 8 = P 0 8 := q0 8 (by omega)
  have z9 : P' 0 9 = P 0 9 := q0 9 (by omega)
  have k1 := f_nm w
  have k2 := f_nt w
  have k3 := f_ng w
  have k4 := f_nG w
  have k5 := f_nx w
  have k6 := f_nc w
  exact ⟨(e _ _ (by omega) (by omega) (by omega) (by omega)).trans (by rw [z0]; exact b_s0 b), (e _ _ (by omega) (by omega) (by omega) (by omega)).trans (by rw [z1]; exact b_s1 b), (e _ _ (by omega) (by omega) (by omega) (by omega)).trans (by rw [z2]; exact b_s2 b), (e _ _ (by omega) (by omega) (by omega) (by omega)).trans (by rw [z3]; exact b_s3 b), (e _ _ (by omega) (by omega) (by omega) (by omega)).trans (by rw [z4]; exact b_s4 b), by rw [q1]; exact s, (e _ _ (by omega) (by omega) (by omega) (by omega)).trans (by rw [z6]; exact b_s6 b), (e _ _ (by omega) (by omega) (by omega) (by omega)).trans (by rw [z7]; exact b_s7 b), (e _ _ (by omega) (by omega) (by omega) (by omega)).trans (by rw [z9]; exact b_nc b), (e _ _ (by omega) (by omega) (by omega) (by omega)).trans (by rw [z8]; exact b_hid b), fun {i} h0 => (e _ _ (by omega) (by omega) (by omega) (by omega)).trans (by rw [qr 1 i (by omega) (by omega) (by omega)]; exact b_rate b (by omega)), fun {i} h0 => (e _ _ (by omega) (by omega) (by omega) (by omega)).trans (by rw [qr 2 i (by omega) (by omega) (by omega)]; exact b_oth b (by omega)), fun {i} h0 => (e _ _ (by omega) (by omega) (by omega) (by omega)).trans (by rw [qr 3 i (by omega) (by omega) (by omega)]; exact b_keeps b (by omega)), fun {i} h0 => (e _ _ (by omega) (by omega) (by omega) (by omega)).trans (by rw [qr 4 i (by omega) (by omega) (by omega), qr 5 i (by omega) (by omega) (by omega)]; exact b_here b (by omega)), fun {i} h0 h1 => (e _ _ (by omega) (by omega) (by omega) (by omega)).trans (by rw [qr 6 i (by omega) (by omega) (by omega)]; exact b_there b (by omega) (by have := qr 4 i (by omega) (by omega) (by omega); omega)), fun {i} h0 => (e _ _ (by omega) (by omega) (by omega) (by omega)).trans (by rw [qr 7 i (by omega) (by omega) (by omega)]; exact b_all b (by omega)), fun {i} h0 => (e _ _ (by omega) (by omega) (by omega) (by omega)).trans (by rw [qr 8 i (by omega) (by omega) (by omega)]; exact b_hun b (by omega)), fun {i} h0 => (e _ _ (by omega) (by omega) (by omega) (by omega)).trans (by rw [qr 9 i (by omega) (by omega) (by omega)]; exact b_nose b (by omega)), fun {i} h0 => (e _ _ (by omega) (by omega) (by omega) (by omega)).trans (by rw [qr 10 i (by omega) (by omega) (by omega)]; exact b_op b (by omega)), fun {i} h0 => (e _ _ (by omega) (by omega) (by omega) (by omega)).trans (by rw [qr 11 i (by omega) (by omega) (by omega)]; exact b_sh b (by omega)), fun {i} h0 => by
    by_cases ei : i = P 0 5
    · rw [ei]; exact n_kind
    · rw [e _ _ (by omega) (by omega) (by omega) (by omega), qr 12 i (by omega) (by omega) (by omega)]; exact b_kind b (by omega), fun {i} h0 => by
    by_cases ei : i = P 0 5
    · rw [ei]; exact n_by
    · rw [e _ _ (by omega) (by omega) (by omega) (by omega), byI_c (qr 12 i (by omega) (by omega) (by omega)) (qr 13 i (by omega) (by omega) (by omega))]; exact b_by b (by omega), fun {i} h0 => by
    by_cases ei : i = P 0 5
    · rw [ei]; exact n_owner
    · rw [e _ _ (by omega) (by omega) (by omega) (by omega), qr 14 i (by omega) (by omega) (by omega)]; exact b_owner b (by omega), fun {i} h0 => by
    by_cases ei : i = P 0 5
    · rw [ei]; exact n_age
    · rw [e _ _ (by omega) (by omega) (by omega) (by omega), qr 15 i (by omega) (by omega) (by omega)]; exact b_age b (by omega), fun {i} h0 => by
    by_cases ei : i = P 0 5
    · rw [ei]; exact n_wei
    · rw [e _ _ (by omega) (by omega) (by omega) (by omega), qr 16 i (by omega) (by omega) (by omega)]; exact b_wei b (by omega), fun {i} h0 => by
    by_cases ei : i = P 0 5
    · rw [ei]; exact n_wor
    · rw [e _ _ (by omega) (by omega) (by omega) (by omega), qr 17 i (by omega) (by omega) (by omega)]; exact b_wor b (by omega), fun {i} h0 => (e _ _ (by omega) (by omega) (by omega) (by omega)).trans (by rw [qr 18 i (by omega) (by omega) (by omega)]; exact b_cro b (by omega)), fun {i} h0 => (e _ _ (by omega) (by omega) (by omega) (by omega)).trans (by rw [qr 19 i (by omega) (by omega) (by omega)]; exact b_gat b (by omega)), fun {i} h0 => (e _ _ (by omega) (by omega) (by omega) (by omega)).trans (by rw [qr 20 i (by omega) (by omega) (by omega)]; exact b_day b (by omega)), fun {i} h0 => (e _ _ (by omega) (by omega) (by omega) (by omega)).trans (by rw [qr 21 i (by omega) (by omega) (by omega)]; exact b_hour b (by omega)), fun {i} h0 => (e _ _ (by omega) (by omega) (by omega) (by omega)).trans (by rw [qr 22 i (by omega) (by omega) (by omega)]; exact b_cm b (by omega)), fun {i} h0 => (e _ _ (by omega) (by omega) (by omega) (by omega)).trans (by rw [qr 23 i (by omega) (by omega) (by omega)]; exact b_cd b (by omega))⟩
set_option maxRecDepth 16384 in
theorem WF_a5 {P P' : Gh} (w : WF P) (hk : P 0 5 < 8) (q0 : ∀ j, ¬ j = 5 → P' 0 j = P 0 j) (q1 : P' 0 5 = P 0 5 + 1) (qr : ∀ c i, 1 ≤ c → c ≤ 23 → ¬ ((12 ≤ c ∧ c ≤ 17) ∧ i = P 0 5) → P' c i = P c i) (n_kind : P' 12 (P 0 5) ≤ 4) (n_by : P' 12 (P 0 5) ≠ 0 → P' 13 (P 0 5) < P 0 2) (n_own : P' 14 (P 0 5) < P 0 3) (n_age : P' 15 (P 0 5) ≤ 300) (n_wei : 1 ≤ P' 16 (P 0 5) ∧ P' 16 (P 0 5) ≤ 9) (n_wor : P' 17 (P 0 5) ≤ 99) : WF P' := by
  have z0 : P' 0 0 = P 0 0 := q0 0 (by omega)
  have z1 : P' 0 1 = P 0 1 := q0 1 (by omega)
  have z2 : P' 0 2 = P 0 2 := q0 2 (by omega)
  have z3 : P' 0 3 = P 0 3 := q0 3 (by omega)
  have z4 : P' 0 4 = P 0 4 := q0 4 (by omega)
  have z6 : P' 0 6 = P 0 6 := q0 6 (by omega)
  have z7 : P' 0 7 = P 0 7 := q0 7 (by omega)
  have z8 : P' 0 8 = P 0 8 := q0 8 (by omega)
  have z9 : P' 0 9 = P 0 9 := q0 9 (by omega)
  have k1 := f_nm w
  have k2 := f_nt w
  have k3 := f_ng w
  have k4 := f_nG w
  have k5 := f_nx w
  have k6 := f_nc w
  exact ⟨by rw [z0]; exact f_fee w, by rw [z1]; exact f_int w, by rw [z2]; exact f_nm w, by rw [z3]; exact f_nt w, by rw [z4]; exact f_ng w, by rw [q1]; omega, by rw [z6]; exact f_nx w, by rw [z7]; exact f_np w, by rw [z8, q1, Nat.pow_succ]; have := f_hid w; omega, by rw [z9]; exact f_nc w, fun {i} h0 => by
    have r1 := qr 1 i (by omega) (by omega) (by omega)
    have o0 := f_rate w (show i < P 0 2 by omega)
    omega, fun {i} h0 => by
    have r2 := qr 2 i (by omega) (by omega) (by omega)
    have o0 := f_oth w (show i < P 0 2 by omega)
    omega, fun {i} h0 => by
    have r3 := qr 3 i (by omega) (by omega) (by omega)
    have o0 := f_keeps w (show i < P 0 2 by omega)
    omega, fun {i} h0 => by
    have r4 := qr 4 i (by omega) (by omega) (by omega)
    have o0 := f_pri w (show i < P 0 2 by omega)
    omega, fun {i} h0 => by
    have r5 := qr 5 i (by omega) (by omega) (by omega)
    have o0 := f_here w (show i < P 0 2 by omega)
    omega, fun {i} h0 => by
    have r6 := qr 6 i (by omega) (by omega) (by omega)
    have o0 := f_there w (show i < P 0 2 by omega)
    omega, fun {i} h0 => by
    have r7 := qr 7 i (by omega) (by omega) (by omega)
    have o0 := f_all w (show i < P 0 3 by omega)
    omega, fun {i} h0 => by
    have r8 := qr 8 i (by omega) (by omega) (by omega)
    have o0 := f_hun w (show i < P 0 3 by omega)
    omega, fun {i} h0 => by
    have r9 := qr 9 i (by omega) (by omega) (by omega)
    have o0 := f_nose w (show i < P 0 4 by omega)
    omega, fun {i} h0 => by
    have r10 := qr 10 i (by omega) (by omega) (by omega)
    have o0 := f_op w (show i < P 0 4 by omega)
    omega, fun {i} h0 => by
    have r11 := qr 11 i (by omega) (by omega) (by omega)
    have o0 := f_sh w (show i < P 0 4 by omega)
    omega, fun {i} h0 => by
    by_cases ei : i = P 0 5
    · rw [ei]; have := n_kind; omega
    · have r12 := qr 12 i (by omega) (by omega) (by omega)
      have o0 := f_kind w (show i < P 0 5 by omega)
      omega, fun {i} h0 h1 => by
    by_cases ei : i = P 0 5
    · rw [ei] at h1 ⊢; have := n_by h1; omega
    · have r13 := qr 13 i (by omega) (by omega) (by omega)
      have r12 := qr 12 i (by omega) (by omega) (by omega)
      have o0 := f_by w (show i < P 0 5 by omega) (fun c0 => h1 (r12.trans c0))
      omega, fun {i} h0 => by
    by_cases ei : i = P 0 5
    · rw [ei]; have := n_own; omega
    · have r14 := qr 14 i (by omega) (by omega) (by omega)
      have o0 := f_own w (show i < P 0 5 by omega)
      omega, fun {i} h0 => by
    by_cases ei : i = P 0 5
    · rw [ei]; have := n_age; omega
    · have r15 := qr 15 i (by omega) (by omega) (by omega)
      have o0 := f_age w (show i < P 0 5 by omega)
      omega, fun {i} h0 => by
    by_cases ei : i = P 0 5
    · rw [ei]; have := n_wei; omega
    · have r16 := qr 16 i (by omega) (by omega) (by omega)
      have o0 := f_wei w (show i < P 0 5 by omega)
      omega, fun {i} h0 => by
    by_cases ei : i = P 0 5
    · rw [ei]; have := n_wor; omega
    · have r17 := qr 17 i (by omega) (by omega) (by omega)
      have o0 := f_wor w (show i < P 0 5 by omega)
      omega, fun {i} h0 => by
    have r18 := qr 18 i (by omega) (by omega) (by omega)
    have o0 := f_cro w (show i < P 0 6 by omega)
    omega, fun {i} h0 => by
    have r19 := qr 19 i (by omega) (by omega) (by omega)
    have o0 := f_gat w (show i < P 0 6 by omega)
    omega, fun {i} h0 => by
    have r20 := qr 20 i (by omega) (by omega) (by omega)
    have o0 := f_day w (show i < P 0 6 by omega)
    omega, fun {i} h0 => by
    have r21 := qr 21 i (by omega) (by omega) (by omega)
    have o0 := f_hour w (show i < P 0 6 by omega)
    omega, fun {i} h0 => by
    have r22 := qr 22 i (by omega) (by omega) (by omega)
    have o0 := f_cm w (show i < P 0 9 by omega)
    omega, fun {i} h0 => by
    have r23 := qr 23 i (by omega) (by omega) (by omega)
    have o0 := f_cd w (show i < P 0 9 by omega)
    omega⟩
set_option maxRecDepth 16384 in
theorem CT_a6 {h h' : A_H} {T : Nat} {P P' : Gh} (w : WF P) (c : CT h T P) (hk : P 0 6 < 6) (q0 : ∀ j, ¬ j = 6 → P' 0 j = P 0 j) (q1 : P' 0 6 = P 0 6 + 1) (qr : ∀ c i, 1 ≤ c → c ≤ 23 → ¬ ((18 ≤ c ∧ c ≤ 21) ∧ i = P 0 6) → P' c i = P c i) (e : ∀ a b, T ≤ a → a < T + 35 → ¬ a = T + 9 → ¬ (a = T ∧ b = 6) → ¬ (a = T + 29 + P 0 6) → hI h' a b = hI h a b) (s : hI h' T 6 = nI (P 0 6 + 1)) (n_cro : hI h' (T + 29 + P 0 6) 0 = nI (P' 18 (P 0 6))) (n_gat : hI h' (T + 29 + P 0 6) 1 = nI (P' 19 (P 0 6))) (n_day : hI h' (T + 29 + P 0 6) 2 = nI (P' 20 (P 0 6))) (n_hour : hI h' (T + 29 + P 0 6) 3 = nI (P' 21 (P 0 6))) : CT h' T P' := by
  have z0 : P' 0 0 = P 0 0 := q0 0 (by omega)
  have z1 : P' 0 1 = P 0 1 := q0 1 (by omega)
  have z2 : P' 0 2 = P 0 2 := q0 2 (by omega)
  have z3 : P' 0 3 = P 0 3 := q0 3 (by omega)
  have z4 : P' 0 4 = P 0 4 := q0 4 (by omega)
  have z5 : P' 0 5 = P 0 5 := q0 5 (by omega)
  have z7 : P' 0 7 = P 0 7 := q0 7 (by omega)
  have z8 : P' 0 8 = P 0 8 := q0 8 (by omega)
  have z9 : P' 0 9 = P 0 9 := q0 9 (by omega)
  have k1 := f_nm w
  have k2 := f_nt w
  have k3 := f_ng w
  have k4 := f_nG w
  have k5 := f_nx w
  have k6 := f_nc w
  exact ⟨(e _ _ (by omega) (by omega) (by omega) (by omega) (by omega)).trans (by rw [z0]; exact c_s0 c), (e _ _ (by omega) (by omega) (by omega) (by omega) (by omega)).trans (by rw [z1]; exact c_s1 c), (e _ _ (by omega) (by omega) (by omega) (by omega) (by omega)).trans (by rw [z2]; exact c_s2 c), (e _ _ (by omega) (by omega) (by omega) (by omega) (by omega)).trans (by rw [z3]; exact c_s3 c), (e _ _ (by omega) (by omega) (by omega) (by omega) (by omega)).trans (by rw [z4]; exact c_s4 c), (e _ _ (by omega) (by omega) (by omega) (by omega) (by omega)).trans (by rw [z5]; exact c_s5 c), by rw [q1]; exact s, (e _ _ (by omega) (by omega) (by omega) (by omega) (by omega)).trans (by rw [z7]; exact c_s7 c), (e _ _ (by omega) (by omega) (by omega) (by omega) (by omega)).trans (by rw [z8]; exact c_s8 c), (e _ _ (by omega) (by omega) (by omega) (by omega) (by omega)).trans (by rw [z9]; exact c_nc c), fun {i} h0 => (e _ _ (by omega) (by omega) (by omega) (by omega) (by omega)).trans (by rw [qr 1 i (by omega) (by omega) (by omega)]; exact c_rate c (by omega)), fun {i} h0 => (e _ _ (by omega) (by omega) (by omega) (by omega) (by omega)).trans (by rw [qr 2 i (by omega) (by omega) (by omega)]; exact c_oth c (by omega)), fun {i} h0 => (e _ _ (by omega) (by omega) (by omega) (by omega) (by omega)).trans (by rw [qr 3 i (by omega) (by omega) (by omega)]; exact c_keeps c (by omega)), fun {i} h0 => (e _ _ (by omega) (by omega) (by omega) (by omega) (by omega)).trans (by rw [qr 4 i (by omega) (by omega) (by omega)]; exact c_pri c (by omega)), fun {i} h0 h1 => (e _ _ (by omega) (by omega) (by omega) (by omega) (by omega)).trans (by rw [qr 5 i (by omega) (by omega) (by omega)]; exact c_here c (by omega) (by have := qr 4 i (by omega) (by omega) (by omega); omega)), fun {i} h0 h1 => (e _ _ (by omega) (by omega) (by omega) (by omega) (by omega)).trans (by rw [qr 6 i (by omega) (by omega) (by omega)]; exact c_there c (by omega) (by have := qr 4 i (by omega) (by omega) (by omega); omega)), fun {i} h0 => (e _ _ (by omega) (by omega) (by omega) (by omega) (by omega)).trans (by rw [qr 7 i (by omega) (by omega) (by omega)]; exact c_all c (by omega)), fun {i} h0 => (e _ _ (by omega) (by omega) (by omega) (by omega) (by omega)).trans (by rw [qr 8 i (by omega) (by omega) (by omega)]; exact c_hun c (by omega)), fun {i} h0 => (e _ _ (by omega) (by omega) (by omega) (by omega) (by omega)).trans (by rw [own_c z5 (fun g hg => qr 14 g (by omega) (by omega) (by omega))]; exact c_own c h0), fun {i} h0 => (e _ _ (by omega) (by omega) (by omega) (by omega) (by omega)).trans (by rw [qr 9 i (by omega) (by omega) (by omega)]; exact c_nose c (by omega)), fun {i} h0 => (e _ _ (by omega) (by omega) (by omega) (by omega) (by omega)).trans (by rw [qr 10 i (by omega) (by omega) (by omega)]; exact c_op c (by omega)), fun {i} h0 => (e _ _ (by omega) (by omega) (by omega) (by omega) (by omega)).trans (by rw [qr 11 i (by omega) (by omega) (by omega)]; exact c_sh c (by omega)), fun {i} h0 => (e _ _ (by omega) (by omega) (by omega) (by omega) (by omega)).trans (by rw [qr 12 i (by omega) (by omega) (by omega)]; exact c_kind c (by omega)), fun {i} h0 => (e _ _ (by omega) (by omega) (by omega) (by omega) (by omega)).trans (by rw [byI_c (qr 12 i (by omega) (by omega) (by omega)) (qr 13 i (by omega) (by omega) (by omega))]; exact c_by c (by omega)), fun {i} h0 => (e _ _ (by omega) (by omega) (by omega) (by omega) (by omega)).trans (by rw [qr 14 i (by omega) (by omega) (by omega)]; exact c_owner c (by omega)), fun {i} h0 => (e _ _ (by omega) (by omega) (by omega) (by omega) (by omega)).trans (by rw [qr 15 i (by omega) (by omega) (by omega)]; exact c_age c (by omega)), fun {i} h0 => (e _ _ (by omega) (by omega) (by omega) (by omega) (by omega)).trans (by rw [kpI_c (qr 12 i (by omega) (by omega) (by omega)) (qr 13 i (by omega) (by omega) (by omega)) (fun c0 => qr 3 _ (by omega) (by omega) (by omega))]; exact c_kp c (by omega)), fun {i} h0 => (e _ _ (by omega) (by omega) (by omega) (by omega) (by omega)).trans (by rw [qr 16 i (by omega) (by omega) (by omega)]; exact c_wei c (by omega)), fun {i} h0 => (e _ _ (by omega) (by omega) (by omega) (by omega) (by omega)).trans (by rw [qr 17 i (by omega) (by omega) (by omega)]; exact c_wor c (by omega)), fun {i} h0 => by
    by_cases ei : i = P 0 6
    · rw [ei]; exact n_cro
    · rw [e _ _ (by omega) (by omega) (by omega) (by omega) (by omega), qr 18 i (by omega) (by omega) (by omega)]; exact c_cro c (by omega), fun {i} h0 => by
    by_cases ei : i = P 0 6
    · rw [ei]; exact n_gat
    · rw [e _ _ (by omega) (by omega) (by omega) (by omega) (by omega), qr 19 i (by omega) (by omega) (by omega)]; exact c_gat c (by omega), fun {i} h0 => by
    by_cases ei : i = P 0 6
    · rw [ei]; exact n_day
    · rw [e _ _ (by omega) (by omega) (by omega) (by omega) (by omega), qr 20 i (by omega) (by omega) (by omega)]; exact c_day c (by omega), fun {i} h0 => by
    by_cases ei : i = P 0 6
    · rw [ei]; exact n_hour
    · rw [e _ _ (by omega) (by omega) (by omega) (by omega) (by omega), qr 21 i (by omega) (by omega) (by omega)]; exact c_hour c (by omega), fun {i} h0 => (e _ _ (by omega) (by omega) (by omega) (by omega) (by omega)).trans (by rw [qr 22 i (by omega) (by omega) (by omega)]; exact c_cm c (by omega)), fun {i} h0 => (e _ _ (by omega) (by omega) (by omega) (by omega) (by omega)).trans (by rw [qr 23 i (by omega) (by omega) (by omega)]; exact c_cd c (by omega))⟩
set_option maxRecDepth 16384 in
theorem MB_a6 {h h' : A_H} {B : Nat} {P P' : Gh} (w : WF P) (b : MB h B P) (hk : P 0 6 < 6) (q0 : ∀ j, ¬ j = 6 → P' 0 j = P 0 j) (q1 : P' 0 6 = P 0 6 + 1) (qr : ∀ c i, 1 ≤ c → c ≤ 23 → ¬ ((18 ≤ c ∧ c ≤ 21) ∧ i = P 0 6) → P' c i = P c i) (e : ∀ a j, B ≤ a → a < B + 22 → ¬ (a = B ∧ (j = 6 ∨ j = 10)) → ¬ (B + 16 ≤ a ∧ a ≤ B + 19 ∧ (j = P 0 6)) → hI h' a j = hI h a j) (s : hI h' B 6 = nI (P 0 6 + 1)) (n_cro : hI h' (B + 16) (P 0 6) = nI (P' 18 (P 0 6))) (n_gat : hI h' (B + 17) (P 0 6) = nI (P' 19 (P 0 6))) (n_day : hI h' (B + 18) (P 0 6) = nI (P' 20 (P 0 6))) (n_hour : hI h' (B + 19) (P 0 6) = nI (P' 21 (P 0 6))) : MB h' B P' := by
  have z0 : P' 0 0 = P 0 0 := q0 0 (by omega)
  have z1 : P' 0 1 = P 0 1 := q0 1 (by omega)
  have z2 : P' 0 2 = P 0 2 := q0 2 (by omega)
  have z3 : P' 0 3 = P 0 3 := q0 3 (by omega)
  have z4 : P' 0 4 = P 0 4 := q0 4 (by omega)
  have z5 : P' 0 5 = P 0 5 := q0 5 (by omega)
  have z7 : P' 0 7 = P 0 7 := q0 7 (by omega)
  have z8 : P' 0 8 = P 0 8 := q0 8 (by omega)
  have z9 : P' 0 9 = P 0 9 := q0 9 (by omega)
  have k1 := f_nm w
  have k2 := f_nt w
  have k3 := f_ng w
  have k4 := f_nG w
  have k5 := f_nx w
  have k6 := f_nc w
  exact ⟨(e _ _ (by omega) (by omega) (by omega) (by omega)).trans (by rw [z0]; exact b_s0 b), (e _ _ (by omega) (by omega) (by omega) (by omega)).trans (by rw [z1]; exact b_s1 b), (e _ _ (by omega) (by omega) (by omega) (by omega)).trans (by rw [z2]; exact b_s2 b), (e _ _ (by omega) (by omega) (by omega) (by omega)).trans (by rw [z3]; exact b_s3 b), (e _ _ (by omega) (by omega) (by omega) (by omega)).trans (by rw [z4]; exact b_s4 b), (e _ _ (by omega) (by omega) (by omega) (by omega)).trans (by rw [z5]; exact b_s5 b), by rw [q1]; exact s, (e _ _ (by omega) (by omega) (by omega) (by omega)).trans (by rw [z7]; exact b_s7 b), (e _ _ (by omega) (by omega) (by omega) (by omega)).trans (by rw [z9]; exact b_nc b), (e _ _ (by omega) (by omega) (by omega) (by omega)).trans (by rw [z8]; exact b_hid b), fun {i} h0 => (e _ _ (by omega) (by omega) (by omega) (by omega)).trans (by rw [qr 1 i (by omega) (by omega) (by omega)]; exact b_rate b (by omega)), fun {i} h0 => (e _ _ (by omega) (by omega) (by omega) (by omega)).trans (by rw [qr 2 i (by omega) (by omega) (by omega)]; exact b_oth b (by omega)), fun {i} h0 => (e _ _ (by omega) (by omega) (by omega) (by omega)).trans (by rw [qr 3 i (by omega) (by omega) (by omega)]; exact b_keeps b (by omega)), fun {i} h0 => (e _ _ (by omega) (by omega) (by omega) (by omega)).trans (by rw [qr 4 i (by omega) (by omega) (by omega), qr 5 i (by omega) (by omega) (by omega)]; exact b_here b (by omega)), fun {i} h0 h1 => (e _ _ (by omega) (by omega) (by omega) (by omega)).trans (by rw [qr 6 i (by omega) (by omega) (by omega)]; exact b_there b (by omega) (by have := qr 4 i (by omega) (by omega) (by omega); omega)), fun {i} h0 => (e _ _ (by omega) (by omega) (by omega) (by omega)).trans (by rw [qr 7 i (by omega) (by omega) (by omega)]; exact b_all b (by omega)), fun {i} h0 => (e _ _ (by omega) (by omega) (by omega) (by omega)).trans (by rw [qr 8 i (by omega) (by omega) (by omega)]; exact b_hun b (by omega)), fun {i} h0 => (e _ _ (by omega) (by omega) (by omega) (by omega)).trans (by rw [qr 9 i (by omega) (by omega) (by omega)]; exact b_nose b (by omega)), fun {i} h0 => (e _ _ (by omega) (by omega) (by omega) (by omega)).trans (by rw [qr 10 i (by omega) (by omega) (by omega)]; exact b_op b (by omega)), fun {i} h0 => (e _ _ (by omega) (by omega) (by omega) (by omega)).trans (by rw [qr 11 i (by omega) (by omega) (by omega)]; exact b_sh b (by omega)), fun {i} h0 => (e _ _ (by omega) (by omega) (by omega) (by omega)).trans (by rw [qr 12 i (by omega) (by omega) (by omega)]; exact b_kind b (by omega)), fun {i} h0 => (e _ _ (by omega) (by omega) (by omega) (by omega)).trans (by rw [byI_c (qr 12 i (by omega) (by omega) (by omega)) (qr 13 i (by omega) (by omega) (by omega))]; exact b_by b (by omega)), fun {i} h0 => (e _ _ (by omega) (by omega) (by omega) (by omega)).trans (by rw [qr 14 i (by omega) (by omega) (by omega)]; exact b_owner b (by omega)), fun {i} h0 => (e _ _ (by omega) (by omega) (by omega) (by omega)).trans (by rw [qr 15 i (by omega) (by omega) (by omega)]; exact b_age b (by omega)), fun {i} h0 => (e _ _ (by omega) (by omega) (by omega) (by omega)).trans (by rw [qr 16 i (by omega) (by omega) (by omega)]; exact b_wei b (by omega)), fun {i} h0 => (e _ _ (by omega) (by omega) (by omega) (by omega)).trans (by rw [qr 17 i (by omega) (by omega) (by omega)]; exact b_wor b (by omega)), fun {i} h0 => by
    by_cases ei : i = P 0 6
    · rw [ei]; exact n_cro
    · rw [e _ _ (by omega) (by omega) (by omega) (by omega), qr 18 i (by omega) (by omega) (by omega)]; exact b_cro b (by omega), fun {i} h0 => by
    by_cases ei : i = P 0 6
    · rw [ei]; exact n_gat
    · rw [e _ _ (by omega) (by omega) (by omega) (by omega), qr 19 i (by omega) (by omega) (by omega)]; exact b_gat b (by omega), fun {i} h0 => by
    by_cases ei : i = P 0 6
    · rw [ei]; exact n_day
    · rw [e _ _ (by omega) (by omega) (by omega) (by omega), qr 20 i (by omega) (by omega) (by omega)]; exact b_day b (by omega), fun {i} h0 => by
    by_cases ei : i = P 0 6
    · rw [ei]; exact n_hour
    · rw [e _ _ (by omega) (by omega) (by omega) (by omega), qr 21 i (by omega) (by omega) (by omega)]; exact b_hour b (by omega), fun {i} h0 => (e _ _ (by omega) (by omega) (by omega) (by omega)).trans (by rw [qr 22 i (by omega) (by omega) (by omega)]; exact b_cm b (by omega)), fun {i} h0 => (e _ _ (by omega) (by omega) (by omega) (by omega)).trans (by rw [qr 23 i (by omega) (by omega) (by omega)]; exact b_cd b (by omega))⟩
set_option maxRecDepth 16384 in
theorem WF_a6 {P P' : Gh} (w : WF P) (hk : P 0 6 < 6) (q0 : ∀ j, ¬ j = 6 → P' 0 j = P 0 j) (q1 : P' 0 6 = P 0 6 + 1) (qr : ∀ c i, 1 ≤ c → c ≤ 23 → ¬ ((18 ≤ c ∧ c ≤ 21) ∧ i = P 0 6) → P' c i = P c i) (n_cro : P' 18 (P 0 6) < P 0 3) (n_gat : P' 19 (P 0 6) < P 0 4) (n_day : P' 20 (P 0 6) ≤ 60) (n_hour : P' 21 (P 0 6) ≤ 23) : WF P' := by
  have z0 : P' 0 0 = P 0 0 := q0 0 (by omega)
  have z1 : P' 0 1 = P 0 1 := q0 1 (by omega)
  have z2 : P' 0 2 = P 0 2 := q0 2 (by omega)
  have z3 : P' 0 3 = P 0 3 := q0 3 (by omega)
  have z4 : P' 0 4 = P 0 4 := q0 4 (by omega)
  have z5 : P' 0 5 = P 0 5 := q0 5 (by omega)
  have z7 : P' 0 7 = P 0 7 := q0 7 (by omega)
  have z8 : P' 0 8 = P 0 8 := q0 8 (by omega)
  have z9 : P' 0 9 = P 0 9 := q0 9 (by omega)
  have k1 := f_nm w
  have k2 := f_nt w
  have k3 := f_ng w
  have k4 := f_nG w
  have k5 := f_nx w
  have k6 := f_nc w
  exact ⟨by rw [z0]; exact f_fee w, by rw [z1]; exact f_int w, by rw [z2]; exact f_nm w, by rw [z3]; exact f_nt w, by rw [z4]; exact f_ng w, by rw [z5]; exact f_nG w, by rw [q1]; omega, by rw [z7]; exact f_np w, by rw [z8, z5]; exact f_hid w, by rw [z9]; exact f_nc w, fun {i} h0 => by
    have r1 := qr 1 i (by omega) (by omega) (by omega)
    have o0 := f_rate w (show i < P 0 2 by omega)
    omega, fun {i} h0 => by
    have r2 := qr 2 i (by omega) (by omega) (by omega)
    have o0 := f_oth w (show i < P 0 2 by omega)
    omega, fun {i} h0 => by
    have r3 := qr 3 i (by omega) (by omega) (by omega)
    have o0 := f_keeps w (show i < P 0 2 by omega)
    omega, fun {i} h0 => by
    have r4 := qr 4 i (by omega) (by omega) (by omega)
    have o0 := f_pri w (show i < P 0 2 by omega)
    omega, fun {i} h0 => by
    have r5 := qr 5 i (by omega) (by omega) (by omega)
    have o0 := f_here w (show i < P 0 2 by omega)
    omega, fun {i} h0 => by
    have r6 := qr 6 i (by omega) (by omega) (by omega)
    have o0 := f_there w (show i < P 0 2 by omega)
    omega, fun {i} h0 => by
    have r7 := qr 7 i (by omega) (by omega) (by omega)
    have o0 := f_all w (show i < P 0 3 by omega)
    omega, fun {i} h0 => by
    have r8 := qr 8 i (by omega) (by omega) (by omega)
    have o0 := f_hun w (show i < P 0 3 by omega)
    omega, fun {i} h0 => by
    have r9 := qr 9 i (by omega) (by omega) (by omega)
    have o0 := f_nose w (show i < P 0 4 by omega)
    omega, fun {i} h0 => by
    have r10 := qr 10 i (by omega) (by omega) (by omega)
    have o0 := f_op w (show i < P 0 4 by omega)
    omega, fun {i} h0 => by
    have r11 := qr 11 i (by omega) (by omega) (by omega)
    have o0 := f_sh w (show i < P 0 4 by omega)
    omega, fun {i} h0 => by
    have r12 := qr 12 i (by omega) (by omega) (by omega)
    have o0 := f_kind w (show i < P 0 5 by omega)
    omega, fun {i} h0 h1 => by
    have r13 := qr 13 i (by omega) (by omega) (by omega)
    have r12 := qr 12 i (by omega) (by omega) (by omega)
    have o0 := f_by w (show i < P 0 5 by omega) (fun c0 => h1 (r12.trans c0))
    omega, fun {i} h0 => by
    have r14 := qr 14 i (by omega) (by omega) (by omega)
    have o0 := f_own w (show i < P 0 5 by omega)
    omega, fun {i} h0 => by
    have r15 := qr 15 i (by omega) (by omega) (by omega)
    have o0 := f_age w (show i < P 0 5 by omega)
    omega, fun {i} h0 => by
    have r16 := qr 16 i (by omega) (by omega) (by omega)
    have o0 := f_wei w (show i < P 0 5 by omega)
    omega, fun {i} h0 => by
    have r17 := qr 17 i (by omega) (by omega) (by omega)
    have o0 := f_wor w (show i < P 0 5 by omega)
    omega, fun {i} h0 => by
    by_cases ei : i = P 0 6
    · rw [ei]; have := n_cro; omega
    · have r18 := qr 18 i (by omega) (by omega) (by omega)
      have o0 := f_cro w (show i < P 0 6 by omega)
      omega, fun {i} h0 => by
    by_cases ei : i = P 0 6
    · rw [ei]; have := n_gat; omega
    · have r19 := qr 19 i (by omega) (by omega) (by omega)
      have o0 := f_gat w (show i < P 0 6 by omega)
      omega, fun {i} h0 => by
    by_cases ei : i = P 0 6
    · rw [ei]; have := n_day; omega
    · have r20 := qr 20 i (by omega) (by omega) (by omega)
      have o0 := f_day w (show i < P 0 6 by omega)
      omega, fun {i} h0 => by
    by_cases ei : i = P 0 6
    · rw [ei]; have := n_hour; omega
    · have r21 := qr 21 i (by omega) (by omega) (by omega)
      have o0 := f_hour w (show i < P 0 6 by omega)
      omega, fun {i} h0 => by
    have r22 := qr 22 i (by omega) (by omega) (by omega)
    have o0 := f_cm w (show i < P 0 9 by omega)
    omega, fun {i} h0 => by
    have r23 := qr 23 i (by omega) (by omega) (by omega)
    have o0 := f_cd w (show i < P 0 9 by omega)
    omega⟩
set_option maxRecDepth 16384 in
theorem CT_a9 {h h' : A_H} {T : Nat} {P P' : Gh} (w : WF P) (c : CT h T P) (hk : P 0 9 < 5) (q0 : ∀ j, ¬ j = 9 → P' 0 j = P 0 j) (q1 : P' 0 9 = P 0 9 + 1) (qr : ∀ c i, 1 ≤ c → c ≤ 23 → ¬ ((22 ≤ c ∧ c ≤ 23) ∧ i = P 0 9) → P' c i = P c i) (e : ∀ a b, T ≤ a → a < T + 35 → ¬ a = T + 9 → ¬ (a = T + 6 ∧ b = 0) → ¬ (T + 7 ≤ a ∧ a ≤ T + 8 ∧ b = P 0 9) → hI h' a b = hI h a b) (s : hI h' (T + 6) 0 = nI (P 0 9 + 1)) (n_cm : hI h' (T + 7) (P 0 9) = nI (P' 22 (P 0 9))) (n_cd : hI h' (T + 8) (P 0 9) = nI (P' 23 (P 0 9))) : CT h' T P' := by
  have z0 : P' 0 0 = P 0 0 := q0 0 (by omega)
  have z1 : P' 0 1 = P 0 1 := q0 1 (by omega)
  have z2 : P' 0 2 = P 0 2 := q0 2 (by omega)
  have z3 : P' 0 3 = P 0 3 := q0 3 (by omega)
  have z4 : P' 0 4 = P 0 4 := q0 4 (by omega)
  have z5 : P' 0 5 = P 0 5 := q0 5 (by omega)
  have z6 : P' 0 6 = P 0 6 := q0 6 (by omega)
  have z7 : P' 0 7 = P 0 7 := q0 7 (by omega)
  have z8 : P' 0 8 = P 0 8 := q0 8 (by omega)
  have k1 := f_nm w
  have k2 := f_nt w
  have k3 := f_ng w
  have k4 := f_nG w
  have k5 := f_nx w
  have k6 := f_nc w
  exact ⟨(e _ _ (by omega) (by omega) (by omega) (by omega) (by omega)).trans (by rw [z0]; exact c_s0 c), (e _ _ (by omega) (by omega) (by omega) (by omega) (by omega)).trans (by rw [z1]; exact c_s1 c), (e _ _ (by omega) (by omega) (by omega) (by omega) (by omega)).trans (by rw [z2]; exact c_s2 c), (e _ _ (by omega) (by omega) (by omega) (by omega) (by omega)).trans (by rw [z3]; exact c_s3 c), (e _ _ (by omega) (by omega) (by omega) (by omega) (by omega)).trans (by rw [z4]; exact c_s4 c), (e _ _ (by omega) (by omega) (by omega) (by omega) (by omega)).trans (by rw [z5]; exact c_s5 c), (e _ _ (by omega) (by omega) (by omega) (by omega) (by omega)).trans (by rw [z6]; exact c_s6 c), (e _ _ (by omega) (by omega) (by omega) (by omega) (by omega)).trans (by rw [z7]; exact c_s7 c), (e _ _ (by omega) (by omega) (by omega) (by omega) (by omega)).trans (by rw [z8]; exact c_s8 c), by rw [q1]; exact s, fun {i} h0 => (e _ _ (by omega) (by omega) (by omega) (by omega) (by omega)).trans (by rw [qr 1 i (by omega) (by omega) (by omega)]; exact c_rate c (by omega)), fun {i} h0 => (e _ _ (by omega) (by omega) (by omega) (by omega) (by omega)).trans (by rw [qr 2 i (by omega) (by omega) (by omega)]; exact c_oth c (by omega)), fun {i} h0 => (e _ _ (by omega) (by omega) (by omega) (by omega) (by omega)).trans (by rw [qr 3 i (by omega) (by omega) (by omega)]; exact c_keeps c (by omega)), fun {i} h0 => (e _ _ (by omega) (by omega) (by omega) (by omega) (by omega)).trans (by rw [qr 4 i (by omega) (by omega) (by omega)]; exact c_pri c (by omega)), fun {i} h0 h1 => (e _ _ (by omega) (by omega) (by omega) (by omega) (by omega)).trans (by rw [qr 5 i (by omega) (by omega) (by omega)]; exact c_here c (by omega) (by have := qr 4 i (by omega) (by omega) (by omega); omega)), fun {i} h0 h1 => (e _ _ (by omega) (by omega) (by omega) (by omega) (by omega)).trans (by rw [qr 6 i (by omega) (by omega) (by omega)]; exact c_there c (by omega) (by have := qr 4 i (by omega) (by omega) (by omega); omega)), fun {i} h0 => (e _ _ (by omega) (by omega) (by omega) (by omega) (by omega)).trans (by rw [qr 7 i (by omega) (by omega) (by omega)]; exact c_all c (by omega)), fun {i} h0 => (e _ _ (by omega) (by omega) (by omega) (by omega) (by omega)).trans (by rw [qr 8 i (by omega) (by omega) (by omega)]; exact c_hun c (by omega)), fun {i} h0 => (e _ _ (by omega) (by omega) (by omega) (by omega) (by omega)).trans (by rw [own_c z5 (fun g hg => qr 14 g (by omega) (by omega) (by omega))]; exact c_own c h0), fun {i} h0 => (e _ _ (by omega) (by omega) (by omega) (by omega) (by omega)).trans (by rw [qr 9 i (by omega) (by omega) (by omega)]; exact c_nose c (by omega)), fun {i} h0 => (e _ _ (by omega) (by omega) (by omega) (by omega) (by omega)).trans (by rw [qr 10 i (by omega) (by omega) (by omega)]; exact c_op c (by omega)), fun {i} h0 => (e _ _ (by omega) (by omega) (by omega) (by omega) (by omega)).trans (by rw [qr 11 i (by omega) (by omega) (by omega)]; exact c_sh c (by omega)), fun {i} h0 => (e _ _ (by omega) (by omega) (by omega) (by omega) (by omega)).trans (by rw [qr 12 i (by omega) (by omega) (by omega)]; exact c_kind c (by omega)), fun {i} h0 => (e _ _ (by omega) (by omega) (by omega) (by omega) (by omega)).trans (by rw [byI_c (qr 12 i (by omega) (by omega) (by omega)) (qr 13 i (by omega) (by omega) (by omega))]; exact c_by c (by omega)), fun {i} h0 => (e _ _ (by omega) (by omega) (by omega) (by omega) (by omega)).trans (by rw [qr 14 i (by omega) (by omega) (by omega)]; exact c_owner c (by omega)), fun {i} h0 => (e _ _ (by omega) (by omega) (by omega) (by omega) (by omega)).trans (by rw [qr 15 i (by omega) (by omega) (by omega)]; exact c_age c (by omega)), fun {i} h0 => (e _ _ (by omega) (by omega) (by omega) (by omega) (by omega)).trans (by rw [kpI_c (qr 12 i (by omega) (by omega) (by omega)) (qr 13 i (by omega) (by omega) (by omega)) (fun c0 => qr 3 _ (by omega) (by omega) (by omega))]; exact c_kp c (by omega)), fun {i} h0 => (e _ _ (by omega) (by omega) (by omega) (by omega) (by omega)).trans (by rw [qr 16 i (by omega) (by omega) (by omega)]; exact c_wei c (by omega)), fun {i} h0 => (e _ _ (by omega) (by omega) (by omega) (by omega) (by omega)).trans (by rw [qr 17 i (by omega) (by omega) (by omega)]; exact c_wor c (by omega)), fun {i} h0 => (e _ _ (by omega) (by omega) (by omega) (by omega) (by omega)).trans (by rw [qr 18 i (by omega) (by omega) (by omega)]; exact c_cro c (by omega)), fun {i} h0 => (e _ _ (by omega) (by omega) (by omega) (by omega) (by omega)).trans (by rw [qr 19 i (by omega) (by omega) (by omega)]; exact c_gat c (by omega)), fun {i} h0 => (e _ _ (by omega) (by omega) (by omega) (by omega) (by omega)).trans (by rw [qr 20 i (by omega) (by omega) (by omega)]; exact c_day c (by omega)), fun {i} h0 => (e _ _ (by omega) (by omega) (by omega) (by omega) (by omega)).trans (by rw [qr 21 i (by omega) (by omega) (by omega)]; exact c_hour c (by omega)), fun {i} h0 => by
    by_cases ei : i = P 0 9
    · rw [ei]; exact n_cm
    · rw [e _ _ (by omega) (by omega) (by omega) (by omega) (by omega), qr 22 i (by omega) (by omega) (by omega)]; exact c_cm c (by omega), fun {i} h0 => by
    by_cases ei : i = P 0 9
    · rw [ei]; exact n_cd
    · rw [e _ _ (by omega) (by omega) (by omega) (by omega) (by omega), qr 23 i (by omega) (by omega) (by omega)]; exact c_cd c (by omega)⟩
set_option maxRecDepth 16384 in
theorem MB_a9 {h h' : A_H} {B : Nat} {P P' : Gh} (w : WF P) (b : MB h B P) (hk : P 0 9 < 5) (q0 : ∀ j, ¬ j = 9 → P' 0 j = P 0 j) (q1 : P' 0 9 = P 0 9 + 1) (qr : ∀ c i, 1 ≤ c → c ≤ 23 → ¬ ((22 ≤ c ∧ c ≤ 23) ∧ i = P 0 9) → P' c i = P c i) (e : ∀ a j, B ≤ a → a < B + 22 → ¬ (a = B ∧ (j = 8 ∨ j = 10)) → ¬ (B + 20 ≤ a ∧ a ≤ B + 21 ∧ (j = P 0 9)) → hI h' a j = hI h a j) (s : hI h' B 8 = nI (P 0 9 + 1)) (n_cm : hI h' (B + 20) (P 0 9) = nI (P' 22 (P 0 9))) (n_cd : hI h' (B + 21) (P 0 9) = nI (P' 23 (P 0 9))) : MB h' B P' := by
  have z0 : P' 0 0 = P 0 0 := q0 0 (by omega)
  have z1 : P' 0 1 = P 0 1 := q0 1 (by omega)
  have z2 : P' 0 2 = P 0 2 := q0 2 (by omega)
  have z3 : P' 0 3 = P 0 3 := q0 3 (by omega)
  have z4 : P' 0 4 = P 0 4 := q0 4 (by omega)
  have z5 : P' 0 5 = P 0 5 := q0 5 (by omega)
  have z6 : P' 0 6 = P 0 6 := q0 6 (by omega)
  have z7 : P' 0 7 = P 0 7 := q0 7 (by omega)
  have z8 : P' 0 8 = P 0 8 := q0 8 (by omega)
  have k1 := f_nm w
  have k2 := f_nt w
  have k3 := f_ng w
  have k4 := f_nG w
  have k5 := f_nx w
  have k6 := f_nc w
  exact ⟨(e _ _ (by omega) (by omega) (by omega) (by omega)).trans (by rw [z0]; exact b_s0 b), (e _ _ (by omega) (by omega) (by omega) (by omega)).trans (by rw [z1]; exact b_s1 b), (e _ _ (by omega) (by omega) (by omega) (by omega)).trans (by rw [z2]; exact b_s2 b), (e _ _ (by omega) (by omega) (by omega) (by omega)).trans (by rw [z3]; exact b_s3 b), (e _ _ (by omega) (by omega) (by omega) (by omega)).trans (by rw [z4]; exact b_s4 b), (e _ _ (by omega) (by omega) (by omega) (by omega)).trans (by rw [z5]; exact b_s5 b), (e _ _ (by omega) (by omega) (by omega) (by omega)).trans (by rw [z6]; exact b_s6 b), (e _ _ (by omega) (by omega) (by omega) (by omega)).trans (by rw [z7]; exact b_s7 b), by rw [q1]; exact s, (e _ _ (by omega) (by omega) (by omega) (by omega)).trans (by rw [z8]; exact b_hid b), fun {i} h0 => (e _ _ (by omega) (by omega) (by omega) (by omega)).trans (by rw [qr 1 i (by omega) (by omega) (by omega)]; exact b_rate b (by omega)), fun {i} h0 => (e _ _ (by omega) (by omega) (by omega) (by omega)).trans (by rw [qr 2 i (by omega) (by omega) (by omega)]; exact b_oth b (by omega)), fun {i} h0 => (e _ _ (by omega) (by omega) (by omega) (by omega)).trans (by rw [qr 3 i (by omega) (by omega) (by omega)]; exact b_keeps b (by omega)), fun {i} h0 => (e _ _ (by omega) (by omega) (by omega) (by omega)).trans (by rw [qr 4 i (by omega) (by omega) (by omega), qr 5 i (by omega) (by omega) (by omega)]; exact b_here b (by omega)), fun {i} h0 h1 => (e _ _ (by omega) (by omega) (by omega) (by omega)).trans (by rw [qr 6 i (by omega) (by omega) (by omega)]; exact b_there b (by omega) (by have := qr 4 i (by omega) (by omega) (by omega); omega)), fun {i} h0 => (e _ _ (by omega) (by omega) (by omega) (by omega)).trans (by rw [qr 7 i (by omega) (by omega) (by omega)]; exact b_all b (by omega)), fun {i} h0 => (e _ _ (by omega) (by omega) (by omega) (by omega)).trans (by rw [qr 8 i (by omega) (by omega) (by omega)]; exact b_hun b (by omega)), fun {i} h0 => (e _ _ (by omega) (by omega) (by omega) (by omega)).trans (by rw [qr 9 i (by omega) (by omega) (by omega)]; exact b_nose b (by omega)), fun {i} h0 => (e _ _ (by omega) (by omega) (by omega) (by omega)).trans (by rw [qr 10 i (by omega) (by omega) (by omega)]; exact b_op b (by omega)), fun {i} h0 => (e _ _ (by omega) (by omega) (by omega) (by omega)).trans (by rw [qr 11 i (by omega) (by omega) (by omega)]; exact b_sh b (by omega)), fun {i} h0 => (e _ _ (by omega) (by omega) (by omega) (by omega)).trans (by rw [qr 12 i (by omega) (by omega) (by omega)]; exact b_kind b (by omega)), fun {i} h0 => (e _ _ (by omega) (by omega) (by omega) (by omega)).trans (by rw [byI_c (qr 12 i (by omega) (by omega) (by omega)) (qr 13 i (by omega) (by omega) (by omega))]; exact b_by b (by omega)), fun {i} h0 => (e _ _ (by omega) (by omega) (by omega) (by omega)).trans (by rw [qr 14 i (by omega) (by omega) (by omega)]; exact b_owner b (by omega)), fun {i} h0 => (e _ _ (by omega) (by omega) (by omega) (by omega)).trans (by rw [qr 15 i (by omega) (by omega) (by omega)]; exact b_age b (by omega)), fun {i} h0 => (e _ _ (by omega) (by omega) (by omega) (by omega)).trans (by rw [qr 16 i (by omega) (by omega) (by omega)]; exact b_wei b (by omega)), fun {i} h0 => (e _ _ (by omega) (by omega) (by omega) (by omega)).trans (by rw [qr 17 i (by omega) (by omega) (by omega)]; exact b_wor b (by omega)), fun {i} h0 => (e _ _ (by omega) (by omega) (by omega) (by omega)).trans (by rw [qr 18 i (by omega) (by omega) (by omega)]; exact b_cro b (by omega)), fun {i} h0 => (e _ _ (by omega) (by omega) (by omega) (by omega)).trans (by rw [qr 19 i (by omega) (by omega) (by omega)]; exact b_gat b (by omega)), fun {i} h0 => (e _ _ (by omega) (by omega) (by omega) (by omega)).trans (by rw [qr 20 i (by omega) (by omega) (by omega)]; exact b_day b (by omega)), fun {i} h0 => (e _ _ (by omega) (by omega) (by omega) (by omega)).trans (by rw [qr 21 i (by omega) (by omega) (by omega)]; exact b_hour b (by omega)), fun {i} h0 => by
    by_cases ei : i = P 0 9
    · rw [ei]; exact n_cm
    · rw [e _ _ (by omega) (by omega) (by omega) (by omega), qr 22 i (by omega) (by omega) (by omega)]; exact b_cm b (by omega), fun {i} h0 => by
    by_cases ei : i = P 0 9
    · rw [ei]; exact n_cd
    · rw [e _ _ (by omega) (by omega) (by omega) (by omega), qr 23 i (by omega) (by omega) (by omega)]; exact b_cd b (by omega)⟩
set_option maxRecDepth 16384 in
theorem WF_a9 {P P' : Gh} (w : WF P) (hk : P 0 9 < 5) (q0 : ∀ j, ¬ j = 9 → P' 0 j = P 0 j) (q1 : P' 0 9 = P 0 9 + 1) (qr : ∀ c i, 1 ≤ c → c ≤ 23 → ¬ ((22 ≤ c ∧ c ≤ 23) ∧ i = P 0 9) → P' c i = P c i) (n_cm : P' 22 (P 0 9) < P 0 2) (n_cd : P' 23 (P 0 9) ≤ 60) : WF P' := by
  have z0 : P' 0 0 = P 0 0 := q0 0 (by omega)
  have z1 : P' 0 1 = P 0 1 := q0 1 (by omega)
  have z2 : P' 0 2 = P 0 2 := q0 2 (by omega)
  have z3 : P' 0 3 = P 0 3 := q0 3 (by omega)
  have z4 : P' 0 4 = P 0 4 := q0 4 (by omega)
  have z5 : P' 0 5 = P 0 5 := q0 5 (by omega)
  have z6 : P' 0 6 = P 0 6 := q0 6 (by omega)
  have z7 : P' 0 7 = P 0 7 := q0 7 (by omega)
  have z8 : P' 0 8 = P 0 8 := q0 8 (by omega)
  have k1 := f_nm w
  have k2 := f_nt w
  have k3 := f_ng w
  have k4 := f_nG w
  have k5 := f_nx w
  have k6 := f_nc w
  exact ⟨by rw [z0]; exact f_fee w, by rw [z1]; exact f_int w, by rw [z2]; exact f_nm w, by rw [z3]; exact f_nt w, by rw [z4]; exact f_ng w, by rw [z5]; exact f_nG w, by rw [z6]; exact f_nx w, by rw [z7]; exact f_np w, by rw [z8, z5]; exact f_hid w, by rw [q1]; omega, fun {i} h0 => by
    have r1 := qr 1 i (by omega) (by omega) (by omega)
    have o0 := f_rate w (show i < P 0 2 by omega)
    omega, fun {i} h0 => by
    have r2 := qr 2 i (by omega) (by omega) (by omega)
    have o0 := f_oth w (show i < P 0 2 by omega)
    omega, fun {i} h0 => by
    have r3 := qr 3 i (by omega) (by omega) (by omega)
    have o0 := f_keeps w (show i < P 0 2 by omega)
    omega, fun {i} h0 => by
    have r4 := qr 4 i (by omega) (by omega) (by omega)
    have o0 := f_pri w (show i < P 0 2 by omega)
    omega, fun {i} h0 => by
    have r5 := qr 5 i (by omega) (by omega) (by omega)
    have o0 := f_here w (show i < P 0 2 by omega)
    omega, fun {i} h0 => by
    have r6 := qr 6 i (by omega) (by omega) (by omega)
    have o0 := f_there w (show i < P 0 2 by omega)
    omega, fun {i} h0 => by
    have r7 := qr 7 i (by omega) (by omega) (by omega)
    have o0 := f_all w (show i < P 0 3 by omega)
    omega, fun {i} h0 => by
    have r8 := qr 8 i (by omega) (by omega) (by omega)
    have o0 := f_hun w (show i < P 0 3 by omega)
    omega, fun {i} h0 => by
    have r9 := qr 9 i (by omega) (by omega) (by omega)
    have o0 := f_nose w (show i < P 0 4 by omega)
    omega, fun {i} h0 => by
    have r10 := qr 10 i (by omega) (by omega) (by omega)
    have o0 := f_op w (show i < P 0 4 by omega)
    omega, fun {i} h0 => by
    have r11 := qr 11 i (by omega) (by omega) (by omega)
    have o0 := f_sh w (show i < P 0 4 by omega)
    omega, fun {i} h0 => by
    have r12 := qr 12 i (by omega) (by omega) (by omega)
    have o0 := f_kind w (show i < P 0 5 by omega)
    omega, fun {i} h0 h1 => by
    have r13 := qr 13 i (by omega) (by omega) (by omega)
    have r12 := qr 12 i (by omega) (by omega) (by omega)
    have o0 := f_by w (show i < P 0 5 by omega) (fun c0 => h1 (r12.trans c0))
    omega, fun {i} h0 => by
    have r14 := qr 14 i (by omega) (by omega) (by omega)
    have o0 := f_own w (show i < P 0 5 by omega)
    omega, fun {i} h0 => by
    have r15 := qr 15 i (by omega) (by omega) (by omega)
    have o0 := f_age w (show i < P 0 5 by omega)
    omega, fun {i} h0 => by
    have r16 := qr 16 i (by omega) (by omega) (by omega)
    have o0 := f_wei w (show i < P 0 5 by omega)
    omega, fun {i} h0 => by
    have r17 := qr 17 i (by omega) (by omega) (by omega)
    have o0 := f_wor w (show i < P 0 5 by omega)
    omega, fun {i} h0 => by
    have r18 := qr 18 i (by omega) (by omega) (by omega)
    have o0 := f_cro w (show i < P 0 6 by omega)
    omega, fun {i} h0 => by
    have r19 := qr 19 i (by omega) (by omega) (by omega)
    have o0 := f_gat w (show i < P 0 6 by omega)
    omega, fun {i} h0 => by
    have r20 := qr 20 i (by omega) (by omega) (by omega)
    have o0 := f_day w (show i < P 0 6 by omega)
    omega, fun {i} h0 => by
    have r21 := qr 21 i (by omega) (by omega) (by omega)
    have o0 := f_hour w (show i < P 0 6 by omega)
    omega, fun {i} h0 => by
    by_cases ei : i = P 0 9
    · rw [ei]; have := n_cm; omega
    · have r22 := qr 22 i (by omega) (by omega) (by omega)
      have o0 := f_cm w (show i < P 0 9 by omega)
      omega, fun {i} h0 => by
    by_cases ei : i = P 0 9
    · rw [ei]; have := n_cd; omega
    · have r23 := qr 23 i (by omega) (by omega) (by omega)
      have o0 := f_cd w (show i < P 0 9 by omega)
      omega⟩
