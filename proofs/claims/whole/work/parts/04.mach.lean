/-! THE ABSTRACT MACHINE: cells are labels 0, 1, 2 .. in the order of their making; I: ints, L: longs, P: references, by label and place -/
abbrev A_H : Type := Nat × Nat × (Nat → Nat × Nat) × (Nat → Nat → Int32) × (Nat → Nat → Int64) × (Nat → Nat → Option Nat) × (Nat × (Nat → Int32))
def hn (h : A_H) : Nat := h.1
def hs (h : A_H) : Nat := h.2.1
def hsh (h : A_H) : Nat → Nat × Nat := h.2.2.1
def hI (h : A_H) : Nat → Nat → Int32 := h.2.2.2.1
def hL (h : A_H) : Nat → Nat → Int64 := h.2.2.2.2.1
def hP (h : A_H) : Nat → Nat → Option Nat := h.2.2.2.2.2.1
/-- the script: its length, its ints -/
def hX (h : A_H) : Nat × (Nat → Int32) := h.2.2.2.2.2.2
def u2 {α : Type} (f : Nat → Nat → α) (k j : Nat) (v : α) : Nat → Nat → α := fun a b => if a = k ∧ b = j then v else f a b
def r1 {α : Type} (f : Nat → Nat → α) (k : Nat) (v : α) : Nat → Nat → α := fun a b => if a = k then v else f a b
def wI (h : A_H) (k j : Nat) (v : Int32) : A_H := (hn h, hs h, hsh h, u2 (hI h) k j v, hL h, hP h, hX h)
def wL (h : A_H) (k j : Nat) (v : Int64) : A_H := (hn h, hs h, hsh h, hI h, u2 (hL h) k j v, hP h, hX h)
def wP (h : A_H) (k j : Nat) (v : Option Nat) : A_H := (hn h, hs h, hsh h, hI h, hL h, u2 (hP h) k j v, hX h)
/-- a new cell: its kind, its length, how many slots it takes -/
def nw (h : A_H) (tag N sl : Nat) : A_H := (hn h + 1, hs h + sl, fun k => if k = hn h then (tag, N) else hsh h k, r1 (hI h) (hn h) 0, r1 (hL h) (hn h) 0, r1 (hP h) (hn h) none, hX h)
abbrev A_V : Type := List (Option Value)
def a_ld : A_V → Nat → Option Value
  | [], _ => none
  | x :: _, 0 => x
  | _ :: r, i + 1 => a_ld r i
def a_c2 : Option Value → Bool
  | some (.long _) => true
  | some (.double _) => true
  | _ => false
def a_wk (i : Nat) (x : Option Value) : Option Value := match i with
  | 0 => if a_c2 x then none else x
  | _ => x
def a_st : A_V → Nat → Value → A_V
  | [], _, _ => []
  | _ :: r, 0, v => some v :: r
  | x :: r, i + 1, v => a_wk i x :: a_st r i v
def a_rm : A_V → Nat → A_V
  | [], _ => []
  | _ :: r, 0 => none :: r
  | x :: r, i + 1 => x :: a_rm r i
abbrev A_R : Type := Option (Option Value) × A_H
abbrev A_G : Type := List (Bool × Nat) × Nat × A_V × List Value × A_H
/-- a call: the method, its arguments, the heap; does it answer; where a throw is caught; where it goes on, with which locals and stack -/
abbrev A_C : Type := Nat × List Value × A_H × Bool × Option (Nat × Nat) × Nat × A_V × List Value
abbrev A_A : Type := A_G ⊕ (A_R ⊕ A_C)
abbrev A_S : Type := A_V → List Value → A_H → Bool × A_A
abbrev A_X : Type := Nat → Nat → A_V → List Value → A_H → Option A_R
def a_no (h : A_H) : Bool × A_A := (false, .inr (.inl (none, h)))
def a_go (g : Bool) (i : Nat) (ls : A_V) (st : List Value) (h : A_H) : Bool × A_A := (g, .inl ([], i, ls, st, h))
def a_sel : List (Bool × Nat) → Nat → (Nat → Option A_R) → Option A_R
  | [], d, k => k d
  | q :: r, d, k => bif q.1 then k q.2 else a_sel r d k
def a_arg : List Value → A_V
  | [] => []
  | v :: r => match v with
    | .long x => some (.long x) :: none :: a_arg r
    | .double x => some (.double x) :: none :: a_arg r
    | v => some v :: a_arg r
def a_pad : Nat → A_V → A_V
  | 0, _ => []
  | n + 1, [] => none :: a_pad n []
  | n + 1, x :: r => x :: a_pad n r
def a_ent (n : Nat) (vs : List Value) : A_V := a_pad n (a_arg vs)
def a_back (X : A_X) (m : Nat) (q : A_C) (r : Option A_R) : Option A_R := match r with
  | none => none
  | some (some (some v), h) => bif q.2.2.2.1 then X m q.2.2.2.2.2.1 q.2.2.2.2.2.2.1 (v :: q.2.2.2.2.2.2.2) h else none
  | some (some none, h) => bif q.2.2.2.1 then none else X m q.2.2.2.2.2.1 q.2.2.2.2.2.2.1 q.2.2.2.2.2.2.2 h
  | some (none, h) => match q.2.2.2.2.1 with
    | none => none
    | some (j, v) => X m j (a_rm q.2.2.2.2.2.2.1 v) [] h
def a_do (N : Nat → Nat) (X Y : A_X) (m : Nat) (a : Bool × A_A) : Option A_R := match a.2 with
  | .inl g => bif a.1 then a_sel g.1 g.2.1 (fun i => X m i g.2.2.1 g.2.2.2.1 g.2.2.2.2) else none
  | .inr (.inl r) => bif a.1 then some r else none
  | .inr (.inr q) => bif a.1 then a_back X m q (Y q.1 0 (a_ent (N q.1) q.2.1) [] q.2.2.1) else none
def a_ex (N : Nat → Nat) (K : Nat → Nat → A_S) : Nat → A_X
  | 0 => fun _ _ _ _ _ => none
  | n + 1 => fun m i ls st h => a_do N (a_ex N K n) (a_ex N K n) m (K m i ls st h)
def a_le (X X' : A_X) : Prop := ∀ m i ls st h r, X m i ls st h = some r → X' m i ls st h = some r
theorem a_sel_mono {k k' : Nat → Option A_R} {r : A_R} (hk : ∀ i, k i = some r → k' i = some r) : ∀ (s : List (Bool × Nat)) (d : Nat), a_sel s d k = some r → a_sel s d k' = some r := by
  intro s
  induction s with
  | nil => intro d h; exact hk d h
  | cons q s ih =>
    intro d h
    unfold a_sel at h ⊢
    cases hq : q.1 with
    | true => rw [hq] at h; exact hk _ h
    | false => rw [hq] at h; exact ih d h
theorem a_back_mono {X X' : A_X} (hX : a_le X X') {m : Nat} {q : A_C} {o : Option A_R} {r : A_R} (h : a_back X m q o = some r) : a_back X' m q o = some r := by
  unfold a_back at h ⊢
  split at h
  · cases h
  · cases hb : q.2.2.2.1 with
    | true => rw [hb] at h; exact hX _ _ _ _ _ _ h
    | false => rw [hb] at h; cases h
  · cases hb : q.2.2.2.1 with
    | true => rw [hb] at h; cases h
    | false => rw [hb] at h; exact hX _ _ _ _ _ _ h
  · split at h
    · cases h
    · exact hX _ _ _ _ _ _ h
theorem a_back_none (X : A_X) (m : Nat) (q : A_C) : a_back X m q none = none := rfl
theorem a_do_mono {N : Nat → Nat} {X X' Y Y' : A_X} (hX : a_le X X') (hY : a_le Y Y') {m : Nat} {a : Bool × A_A} {r : A_R} (h : a_do N X Y m a = some r) : a_do N X' Y' m a = some r := by
  obtain ⟨g, a⟩ := a
  cases g with
  | false => rcases a with a | a | a <;> cases h
  | true =>
    rcases a with a | a | a
    · exact a_sel_mono (fun i hi => hX _ _ _ _ _ _ hi) _ _ h
    · exact h
    · have h : a_back X m a (Y a.1 0 (a_ent (N a.1) a.2.1) [] a.2.2.1) = some r := h
      show a_back X' m a (Y' a.1 0 (a_ent (N a.1) a.2.1) [] a.2.2.1) = some r
      cases hy : Y a.1 0 (a_ent (N a.1) a.2.1) [] a.2.2.1 with
      | none => rw [hy] at h; cases h
      | some o =>
        rw [hy] at h
        rw [hY _ _ _ _ _ _ hy]
        exact a_back_mono hX h
theorem a_ex_succ {N : Nat → Nat} {K : Nat → Nat → A_S} : ∀ n, a_le (a_ex N K n) (a_ex N K (n + 1)) := by
  intro n
  induction n with
  | zero => intro m i ls st h r hr; cases hr
  | succ n ih => intro m i ls st h r hr; exact a_do_mono ih ih hr
theorem a_ex_le {N : Nat → Nat} {K : Nat → Nat → A_S} {n k : Nat} (h : n ≤ k) : a_le (a_ex N K n) (a_ex N K k) := by
  induction h with
  | refl => exact fun _ _ _ _ _ _ h => h
  | step _ ih => exact fun m i ls st h r hr => a_ex_succ _ m i ls st h r (ih m i ls st h r hr)
/-- the limit -/
noncomputable def a_R (N : Nat → Nat) (K : Nat → Nat → A_S) : A_X := fun m i ls st h => Classical.epsilon (fun o : Option A_R => ∀ r, o = some r ↔ ∃ n, a_ex N K n m i ls st h = some r)
theorem a_R_iff {N : Nat → Nat} {K : Nat → Nat → A_S} (m i : Nat) (ls : A_V) (st : List Value) (h : A_H) (r : A_R) : a_R N K m i ls st h = some r ↔ ∃ n, a_ex N K n m i ls st h = some r := by
  have hex : ∃ o : Option A_R, ∀ r, o = some r ↔ ∃ n, a_ex N K n m i ls st h = some r := by
    by_cases hr : ∃ r n, a_ex N K n m i ls st h = some r
    · obtain ⟨r, n, hr⟩ := hr
      refine ⟨some r, fun r' => ⟨fun e => ⟨n, by rw [hr, e]⟩, fun ⟨k, hk⟩ => ?_⟩⟩
      have h1 := a_ex_le (Nat.le_max_left n k) m i ls st h r hr
      have h2 := a_ex_le (Nat.le_max_right n k) m i ls st h r' hk
      rw [← h1, ← h2]
    · exact ⟨none, fun r' => ⟨(fun e => by cases e), fun ⟨k, hk⟩ => absurd ⟨r', k, hk⟩ hr⟩⟩
  exact Classical.epsilon_spec hex r
theorem a_ex_R {N : Nat → Nat} {K : Nat → Nat → A_S} (n : Nat) : a_le (a_ex N K n) (a_R N K) := fun m i ls st h r hr => (a_R_iff m i ls st h r).mpr ⟨n, hr⟩
theorem a_sel_cont {N : Nat → Nat} {K : Nat → Nat → A_S} {m : Nat} {ls : A_V} {st : List Value} {h : A_H} {r : A_R} : ∀ (s : List (Bool × Nat)) (d : Nat), a_sel s d (fun i => a_R N K m i ls st h) = some r → ∃ n, a_sel s d (fun i => a_ex N K n m i ls st h) = some r := by
  intro s
  induction s with
  | nil => intro d hd; exact (a_R_iff m d ls st h r).mp hd
  | cons q s ih =>
    intro d hd
    unfold a_sel at hd ⊢
    cases hq : q.1 with
    | true => rw [hq] at hd; exact (a_R_iff m q.2 ls st h r).mp hd
    | false => rw [hq] at hd; exact ih d hd
theorem a_back_cont {N : Nat → Nat} {K : Nat → Nat → A_S} {m : Nat} {q : A_C} {o : Option A_R} {r : A_R} (h : a_back (a_R N K) m q o = some r) : ∃ n, a_back (a_ex N K n) m q o = some r := by
  unfold a_back at h ⊢
  split at h
  · cases h
  · cases hb : q.2.2.2.1 with
    | true => rw [hb] at h; exact (a_R_iff _ _ _ _ _ _).mp h
    | false => rw [hb] at h; cases h
  · cases hb : q.2.2.2.1 with
    | true => rw [hb] at h; cases h
    | false => rw [hb] at h; exact (a_R_iff _ _ _ _ _ _).mp h
  · cases hq : q.2.2.2.2.1 with
    | none => rw [hq] at h; cases h
    | some jv => rw [hq] at h; exact (a_R_iff _ _ _ _ _ _).mp h
/-- the limit's equation -/
theorem a_R_eq {N : Nat → Nat} {K : Nat → Nat → A_S} (m i : Nat) (ls : A_V) (st : List Value) (h : A_H) : a_R N K m i ls st h = a_do N (a_R N K) (a_R N K) m (K m i ls st h) := by
  apply Option.ext
  intro r
  rw [a_R_iff]
  constructor
  · rintro ⟨n, hr⟩
    cases n with
    | zero => cases hr
    | succ n => exact a_do_mono (a_ex_R n) (a_ex_R n) hr
  · intro hr
    have key : ∀ a, a_do N (a_R N K) (a_R N K) m a = some r → ∃ n, a_do N (a_ex N K n) (a_ex N K n) m a = some r := by
      rintro ⟨g, a⟩ hr
      cases g with
      | false => rcases a with a | a | a <;> cases hr
      | true =>
        rcases a with a | a | a
        · exact a_sel_cont _ _ hr
        · exact ⟨0, hr⟩
        · have hr : a_back (a_R N K) m a (a_R N K a.1 0 (a_ent (N a.1) a.2.1) [] a.2.2.1) = some r := hr
          cases hy : a_R N K a.1 0 (a_ent (N a.1) a.2.1) [] a.2.2.1 with
          | none => rw [hy] at hr; cases hr
          | some o =>
            rw [hy] at hr
            obtain ⟨n1, h1⟩ := (a_R_iff _ _ _ _ _ _).mp hy
            obtain ⟨n2, h2⟩ := a_back_cont hr
            refine ⟨max n1 n2, ?_⟩
            show a_back (a_ex N K (max n1 n2)) m a (a_ex N K (max n1 n2) a.1 0 (a_ent (N a.1) a.2.1) [] a.2.2.1) = some r
            rw [a_ex_le (Nat.le_max_left n1 n2) _ _ _ _ _ _ h1]
            exact a_back_mono (a_ex_le (Nat.le_max_right n1 n2)) h2
    obtain ⟨n, hn⟩ := key _ hr
    exact ⟨n + 1, hn⟩
/-- k instructions at once -/
noncomputable def a_blk (N : Nat → Nat) (K : Nat → Nat → A_S) : Nat → A_X
  | 0 => a_R N K
  | k + 1 => fun m i ls st h => a_do N (a_blk N K k) (a_R N K) m (K m i ls st h)
theorem a_blk_eq {N : Nat → Nat} {K : Nat → Nat → A_S} : ∀ k, a_blk N K k = a_R N K
  | 0 => rfl
  | k + 1 => by
    funext m i ls st h
    rw [a_R_eq]
    show a_do N (a_blk N K k) (a_R N K) m (K m i ls st h) = _
    rw [a_blk_eq k]
/-! what instructions do -/
def a_isR : Value → Bool
  | .ref _ => true
  | .null => true
  | _ => false
def a_nul : Value → Bool
  | .null => true
  | _ => false
def isO (h : A_H) (k ci : Nat) : Bool := decide (k < hn h) && decide ((hsh h k).1 = ci)
def isA (h : A_H) (k tg : Nat) (i : Int32) : Bool := decide (k < hn h) && decide ((hsh h k).1 = 100 + tg) && !decide (i < 0) && decide (i.toNatClampNeg < (hsh h k).2)
def s_no : A_S := fun _ _ h => a_no h
def s_push (v : Value) (i : Nat) : A_S := fun ls st h => a_go true i ls (v :: st) h
def s_ildl (j i : Nat) : A_S := fun ls st h => match a_ld ls j with
  | some (.int x) => a_go true i ls (.int x :: st) h
  | _ => a_no h
def s_lldl (j i : Nat) : A_S := fun ls st h => match a_ld ls j with
  | some (.long x) => a_go true i ls (.long x :: st) h
  | _ => a_no h
def s_aldl (j i : Nat) : A_S := fun ls st h => match a_ld ls j with
  | some (.ref x) => a_go true i ls (.ref x :: st) h
  | some (.float x) => a_go true i ls (.float x :: st) h
  | _ => a_no h
def s_ist (j i : Nat) : A_S := fun ls st h => match st with
  | .int x :: st => a_go true i (a_st ls j (.int x)) st h
  | _ => a_no h
def s_lst (j i : Nat) : A_S := fun ls st h => match st with
  | .long x :: st => a_go true i (a_rm (a_st ls j (.long x)) (j + 1)) st h
  | _ => a_no h
def s_ast (j i : Nat) : A_S := fun ls st h => match st with
  | .ref x :: st => a_go true i (a_st ls j (.ref x)) st h
  | _ => a_no h
def s_inc (j : Nat) (d : Int32) (i : Nat) : A_S := fun ls st h => match a_ld ls j with
  | some (.int x) => a_go true i (a_st ls j (.int (x + d))) st h
  | _ => a_no h
def s_bi (f : Int32 → Int32 → Int32) (i : Nat) : A_S := fun ls st h => match st with
  | .int y :: .int x :: st => a_go true i ls (.int (f x y) :: st) h
  | _ => a_no h
def s_bid (f : Int32 → Int32 → Int32) (i : Nat) : A_S := fun ls st h => match st with
  | .int y :: .int x :: st => a_go (!decide (y = 0)) i ls (.int (f x y) :: st) h
  | _ => a_no h
def s_bl (f : Int64 → Int64 → Int64) (i : Nat) : A_S := fun ls st h => match st with
  | .long y :: .long x :: st => a_go true i ls (.long (f x y) :: st) h
  | _ => a_no h
def s_bld (f : Int64 → Int64 → Int64) (i : Nat) : A_S := fun ls st h => match st with
  | .long y :: .long x :: st => a_go (!decide (y = 0)) i ls (.long (f x y) :: st) h
  | _ => a_no h
def s_lcmp (i : Nat) : A_S := fun ls st h => match st with
  | .long y :: .long x :: st => a_go true i ls (.int (lg_cmp x y) :: st) h
  | _ => a_no h
def s_uii (f : Int32 → Int32) (i : Nat) : A_S := fun ls st h => match st with
  | .int x :: st => a_go true i ls (.int (f x) :: st) h
  | _ => a_no h
def s_i2l (i : Nat) : A_S := fun ls st h => match st with
  | .int x :: st => a_go true i ls (.long x.toInt64 :: st) h
  | _ => a_no h
def s_l2i (i : Nat) : A_S := fun ls st h => match st with
  | .long x :: st => a_go true i ls (.int x.toInt32 :: st) h
  | _ => a_no h
def s_dup (i : Nat) : A_S := fun ls st h => match st with
  | .int x :: st => a_go true i ls (.int x :: .int x :: st) h
  | .ref x :: st => a_go true i ls (.ref x :: .ref x :: st) h
  | _ => a_no h
def s_dupx1 (i : Nat) : A_S := fun ls st h => match st with
  | .int x :: .ref y :: st => a_go true i ls (.int x :: .ref y :: .int x :: st) h
  | _ => a_no h
def s_dup2 (i : Nat) : A_S := fun ls st h => match st with
  | .int x :: .ref y :: st => a_go true i ls (.int x :: .ref y :: .int x :: .ref y :: st) h
  | _ => a_no h
def s_pop (i : Nat) : A_S := fun ls st h => match st with
  | .int _ :: st => a_go true i ls st h
  | _ => a_no h
def s_if1 (p : Int32 → Bool) (t i : Nat) : A_S := fun ls st h => match st with
  | .int x :: st => (true, .inl ([(p x, t)], i, ls, st, h))
  | _ => a_no h
def s_if2 (p : Int32 → Int32 → Bool) (t i : Nat) : A_S := fun ls st h => match st with
  | .int y :: .int x :: st => (true, .inl ([(p x y, t)], i, ls, st, h))
  | _ => a_no h
def s_ifnull (t i : Nat) : A_S := fun ls st h => match st with
  | v :: st => (a_isR v, .inl ([(a_nul v, t)], i, ls, st, h))
  | _ => a_no h
def s_ifnonnull (t i : Nat) : A_S := fun ls st h => match st with
  | v :: st => (a_isR v, .inl ([(!a_nul v, t)], i, ls, st, h))
  | _ => a_no h
def s_goto (t : Nat) : A_S := fun ls st h => a_go true t ls st h
def s_sw (tb : List (Int32 × Nat)) (d : Nat) : A_S := fun ls st h => match st with
  | .int x :: st => (true, .inl (tb.map (fun q => (decide (x = q.1), q.2)), d, ls, st, h))
  | _ => a_no h
def s_getI (ci j i : Nat) : A_S := fun ls st h => match st with
  | .ref k :: st => a_go (isO h k ci) i ls (.int (hI h k j) :: st) h
  | _ => a_no h
def s_getL (ci j i : Nat) : A_S := fun ls st h => match st with
  | .ref k :: st => a_go (isO h k ci) i ls (.long (hL h k j) :: st) h
  | _ => a_no h
/-- a reference that isn't null -/
def s_getR (ci j i : Nat) : A_S := fun ls st h => match st with
  | .ref k :: st => a_go (isO h k ci && (hP h k j).isSome) i ls (.ref ((hP h k j).getD 0) :: st) h
  | _ => a_no h
/-- a reference, or null -/
def s_getN (ci j i : Nat) : A_S := fun ls st h => match st with
  | .ref k :: st => a_go (isO h k ci) i ls (va_rf (hP h k j) :: st) h
  | _ => a_no h
def s_putI (ci j i : Nat) : A_S := fun ls st h => match st with
  | .int x :: .ref k :: st => a_go (isO h k ci) i ls st (wI h k j x)
  | _ => a_no h
def s_putZ (ci j i : Nat) : A_S := fun ls st h => match st with
  | .int x :: .ref k :: st => a_go (isO h k ci && (decide (x = 0) || decide (x = 1))) i ls st (wI h k j x)
  | _ => a_no h
def s_putL (ci j i : Nat) : A_S := fun ls st h => match st with
  | .long x :: .ref k :: st => a_go (isO h k ci) i ls st (wL h k j x)
  | _ => a_no h
def s_putR (ci j i : Nat) : A_S := fun ls st h => match st with
  | .ref x :: .ref k :: st => a_go (isO h k ci) i ls st (wP h k j (some x))
  | _ => a_no h
def s_ial (tg i : Nat) : A_S := fun ls st h => match st with
  | .int j :: .ref k :: st => a_go (isA h k tg j) i ls (.int (hI h k j.toNatClampNeg) :: st) h
  | _ => a_no h
def s_lal (i : Nat) : A_S := fun ls st h => match st with
  | .int j :: .ref k :: st => a_go (isA h k 2 j) i ls (.long (hL h k j.toNatClampNeg) :: st) h
  | _ => a_no h
def s_aal (tg i : Nat) : A_S := fun ls st h => match st with
  | .int j :: .ref k :: st => a_go (isA h k tg j && (hP h k j.toNatClampNeg).isSome) i ls (.ref ((hP h k j.toNatClampNeg).getD 0) :: st) h
  | _ => a_no h
def s_ias (i : Nat) : A_S := fun ls st h => match st with
  | .int x :: .int j :: .ref k :: st => a_go (isA h k 0 j) i ls st (wI h k j.toNatClampNeg x)
  | _ => a_no h
def s_bas (i : Nat) : A_S := fun ls st h => match st with
  | .int x :: .int j :: .ref k :: st => a_go (isA h k 1 j) i ls st (wI h k j.toNatClampNeg x.toInt8.toInt32)
  | _ => a_no h
def s_las (i : Nat) : A_S := fun ls st h => match st with
  | .long x :: .int j :: .ref k :: st => a_go (isA h k 2 j) i ls st (wL h k j.toNatClampNeg x)
  | _ => a_no h
/-- an object of the class ci into an array of that class -/
def s_aas (tg ci i : Nat) : A_S := fun ls st h => match st with
  | .ref x :: .int j :: .ref k :: st => a_go (isA h k tg j && isO h x ci) i ls st (wP h k j.toNatClampNeg (some x))
  | _ => a_no h
def s_alen (tg i : Nat) : A_S := fun ls st h => match st with
  | .ref k :: st => a_go (decide (k < hn h) && decide ((hsh h k).1 = 100 + tg)) i ls (.int (Int32.ofNat (hsh h k).2) :: st) h
  | _ => a_no h
/-- the script: its length, its ints -/
def s_xlen (i : Nat) : A_S := fun ls st h => match st with
  | .float q :: st => a_go (decide (q = 0)) i ls (.int (Int32.ofNat (hX h).1) :: st) h
  | _ => a_no h
def s_xal (i : Nat) : A_S := fun ls st h => match st with
  | .int j :: .float q :: st => a_go (decide (q = 0) && !decide (j < 0) && decide (j.toNatClampNeg < (hX h).1)) i ls (.int ((hX h).2 j.toNatClampNeg) :: st) h
  | _ => a_no h
/-- a text's own: its bytes' row, its coder; that row's length and places (texts T) -/
def s_xgv (i : Nat) : A_S := fun ls st h => match st with
  | .float q :: st => a_go (decide (0 < q.toNat) && decide (q.toNat ≤ 32)) i ls (.float (q + 32) :: st) h
  | _ => a_no h
def s_xgc (i : Nat) : A_S := fun ls st h => match st with
  | .float q :: st => a_go (decide (0 < q.toNat) && decide (q.toNat ≤ 32)) i ls (.int 0 :: st) h
  | _ => a_no h
def a_T : List (List Nat) := [[98, 97, 114, 114, 105, 101, 114], [109, 101, 97, 110, 115], [116, 114, 97, 118, 101, 108, 108, 101, 114], [103, 97, 116, 101], [103, 111, 111, 100], [104, 105, 100, 101, 115], [99, 114, 111, 115, 115, 101, 115], [112, 114, 105, 99, 101], [99, 114, 117, 109, 98], [102, 114, 101, 115, 104], [98, 121], [102, 101, 101], [105, 110, 116, 101, 114, 101, 115, 116], [114, 97, 116, 101], [111, 114], [107, 101, 101, 112, 115], [97, 108, 108, 111, 119], [104, 117, 110, 103, 101, 114], [110, 111, 115, 101], [111, 112, 101, 110, 115], [115, 104, 117, 116, 115], [112, 108, 97, 105, 110], [119, 105, 110, 101], [111, 108, 100], [111, 97, 116, 104], [97, 103, 101], [119, 101, 105, 103, 104, 115], [119, 111, 114, 116, 104], [100, 97, 121], [104, 111, 117, 114], [104, 101, 114, 101], [116, 104, 101, 114, 101]]
def s_xbl (i : Nat) : A_S := fun ls st h => match st with
  | .float q :: st => a_go (decide (32 < q.toNat) && decide (q.toNat ≤ 64)) i ls (.int (Int32.ofNat (a_T.getD (q.toNat - 33) []).length) :: st) h
  | _ => a_no h
def s_xba (i : Nat) : A_S := fun ls st h => match st with
  | .int j :: .float q :: st => a_go (decide (32 < q.toNat) && decide (q.toNat ≤ 64) && !decide (j < 0) && decide (j.toNatClampNeg < (a_T.getD (q.toNat - 33) []).length)) i ls (.int (Int32.ofNat ((a_T.getD (q.toNat - 33) []).getD j.toNatClampNeg 0)) :: st) h
  | _ => a_no h
def s_new (ci N i : Nat) : A_S := fun ls st h => a_go true i ls (.ref (hn h) :: st) (nw h ci N N)
def s_nar (tg i : Nat) : A_S := fun ls st h => match st with
  | .int n :: st => a_go (!decide (n < 0) && decide (n.toNatClampNeg ≤ 2000)) i ls (.ref (hn h) :: st) (nw h (100 + tg) n.toNatClampNeg n.toNatClampNeg)
  | _ => a_no h
/-- how much a stack weighs -/
def a_cs : List Value → Nat
  | [] => 0
  | v :: r => v.category + a_cs r
def s_oi (i : Nat) : A_S := fun ls st h => match st with
  | .ref _ :: st => a_go (decide (a_cs st ≤ 8)) i ls st h
  | _ => a_no h
/-- Math.max, Math.min -/
def s_mbi (f : Int32 → Int32 → Int32) (i : Nat) : A_S := fun ls st h => match st with
  | .int y :: .int x :: st => a_go (decide (a_cs st ≤ 8)) i ls (.int (f x y) :: st) h
  | _ => a_no h
def s_mbl (f : Int64 → Int64 → Int64) (i : Nat) : A_S := fun ls st h => match st with
  | .long y :: .long x :: st => a_go (decide (a_cs st ≤ 8)) i ls (.long (f x y) :: st) h
  | _ => a_no h
/-- the receiver: 0 none, 1 of a constructor, 2 a text, k + 3 an object of the class k -/
def a_rk (kd : Nat) (h : A_H) (v : Value) : Bool := match kd with
  | 0 => true
  | 1 => (match v with | .ref _ => true | _ => false)
  | 2 => (match v with | .float q => decide (0 < q.toNat) && decide (q.toNat ≤ 32) | _ => false)
  | k + 3 => (match v with | .ref a => isO h a k | _ => false)
/-- a call of the method m with n arguments (the object too) -/
def s_call (kd m n nl : Nat) (b : Bool) (i : Nat) : A_S := fun ls st h => (decide (n ≤ st.length) && decide (a_cs (st.drop n) ≤ 8) && decide (a_cs (st.take n) ≤ nl) && a_rk kd h ((st.take n).reverse.headD .null), .inr (.inr (m, (st.take n).reverse, h, b, none, i, ls, st.drop n)))
/-- no long ends at v -/
def a_nl2 (ls : A_V) : Nat → Bool
  | 0 => true
  | k + 1 => !a_c2 (a_ld ls k)
def s_callX (kd m n nl : Nat) (b : Bool) (i j v : Nat) : A_S := fun ls st h => (decide (n ≤ st.length) && decide (a_cs (st.drop n) ≤ 8) && decide (a_cs (st.take n) ≤ nl) && a_nl2 ls v && a_rk kd h ((st.take n).reverse.headD .null), .inr (.inr (m, (st.take n).reverse, h, b, some (j, v), i, ls, st.drop n)))
def s_iret : A_S := fun _ st h => match st with
  | [.int x] => (true, .inr (.inl (some (some (.int x)), h)))
  | _ => a_no h
def s_zret : A_S := fun _ st h => match st with
  | [.int x] => (decide (x = 0) || decide (x = 1), .inr (.inl (some (some (.int x)), h)))
  | _ => a_no h
def s_cret : A_S := fun _ st h => match st with
  | [.int x] => (decide (0 ≤ x) && decide (x ≤ 65535), .inr (.inl (some (some (.int x)), h)))
  | _ => a_no h
def s_bret : A_S := fun _ st h => match st with
  | [.int x] => (decide (-128 ≤ x) && decide (x ≤ 127), .inr (.inl (some (some (.int x)), h)))
  | _ => a_no h
def s_lret : A_S := fun _ st h => match st with
  | [.long x] => (true, .inr (.inl (some (some (.long x)), h)))
  | _ => a_no h
def s_aret : A_S := fun _ st h => match st with
  | [.ref x] => (true, .inr (.inl (some (some (.ref x)), h)))
  | _ => a_no h
def s_vret : A_S := fun _ st h => match st with
  | [] => (true, .inr (.inl (some none, h)))
  | _ => a_no h
/-- throw new E(): the cell is made -/
def s_thr : A_S := fun _ st h => match st with
  | [] => (true, .inr (.inl (none, nw h 14 0 6)))
  | _ => a_no h
/-- a text's number, five bits a letter -/
def a_pkc (cs : List Nat) : Int64 := cs.foldl (fun v c => 32 * v + (Int64.ofNat c - 96)) 0
