/-! ===== the class's table by sets: paths, rings ===== -/
def dp_D (i : Nat) : Int := 10 ^ (8 - i)
def dp_N : Int := 2147483647
theorem dp_D_pos (i : Nat) : 0 < dp_D i := Int.pow_pos (by decide)
/-- a sum over the places of a set -/
def ms (φ : Nat → Int) (S : Nat) : Nat → Int
  | 0 => 0
  | n + 1 => ms φ S n + if S.testBit n then φ n else 0
theorem tb_or {S y i : Nat} : (S ||| 2 ^ y).testBit i = (S.testBit i || decide (y = i)) := by rw [Nat.testBit_or, Nat.testBit_two_pow]
theorem tb_or_n {S y i : Nat} (h : i ≠ y) : (S ||| 2 ^ y).testBit i = S.testBit i := by rw [tb_or, decide_eq_false (fun q => h q.symm), Bool.or_false]
theorem tb_or_s {S y : Nat} : (S ||| 2 ^ y).testBit y = true := by rw [tb_or, decide_eq_true rfl, Bool.or_true]
theorem ms_or {φ : Nat → Int} {S y : Nat} (hS : S.testBit y = false) : ∀ n, ms φ (S ||| 2 ^ y) n = ms φ S n + if y < n then φ y else 0 := by
  intro n
  induction n with
  | zero => rfl
  | succ n ih =>
    unfold ms
    rw [ih]
    by_cases e : n = y
    · subst e
      rw [tb_or_s, hS, if_neg (Nat.lt_irrefl _), if_pos (Nat.lt_succ_self _)]
      simp
    · rw [tb_or_n e]
      by_cases q : y < n
      · rw [if_pos q, if_pos (show y < n + 1 by omega)]; omega
      · rw [if_neg q, if_neg (show ¬ y < n + 1 by omega)]; omega
theorem ms_le {φ ψ : Nat → Int} {S : Nat} : ∀ n, (∀ i, i < n → 0 ≤ ψ i) → (∀ i, i < n → S.testBit i = true → φ i ≤ ψ i) → ms φ S n ≤ rg_s ψ n := by
  intro n
  induction n with
  | zero => intro _ _; exact Int.le_refl _
  | succ n ih =>
    intro h1 h2
    unfold ms rg_s
    have := ih (fun i hi => h1 i (by omega)) (fun i hi => h2 i (by omega))
    have a := h1 n (by omega); have b := h2 n (by omega)
    by_cases q : S.testBit n = true
    · rw [if_pos q]; have := b q; omega
    · rw [if_neg q]; omega
theorem ms_0 {φ : Nat → Int} {S : Nat} : ∀ n, (∀ i, i < n → S.testBit i = true → 0 ≤ φ i) → 0 ≤ ms φ S n := by
  intro n
  induction n with
  | zero => intro _; exact Int.le_refl _
  | succ n ih =>
    intro h
    unfold ms
    have := ih (fun i hi => h i (by omega)); have b := h n (by omega)
    by_cases q : S.testBit n = true
    · rw [if_pos q]; have := b q; omega
    · rw [if_neg q]; omega
theorem ms_cg {φ ψ : Nat → Int} {S : Nat} : ∀ n, (∀ i, i < n → S.testBit i = true → φ i = ψ i) → ms φ S n = ms ψ S n := by
  intro n
  induction n with
  | zero => intro _; rfl
  | succ n ih =>
    intro h
    unfold ms
    rw [ih (fun i hi => h i (by omega))]
    by_cases q : S.testBit n = true
    · rw [if_pos q, if_pos q, h n (by omega) q]
    · rw [if_neg q, if_neg q]
/-- two sets without a common place -/
theorem ms_two {φ : Nat → Int} {S A B : Nat} : ∀ n, (∀ i, i < n → (S.testBit i = true ↔ A.testBit i = true ∨ B.testBit i = true) ∧ ¬ (A.testBit i = true ∧ B.testBit i = true)) → ms φ S n = ms φ A n + ms φ B n := by
  intro n
  induction n with
  | zero => intro _; rfl
  | succ n ih =>
    intro h
    unfold ms
    rw [ih (fun i hi => h i (by omega))]
    have q := h n (by omega)
    by_cases a : A.testBit n = true <;> by_cases b : B.testBit n = true
    · exact absurd ⟨a, b⟩ q.2
    · rw [if_pos (q.1.mpr (Or.inl a)), if_pos a, if_neg b]; omega
    · rw [if_pos (q.1.mpr (Or.inr b)), if_neg a, if_pos b]; omega
    · rw [if_neg (fun c => (q.1.mp c).elim a b), if_neg a, if_neg b]; omega
theorem rg_s_D : ∀ n, n ≤ 9 → rg_s (fun i => 8 * dp_D i) n ≤ 888888888 := by
  intro n hn
  have : ∀ n, n < 10 → rg_s (fun i => 8 * dp_D i) n ≤ 888888888 := by decide
  exact this n (by omega)
/-- a path: its places, its set, its number -/
def sq_m (x : Nat → Nat) : Nat → Nat
  | 0 => 2 ^ x 0
  | t + 1 => sq_m x t ||| 2 ^ x (t + 1)
def sq_c (x : Nat → Nat) : Nat → Int
  | 0 => 0
  | t + 1 => sq_c x t + (x (t + 1) : Int) * dp_D (x t)
def sq_ok (n : Nat) (su : Nat → Nat → Bool) (x : Nat → Nat) (t : Nat) : Prop :=
  (∀ s, s ≤ t → x s < n) ∧ (∀ s s', s < s' → s' ≤ t → x s ≠ x s') ∧ (∀ s, s < t → su (x s) (x (s + 1)) = true) ∧ (∀ s, 1 ≤ s → s ≤ t → x 0 < x s)
section SQ
variable {n L : Nat} {su : Nat → Nat → Bool} {x : Nat → Nat} {t : Nat}
theorem sq_tb {i : Nat} : ∀ t, (sq_m x t).testBit i = true ↔ ∃ s, s ≤ t ∧ x s = i := by
  intro t
  induction t with
  | zero =>
    unfold sq_m
    rw [Nat.testBit_two_pow, decide_eq_true_eq]
    constructor
    · intro h; exact ⟨0, Nat.le_refl _, h⟩
    · rintro ⟨s, h1, h2⟩
      obtain rfl : s = 0 := by omega
      exact h2
  | succ t ih =>
    unfold sq_m
    rw [tb_or, Bool.or_eq_true, ih, decide_eq_true_eq]
    constructor
    · rintro (⟨s, h1, h2⟩ | h)
      · exact ⟨s, by omega, h2⟩
      · exact ⟨t + 1, Nat.le_refl _, h⟩
    · rintro ⟨s, h1, h2⟩
      by_cases e : s = t + 1
      · subst e; exact Or.inr h2
      · exact Or.inl ⟨s, by omega, h2⟩
theorem sq_no {i : Nat} (h : ∀ s, s ≤ t → x s ≠ i) : (sq_m x t).testBit i = false := by
  rw [← Bool.not_eq_true, sq_tb]
  rintro ⟨s, h1, h2⟩
  exact h s h1 h2
theorem sq_ok_le (h : sq_ok n su x (t + 1)) : sq_ok n su x t := ⟨fun s hs => h.1 s (by omega), fun s s' a b => h.2.1 s s' a (by omega), fun s hs => h.2.2.1 s (by omega), fun s a b => h.2.2.2 s a (by omega)⟩
theorem sq_lt (h : ∀ s, s ≤ t → x s < n) : sq_m x t < 2 ^ n := by
  refine Nat.lt_pow_two_of_testBit _ (fun i hi => ?_)
  exact sq_no (fun s hs => by have := h s hs; omega)
theorem sq_up (h : ∀ s, s ≤ t → x s ≠ x (t + 1)) : sq_m x t < sq_m x (t + 1) := by
  have h1 : sq_m x t ≤ sq_m x t ||| 2 ^ x (t + 1) := Nat.left_le_or
  have h2 : sq_m x t ≠ sq_m x t ||| 2 ^ x (t + 1) := fun e => by
    have a := sq_no h
    rw [e, tb_or_s] at a
    cases a
  show sq_m x t < sq_m x t ||| 2 ^ x (t + 1)
  omega
/-- how many places -/
def bcz (S : Nat) : Int := ms (fun _ => 1) S 9
theorem sq_bc (hn : n ≤ 9) : ∀ t, sq_ok n su x t → bcz (sq_m x t) = (t : Int) + 1 := by
  intro t
  induction t with
  | zero =>
    intro h
    have h0 := h.1 0 (Nat.le_refl _)
    have : ∀ k, k < 9 → bcz (2 ^ k) = 1 := by decide
    exact this (x 0) (by omega)
  | succ t ih =>
    intro h
    have q := ih (sq_ok_le h)
    unfold bcz at q ⊢
    show ms _ (sq_m x t ||| 2 ^ x (t + 1)) 9 = _
    have := h.1 (t + 1) (Nat.le_refl _)
    rw [ms_or (sq_no (fun s hs => h.2.1 s (t + 1) (by omega) (Nat.le_refl _))), if_pos (by omega), q]
    omega
/-- a path's number is small -/
theorem sq_c_le (hn : n ≤ 9) (h : sq_ok n su x t) : 0 ≤ sq_c x t ∧ sq_c x t ≤ 888888888 := by
  have key : ∀ t, sq_ok n su x (t + 1) → 0 ≤ sq_c x (t + 1) ∧ sq_c x (t + 1) ≤ ms (fun i => 8 * dp_D i) (sq_m x t) n := by
    intro t
    induction t with
    | zero =>
      intro h
      have a := h.1 0 (by omega); have b := h.1 1 (by omega)
      have d := dp_D_pos (x 0)
      have e : ms (fun i => 8 * dp_D i) (2 ^ x 0) n = 8 * dp_D (x 0) := by
        have q := ms_or (φ := fun i => 8 * dp_D i) (S := 0) (y := x 0) (Nat.zero_testBit _) n
        rw [Nat.zero_or, if_pos a] at q
        have z : ∀ m, ms (fun i => 8 * dp_D i) 0 m = 0 := by
          intro m
          induction m with
          | zero => rfl
          | succ m ih => unfold ms; rw [ih, Nat.zero_testBit]; rfl
        rw [q, z]; omega
      show 0 ≤ 0 + (x 1 : Int) * dp_D (x 0) ∧ 0 + (x 1 : Int) * dp_D (x 0) ≤ ms _ (2 ^ x 0) n
      rw [e]
      have m1 : (x 1 : Int) * dp_D (x 0) ≤ 8 * dp_D (x 0) := Int.mul_le_mul_of_nonneg_right (by omega) (by omega)
      have m2 : 0 ≤ (x 1 : Int) * dp_D (x 0) := Int.mul_nonneg (by omega) (by omega)
      omega
    | succ t ih =>
      intro h
      have q := ih (sq_ok_le h)
      have a := h.1 (t + 1) (by omega); have b := h.1 (t + 2) (by omega)
      have d := dp_D_pos (x (t + 1))
      have m1 : (x (t + 2) : Int) * dp_D (x (t + 1)) ≤ 8 * dp_D (x (t + 1)) := Int.mul_le_mul_of_nonneg_right (by omega) (by omega)
      have m2 : 0 ≤ (x (t + 2) : Int) * dp_D (x (t + 1)) := Int.mul_nonneg (by omega) (by omega)
      show 0 ≤ sq_c x (t + 1) + (x (t + 2) : Int) * dp_D (x (t + 1)) ∧ sq_c x (t + 1) + (x (t + 2) : Int) * dp_D (x (t + 1)) ≤ ms _ (sq_m x t ||| 2 ^ x (t + 1)) n
      rw [ms_or (sq_no (fun s hs => h.2.1 s (t + 1) (by omega) (by omega))), if_pos a]
      omega
  cases t with
  | zero => exact ⟨Int.le_refl _, show (0 : Int) ≤ 888888888 by decide⟩
  | succ t =>
    have q := key t h
    have r := ms_le (φ := fun i => 8 * dp_D i) (ψ := fun i => 8 * dp_D i) (S := sq_m x t) n (fun i _ => by have := dp_D_pos i; omega) (fun _ _ _ => Int.le_refl _)
    have s := rg_s_D n hn
    exact ⟨q.1, Int.le_trans q.2 (Int.le_trans r s)⟩
end SQ
/-- a path of T to x is lengthened by each m that x may get -/
def dd_le (su : Nat → Nat → Bool) (R : Nat → Int) (T a x : Nat) (v : Int) : Nat → Nat → Int
  | 0 => R
  | m + 1 =>
    if a < m ∧ su x m = true ∧ T.testBit m = false then pz_up (dd_le su R T a x v m) ((T ||| 2 ^ m) * 9 + m) (min (dd_le su R T a x v m ((T ||| 2 ^ m) * 9 + m)) (v + (m : Int) * dp_D x))
    else dd_le su R T a x v m
section LE
variable {su : Nat → Nat → Bool} {R : Nat → Int} {T a x m : Nat} {v : Int}
theorem dd_le_y (h : a < m ∧ su x m = true ∧ T.testBit m = false) : dd_le su R T a x v (m + 1) = pz_up (dd_le su R T a x v m) ((T ||| 2 ^ m) * 9 + m) (min (dd_le su R T a x v m ((T ||| 2 ^ m) * 9 + m)) (v + (m : Int) * dp_D x)) := by
  show (if _ then _ else _) = _
  rw [if_pos h]
theorem dd_le_n (h : ¬ (a < m ∧ su x m = true ∧ T.testBit m = false)) : dd_le su R T a x v (m + 1) = dd_le su R T a x v m := by
  show (if _ then _ else _) = _
  rw [if_neg h]
theorem dd_le_0 : ∀ m, m ≤ a + 1 → dd_le su R T a x v m = R := by
  intro m
  induction m with
  | zero => intro _; rfl
  | succ m ih => intro h; rw [dd_le_n (by omega)]; exact ih (by omega)
theorem dd_le_1 (q : Nat) : ∀ m, dd_le su R T a x v m q ≤ R q := by
  intro m
  induction m with
  | zero => exact Int.le_refl _
  | succ m ih =>
    by_cases h : a < m ∧ su x m = true ∧ T.testBit m = false
    · rw [dd_le_y h]
      by_cases e : q = (T ||| 2 ^ m) * 9 + m
      · rw [e, pz_up_s]; rw [e] at ih; omega
      · rw [pz_up_n e]; exact ih
    · rw [dd_le_n h]; exact ih
theorem dd_le_2 {y : Nat} (h : a < y ∧ su x y = true ∧ T.testBit y = false) : ∀ m, y < m → dd_le su R T a x v m ((T ||| 2 ^ y) * 9 + y) ≤ v + (y : Int) * dp_D x := by
  intro m
  induction m with
  | zero => intro q; exact absurd q (Nat.not_lt_zero _)
  | succ m ih =>
    intro hy
    by_cases e : y = m
    · subst e; rw [dd_le_y h, pz_up_s]; omega
    · have q := ih (by omega)
      by_cases h' : a < m ∧ su x m = true ∧ T.testBit m = false
      · rw [dd_le_y h']
        by_cases e' : (T ||| 2 ^ y) * 9 + y = (T ||| 2 ^ m) * 9 + m
        · rw [e', pz_up_s]; rw [e'] at q; omega
        · rw [pz_up_n e']; exact q
      · rw [dd_le_n h']; exact q
theorem dd_le_3 (q : Nat) : ∀ m, dd_le su R T a x v m q = R q ∨ ∃ y, y < m ∧ a < y ∧ su x y = true ∧ T.testBit y = false ∧ q = (T ||| 2 ^ y) * 9 + y ∧ dd_le su R T a x v m q = v + (y : Int) * dp_D x := by
  intro m
  induction m with
  | zero => exact Or.inl rfl
  | succ m ih =>
    by_cases h : a < m ∧ su x m = true ∧ T.testBit m = false
    · rw [dd_le_y h]
      by_cases e : q = (T ||| 2 ^ m) * 9 + m
      · rw [e, pz_up_s]
        by_cases c : dd_le su R T a x v m ((T ||| 2 ^ m) * 9 + m) ≤ v + (m : Int) * dp_D x
        · rw [Int.min_eq_left c]
          rw [e] at ih
          rcases ih with ih | ⟨y, y1, y2, y3, y4, y5, y6⟩
          · exact Or.inl ih
          · exact Or.inr ⟨y, by omega, y2, y3, y4, y5, y6⟩
        · rw [Int.min_eq_right (by omega)]
          exact Or.inr ⟨m, Nat.lt_succ_self _, h.1, h.2.1, h.2.2, rfl, rfl⟩
      · rw [pz_up_n e]
        rcases ih with ih | ⟨y, y1, y2, y3, y4, y5, y6⟩
        · exact Or.inl ih
        · exact Or.inr ⟨y, by omega, y2, y3, y4, y5, y6⟩
    · rw [dd_le_n h]
      rcases ih with ih | ⟨y, y1, y2, y3, y4, y5, y6⟩
      · exact Or.inl ih
      · exact Or.inr ⟨y, by omega, y2, y3, y4, y5, y6⟩
/-- T's own paths stay -/
theorem dd_le_T {z n : Nat} (hz : z < 9) (hn : n ≤ 9) : ∀ m, m ≤ n → dd_le su R T a x v m (T * 9 + z) = R (T * 9 + z) := by
  intro m hm
  rcases dd_le_3 (su := su) (R := R) (T := T) (a := a) (x := x) (v := v) (T * 9 + z) m with h | ⟨y, y1, y2, y3, y4, y5, y6⟩
  · exact h
  · exfalso
    have e : T = T ||| 2 ^ y := by omega
    have := tb_or_s (S := T) (y := y)
    rw [← e, y4] at this
    cases this
end LE
/-- all paths of T: lengthened, and closed to rings -/
def dd_go (n : Nat) (su : Nat → Nat → Bool) (T a : Nat) (R Q : Nat → Int) : Nat → (Nat → Int) × (Nat → Int)
  | 0 => (R, Q)
  | m + 1 =>
    if a ≤ m ∧ (dd_go n su T a R Q m).1 (T * 9 + m) ≠ dp_N then
      (dd_le su (dd_go n su T a R Q m).1 T a m ((dd_go n su T a R Q m).1 (T * 9 + m)) n,
       if su m a = true then pz_up (dd_go n su T a R Q m).2 T (min ((dd_go n su T a R Q m).2 T) ((dd_go n su T a R Q m).1 (T * 9 + m) + (a : Int) * dp_D m)) else (dd_go n su T a R Q m).2)
    else dd_go n su T a R Q m
section GO
variable {n : Nat} {su : Nat → Nat → Bool} {T a : Nat} {R Q : Nat → Int}
theorem dd_go_y {m : Nat} (h : a ≤ m ∧ (dd_go n su T a R Q m).1 (T * 9 + m) ≠ dp_N) : dd_go n su T a R Q (m + 1) = (dd_le su (dd_go n su T a R Q m).1 T a m ((dd_go n su T a R Q m).1 (T * 9 + m)) n, if su m a = true then pz_up (dd_go n su T a R Q m).2 T (min ((dd_go n su T a R Q m).2 T) ((dd_go n su T a R Q m).1 (T * 9 + m) + (a : Int) * dp_D m)) else (dd_go n su T a R Q m).2) := by
  show (if _ then _ else _) = _
  rw [if_pos h]
theorem dd_go_n {m : Nat} (h : ¬ (a ≤ m ∧ (dd_go n su T a R Q m).1 (T * 9 + m) ≠ dp_N)) : dd_go n su T a R Q (m + 1) = dd_go n su T a R Q m := by
  show (if _ then _ else _) = _
  rw [if_neg h]
theorem dd_go_0 : ∀ m, m ≤ a → dd_go n su T a R Q m = (R, Q) := by
  intro m
  induction m with
  | zero => intro _; rfl
  | succ m ih => intro h; rw [dd_go_n (by omega)]; exact ih (by omega)
/-- what one round of a set does -/
theorem dd_go_all (hn : n ≤ 9) : ∀ m, m ≤ n →
    (∀ z, z < 9 → (dd_go n su T a R Q m).1 (T * 9 + z) = R (T * 9 + z)) ∧
    (∀ q, (dd_go n su T a R Q m).1 q ≤ R q) ∧
    (∀ x y, x < m → a ≤ x → R (T * 9 + x) ≠ dp_N → y < n → a < y → su x y = true → T.testBit y = false → (dd_go n su T a R Q m).1 ((T ||| 2 ^ y) * 9 + y) ≤ R (T * 9 + x) + (y : Int) * dp_D x) ∧
    (∀ q, (dd_go n su T a R Q m).1 q = R q ∨ ∃ x y, x < m ∧ a ≤ x ∧ R (T * 9 + x) ≠ dp_N ∧ y < n ∧ a < y ∧ su x y = true ∧ T.testBit y = false ∧ q = (T ||| 2 ^ y) * 9 + y ∧ (dd_go n su T a R Q m).1 q = R (T * 9 + x) + (y : Int) * dp_D x) ∧
    (∀ x, x < m → a ≤ x → R (T * 9 + x) ≠ dp_N → su x a = true → (dd_go n su T a R Q m).2 T ≤ R (T * 9 + x) + (a : Int) * dp_D x) ∧
    (∀ q, (dd_go n su T a R Q m).2 q = Q q ∨ (q = T ∧ ∃ x, x < m ∧ a ≤ x ∧ R (T * 9 + x) ≠ dp_N ∧ su x a = true ∧ (dd_go n su T a R Q m).2 T = R (T * 9 + x) + (a : Int) * dp_D x)) := by
  intro m
  induction m with
  | zero => intro _; exact ⟨fun z _ => rfl, fun q => Int.le_refl _, fun x y hx => absurd hx (Nat.not_lt_zero _), fun q => Or.inl rfl, fun x hx => absurd hx (Nat.not_lt_zero _), fun q => Or.inl rfl⟩
  | succ m ih =>
    intro hm
    obtain ⟨i1, i2, i3, i4, i5, i6⟩ := ih (by omega)
    by_cases h : a ≤ m ∧ (dd_go n su T a R Q m).1 (T * 9 + m) ≠ dp_N
    · have e0 := i1 m (by omega)
      rw [dd_go_y h]
      rw [e0] at h ⊢
      refine ⟨fun z hz => ?_, fun q => ?_, fun x y hx ha hR hy hay hs hT => ?_, fun q => ?_, fun x hx ha hR hs => ?_, fun q => ?_⟩
      · show dd_le _ _ _ _ _ _ _ _ = _
        rw [dd_le_T hz hn n (Nat.le_refl _)]; exact i1 z hz
      · exact Int.le_trans (dd_le_1 q n) (i2 q)
      · by_cases e : x = m
        · subst e; exact dd_le_2 ⟨hay, hs, hT⟩ n hy
        · exact Int.le_trans (dd_le_1 _ n) (i3 x y (by omega) ha hR hy hay hs hT)
      · show dd_le _ _ _ _ _ _ _ _ = _ ∨ _
        rcases dd_le_3 (su := su) (R := (dd_go n su T a R Q m).1) (T := T) (a := a) (x := m) (v := R (T * 9 + m)) q n with c | ⟨y, y1, y2, y3, y4, y5, y6⟩
        · rcases i4 q with d | ⟨x, y, d1, d2, d3, d4, d5, d6, d7, d8, d9⟩
          · exact Or.inl (c.trans d)
          · exact Or.inr ⟨x, y, by omega, d2, d3, d4, d5, d6, d7, d8, c.trans d9⟩
        · exact Or.inr ⟨m, y, Nat.lt_succ_self _, h.1, h.2, y1, y2, y3, y4, y5, y6⟩
      · dsimp only
        by_cases e : su m a = true
        · rw [if_pos e, pz_up_s]
          by_cases e2 : x = m
          · subst e2; omega
          · have := i5 x (by omega) ha hR hs; omega
        · rw [if_neg e]
          by_cases e2 : x = m
          · subst e2; exact absurd hs e
          · exact i5 x (by omega) ha hR hs
      · dsimp only
        by_cases e : su m a = true
        · rw [if_pos e]
          by_cases e3 : q = T
          · subst e3
            rw [pz_up_s]
            by_cases c : (dd_go n su q a R Q m).2 q ≤ R (q * 9 + m) + (a : Int) * dp_D m
            · rw [Int.min_eq_left c]
              rcases i6 q with d | ⟨d0, x, d1, d2, d3, d4, d5⟩
              · exact Or.inl d
              · exact Or.inr ⟨rfl, x, by omega, d2, d3, d4, d5⟩
            · rw [Int.min_eq_right (by omega)]
              exact Or.inr ⟨rfl, m, Nat.lt_succ_self _, h.1, h.2, e, rfl⟩
          · rw [pz_up_n e3]
            rcases i6 q with d | ⟨d0, -⟩
            · exact Or.inl d
            · exact absurd d0 e3
        · rw [if_neg e]
          rcases i6 q with d | ⟨d0, x, d1, d2, d3, d4, d5⟩
          · exact Or.inl d
          · exact Or.inr ⟨d0, x, by omega, d2, d3, d4, d5⟩
    · rw [dd_go_n h]
      have e0 := i1 m (by omega)
      rw [e0] at h
      refine ⟨i1, i2, fun x y hx ha hR hy hay hs hT => ?_, fun q => ?_, fun x hx ha hR hs => ?_, fun q => ?_⟩
      · by_cases e : x = m
        · subst e; exact absurd ⟨ha, hR⟩ h
        · exact i3 x y (by omega) ha hR hy hay hs hT
      · rcases i4 q with d | ⟨x, y, d1, d⟩
        · exact Or.inl d
        · exact Or.inr ⟨x, y, by omega, d⟩
      · by_cases e : x = m
        · subst e; exact absurd ⟨ha, hR⟩ h
        · exact i5 x (by omega) ha hR hs
      · rcases i6 q with d | ⟨d0, x, d1, d⟩
        · exact Or.inl d
        · exact Or.inr ⟨d0, x, by omega, d⟩
end GO
