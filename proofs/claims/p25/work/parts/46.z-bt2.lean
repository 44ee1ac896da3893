/-! ===== bits, exactly ===== -/
def tbz (z i : Int) : Int := if z.toNat.testBit i.toNat then 1 else 0
theorem tbz_1 {z i : Int} (h : tbz z i ≠ 0) : z.toNat.testBit i.toNat = true := by
  unfold tbz at h
  by_cases c : z.toNat.testBit i.toNat = true
  · exact c
  · rw [if_neg c] at h; exact absurd rfl h
theorem tbz_0 {z i : Int} (h : tbz z i = 0) : z.toNat.testBit i.toNat = false := by
  unfold tbz at h
  by_cases c : z.toNat.testBit i.toNat = true
  · rw [if_pos c] at h; exact absurd h (by decide)
  · exact Bool.not_eq_true _ ▸ c
theorem tbz_01 (z i : Int) : tbz z i = 0 ∨ tbz z i = 1 := by unfold tbz; split <;> omega
theorem has_al2 : ∀ s, s < 512 → ∀ m, m < 9 → (Int32.ofNat s >>> (Int32.ofNat m &&& 31) &&& 1).toInt = if s.testBit m then 1 else 0 := by decide +kernel
theorem has_c {p q x y z : Int32} (h1 : x = p >>> (q &&& 31)) (h2 : z = x &&& y) (hy : y.toInt = 1) (hp : 0 ≤ p.toInt ∧ p.toInt ≤ 511) (hq : 0 ≤ q.toInt ∧ q.toInt ≤ 8) : z.toInt = tbz p.toInt q.toInt := by
  obtain rfl : y = 1 := ty_eq32.mpr (by rw [hy]; rfl)
  have e := has_al2 p.toInt.toNat (by omega) q.toInt.toNat (by omega)
  rw [← i32_nat hp.1, ← i32_nat hq.1, ← h1, ← h2] at e
  unfold tbz
  exact e
def bcE (i : Int32) : Int32 :=
  let u : Int32 → Int32 → Int32 := fun x y => (x.toUInt32 >>> (y.toUInt32 &&& Int32.toUInt32 31)).toInt32
  let i1 := i - (u i 1 &&& 1431655765)
  let i2 := (i1 &&& 858993459) + (u i1 2 &&& 858993459)
  let i3 := (i2 + u i2 4) &&& 252645135
  let i4 := i3 + u i3 8
  let i5 := i4 + u i4 16
  i5 &&& 63
theorem bc_all : ∀ n, n < 512 → (bcE (Int32.ofNat n)).toInt = bcz n := by decide +kernel
theorem bc_ok {p : Int32} (hp : 0 ≤ p.toInt ∧ p.toInt ≤ 511) : (bcE p).toInt = bcz p.toInt.toNat := by
  have e := bc_all p.toInt.toNat (by omega)
  rw [← i32_nat hp.1] at e
  exact e
theorem bcz_rg : ∀ n, n < 512 → 0 ≤ bcz n ∧ bcz n ≤ 9 := by decide +kernel
theorem lo_all : ∀ n, n < 512 → n ≠ 0 → (0 ≤ ((Int32.ofNat n &&& -(Int32.ofNat n)) - 1).toInt ∧ ((Int32.ofNat n &&& -(Int32.ofNat n)) - 1).toInt ≤ 511) ∧ bcz ((Int32.ofNat n &&& -(Int32.ofNat n)) - 1).toInt.toNat = (lo9 n : Int) := by decide +kernel
theorem lo_c {a b c d y : Int32} (h1 : b = -a) (h2 : c = a &&& b) (h3 : d = c - y) (hy : y.toInt = 1) (ha : 1 ≤ a.toInt ∧ a.toInt ≤ 511) : (0 ≤ d.toInt ∧ d.toInt ≤ 511) ∧ bcz d.toInt.toNat = (lo9 a.toInt.toNat : Int) := by
  obtain rfl : y = 1 := ty_eq32.mpr (by rw [hy]; rfl)
  have e := lo_all a.toInt.toNat (by omega) (by omega)
  rw [← i32_nat (by omega), ← h1, ← h2, ← h3] at e
  exact e
theorem lo9_le (T : Nat) : lo9 T ≤ 8 := by
  unfold lo9
  (repeat' split) <;> decide
/-- a mask, bit by bit -/
def sm_f (P : Nat → Bool) : Nat → Nat
  | 0 => 0
  | j + 1 => sm_f P j + if P j then 2 ^ j else 0
theorem sm_lt {P : Nat → Bool} : ∀ n, sm_f P n < 2 ^ n := by
  intro n
  induction n with
  | zero => exact (show (0 : Nat) < 1 by decide)
  | succ n ih =>
    have p : 2 ^ (n + 1) = 2 ^ n + 2 ^ n := by rw [Nat.pow_succ]; omega
    unfold sm_f
    split <;> omega
theorem sm_or {P : Nat → Bool} {j : Nat} (h : P j = true) : sm_f P (j + 1) = sm_f P j ||| 2 ^ j := by
  show sm_f P j + (if P j = true then 2 ^ j else 0) = _
  have q := Nat.two_pow_add_eq_or_of_lt (sm_lt (P := P) j) 1
  rw [Nat.mul_one] at q
  rw [if_pos h, Nat.or_comm, ← q, Nat.add_comm]
theorem sm_no {P : Nat → Bool} {j : Nat} (h : P j = false) : sm_f P (j + 1) = sm_f P j := by
  show sm_f P j + (if P j = true then 2 ^ j else 0) = _
  rw [if_neg (by rw [h]; decide)]; rfl
theorem sm_tb {P : Nat → Bool} {i : Nat} : ∀ n, (sm_f P n).testBit i = (decide (i < n) && P i) := by
  intro n
  induction n with
  | zero => show (0 : Nat).testBit i = _; rw [Nat.zero_testBit]; rfl
  | succ n ih =>
    by_cases h : P n = true
    · rw [sm_or h, tb_or, ih]
      by_cases e : i = n
      · subst e; simp [h]
      · have : decide (i < n + 1) = decide (i < n) := decide_eq_decide.mpr (by omega)
        rw [this, decide_eq_false (show ¬ n = i from fun q => e q.symm), Bool.or_false]
    · rw [Bool.not_eq_true] at h
      rw [sm_no h, ih]
      by_cases e : i = n
      · subst e; simp [h]
      · rw [decide_eq_decide.mpr (show i < n ↔ i < n + 1 by omega)]
theorem or_n {x y z : Int32} {a b : Nat} (h : z = x ||| y) (hx : x.toInt = (a : Int)) (hy : y.toInt = (b : Int)) (ha : a < 512) (hb : b < 512) : z.toInt = ((a ||| b : Nat) : Int) := by
  subst h
  have h1 := i32_bv (x := x) (by omega)
  have h2 := i32_bv (x := y) (by omega)
  have e : (x ||| y).toBitVec.toNat = a ||| b := by
    rw [Int32.toBitVec_or, BitVec.toNat_or]
    congr 1 <;> omega
  have l : a ||| b < 2 ^ 9 := Nat.or_lt_two_pow (by omega) (by omega)
  rw [i32_of (by rw [e]; omega), e]
theorem and_n {x y z : Int32} {a b : Nat} (h : z = x &&& y) (hx : x.toInt = (a : Int)) (hy : y.toInt = (b : Int)) : z.toInt = ((a &&& b : Nat) : Int) := by
  subst h
  have h1 := i32_bv (x := x) (by omega)
  have h2 := i32_bv (x := y) (by omega)
  have h3 := Int32.toInt_lt x
  have e : (x &&& y).toBitVec.toNat = a &&& b := by
    rw [Int32.toBitVec_and, BitVec.toNat_and]
    congr 1 <;> omega
  have l : a &&& b ≤ a := Nat.and_le_left
  rw [i32_of (by rw [e]; omega), e]
/-- one set without another's places -/
theorem sd_c {s r m x z : Int32} (hx : x = r ^^^ m) (hz : z = s &&& x) (hm : m.toInt = -1) (hs : 0 ≤ s.toInt ∧ s.toInt ≤ 511) (hr : 0 ≤ r.toInt ∧ r.toInt ≤ 511) : z.toInt = (sd s.toInt.toNat r.toInt.toNat : Int) := by
  obtain rfl : m = -1 := ty_eq32.mpr (by rw [hm]; rfl)
  have h1 := i32_bv (x := s) hs.1
  have h2 := i32_bv (x := r) hr.1
  have es : s.toBitVec.toNat = s.toInt.toNat := by omega
  have er : r.toBitVec.toNat = r.toInt.toNat := by omega
  have e : z.toBitVec.toNat = sd s.toInt.toNat r.toInt.toNat := by
    subst hz hx
    rw [Int32.toBitVec_and, Int32.toBitVec_xor, show (-1 : Int32).toBitVec = BitVec.allOnes 32 from rfl]
    refine Nat.eq_of_testBit_eq (fun i => ?_)
    rw [BitVec.toNat_and, Nat.testBit_and, sd_tb, BitVec.toNat_xor, Nat.testBit_xor, es, er, BitVec.toNat_allOnes, Nat.testBit_two_pow_sub_one]
    by_cases hi : i < 32
    · rw [decide_eq_true hi]; cases r.toInt.toNat.testBit i <;> rfl
    · rw [Nat.testBit_lt_two_pow (x := s.toInt.toNat) (i := i) (Nat.lt_of_lt_of_le (show s.toInt.toNat < 2 ^ 9 by omega) (Nat.pow_le_pow_right (by decide) (by omega)))]; rfl
  have l : sd s.toInt.toNat r.toInt.toNat < 2 ^ 9 := Nat.lt_pow_two_of_testBit _ (fun i hi => by
    rw [sd_tb, Nat.testBit_lt_two_pow (Nat.lt_of_lt_of_le (show s.toInt.toNat < 2 ^ 9 by omega) (Nat.pow_le_pow_right (by decide) hi))]; rfl)
  rw [i32_of (by rw [e]; omega), e]
theorem dW_D : ∀ i, i < 9 → (dW i).toInt = dp_D i := by decide +kernel
theorem sd_lt {s r : Nat} (h : s < 512) : sd s r < 512 := by
  refine Nat.lt_pow_two_of_testBit (n := 9) _ (fun i hi => ?_)
  rw [sd_tb, Nat.testBit_lt_two_pow (Nat.lt_of_lt_of_le (show s < 2 ^ 9 by omega) (Nat.pow_le_pow_right (by decide) hi))]; rfl
/-- suits, whole -/
def fs_f (r : Nat → Int) (P : Nat → Nat → Bool) (n m : Nat) : Nat → Int := fun q => if q < m then (sm_f (P q) n : Int) else r q
theorem fs_0 {r : Nat → Int} {P : Nat → Nat → Bool} {n m : Nat} (h : m = 0) : r = fs_f r P n m := by funext q; unfold fs_f; rw [if_neg (by omega)]
theorem fs_s {r : Nat → Int} {P : Nat → Nat → Bool} {n m k j : Nat} (hk : k = m + 1) (hj : j = n) : pz_up (fs_f r P n m) m (sm_f (P m) j : Int) = fs_f r P n k := by
  subst hk hj
  funext q
  by_cases e : q = m
  · subst e; rw [pz_up_s]; unfold fs_f; rw [if_pos (by omega)]
  · rw [pz_up_n e]; unfold fs_f
    by_cases c : q < m
    · rw [if_pos c, if_pos (by omega)]
    · rw [if_neg c, if_neg (by omega)]
theorem dp_Dr (i : Nat) : 1 ≤ dp_D i ∧ dp_D i ≤ 100000000 := by
  have h : dp_D i = ((10 ^ (8 - i) : Nat) : Int) := by unfold dp_D; rw [Int.natCast_pow]; rfl
  have a : 10 ^ (8 - i) ≤ 10 ^ 8 := Nat.pow_le_pow_right (by decide) (by omega)
  have b : 0 < 10 ^ (8 - i) := Nat.pow_pos (by decide)
  omega
theorem dW_ix {v i : Int32} (h : v = dW i.toNatClampNeg) (hi : 0 ≤ i.toInt ∧ i.toInt < 9) : v.toInt = dp_D i.toInt.toNat := by
  have := ty_ixn hi.1
  rw [h, show i.toNatClampNeg = i.toInt.toNat by omega]
  exact dW_D _ (by omega)
theorem mulDr (x : Int) (j : Nat) (hx : 0 ≤ x ∧ x ≤ 9) : 0 ≤ x * dp_D j ∧ x * dp_D j ≤ 900000000 := by
  have d := dp_Dr j
  have m1 : x * dp_D j ≤ 9 * dp_D j := Int.mul_le_mul_of_nonneg_right hx.2 (by omega)
  have m2 : 0 ≤ x * dp_D j := Int.mul_nonneg hx.1 (by omega)
  omega
theorem mulD {x y z : Int32} {j : Nat} (h : z = x * y) (hy : y.toInt = dp_D j) (hx : 0 ≤ x.toInt ∧ x.toInt ≤ 9) : z.toInt = x.toInt * dp_D j := by
  have m := mulDr x.toInt j hx
  rw [← hy] at m ⊢
  exact ty_mul h (by omega) (by omega)
theorem pw_n {z : Int} : pw z = ((2 ^ z.toNat : Nat) : Int) := by unfold pw; rw [Int.natCast_pow]; rfl
theorem p2_le8 {z : Nat} (h : z ≤ 8) : 2 ^ z ≤ 256 := Nat.pow_le_pow_right (by decide) h
theorem sd_y {z i : Int} {s r : Nat} (h : tbz z i ≠ 0) (hz : z = (sd s r : Int)) : s.testBit i.toNat = true ∧ r.testBit i.toNat = false := by
  have q := tbz_1 h
  rw [hz, Int.toNat_natCast, sd_tb, Bool.and_eq_true] at q
  exact ⟨q.1, by cases e : r.testBit i.toNat; rfl; rw [e] at q; cases q.2⟩
theorem sd_no {z i : Int} {s r : Nat} (h : tbz z i = 0) (hz : z = (sd s r : Int)) : ¬ (s.testBit i.toNat = true ∧ r.testBit i.toNat = false) := by
  intro c
  have q := tbz_0 h
  rw [hz, Int.toNat_natCast, sd_tb, c.1, c.2] at q
  cases q
/-- a ring's number is small -/
theorem sq_r_le {n : Nat} {su : Nat → Nat → Bool} {x : Nat → Nat} {t : Nat} (hn : n ≤ 9) (h : sq_ok n su x t) : 0 ≤ sq_c x t + (x 0 : Int) * dp_D (x t) ∧ sq_c x t + (x 0 : Int) * dp_D (x t) ≤ 888888888 := by
  have hg : wy_V n (fun _ _ => true) (t + 1) 0 (fun _ => -1) := wy_none
  obtain ⟨f, f1, f2⟩ := wy_add (su := fun _ _ => true) (L := t + 1) (x := x) (t := t) ⟨h.1, h.2.1, fun _ _ => rfl, h.2.2.2⟩ rfl (Nat.le_refl _) hg (fun i hi q => by rw [Nat.zero_testBit] at q; cases q.2) (sq_m x t) (fun i hi => by rw [Nat.zero_testBit]; simp)
  have q := wy_c_le hn f1
  have z : wy_c (fun _ => -1) 0 n = 0 := by
    unfold wy_c
    have : ∀ m, ms (fun i => (-1 : Int) * dp_D i) 0 m = 0 := by
      intro m
      induction m with
      | zero => rfl
      | succ m ih => unfold ms; rw [ih, Nat.zero_testBit]; rfl
    exact this n
  rw [f2, z] at q
  omega
