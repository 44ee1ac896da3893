/-! ===== bits, as far as bounds go ===== -/
def pw (n : Int) : Int := 2 ^ n.toNat
theorem pw_pos (n : Int) : 1 ≤ pw n := by
  unfold pw
  have : (0 : Int) < 2 ^ n.toNat := Int.pow_pos (by decide)
  omega
theorem pw_lt {a b : Int} (hb : 0 ≤ b) (h : pw a < pw b) : a < b := by
  refine Int.not_le.mp (fun hab => ?_)
  have h1 : b.toNat ≤ a.toNat := by omega
  have h2 : (2 : Nat) ^ b.toNat ≤ 2 ^ a.toNat := Nat.pow_le_pow_right (by decide) h1
  have h3 : ((2 ^ b.toNat : Nat) : Int) ≤ ((2 ^ a.toNat : Nat) : Int) := Int.ofNat_le.mpr h2
  unfold pw at h
  rw [Int.natCast_pow, Int.natCast_pow] at h3
  exact absurd h (Int.not_lt.mpr h3)
theorem pw_le9 {n : Int} (h : n ≤ 9) : pw n ≤ 512 := by
  unfold pw
  have h2 : (2 : Nat) ^ n.toNat ≤ 2 ^ 9 := Nat.pow_le_pow_right (by decide) (by omega)
  have h3 : ((2 ^ n.toNat : Nat) : Int) ≤ ((2 ^ 9 : Nat) : Int) := Int.ofNat_le.mpr h2
  rw [Int.natCast_pow] at h3
  exact h3
theorem i32_nat {x : Int32} (h : 0 ≤ x.toInt) : x = Int32.ofNat x.toInt.toNat := by
  apply ty_eq32.mpr
  rw [Int32.toInt_ofNat_of_lt (by have := Int32.toInt_lt x; omega)]
  omega
theorem i32_bv {x : Int32} (h : 0 ≤ x.toInt) : (x.toBitVec.toNat : Int) = x.toInt := by
  have h1 : x.toInt = x.toBitVec.toInt := rfl
  rw [h1] at h ⊢
  rw [BitVec.toInt_eq_toNat_cond] at h ⊢
  have := x.toBitVec.isLt
  split at h <;> split <;> omega
theorem i32_of {x : Int32} (h : x.toBitVec.toNat < 2147483648) : x.toInt = (x.toBitVec.toNat : Int) := by
  have h1 : x.toInt = x.toBitVec.toInt := rfl
  rw [h1, BitVec.toInt_eq_toNat_cond]
  split <;> omega
theorem and_lel {x y z : Int32} (h : z = x &&& y) (hx : 0 ≤ x.toInt) : 0 ≤ z.toInt ∧ z.toInt ≤ x.toInt := by
  subst h
  have h1 := i32_bv hx
  have h2 : (x &&& y).toBitVec.toNat ≤ x.toBitVec.toNat := by rw [Int32.toBitVec_and, BitVec.toNat_and]; exact Nat.and_le_left
  have h3 := Int32.toInt_lt x
  rw [i32_of (by omega)]
  omega
theorem and_ler {x y z : Int32} (h : z = x &&& y) (hy : 0 ≤ y.toInt) : 0 ≤ z.toInt ∧ z.toInt ≤ y.toInt := by
  subst h
  have h1 := i32_bv hy
  have h2 : (x &&& y).toBitVec.toNat ≤ y.toBitVec.toNat := by rw [Int32.toBitVec_and, BitVec.toNat_and]; exact Nat.and_le_right
  have h3 := Int32.toInt_lt y
  rw [i32_of (by omega)]
  omega
theorem or_lt9 {x y z : Int32} (h : z = x ||| y) (hx : 0 ≤ x.toInt ∧ x.toInt ≤ 511) (hy : 0 ≤ y.toInt ∧ y.toInt ≤ 511) : 0 ≤ z.toInt ∧ z.toInt ≤ 511 := by
  subst h
  have h1 := i32_bv hx.1
  have h2 := i32_bv hy.1
  have h3 : (x ||| y).toBitVec.toNat < 2 ^ 9 := by rw [Int32.toBitVec_or, BitVec.toNat_or]; exact Nat.or_lt_two_pow (by omega) (by omega)
  rw [i32_of (by omega)]
  omega
theorem shl_all : ∀ n, n < 10 → ((1 : Int32) <<< (Int32.ofNat n &&& 31)).toInt = 2 ^ n := by decide +kernel
theorem shl_pw {x y z : Int32} (h : z = x <<< (y &&& 31)) (hx : x.toInt = 1) (h0 : 0 ≤ y.toInt) (h9 : y.toInt ≤ 9) : z.toInt = pw y.toInt ∧ 1 ≤ z.toInt ∧ z.toInt ≤ 512 ∧ (y.toInt ≤ 8 → z.toInt ≤ 256) := by
  obtain rfl : x = 1 := ty_eq32.mpr (by rw [hx]; rfl)
  have e := shl_all y.toInt.toNat (by omega)
  rw [← i32_nat h0, ← h] at e
  refine ⟨e, ?_, ?_, fun h8 => ?_⟩
  · rw [e]; exact pw_pos y.toInt
  · rw [e]; exact pw_le9 (by omega)
  · rw [e]
    have h2 : (2 : Nat) ^ y.toInt.toNat ≤ 2 ^ 8 := Nat.pow_le_pow_right (by decide) (by omega)
    have h3 : ((2 ^ y.toInt.toNat : Nat) : Int) ≤ ((2 ^ 8 : Nat) : Int) := Int.ofNat_le.mpr h2
    rw [Int.natCast_pow] at h3
    exact h3
theorem has_all : ∀ i, i < 9 → ∀ k, k < 512 → ((Int32.ofNat k >>> (Int32.ofNat i &&& 31)) &&& 1) = 1 → 2 ^ i ≤ k := by decide +kernel
theorem has_pw {x y z w o : Int32} (h1 : z = x >>> (y &&& 31)) (h2 : w = z &&& o) (ho : o.toInt = 1) (hw : w.toInt = 1) (hx : 0 ≤ x.toInt ∧ x.toInt ≤ 511) (hy : 0 ≤ y.toInt ∧ y.toInt ≤ 8) : pw y.toInt ≤ x.toInt := by
  obtain rfl : o = 1 := ty_eq32.mpr (by rw [ho]; rfl)
  obtain rfl : w = 1 := ty_eq32.mpr (by rw [hw]; rfl)
  have e := has_all y.toInt.toNat (by omega) x.toInt.toNat (by omega)
  rw [← i32_nat hx.1, ← i32_nat hy.1, ← h1, ← h2] at e
  have e2 := e rfl
  have h3 : ((2 ^ y.toInt.toNat : Nat) : Int) ≤ ((x.toInt.toNat : Nat) : Int) := Int.ofNat_le.mpr e2
  rw [Int.natCast_pow] at h3
  unfold pw
  have h4 : ((x.toInt.toNat : Nat) : Int) = x.toInt := Int.toNat_of_nonneg hx.1
  rw [h4] at h3
  exact h3
