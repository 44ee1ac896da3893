/-! ===== the types of the bank's and the reference's cells; the ghost g: numbers that cells hold exactly ===== -/
abbrev gh : Type := Nat → Nat → Int
def gs (g : gh) (c j : Nat) (z : Int) : gh := fun c' j' => if c' = c ∧ j' = j then z else g c' j'
theorem gs_self (g : gh) (c j : Nat) (z : Int) : gs g c j z c j = z := by simp [gs]
theorem gs_c (g : gh) {c c' : Nat} (j j' : Nat) (z : Int) (h : c' ≠ c) : gs g c j z c' j' = g c' j' := by simp [gs, h]
theorem gs_j (g : gh) (c c' : Nat) {j j' : Nat} (z : Int) (h : j' ≠ j) : gs g c j z c' j' = g c' j' := by simp [gs, h]
theorem gs_in {g g' : gh} {c j k : Nat} {z : Int} (h : g c k = g' c k) : gs g c j z c k = gs g' c j z c k := by unfold gs; split; rfl; exact h
/-- the array classes: 0 int, 1 boolean, 2 byte, 3 long, 4 Flat, 5 Owner, 6 Gift -/
abbrev ty_ts (dA : Nat → ClassId) : List (ClassId × FieldType) := [(dA 0, .int), (dA 1, .boolean), (dA 2, .byte), (dA 3, .long), (dA 4, .object RX1), (dA 5, .object RX3), (dA 6, .object RX2)]
def vI (v : Value) : Prop := ∃ x : Int32, v = .int x
def vB (v : Value) : Prop := ∃ x : Int32, v = .int x ∧ (x.toInt = 0 ∨ x.toInt = 1)
def vZ (z : Int) (v : Value) : Prop := ∃ x : Int32, v = .int x ∧ x.toInt = z
def vR (Γ : ty_G) (t : Nat) (v : Value) : Prop := ∃ b, v = .ref b ∧ (Γ b).1 = t
def vRi (Γ : ty_G) (t : ty_N) (v : Value) : Prop := ∃ b, v = .ref b ∧ Γ b = t
def vN (Γ : ty_G) (t : Nat) (v : Value) : Prop := ∃ r : Option Nat, v = va_rf r ∧ ∀ b, r = some b → (Γ b).1 = t
/-- what an array holds: exactly the ghost's row c from o on -/
def aE (n : Nat) (g : gh) (c o : Nat) (f : Nat → Int32) : Prop := ∀ j, j < n → (f j).toInt = g c (o + j)
/-- what an array's numbers lie between -/
def aL (n : Nat) (lo hi : Int) (f : Nat → Int32) : Prop := ∀ j, j < n → lo ≤ (f j).toInt ∧ (f j).toInt ≤ hi
theorem rgD (x : Int32) : -2147483648 ≤ x.toInt ∧ x.toInt ≤ 2147483647 := ⟨Int32.le_toInt x, by have := Int32.toInt_lt x; omega⟩
def aB (n : Nat) (f : Nat → Int32) : Prop := ∀ j, j < n → (f j).toInt = 0 ∨ (f j).toInt = 1
/-- references of type t, or null; below z none is null -/
def aRi (Γ : ty_G) (t n : Nat) (z : Int) (f : Nat → Option Nat) : Prop := ∀ j, j < n → (∀ b, f j = some b → Γ b = (t, j)) ∧ ((j : Int) < z → f j ≠ none)
/-- references by the ghost's numbers, row c from o on: null where -1 -/
def aRm (Γ : ty_G) (t n : Nat) (g : gh) (c o : Nat) (f : Nat → Option Nat) : Prop := ∀ j, j < n → (f j = none → g c (o + j) = -1) ∧ ∀ b, f j = some b → Γ b = (t, (g c (o + j)).toNat) ∧ 0 ≤ g c (o + j)
def aR (Γ : ty_G) (t n : Nat) (z : Int) (f : Nat → Option Nat) : Prop := ∀ j, j < n → (∀ b, f j = some b → (Γ b).1 = t) ∧ ((j : Int) < z → f j ≠ none)

/-- a wish as one number: town + 1, from, to, least size -/
def wz_c (t f o s : Int) : Int := (((t + 1) * 53 + f) * 53 + o) * 5 + s
def wz_t (i : Nat) : Int := ((i / 14045 : Nat) : Int) - 1
def wz_f (i : Nat) : Int := ((i / 265 % 53 : Nat) : Int)
def wz_o (i : Nat) : Int := ((i / 5 % 53 : Nat) : Int)
def wz_s (i : Nat) : Int := ((i % 5 : Nat) : Int)
theorem wz_ok {t f o s : Int} (ht : -1 ≤ t) (hf : 0 ≤ f ∧ f ≤ 52) (ho : 0 ≤ o ∧ o ≤ 52) (hs : 0 ≤ s ∧ s ≤ 4) : 0 ≤ wz_c t f o s ∧ wz_t (wz_c t f o s).toNat = t ∧ wz_f (wz_c t f o s).toNat = f ∧ wz_o (wz_c t f o s).toNat = o ∧ wz_s (wz_c t f o s).toNat = s := by
  unfold wz_c wz_t wz_f wz_o wz_s
  omega
/-- a reference to the cell of type t that has the number z; never null -/
def vX (Γ : ty_G) (t : Nat) (z : Int) (v : Value) : Prop := ∃ b, v = .ref b ∧ Γ b = (t, z.toNat) ∧ 0 ≤ z
/-- the same, null where z is -1 -/
def vM (Γ : ty_G) (t : Nat) (z : Int) (v : Value) : Prop := ∃ r : Option Nat, v = va_rf r ∧ (r = none → z = -1) ∧ ∀ b, r = some b → Γ b = (t, z.toNat) ∧ 0 ≤ z
def vBZ (z : Int) (v : Value) : Prop := ∃ x : Int32, v = .int x ∧ x.toInt = z ∧ (x.toInt = 0 ∨ x.toInt = 1)
def vT (Γ : ty_G) (z : Int) (v : Value) : Prop := ∃ (b i : Nat), v = .ref b ∧ Γ b = (6, i) ∧ (i : Int) = z ∧ i < 2
def F8 (Γ : ty_G) (g : gh) (k : Nat) (v : Value) : Prop := match k with
  | 0 => vR Γ 10 v
  | 1 => vZ (g 1 0) v
  | 2 => vR Γ 11 v
  | 3 => vZ (g 2 0) v
  | 4 => vR Γ 12 v
  | 5 => vZ (g 3 0) v
  | 6 => vR Γ 7 v
  | 7 => vT Γ (g 13 0) v
  | 8 => vT Γ (g 12 0) v
  | 9 => vZ (g 4 0) v
  | 10 => vZ (g 5 0) v
  | 11 => vR Γ 8 v
  | _ => vR Γ 9 v
def F1 (Γ : ty_G) (g : gh) (i : Nat) (k : Nat) (v : Value) : Prop := match k with
  | 0 => vZ (i : Int) v
  | 1 => vZ (g 41 i) v
  | 2 => vZ (g 42 i) v
  | 3 => vRi Γ (13, i) v
  | 4 => vRi Γ (14, i) v
  | _ => vRi Γ (15, i) v
def F3 (Γ : ty_G) (g : gh) (i : Nat) (k : Nat) (v : Value) : Prop := match k with
  | 0 => vZ (i : Int) v
  | 1 => vZ (g 50 i) v
  | 2 => vZ (g 51 i) v
  | 3 => vZ (g 52 i) v
  | 4 => vZ (g 53 i) v
  | 5 => vBZ (g 54 i) v
  | 6 => vBZ (g 55 i) v
  | _ => vM Γ 5 (g 56 i) v
def F2 (Γ : ty_G) (g : gh) (i : Nat) (k : Nat) (v : Value) : Prop := match k with
  | 0 => vZ (i : Int) v
  | 1 => vX Γ 3 (g 60 i) v
  | 2 => vX Γ 2 (g 61 i) v
  | 3 => vZ (g 62 i) v
  | 4 => vZ (g 63 i) v
  | 5 => vZ (g 64 i) v
  | 6 => vZ (g 65 i) v
  | 7 => vM Γ 5 (g 66 i) v
  | 8 => vM Γ 4 (g 67 i) v
  | _ => vM Γ 3 (g 68 i) v
def F7 (i : Nat) (k : Nat) (v : Value) : Prop := match k with
  | 0 => vZ (wz_t i) v
  | 1 => vZ (wz_f i) v
  | 2 => vZ (wz_o i) v
  | _ => vZ (wz_s i) v
def F6 (Γ : ty_G) (g : gh) (i : Nat) (k : Nat) (v : Value) : Prop := match k with
  | 0 => vRi Γ (16, i) v
  | 1 => vRi Γ (17, i) v
  | 2 => vRi Γ (26, i) v
  | 3 => vBZ (g 11 i) v
  | _ => vZ (g 10 i) v
def F4 (Γ : ty_G) (g : gh) (k : Nat) (v : Value) : Prop := match k with
  | 0 => vR Γ 18 v
  | 1 => vZ (g 6 0) v
  | 2 => vZ (g 9 0) v
  | 3 => vZ (g 14 0) v
  | 4 => vZ (g 16 0) v
  | 5 => vZ (g 15 0) v
  | 6 => vZ (g 17 0) v
  | _ => vZ (g 18 0) v
def F5 (Γ : ty_G) (g : gh) (k : Nat) (v : Value) : Prop := match k with
  | 0 => vR Γ 19 v
  | 1 => vZ (g 7 0) v
  | 2 => vR Γ 20 v
  | 3 => vR Γ 21 v
  | 4 => vR Γ 22 v
  | 5 => vR Γ 27 v
  | _ => vZ (g 8 0) v
def Ff (Γ : ty_G) (g : gh) (k : Nat) (v : Value) : Prop := match k with
  | 0 => vR Γ 23 v
  | 1 => vR Γ 23 v
  | 2 => vR Γ 24 v
  | 3 => vZ (g 30 0) v
  | 4 => vZ (g 31 0) v
  | _ => vZ (g 32 0) v
/-- the reference's fields: which are arrays, of which class (0 int, 1 boolean, 2 byte), how long -/
def mA : Nat → Bool := fun k => match k with
  | 2 => true
  | 3 => true
  | 5 => true
  | 6 => true
  | 7 => true
  | 8 => true
  | 9 => true
  | 10 => true
  | 13 => true
  | 23 => true
  | 25 => true
  | 27 => true
  | 28 => true
  | 29 => true
  | 30 => true
  | 31 => true
  | 32 => true
  | 33 => true
  | 34 => true
  | 35 => true
  | 36 => true
  | 38 => true
  | 39 => true
  | 40 => true
  | 44 => true
  | 45 => true
  | 46 => true
  | _ => false
def mC : Nat → Nat := fun k => match k with
  | 8 => 1
  | 10 => 1
  | 13 => 2
  | 40 => 1
  | 44 => 1
  | 46 => 1
  | _ => 0
def mN : Nat → Nat := fun k => match k with
  | 2 => 6
  | 3 => 6
  | 5 => 10
  | 6 => 10
  | 7 => 10
  | 8 => 10
  | 9 => 318
  | 10 => 318
  | 13 => 300
  | 23 => 120
  | 25 => 120
  | 27 => 200
  | 28 => 200
  | 29 => 200
  | 30 => 200
  | 31 => 200
  | 32 => 200
  | 33 => 200
  | 34 => 200
  | 35 => 840
  | 36 => 9
  | 38 => 9
  | 39 => 9
  | 40 => 9
  | 44 => 10
  | 45 => 10
  | 46 => 10
  | _ => 0
def mLo : Nat → Int := fun k => match k with
  | 8 => 0
  | 10 => 0
  | 13 => -128
  | 27 => 0
  | 28 => 0
  | 32 => 0
  | 34 => -1
  | 36 => 0
  | 38 => -2
  | 39 => -1
  | 40 => 0
  | 44 => 0
  | 46 => 0
  | _ => -2147483648
def mHi : Nat → Int := fun k => match k with
  | 8 => 1
  | 10 => 1
  | 13 => 127
  | 27 => 9
  | 28 => 5
  | 32 => 5
  | 34 => 9
  | 36 => 199
  | 38 => 8
  | 39 => 8
  | 40 => 1
  | 44 => 1
  | 46 => 1
  | _ => 2147483647
def aM (k : Nat) (g : gh) (f : Nat → Int32) : Prop := aE (mN k) g (100 + k) 0 f ∧ aL (mN k) (mLo k) (mHi k) f
def F9 (Γ : ty_G) (g : gh) (k : Nat) (v : Value) : Prop := if mA k = true then vR Γ (100 + k) v else vZ (g (100 + k) 0) v
def TP (dA : Nat → ClassId) (Γ : ty_G) (g : gh) (t : ty_N) (x : va_E) : Prop := if 100 ≤ t.1 then ty_I (dA (mC (t.1 - 100))) (mN (t.1 - 100)) (aM (t.1 - 100) g) x else match t.1 with
  | 1 => ty_O 8 13 (F8 Γ g) x | 2 => ty_O 1 6 (F1 Γ g t.2) x | 3 => ty_O 3 8 (F3 Γ g t.2) x | 4 => ty_O 2 10 (F2 Γ g t.2) x | 5 => ty_O 7 4 (F7 t.2) x | 6 => ty_O 6 5 (F6 Γ g t.2) x | 7 => ty_O 4 8 (F4 Γ g) x | 8 => ty_O 5 7 (F5 Γ g) x | 9 => ty_O 0 6 (Ff Γ g) x
  | 10 => ty_R (dA 4) 6 (aRi Γ 2 6 (g 33 0)) x | 11 => ty_R (dA 5) 10 (aRi Γ 3 10 (g 34 0)) x | 12 => ty_R (dA 6) 200 (aRi Γ 4 200 (g 35 0)) x | 13 => ty_R (dA 5) 53 (aRm Γ 3 53 g 43 (53 * t.2)) x | 14 => ty_I (dA 1) 53 (fun f => aE 53 g 44 (53 * t.2) f ∧ aB 53 f) x | 15 => ty_R (dA 6) 53 (aRm Γ 4 53 g 45 (53 * t.2)) x
  | 16 => ty_I (dA 0) 53 (aE 53 g 80 (64 * t.2)) x | 17 => ty_I (dA 0) 5 (aE 5 g 81 (64 * t.2)) x | 18 => ty_I (dA 0) 300 (aE 300 g 19 0) x | 19 => ty_R (dA 6) 9 (aRm Γ 4 9 g 46 0) x | 20 => ty_I (dA 0) 9 (aE 9 g 83 0) x | 21 => ty_I (dA 0) 4608 (aE 4608 g 84 0) x | 22 => ty_I (dA 0) 512 (aE 512 g 85 0) x | 23 => ty_I (dA 0) 10 (fun _ => True) x | 24 => ty_I (dA 1) 10 (aB 10) x | 25 => ty_J (dA 3) 1 x | 26 => ty_I (dA 0) 53 (aE 53 g 82 (64 * t.2)) x | 27 => ty_I (dA 0) 512 (aE 512 g 86 0) x
  | 30 => ty_O 9 47 (F9 Γ g) x
  | _ => False
/-- which types hold the ghost's number c j -/
def dpt (t : ty_N) (c j : Nat) : Bool := match c with
  | 1 => t.1 == 1 | 2 => t.1 == 1 | 3 => t.1 == 1 | 33 => t.1 == 10 | 34 => t.1 == 11 | 35 => t.1 == 12 | 36 => t.1 == 19 | 4 => t.1 == 1 | 5 => t.1 == 1 | 12 => t.1 == 1 | 13 => t.1 == 1
  | 6 => t.1 == 7 | 9 => t.1 == 7 | 14 => t.1 == 7 | 15 => t.1 == 7 | 16 => t.1 == 7 | 17 => t.1 == 7 | 18 => t.1 == 7
  | 7 => t.1 == 8 | 8 => t.1 == 8
  | 10 => t.1 == 6 && t.2 == j | 11 => t.1 == 6 && t.2 == j
  | 19 => t.1 == 18
  | 30 => t.1 == 9 | 31 => t.1 == 9 | 32 => t.1 == 9
  | 41 => t.1 == 2 && t.2 == j | 42 => t.1 == 2 && t.2 == j | 43 => t.1 == 13 && t.2 == j / 53 | 44 => t.1 == 14 && t.2 == j / 53 | 45 => t.1 == 15 && t.2 == j / 53 | 46 => t.1 == 19
  | 50 => t.1 == 3 && t.2 == j | 51 => t.1 == 3 && t.2 == j | 52 => t.1 == 3 && t.2 == j | 53 => t.1 == 3 && t.2 == j | 54 => t.1 == 3 && t.2 == j | 55 => t.1 == 3 && t.2 == j | 56 => t.1 == 3 && t.2 == j
  | 60 => t.1 == 4 && t.2 == j | 61 => t.1 == 4 && t.2 == j | 62 => t.1 == 4 && t.2 == j | 63 => t.1 == 4 && t.2 == j | 64 => t.1 == 4 && t.2 == j | 65 => t.1 == 4 && t.2 == j | 66 => t.1 == 4 && t.2 == j | 67 => t.1 == 4 && t.2 == j | 68 => t.1 == 4 && t.2 == j
  | 80 => t.1 == 16 && t.2 == j / 64 | 81 => t.1 == 17 && t.2 == j / 64 | 82 => t.1 == 26 && t.2 == j / 64 | 83 => t.1 == 20 | 84 => t.1 == 21 | 85 => t.1 == 22 | 86 => t.1 == 27
  | c => t.1 == 30 || t.1 == c
theorem ty_O.mono {ci N : Nat} {F F' : Nat → Value → Prop} {x : va_E} (h : ∀ k v, F k v → F' k v) (hx : ty_O ci N F x) : ty_O ci N F' x := by
  obtain ⟨fs, h1, h2, h3⟩ := hx
  exact ⟨fs, h1, h2, fun k hk => h k _ (h3 k hk)⟩
theorem ty_I.mono {cA : ClassId} {n : Nat} {P P' : (Nat → Int32) → Prop} {x : va_E} (h : ∀ f, P f → P' f) (hx : ty_I cA n P x) : ty_I cA n P' x := by
  obtain ⟨f, h1, h2⟩ := hx
  exact ⟨f, h1, h f h2⟩
theorem ty_R.mono {cA : ClassId} {n : Nat} {P P' : (Nat → Option Nat) → Prop} {x : va_E} (h : ∀ f, P f → P' f) (hx : ty_R cA n P x) : ty_R cA n P' x := by
  obtain ⟨f, h1, h2⟩ := hx
  exact ⟨f, h1, h f h2⟩
section TPL
variable {dA : Nat → ClassId} {Γ Γ' : ty_G} {g g' : gh} {t : ty_N} {x : va_E}
theorem TP_1 (h : t.1 = 1) : TP dA Γ g t x = ty_O 8 13 (F8 Γ g) x := by unfold TP; rw [h]; rfl
theorem TP_2 (h : t.1 = 2) : TP dA Γ g t x = ty_O 1 6 (F1 Γ g t.2) x := by unfold TP; rw [h]; rfl
theorem TP_3 (h : t.1 = 3) : TP dA Γ g t x = ty_O 3 8 (F3 Γ g t.2) x := by unfold TP; rw [h]; rfl
theorem TP_4 (h : t.1 = 4) : TP dA Γ g t x = ty_O 2 10 (F2 Γ g t.2) x := by unfold TP; rw [h]; rfl
theorem TP_5 (h : t.1 = 5) : TP dA Γ g t x = ty_O 7 4 (F7 t.2) x := by unfold TP; rw [h]; rfl
theorem TP_6 (h : t.1 = 6) : TP dA Γ g t x = ty_O 6 5 (F6 Γ g t.2) x := by unfold TP; rw [h]; rfl
theorem TP_7 (h : t.1 = 7) : TP dA Γ g t x = ty_O 4 8 (F4 Γ g) x := by unfold TP; rw [h]; rfl
theorem TP_8 (h : t.1 = 8) : TP dA Γ g t x = ty_O 5 7 (F5 Γ g) x := by unfold TP; rw [h]; rfl
theorem TP_9 (h : t.1 = 9) : TP dA Γ g t x = ty_O 0 6 (Ff Γ g) x := by unfold TP; rw [h]; rfl
theorem TP_10 (h : t.1 = 10) : TP dA Γ g t x = ty_R (dA 4) 6 (aRi Γ 2 6 (g 33 0)) x := by unfold TP; rw [h]; rfl
theorem TP_11 (h : t.1 = 11) : TP dA Γ g t x = ty_R (dA 5) 10 (aRi Γ 3 10 (g 34 0)) x := by unfold TP; rw [h]; rfl
theorem TP_12 (h : t.1 = 12) : TP dA Γ g t x = ty_R (dA 6) 200 (aRi Γ 4 200 (g 35 0)) x := by unfold TP; rw [h]; rfl
theorem TP_13 (h : t.1 = 13) : TP dA Γ g t x = ty_R (dA 5) 53 (aRm Γ 3 53 g 43 (53 * t.2)) x := by unfold TP; rw [h]; rfl
theorem TP_14 (h : t.1 = 14) : TP dA Γ g t x = ty_I (dA 1) 53 (fun f => aE 53 g 44 (53 * t.2) f ∧ aB 53 f) x := by unfold TP; rw [h]; rfl
theorem TP_15 (h : t.1 = 15) : TP dA Γ g t x = ty_R (dA 6) 53 (aRm Γ 4 53 g 45 (53 * t.2)) x := by unfold TP; rw [h]; rfl
theorem TP_16 (h : t.1 = 16) : TP dA Γ g t x = ty_I (dA 0) 53 (aE 53 g 80 (64 * t.2)) x := by unfold TP; rw [h]; rfl
theorem TP_17 (h : t.1 = 17) : TP dA Γ g t x = ty_I (dA 0) 5 (aE 5 g 81 (64 * t.2)) x := by unfold TP; rw [h]; rfl
theorem TP_18 (h : t.1 = 18) : TP dA Γ g t x = ty_I (dA 0) 300 (aE 300 g 19 0) x := by unfold TP; rw [h]; rfl
theorem TP_19 (h : t.1 = 19) : TP dA Γ g t x = ty_R (dA 6) 9 (aRm Γ 4 9 g 46 0) x := by unfold TP; rw [h]; rfl
theorem TP_20 (h : t.1 = 20) : TP dA Γ g t x = ty_I (dA 0) 9 (aE 9 g 83 0) x := by unfold TP; rw [h]; rfl
theorem TP_21 (h : t.1 = 21) : TP dA Γ g t x = ty_I (dA 0) 4608 (aE 4608 g 84 0) x := by unfold TP; rw [h]; rfl
theorem TP_22 (h : t.1 = 22) : TP dA Γ g t x = ty_I (dA 0) 512 (aE 512 g 85 0) x := by unfold TP; rw [h]; rfl
theorem TP_23 (h : t.1 = 23) : TP dA Γ g t x = ty_I (dA 0) 10 (fun _ => True) x := by unfold TP; rw [h]; rfl
theorem TP_24 (h : t.1 = 24) : TP dA Γ g t x = ty_I (dA 1) 10 (aB 10) x := by unfold TP; rw [h]; rfl
theorem TP_25 (h : t.1 = 25) : TP dA Γ g t x = ty_J (dA 3) 1 x := by unfold TP; rw [h]; rfl
theorem TP_26 (h : t.1 = 26) : TP dA Γ g t x = ty_I (dA 0) 53 (aE 53 g 82 (64 * t.2)) x := by unfold TP; rw [h]; rfl
theorem TP_27 (h : t.1 = 27) : TP dA Γ g t x = ty_I (dA 0) 512 (aE 512 g 86 0) x := by unfold TP; rw [h]; rfl
theorem TP_30 (h : t.1 = 30) : TP dA Γ g t x = ty_O 9 47 (F9 Γ g) x := by unfold TP; rw [h]; rfl
theorem TP_m {k : Nat} (h : t.1 = 100 + k) : TP dA Γ g t x = ty_I (dA (mC k)) (mN k) (aM k g) x := by unfold TP; rw [if_pos (by omega), h, Nat.add_sub_cancel_left]
theorem TP_cases (h : TP dA Γ g t x) : 100 ≤ t.1 ∨ t.1 ∈ [1, 2, 3, 4, 5, 6, 7, 8, 9, 10, 11, 12, 13, 14, 15, 16, 17, 18, 19, 20, 21, 22, 23, 24, 25, 26, 27, 30] := by
  by_cases h1 : 100 ≤ t.1
  · exact Or.inl h1
  · refine Or.inr ?_
    unfold TP at h
    rw [if_neg h1] at h
    split at h
    all_goals first | (rename_i e; rw [e]; decide) | exact absurd h id
theorem F8_cong (e1 : g' 1 0 = g 1 0) (e2 : g' 2 0 = g 2 0) (e3 : g' 3 0 = g 3 0) (e4 : g' 4 0 = g 4 0) (e5 : g' 5 0 = g 5 0) (e6 : g' 13 0 = g 13 0) (e7 : g' 12 0 = g 12 0) : F8 Γ g' = F8 Γ g := by funext k v; unfold F8; rw [e1, e2, e3, e4, e5, e6, e7]
/-- a ghost that is the same in all that the type holds -/
theorem TP_cong (h : ∀ c j, dpt t c j = true → g' c j = g c j) (hx : TP dA Γ g t x) : TP dA Γ g' t x := by
  rcases TP_cases hx with h1 | h1
  · obtain ⟨k, hk⟩ : ∃ k, t.1 = 100 + k := ⟨t.1 - 100, by omega⟩
    rw [TP_m hk] at hx ⊢
    refine hx.mono (fun f hf => ⟨fun j hj => ?_, hf.2⟩)
    rw [hf.1 j hj]
    refine (h (100 + k) (0 + j) ?_).symm
    have e : dpt t (100 + k) (0 + j) = (t.1 == 30 || t.1 == 100 + k) := by
      rw [show 100 + k = k + 100 by omega]; rfl
    rw [e, hk]; simp
  · simp only [List.mem_cons, List.not_mem_nil, or_false] at h1
    rcases h1 with e | e | e | e | e | e | e | e | e | e | e | e | e | e | e | e | e | e | e | e | e | e | e | e | e | e | e | e
    · rw [TP_1 e] at hx ⊢
      rw [F8_cong (h 1 0 (by simp [dpt, e])) (h 2 0 (by simp [dpt, e])) (h 3 0 (by simp [dpt, e])) (h 4 0 (by simp [dpt, e])) (h 5 0 (by simp [dpt, e])) (h 13 0 (by simp [dpt, e])) (h 12 0 (by simp [dpt, e]))]
      exact hx
    · rw [TP_2 e] at hx ⊢
      refine hx.mono (fun k v hv => ?_)
      unfold F1 at hv ⊢
      rw [h 41 t.2 (by simp [dpt, e]), h 42 t.2 (by simp [dpt, e])]
      exact hv
    · rw [TP_3 e] at hx ⊢
      refine hx.mono (fun k v hv => ?_)
      unfold F3 at hv ⊢
      rw [h 50 t.2 (by simp [dpt, e]), h 51 t.2 (by simp [dpt, e]), h 52 t.2 (by simp [dpt, e]), h 53 t.2 (by simp [dpt, e]), h 54 t.2 (by simp [dpt, e]), h 55 t.2 (by simp [dpt, e]), h 56 t.2 (by simp [dpt, e])]
      exact hv
    · rw [TP_4 e] at hx ⊢
      refine hx.mono (fun k v hv => ?_)
      unfold F2 at hv ⊢
      rw [h 60 t.2 (by simp [dpt, e]), h 61 t.2 (by simp [dpt, e]), h 62 t.2 (by simp [dpt, e]), h 63 t.2 (by simp [dpt, e]), h 64 t.2 (by simp [dpt, e]), h 65 t.2 (by simp [dpt, e]), h 66 t.2 (by simp [dpt, e]), h 67 t.2 (by simp [dpt, e]), h 68 t.2 (by simp [dpt, e])]
      exact hv
    · rw [TP_5 e] at hx ⊢; exact hx
    · rw [TP_6 e] at hx ⊢
      refine hx.mono (fun k v hv => ?_)
      unfold F6 at hv ⊢
      rw [h 11 t.2 (by simp [dpt, e]), h 10 t.2 (by simp [dpt, e])]
      exact hv
    · rw [TP_7 e] at hx ⊢
      refine hx.mono (fun k v hv => ?_)
      unfold F4 at hv ⊢
      rw [h 6 0 (by simp [dpt, e]), h 9 0 (by simp [dpt, e]), h 14 0 (by simp [dpt, e]), h 16 0 (by simp [dpt, e]), h 15 0 (by simp [dpt, e]), h 17 0 (by simp [dpt, e]), h 18 0 (by simp [dpt, e])]
      exact hv
    · rw [TP_8 e] at hx ⊢
      refine hx.mono (fun k v hv => ?_)
      unfold F5 at hv ⊢
      rw [h 7 0 (by simp [dpt, e]), h 8 0 (by simp [dpt, e])]
      exact hv
    · rw [TP_9 e] at hx ⊢
      refine hx.mono (fun k v hv => ?_)
      unfold Ff at hv ⊢
      rw [h 30 0 (by simp [dpt, e]), h 31 0 (by simp [dpt, e]), h 32 0 (by simp [dpt, e])]
      exact hv
    · rw [TP_10 e] at hx ⊢; rw [h 33 0 (by simp [dpt, e])]; exact hx
    · rw [TP_11 e] at hx ⊢; rw [h 34 0 (by simp [dpt, e])]; exact hx
    · rw [TP_12 e] at hx ⊢; rw [h 35 0 (by simp [dpt, e])]; exact hx
    · rw [TP_13 e] at hx ⊢
      exact hx.mono (fun f hf j hj => by rw [h 43 (53 * t.2 + j) (by simp [dpt, e]; omega)]; exact hf j hj)
    · rw [TP_14 e] at hx ⊢
      exact hx.mono (fun f hf => ⟨fun j hj => by rw [hf.1 j hj]; exact (h 44 (53 * t.2 + j) (by simp [dpt, e]; omega)).symm, hf.2⟩)
    · rw [TP_15 e] at hx ⊢
      exact hx.mono (fun f hf j hj => by rw [h 45 (53 * t.2 + j) (by simp [dpt, e]; omega)]; exact hf j hj)
    · rw [TP_16 e] at hx ⊢
      exact hx.mono (fun f hf j hj => by rw [hf j hj]; exact (h 80 (64 * t.2 + j) (by simp [dpt, e]; omega)).symm)
    · rw [TP_17 e] at hx ⊢
      exact hx.mono (fun f hf j hj => by rw [hf j hj]; exact (h 81 (64 * t.2 + j) (by simp [dpt, e]; omega)).symm)
    · rw [TP_18 e] at hx ⊢
      exact hx.mono (fun f hf j hj => by rw [hf j hj]; exact (h 19 _ (by simp [dpt, e])).symm)
    · rw [TP_19 e] at hx ⊢
      exact hx.mono (fun f hf j hj => by rw [h 46 (0 + j) (by simp [dpt, e])]; exact hf j hj)
    · rw [TP_20 e] at hx ⊢
      exact hx.mono (fun f hf j hj => by rw [hf j hj]; exact (h 83 _ (by simp [dpt, e])).symm)
    · rw [TP_21 e] at hx ⊢
      exact hx.mono (fun f hf j hj => by rw [hf j hj]; exact (h 84 _ (by simp [dpt, e])).symm)
    · rw [TP_22 e] at hx ⊢
      exact hx.mono (fun f hf j hj => by rw [hf j hj]; exact (h 85 _ (by simp [dpt, e])).symm)
    · rw [TP_23 e] at hx ⊢; exact hx
    · rw [TP_24 e] at hx ⊢; exact hx
    · rw [TP_25 e] at hx ⊢; exact hx
    · rw [TP_26 e] at hx ⊢
      exact hx.mono (fun f hf j hj => by rw [hf j hj]; exact (h 82 (64 * t.2 + j) (by simp [dpt, e]; omega)).symm)
    · rw [TP_27 e] at hx ⊢
      exact hx.mono (fun f hf j hj => by rw [hf j hj]; exact (h 86 _ (by simp [dpt, e])).symm)
    · rw [TP_30 e] at hx ⊢
      refine hx.mono (fun k v hv => ?_)
      unfold F9 at hv ⊢
      by_cases hm : mA k = true
      · rw [if_pos hm] at hv ⊢; exact hv
      · rw [if_neg hm] at hv ⊢
        have e2 : dpt t (100 + k) 0 = (t.1 == 30 || t.1 == 100 + k) := by
          rw [show 100 + k = k + 100 by omega]; rfl
        rw [h (100 + k) 0 (by rw [e2, e]; simp)]
        exact hv
theorem TP_gs {c j : Nat} {z : Int} (h : dpt t c j = false) (hx : TP dA Γ g t x) : TP dA Γ (gs g c j z) t x := by
  refine TP_cong (fun c' j' hd => ?_) hx
  by_cases e : c' = c ∧ j' = j
  · obtain ⟨rfl, rfl⟩ := e
    rw [h] at hd; cases hd
  · simp [gs, e]
/-- more cells are typed, none otherwise than before -/
def ext (Γ Γ' : ty_G) : Prop := ∀ a, (Γ a).1 ≠ 0 → Γ' a = Γ a
/-- the type of a cell, as a word that arithmetic does not see -/
def ty (Γ : ty_G) (b t : Nat) : Prop := (Γ b).1 = t
theorem ext.rf : ext Γ Γ := fun _ _ => rfl
theorem ext.trans {Γ'' : ty_G} (h : ext Γ Γ') (h' : ext Γ' Γ'') : ext Γ Γ'' := fun a ha => by
  have e := h a ha
  rw [h' a (by rw [e]; exact ha), e]
theorem ext.up {q : Nat} (h : (Γ q).1 = 0) : ext Γ (va_up Γ q t) := fun a ha => va_up_ne _ _ (fun e => ha (by rw [e]; exact h))
theorem ext.one {a k : Nat} (h : ext Γ Γ') (ha : (Γ a).1 = k) (hk : k ≠ 0) : (Γ' a).1 = k := by rw [h a (by rw [ha]; exact hk)]; exact ha
theorem vR.ext {k : Nat} {v : Value} (hk : k ≠ 0) (h : ext Γ Γ') (hv : vR Γ k v) : vR Γ' k v := by
  obtain ⟨b, h1, h2⟩ := hv
  exact ⟨b, h1, h.one h2 hk⟩
theorem vRi.ext {k : ty_N} {v : Value} (hk : k.1 ≠ 0) (h : ext Γ Γ') (hv : vRi Γ k v) : vRi Γ' k v := by
  obtain ⟨b, h1, h2⟩ := hv
  exact ⟨b, h1, by rw [h b (by rw [h2]; exact hk)]; exact h2⟩
theorem vN.ext {k : Nat} {v : Value} (hk : k ≠ 0) (h : ext Γ Γ') (hv : vN Γ k v) : vN Γ' k v := by
  obtain ⟨r, h1, h2⟩ := hv
  exact ⟨r, h1, fun b hb => h.one (h2 b hb) hk⟩
theorem vT.ext {z : Int} {v : Value} (h : ext Γ Γ') (hv : vT Γ z v) : vT Γ' z v := by
  obtain ⟨b, i, h1, h2, h3⟩ := hv
  exact ⟨b, i, h1, by rw [h b (by rw [h2]; show (6 : Nat) ≠ 0; decide)]; exact h2, h3⟩
theorem vX.ext {k : Nat} {z : Int} {v : Value} (hk : k ≠ 0) (h : ext Γ Γ') (hv : vX Γ k z v) : vX Γ' k z v := by
  obtain ⟨b, h1, h2, h3⟩ := hv
  exact ⟨b, h1, by rw [h b (by rw [h2]; exact hk)]; exact h2, h3⟩
theorem vM.ext {k : Nat} {z : Int} {v : Value} (hk : k ≠ 0) (h : ext Γ Γ') (hv : vM Γ k z v) : vM Γ' k z v := by
  obtain ⟨r, h1, h2, h3⟩ := hv
  exact ⟨r, h1, h2, fun b hb => ⟨by rw [h b (by rw [(h3 b hb).1]; exact hk)]; exact (h3 b hb).1, (h3 b hb).2⟩⟩
theorem aRi.ext {k n : Nat} {z : Int} {f : Nat → Option Nat} (hk : k ≠ 0) (h : ext Γ Γ') (hv : aRi Γ k n z f) : aRi Γ' k n z f := fun j hj => ⟨fun b hb => by rw [h b (by rw [(hv j hj).1 b hb]; exact hk)]; exact (hv j hj).1 b hb, (hv j hj).2⟩
theorem aRm.ext {k n c o : Nat} {g : gh} {f : Nat → Option Nat} (hk : k ≠ 0) (h : ext Γ Γ') (hv : aRm Γ k n g c o f) : aRm Γ' k n g c o f := fun j hj => ⟨(hv j hj).1, fun b hb => ⟨by rw [h b (by rw [((hv j hj).2 b hb).1]; exact hk)]; exact ((hv j hj).2 b hb).1, ((hv j hj).2 b hb).2⟩⟩
theorem aR.ext {k n : Nat} {z : Int} {f : Nat → Option Nat} (hk : k ≠ 0) (h : ext Γ Γ') (hv : aR Γ k n z f) : aR Γ' k n z f := fun j hj => ⟨fun b hb => h.one ((hv j hj).1 b hb) hk, (hv j hj).2⟩

theorem F8_ext (h : ext Γ Γ') : ∀ {k : Nat} {v : Value}, F8 Γ g k v → F8 Γ' g k v
  | 0, _, hv => vR.ext (by decide) h hv
  | 1, _, hv => hv
  | 2, _, hv => vR.ext (by decide) h hv
  | 3, _, hv => hv
  | 4, _, hv => vR.ext (by decide) h hv
  | 5, _, hv => hv
  | 6, _, hv => vR.ext (by decide) h hv
  | 7, _, hv => vT.ext h hv
  | 8, _, hv => vT.ext h hv
  | 9, _, hv => hv
  | 10, _, hv => hv
  | 11, _, hv => vR.ext (by decide) h hv
  | n + 12, _, hv => vR.ext (by decide) h hv
theorem F1_ext (h : ext Γ Γ') {i : Nat} : ∀ {k : Nat} {v : Value}, F1 Γ g i k v → F1 Γ' g i k v
  | 0, _, hv => hv
  | 1, _, hv => hv
  | 2, _, hv => hv
  | 3, _, hv => vRi.ext (by show (13 : Nat) ≠ 0; decide) h hv
  | 4, _, hv => vRi.ext (by show (14 : Nat) ≠ 0; decide) h hv
  | n + 5, _, hv => vRi.ext (by show (15 : Nat) ≠ 0; decide) h hv
theorem F3_ext (h : ext Γ Γ') {i : Nat} : ∀ {k : Nat} {v : Value}, F3 Γ g i k v → F3 Γ' g i k v
  | 0, _, hv => hv
  | 1, _, hv => hv
  | 2, _, hv => hv
  | 3, _, hv => hv
  | 4, _, hv => hv
  | 5, _, hv => hv
  | 6, _, hv => hv
  | n + 7, _, hv => vM.ext (by decide) h hv
theorem F2_ext (h : ext Γ Γ') {i : Nat} : ∀ {k : Nat} {v : Value}, F2 Γ g i k v → F2 Γ' g i k v
  | 0, _, hv => hv
  | 1, _, hv => vX.ext (by decide) h hv
  | 2, _, hv => vX.ext (by decide) h hv
  | 3, _, hv => hv
  | 4, _, hv => hv
  | 5, _, hv => hv
  | 6, _, hv => hv
  | 7, _, hv => vM.ext (by decide) h hv
  | 8, _, hv => vM.ext (by decide) h hv
  | n + 9, _, hv => vM.ext (by decide) h hv
theorem F6_ext (h : ext Γ Γ') {i : Nat} : ∀ {k : Nat} {v : Value}, F6 Γ g i k v → F6 Γ' g i k v
  | 0, _, hv => vRi.ext (by show (16 : Nat) ≠ 0; decide) h hv
  | 1, _, hv => vRi.ext (by show (17 : Nat) ≠ 0; decide) h hv
  | 2, _, hv => vRi.ext (by show (26 : Nat) ≠ 0; decide) h hv
  | 3, _, hv => hv
  | n + 4, _, hv => hv
theorem F4_ext (h : ext Γ Γ') : ∀ {k : Nat} {v : Value}, F4 Γ g k v → F4 Γ' g k v
  | 0, _, hv => vR.ext (by decide) h hv
  | 1, _, hv => hv
  | 2, _, hv => hv
  | 3, _, hv => hv
  | 4, _, hv => hv
  | 5, _, hv => hv
  | 6, _, hv => hv
  | n + 7, _, hv => hv
theorem F5_ext (h : ext Γ Γ') : ∀ {k : Nat} {v : Value}, F5 Γ g k v → F5 Γ' g k v
  | 0, _, hv => vR.ext (by decide) h hv
  | 1, _, hv => hv
  | 2, _, hv => vR.ext (by decide) h hv
  | 3, _, hv => vR.ext (by decide) h hv
  | 4, _, hv => vR.ext (by decide) h hv
  | 5, _, hv => vR.ext (by decide) h hv
  | n + 6, _, hv => hv
theorem Ff_ext (h : ext Γ Γ') : ∀ {k : Nat} {v : Value}, Ff Γ g k v → Ff Γ' g k v
  | 0, _, hv => vR.ext (by decide) h hv
  | 1, _, hv => vR.ext (by decide) h hv
  | 2, _, hv => vR.ext (by decide) h hv
  | 3, _, hv => hv
  | 4, _, hv => hv
  | n + 5, _, hv => hv
theorem F9_ext (h : ext Γ Γ') {k : Nat} {v : Value} (hv : F9 Γ g k v) : F9 Γ' g k v := by
  unfold F9 at hv ⊢
  split
  · rename_i e; rw [if_pos e] at hv; exact vR.ext (by omega) h hv
  · rename_i e; rw [if_neg e] at hv; exact hv
theorem TP_ext (h : ext Γ Γ') (hx : TP dA Γ g t x) : TP dA Γ' g t x := by
  rcases TP_cases hx with h1 | h1
  · obtain ⟨k, hk⟩ : ∃ k, t.1 = 100 + k := ⟨t.1 - 100, by omega⟩
    rw [TP_m hk] at hx ⊢; exact hx
  · simp only [List.mem_cons, List.not_mem_nil, or_false] at h1
    rcases h1 with e | e | e | e | e | e | e | e | e | e | e | e | e | e | e | e | e | e | e | e | e | e | e | e | e | e | e | e
    · rw [TP_1 e] at hx ⊢; exact hx.mono (fun k v hv => F8_ext h hv)
    · rw [TP_2 e] at hx ⊢; exact hx.mono (fun k v hv => F1_ext h hv)
    · rw [TP_3 e] at hx ⊢; exact hx.mono (fun k v hv => F3_ext h hv)
    · rw [TP_4 e] at hx ⊢; exact hx.mono (fun k v hv => F2_ext h hv)
    · rw [TP_5 e] at hx ⊢; exact hx
    · rw [TP_6 e] at hx ⊢; exact hx.mono (fun k v hv => F6_ext h hv)
    · rw [TP_7 e] at hx ⊢; exact hx.mono (fun k v hv => F4_ext h hv)
    · rw [TP_8 e] at hx ⊢; exact hx.mono (fun k v hv => F5_ext h hv)
    · rw [TP_9 e] at hx ⊢; exact hx.mono (fun k v hv => Ff_ext h hv)
    · rw [TP_10 e] at hx ⊢; exact hx.mono (fun f hf => hf.ext (by decide) h)
    · rw [TP_11 e] at hx ⊢; exact hx.mono (fun f hf => hf.ext (by decide) h)
    · rw [TP_12 e] at hx ⊢; exact hx.mono (fun f hf => hf.ext (by decide) h)
    · rw [TP_13 e] at hx ⊢; exact hx.mono (fun f hf => hf.ext (by decide) h)
    · rw [TP_14 e] at hx ⊢; exact hx
    · rw [TP_15 e] at hx ⊢; exact hx.mono (fun f hf => hf.ext (by decide) h)
    · rw [TP_16 e] at hx ⊢; exact hx
    · rw [TP_17 e] at hx ⊢; exact hx
    · rw [TP_18 e] at hx ⊢; exact hx
    · rw [TP_19 e] at hx ⊢; exact hx.mono (fun f hf => hf.ext (by decide) h)
    · rw [TP_20 e] at hx ⊢; exact hx
    · rw [TP_21 e] at hx ⊢; exact hx
    · rw [TP_22 e] at hx ⊢; exact hx
    · rw [TP_23 e] at hx ⊢; exact hx
    · rw [TP_24 e] at hx ⊢; exact hx
    · rw [TP_25 e] at hx ⊢; exact hx
    · rw [TP_26 e] at hx ⊢; exact hx
    · rw [TP_27 e] at hx ⊢; exact hx
    · rw [TP_30 e] at hx ⊢; exact hx.mono (fun k v hv => F9_ext h hv)
end TPL
/-- types of which there is one cell only; types of which there is one for each number -/
def sg (k : Nat) : Bool := k == 1 || k == 7 || k == 8 || k == 9 || k == 10 || k == 11 || k == 12 || k == 18 || k == 19 || k == 20 || k == 21 || k == 22 || k == 27 || k == 30 || Nat.ble 100 k
def sg2 (k : Nat) : Bool := k == 6 || k == 16 || k == 17 || k == 26 || k == 2 || k == 3 || k == 4 || k == 13 || k == 14 || k == 15
def Un (Γ : ty_G) : Prop := (∀ a b, (Γ a).1 = (Γ b).1 → sg (Γ a).1 = true → a = b) ∧ ∀ a b, Γ a = Γ b → sg2 (Γ a).1 = true → a = b
theorem Un.one {Γ : ty_G} (h : Un Γ) {a b k : Nat} (ha : (Γ a).1 = k) (hk : sg k = true) (hb : b ≠ a) : (Γ b).1 ≠ k := fun e => hb (h.1 b a (e.trans ha.symm) (by rw [e]; exact hk))
theorem Un.two {Γ : ty_G} (h : Un Γ) {a b : Nat} {k : ty_N} (ha : Γ a = k) (hk : sg2 k.1 = true) (hb : b ≠ a) : Γ b ≠ k := fun e => hb (h.2 b a (e.trans ha.symm) (by rw [e]; exact hk))
theorem Un.up0 {Γ : ty_G} {q : Nat} {t : ty_N} (hU : Un Γ) (h1 : sg t.1 = false) (h2 : sg2 t.1 = false) : Un (va_up Γ q t) := by
  refine ⟨fun a b hab hs => ?_, fun a b hab hs => ?_⟩
  · by_cases ea : a = q
    · subst ea; rw [va_up_self, h1] at hs; cases hs
    · by_cases eb : b = q
      · subst eb; rw [va_up_self] at hab; rw [hab, h1] at hs; cases hs
      · rw [va_up_ne _ _ ea, va_up_ne _ _ eb] at hab
        rw [va_up_ne _ _ ea] at hs
        exact hU.1 a b hab hs
  · by_cases ea : a = q
    · subst ea; rw [va_up_self, h2] at hs; cases hs
    · by_cases eb : b = q
      · subst eb; rw [va_up_self] at hab; rw [hab, h2] at hs; cases hs
      · rw [va_up_ne _ _ ea, va_up_ne _ _ eb] at hab
        rw [va_up_ne _ _ ea] at hs
        exact hU.2 a b hab hs
theorem ext.two {Γ Γ' : ty_G} {a : Nat} {k : ty_N} (h : ext Γ Γ') (ha : Γ a = k) (hk : k.1 ≠ 0) : Γ' a = k := by rw [h a (by rw [ha]; exact hk)]; exact ha
theorem nmap {t : ty_N} {k : Nat} {L : List ty_N} (h : k ≠ t.1) (hL : k ∉ L.map Prod.fst) : k ∉ (t :: L).map Prod.fst := fun hm => (List.mem_cons.mp hm).elim h hL
theorem nmem {t k : ty_N} {L : List ty_N} (h : k.1 ≠ t.1) (hL : k ∉ L) : k ∉ t :: L := fun hm => (List.mem_cons.mp hm).elim (fun e => h (congrArg Prod.fst e)) hL
def tyIn (Γ : ty_G) (L : List ty_N) : Prop := ∀ a, (Γ a).1 ≠ 0 → Γ a ∈ L
theorem tyIn.up {Γ : ty_G} {L : List ty_N} {q : Nat} {t : ty_N} (h : tyIn Γ L) : tyIn (va_up Γ q t) (t :: L) := fun a ha => by
  by_cases e : a = q
  · subst e; rw [va_up_self]; exact List.mem_cons_self
  · rw [va_up_ne _ _ e] at ha ⊢; exact List.mem_cons_of_mem _ (h a ha)
theorem Un.up {Γ : ty_G} {L : List ty_N} {q : Nat} {t : ty_N} (hU : Un Γ) (h : tyIn Γ L) (ht : t.1 ≠ 0) (h1 : sg t.1 = true → t.1 ∉ L.map (·.1)) (h2 : sg2 t.1 = true → t ∉ L) : Un (va_up Γ q t) := by
  refine ⟨fun a b hab hs => ?_, fun a b hab hs => ?_⟩
  · by_cases ea : a = q <;> by_cases eb : b = q
    · rw [ea, eb]
    · subst ea
      rw [va_up_self, va_up_ne _ _ eb] at hab
      rw [va_up_self] at hs
      exact absurd (by rw [hab]; exact List.mem_map.mpr ⟨_, h b (by rw [← hab]; exact ht), rfl⟩) (h1 hs)
    · subst eb
      rw [va_up_self, va_up_ne _ _ ea] at hab
      rw [va_up_ne _ _ ea, hab] at hs
      exact absurd (by rw [← hab]; exact List.mem_map.mpr ⟨_, h a (by rw [hab]; exact ht), rfl⟩) (h1 hs)
    · rw [va_up_ne _ _ ea, va_up_ne _ _ eb] at hab
      rw [va_up_ne _ _ ea] at hs
      exact hU.1 a b hab hs
  · by_cases ea : a = q <;> by_cases eb : b = q
    · rw [ea, eb]
    · subst ea
      rw [va_up_self, va_up_ne _ _ eb] at hab
      rw [va_up_self] at hs
      exact absurd (by rw [hab]; exact h b (by rw [← hab]; exact ht)) (h2 hs)
    · subst eb
      rw [va_up_self, va_up_ne _ _ ea] at hab
      rw [va_up_ne _ _ ea, hab] at hs
      exact absurd (by rw [← hab]; exact h a (by rw [hab]; exact ht)) (h2 hs)
    · rw [va_up_ne _ _ ea, va_up_ne _ _ eb] at hab
      rw [va_up_ne _ _ ea] at hs
      exact hU.2 a b hab hs
theorem Un.upF {Γ : ty_G} {q : Nat} {t : ty_N} (hU : Un Γ) (hf : ∀ b, Γ b ≠ t) (h1 : sg t.1 = false) : Un (va_up Γ q t) := by
  refine ⟨fun a b hab hs => ?_, fun a b hab hs => ?_⟩
  · by_cases ea : a = q
    · subst ea; rw [va_up_self, h1] at hs; cases hs
    · by_cases eb : b = q
      · subst eb; rw [va_up_self] at hab; rw [hab, h1] at hs; cases hs
      · rw [va_up_ne _ _ ea, va_up_ne _ _ eb] at hab
        rw [va_up_ne _ _ ea] at hs
        exact hU.1 a b hab hs
  · by_cases ea : a = q <;> by_cases eb : b = q
    · rw [ea, eb]
    · subst ea
      rw [va_up_self, va_up_ne _ _ eb] at hab
      exact absurd hab.symm (hf b)
    · subst eb
      rw [va_up_self, va_up_ne _ _ ea] at hab
      exact absurd hab (hf a)
    · rw [va_up_ne _ _ ea, va_up_ne _ _ eb] at hab
      rw [va_up_ne _ _ ea] at hs
      exact hU.2 a b hab hs
theorem fr_up {Γ : ty_G} {q : Nat} {t t' : ty_N} (h : ∀ b, Γ b ≠ t) (hne : t' ≠ t) : ∀ b, va_up Γ q t' b ≠ t := fun b => by
  by_cases e : b = q
  · subst e; rw [va_up_self]; exact hne
  · rw [va_up_ne _ _ e]; exact h b
/-- what is new has the index i, and a type of L -/
def Nw (L : List Nat) (Γ Γ' : ty_G) (i : Nat) : Prop := ∀ b, Γ' b = Γ b ∨ ((Γ' b).2 = i ∧ (Γ' b).1 ∈ L)
theorem Nw.rf {L : List Nat} {Γ : ty_G} {i : Nat} : Nw L Γ Γ i := fun _ => Or.inl rfl
theorem Nw.up {L : List Nat} {Γ Γ' : ty_G} {i k q : Nat} (h : Nw L Γ Γ' i) (hk : k ∈ L) : Nw L Γ (va_up Γ' q (k, i)) i := fun b => by
  by_cases e : b = q
  · subst e; rw [va_up_self]; exact Or.inr ⟨rfl, hk⟩
  · rw [va_up_ne _ _ e]; exact h b
/-- indices lie below the counts -/
def Bd (Γ : ty_G) (g : gh) : Prop := ∀ b, ((Γ b).1 = 2 ∨ (Γ b).1 = 13 ∨ (Γ b).1 = 14 ∨ (Γ b).1 = 15 → ((Γ b).2 : Int) < g 33 0) ∧ ((Γ b).1 = 3 → ((Γ b).2 : Int) < g 34 0) ∧ ((Γ b).1 = 4 → ((Γ b).2 : Int) < g 35 0)
theorem Bd.mono {Γ : ty_G} {g u : gh} (h : Bd Γ g) (h1 : g 33 0 ≤ u 33 0) (h2 : g 34 0 ≤ u 34 0) (h3 : g 35 0 ≤ u 35 0) : Bd Γ u := fun b => ⟨fun q => by have := (h b).1 q; omega, fun q => by have := (h b).2.1 q; omega, fun q => by have := (h b).2.2 q; omega⟩
theorem Bd.fr {Γ : ty_G} {g : gh} (h : Bd Γ g) {k i : Nat} (hk : k = 2 ∨ k = 13 ∨ k = 14 ∨ k = 15) (hi : g 33 0 ≤ (i : Int)) : ∀ b, Γ b ≠ (k, i) := fun b e => by
  have := (h b).1 (by rw [e]; exact hk)
  rw [e] at this; omega
theorem Bd.fr3 {Γ : ty_G} {g : gh} (h : Bd Γ g) {i : Nat} (hi : g 34 0 ≤ (i : Int)) : ∀ b, Γ b ≠ (3, i) := fun b e => by
  have := (h b).2.1 (by rw [e])
  rw [e] at this; omega
theorem Bd.fr4 {Γ : ty_G} {g : gh} (h : Bd Γ g) {i : Nat} (hi : g 35 0 ≤ (i : Int)) : ∀ b, Γ b ≠ (4, i) := fun b e => by
  have := (h b).2.2 (by rw [e])
  rw [e] at this; omega
theorem Bd.grow {L : List Nat} {Γ Γ' : ty_G} {g u : gh} {i : Nat} (h : Bd Γ g) (hN : Nw L Γ Γ' i) (h1 : g 33 0 ≤ u 33 0) (h2 : g 34 0 ≤ u 34 0) (h3 : g 35 0 ≤ u 35 0) (k1 : 2 ∈ L ∨ 13 ∈ L ∨ 14 ∈ L ∨ 15 ∈ L → (i : Int) < u 33 0) (k2 : 3 ∈ L → (i : Int) < u 34 0) (k3 : 4 ∈ L → (i : Int) < u 35 0) : Bd Γ' u := fun b => by
  rcases hN b with e | ⟨e1, e2⟩
  · rw [e]; exact (h.mono h1 h2 h3) b
  · rw [e1]
    refine ⟨fun q => k1 ?_, fun q => k2 (q ▸ e2), fun q => k3 (q ▸ e2)⟩
    rcases q with q | q | q | q
    · exact Or.inl (q ▸ e2)
    · exact Or.inr (Or.inl (q ▸ e2))
    · exact Or.inr (Or.inr (Or.inl (q ▸ e2)))
    · exact Or.inr (Or.inr (Or.inr (q ▸ e2)))
/-- a reference, its number -/
def rq (Γ : ty_G) (t : Nat) (r : Option Nat) (z : Int) : Prop := (r = none → z = -1) ∧ ∀ b, r = some b → Γ b = (t, z.toNat) ∧ 0 ≤ z
theorem rq_n {Γ : ty_G} {t : Nat} : ((none : Option Nat) = none → (-1 : Int) = -1) ∧ ∀ b, (none : Option Nat) = some b → Γ b = (t, (-1 : Int).toNat) ∧ 0 ≤ (-1 : Int) := ⟨fun _ => rfl, fun _ h => (by cases h)⟩
theorem rq_s {Γ : ty_G} {t k b : Nat} (h : Γ b = (t, k)) : (some b = none → ((k : Nat) : Int) = -1) ∧ ∀ b', some b = some b' → Γ b' = (t, ((k : Nat) : Int).toNat) ∧ 0 ≤ ((k : Nat) : Int) := ⟨fun q => (by cases q), fun b' q => (by cases q; exact ⟨by rw [h]; simp, by omega⟩)⟩
theorem rq_z {Γ : ty_G} {t b : Nat} {z : Int} (h : Γ b = (t, z.toNat)) (p : 0 ≤ z) : (some b = none → z = -1) ∧ ∀ b', some b = some b' → Γ b' = (t, z.toNat) ∧ 0 ≤ z := ⟨fun q => (by cases q), fun b' q => (by cases q; exact ⟨h, p⟩)⟩
theorem rq_no {Γ : ty_G} {t : Nat} {z : Int} {r : Option Nat} (h : ∀ b, r = some b → Γ b = (t, z.toNat) ∧ 0 ≤ z) (hz : z < 0) : r = none := by
  cases r with
  | none => rfl
  | some b => exact absurd (h b rfl).2 (by omega)
theorem gs_r (g : gh) {c c' : Nat} (j : Nat) (z : Int) (h : c' ≠ c) : gs g c j z c' = g c' := funext fun _ => gs_c _ _ _ _ h
theorem dp_fr {Γ : ty_G} {t j : Nat} (h : ∀ b, Γ b ≠ (t, j)) : ∀ b, ((Γ b).1 == t && (Γ b).2 == j) = false := fun b => by
  rw [Bool.and_eq_false_iff]
  by_cases e1 : (Γ b).1 = t
  · exact Or.inr (beq_eq_false_iff_ne.mpr (fun e2 => h b (Prod.ext e1 e2)))
  · exact Or.inl (beq_eq_false_iff_ne.mpr e1)
theorem rq_eq {Γ : ty_G} {t : Nat} {r r' : Option Nat} {z z' : Int} (hU : Un Γ) (ht : sg2 t = true) (h : rq Γ t r z) (h' : rq Γ t r' z') : r = r' ↔ z = z' := by
  constructor
  · intro e
    subst e
    cases r with
    | none => rw [h.1 rfl, h'.1 rfl]
    | some b =>
      have q := (h.2 b rfl); have q' := (h'.2 b rfl)
      have := congrArg Prod.snd (q.1.symm.trans q'.1)
      simp only at this
      omega
  · intro e
    cases r with
    | none =>
      cases r' with
      | none => rfl
      | some b' => have := h.1 rfl; have := (h'.2 b' rfl).2; omega
    | some b =>
      cases r' with
      | none => have := h'.1 rfl; have := (h.2 b rfl).2; omega
      | some b' =>
        have q := (h.2 b rfl).1; have q' := (h'.2 b' rfl).1
        rw [e] at q
        rw [hU.2 b b' (q.trans q'.symm) (by rw [q]; exact ht)]
/-- a ghost number that no typed cell holds -/
theorem ty_gset {dC : Nat → ClassId} {dI : Nat → Nat → Nat} {dA : Nat → ClassId} {Γ : ty_G} {g : gh} {sz c j : Nat} {z : Int} {X : va_W} {H : Heap} (h : ty_ok (dC, dI) vwCl Γ (TP dA Γ g) sz X H) (hf : ∀ b, dpt (Γ b) c j = false) : ty_ok (dC, dI) vwCl Γ (TP dA Γ (gs g c j z)) sz X H :=
  ⟨h.1, fun a ha => by obtain ⟨h1, x, h2, h3⟩ := h.2.1 a ha; exact ⟨h1, x, h2, TP_gs (hf a) h3⟩, h.2.2⟩
