/-! ===== the types of the bank's and the reference's cells; the ghost g: numbers that cells hold exactly ===== -/
abbrev gh : Type := Nat → Nat → Int
def gs (g : gh) (c j : Nat) (z : Int) : gh := fun c' j' => if c' = c ∧ j' = j then z else g c' j'
theorem gs_self (g : gh) (c j : Nat) (z : Int) : gs g c j z c j = z := by simp [gs]
theorem gs_c (g : gh) {c c' : Nat} (j j' : Nat) (z : Int) (h : c' ≠ c) : gs g c j z c' j' = g c' j' := by simp [gs, h]
theorem gs_j (g : gh) (c c' : Nat) {j j' : Nat} (z : Int) (h : j' ≠ j) : gs g c j z c' j' = g c' j' := by simp [gs, h]
theorem gs_in {g g' : gh} {c j k : Nat} {z : Int} (h : g c k = g' c k) : gs g c j z c k = gs g' c j z c k := by unfold gs; split; rfl; exact h
/-- the array classes: 0 int, 1 boolean, 2 byte, 3 long, 4 Flat, 5 Owner, 6 Gift -/
abbrev ty_ts (dA : Nat → ClassId) : List (ClassId × FieldType) := [(dA 0, .int), (dA 1, .boolean), (dA 2, .byte), (dA 3, .long), (dA 4, .object RX1), (dA 5, .object RX3), (dA 6, .object RX2)]
def vI (v : Value) : Prop := ∃ x : Int32, v = .int x
def vB (v : Value) : Prop := ∃ x : Int32, v = .int x ∧ (x.toInt = 0 ∨ x.toInt = 1)
def vZ (z : Int) (v : Value) : Prop := ∃ x : Int32, v = .int x ∧ x.toInt = z
def vR (Γ : ty_G) (t : Nat) (v : Value) : Prop := ∃ b, v = .ref b ∧ (Γ b).1 = t
def vRi (Γ : ty_G) (t : ty_N) (v : Value) : Prop := ∃ b, v = .ref b ∧ Γ b = t
def vN (Γ : ty_G) (t : Nat) (v : Value) : Prop := ∃ r : Option Nat, v = va_rf r ∧ ∀ b, r = some b → (Γ b).1 = t
/-- what an array holds: exactly the ghost's row c from o on -/
def aE (n : Nat) (g : gh) (c o : Nat) (f : Nat → Int32) : Prop := ∀ j, j < n → (f j).toInt = g c (o + j)
/-- what an array's numbers lie between -/
def aL (n : Nat) (lo hi : Int) (f : Nat → Int32) : Prop := ∀ j, j < n → lo ≤ (f j).toInt ∧ (f j).toInt ≤ hi
theorem rgD (x : Int32) : -2147483648 ≤ x.toInt ∧ x.toInt ≤ 2147483647 := ⟨Int32.le_toInt x, by have := Int32.toInt_lt x; omega⟩
def aB (n : Nat) (f : Nat → Int32) : Prop := ∀ j, j < n → (f j).toInt = 0 ∨ (f j).toInt = 1
/-- references of type t, or null; below z none is null -/
def aR (Γ : ty_G) (t n : Nat) (z : Int) (f : Nat → Option Nat) : Prop := ∀ j, j < n → (∀ b, f j = some b → (Γ b).1 = t) ∧ ((j : Int) < z → f j ≠ none)

def vBZ (z : Int) (v : Value) : Prop := ∃ x : Int32, v = .int x ∧ x.toInt = z ∧ (x.toInt = 0 ∨ x.toInt = 1)
def vT (Γ : ty_G) (z : Int) (v : Value) : Prop := ∃ (b i : Nat), v = .ref b ∧ Γ b = (6, i) ∧ (i : Int) = z ∧ i < 2
def F8 (Γ : ty_G) (g : gh) (k : Nat) (v : Value) : Prop := match k with
  | 0 => vR Γ 10 v
  | 1 => vZ (g 1 0) v
  | 2 => vR Γ 11 v
  | 3 => vZ (g 2 0) v
  | 4 => vR Γ 12 v
  | 5 => vZ (g 3 0) v
  | 6 => vR Γ 7 v
  | 7 => vT Γ (g 13 0) v
  | 8 => vT Γ (g 12 0) v
  | 9 => vZ (g 4 0) v
  | 10 => vZ (g 5 0) v
  | 11 => vR Γ 8 v
  | _ => vR Γ 9 v
def F1 (Γ : ty_G) (k : Nat) (v : Value) : Prop := match k with
  | 0 => vI v
  | 1 => vI v
  | 2 => vI v
  | 3 => vR Γ 13 v
  | 4 => vR Γ 14 v
  | _ => vR Γ 15 v
def F3 (Γ : ty_G) (k : Nat) (v : Value) : Prop := match k with
  | 0 => vI v
  | 1 => vI v
  | 2 => vI v
  | 3 => vI v
  | 4 => vI v
  | 5 => vB v
  | 6 => vB v
  | _ => vN Γ 5 v
def F2 (Γ : ty_G) (k : Nat) (v : Value) : Prop := match k with
  | 0 => vI v
  | 1 => vR Γ 3 v
  | 2 => vR Γ 2 v
  | 3 => vI v
  | 4 => vI v
  | 5 => vI v
  | 6 => vI v
  | 7 => vN Γ 5 v
  | 8 => vN Γ 4 v
  | _ => vN Γ 3 v
def F7  (k : Nat) (v : Value) : Prop := match k with
  | 0 => vI v
  | 1 => vI v
  | 2 => vI v
  | _ => vI v
def F6 (Γ : ty_G) (g : gh) (i : Nat) (k : Nat) (v : Value) : Prop := match k with
  | 0 => vRi Γ (16, i) v
  | 1 => vRi Γ (17, i) v
  | 2 => vRi Γ (26, i) v
  | 3 => vBZ (g 11 i) v
  | _ => vZ (g 10 i) v
def F4 (Γ : ty_G) (g : gh) (k : Nat) (v : Value) : Prop := match k with
  | 0 => vR Γ 18 v
  | 1 => vZ (g 6 0) v
  | 2 => vZ (g 9 0) v
  | 3 => vZ (g 14 0) v
  | 4 => vZ (g 16 0) v
  | 5 => vZ (g 15 0) v
  | 6 => vZ (g 17 0) v
  | _ => vZ (g 18 0) v
def F5 (Γ : ty_G) (g : gh) (k : Nat) (v : Value) : Prop := match k with
  | 0 => vR Γ 19 v
  | 1 => vZ (g 7 0) v
  | 2 => vR Γ 20 v
  | 3 => vR Γ 21 v
  | 4 => vR Γ 22 v
  | 5 => vR Γ 22 v
  | _ => vZ (g 8 0) v
def Ff (Γ : ty_G) (g : gh) (k : Nat) (v : Value) : Prop := match k with
  | 0 => vR Γ 23 v
  | 1 => vR Γ 23 v
  | 2 => vR Γ 24 v
  | 3 => vZ (g 30 0) v
  | 4 => vZ (g 31 0) v
  | _ => vZ (g 32 0) v
/-- the reference's fields: which are arrays, of which class (0 int, 1 boolean, 2 byte), how long -/
def mA : Nat → Bool := fun k => match k with
  | 2 => true
  | 3 => true
  | 5 => true
  | 6 => true
  | 7 => true
  | 8 => true
  | 9 => true
  | 10 => true
  | 13 => true
  | 23 => true
  | 25 => true
  | 27 => true
  | 28 => true
  | 29 => true
  | 30 => true
  | 31 => true
  | 32 => true
  | 33 => true
  | 34 => true
  | 35 => true
  | 36 => true
  | 38 => true
  | 39 => true
  | 40 => true
  | 44 => true
  | 45 => true
  | 46 => true
  | _ => false
def mC : Nat → Nat := fun k => match k with
  | 8 => 1
  | 10 => 1
  | 13 => 2
  | 40 => 1
  | 44 => 1
  | 46 => 1
  | _ => 0
def mN : Nat → Nat := fun k => match k with
  | 2 => 6
  | 3 => 6
  | 5 => 10
  | 6 => 10
  | 7 => 10
  | 8 => 10
  | 9 => 318
  | 10 => 318
  | 13 => 300
  | 23 => 120
  | 25 => 120
  | 27 => 200
  | 28 => 200
  | 29 => 200
  | 30 => 200
  | 31 => 200
  | 32 => 200
  | 33 => 200
  | 34 => 200
  | 35 => 840
  | 36 => 9
  | 38 => 9
  | 39 => 9
  | 40 => 9
  | 44 => 10
  | 45 => 10
  | 46 => 10
  | _ => 0
def mLo : Nat → Int := fun k => match k with
  | 8 => 0
  | 10 => 0
  | 13 => -128
  | 27 => 0
  | 28 => 0
  | 34 => -1
  | 36 => 0
  | 38 => -2
  | 39 => -1
  | 40 => 0
  | 44 => 0
  | 46 => 0
  | _ => -2147483648
def mHi : Nat → Int := fun k => match k with
  | 8 => 1
  | 10 => 1
  | 13 => 127
  | 27 => 9
  | 28 => 5
  | 34 => 9
  | 36 => 199
  | 38 => 8
  | 39 => 8
  | 40 => 1
  | 44 => 1
  | 46 => 1
  | _ => 2147483647
def aM (k : Nat) (g : gh) (f : Nat → Int32) : Prop := aE (mN k) g (100 + k) 0 f ∧ aL (mN k) (mLo k) (mHi k) f
def F9 (Γ : ty_G) (g : gh) (k : Nat) (v : Value) : Prop := if mA k = true then vR Γ (100 + k) v else vZ (g (100 + k) 0) v
def TP (dA : Nat → ClassId) (Γ : ty_G) (g : gh) (t : ty_N) (x : va_E) : Prop := if 100 ≤ t.1 then ty_I (dA (mC (t.1 - 100))) (mN (t.1 - 100)) (aM (t.1 - 100) g) x else match t.1 with
  | 1 => ty_O 8 13 (F8 Γ g) x | 2 => ty_O 1 6 (F1 Γ) x | 3 => ty_O 3 8 (F3 Γ) x | 4 => ty_O 2 10 (F2 Γ) x | 5 => ty_O 7 4 F7 x | 6 => ty_O 6 5 (F6 Γ g t.2) x | 7 => ty_O 4 8 (F4 Γ g) x | 8 => ty_O 5 7 (F5 Γ g) x | 9 => ty_O 0 6 (Ff Γ g) x
  | 10 => ty_R (dA 4) 6 (aR Γ 2 6 (g 33 0)) x | 11 => ty_R (dA 5) 10 (aR Γ 3 10 (g 34 0)) x | 12 => ty_R (dA 6) 200 (aR Γ 4 200 (g 35 0)) x | 13 => ty_R (dA 5) 53 (aR Γ 3 53 0) x | 14 => ty_I (dA 1) 53 (aB 53) x | 15 => ty_R (dA 6) 53 (aR Γ 4 53 0) x
  | 16 => ty_I (dA 0) 53 (fun _ => True) x | 17 => ty_I (dA 0) 5 (fun _ => True) x | 18 => ty_I (dA 0) 300 (aE 300 g 19 0) x | 19 => ty_R (dA 6) 9 (aR Γ 4 9 (g 36 0)) x | 20 => ty_I (dA 0) 9 (fun _ => True) x | 21 => ty_I (dA 0) 4608 (fun _ => True) x | 22 => ty_I (dA 0) 512 (fun _ => True) x | 23 => ty_I (dA 0) 10 (fun _ => True) x | 24 => ty_I (dA 1) 10 (aB 10) x | 25 => ty_J (dA 3) 1 x | 26 => ty_I (dA 0) 53 (fun _ => True) x
  | 30 => ty_O 9 47 (F9 Γ g) x
  | _ => False
/-- which types hold the ghost's number c j -/
def dpt (t : ty_N) (c j : Nat) : Bool := match c with
  | 1 => t.1 == 1 | 2 => t.1 == 1 | 3 => t.1 == 1 | 33 => t.1 == 10 | 34 => t.1 == 11 | 35 => t.1 == 12 | 36 => t.1 == 19 | 4 => t.1 == 1 | 5 => t.1 == 1 | 12 => t.1 == 1 | 13 => t.1 == 1
  | 6 => t.1 == 7 | 9 => t.1 == 7 | 14 => t.1 == 7 | 15 => t.1 == 7 | 16 => t.1 == 7 | 17 => t.1 == 7 | 18 => t.1 == 7
  | 7 => t.1 == 8 | 8 => t.1 == 8
  | 10 => t.1 == 6 && t.2 == j | 11 => t.1 == 6 && t.2 == j
  | 19 => t.1 == 18
  | 30 => t.1 == 9 | 31 => t.1 == 9 | 32 => t.1 == 9
  | c => t.1 == 30 || t.1 == c
theorem ty_O.mono {ci N : Nat} {F F' : Nat → Value → Prop} {x : va_E} (h : ∀ k v, F k v → F' k v) (hx : ty_O ci N F x) : ty_O ci N F' x := by
  obtain ⟨fs, h1, h2, h3⟩ := hx
  exact ⟨fs, h1, h2, fun k hk => h k _ (h3 k hk)⟩
theorem ty_I.mono {cA : ClassId} {n : Nat} {P P' : (Nat → Int32) → Prop} {x : va_E} (h : ∀ f, P f → P' f) (hx : ty_I cA n P x) : ty_I cA n P' x := by
  obtain ⟨f, h1, h2⟩ := hx
  exact ⟨f, h1, h f h2⟩
theorem ty_R.mono {cA : ClassId} {n : Nat} {P P' : (Nat → Option Nat) → Prop} {x : va_E} (h : ∀ f, P f → P' f) (hx : ty_R cA n P x) : ty_R cA n P' x := by
  obtain ⟨f, h1, h2⟩ := hx
  exact ⟨f, h1, h f h2⟩
section TPL
variable {dA : Nat → ClassId} {Γ Γ' : ty_G} {g g' : gh} {t : ty_N} {x : va_E}
theorem TP_1 (h : t.1 = 1) : TP dA Γ g t x = ty_O 8 13 (F8 Γ g) x := by unfold TP; rw [h]; rfl
theorem TP_2 (h : t.1 = 2) : TP dA Γ g t x = ty_O 1 6 (F1 Γ) x := by unfold TP; rw [h]; rfl
theorem TP_3 (h : t.1 = 3) : TP dA Γ g t x = ty_O 3 8 (F3 Γ) x := by unfold TP; rw [h]; rfl
theorem TP_4 (h : t.1 = 4) : TP dA Γ g t x = ty_O 2 10 (F2 Γ) x := by unfold TP; rw [h]; rfl
theorem TP_5 (h : t.1 = 5) : TP dA Γ g t x = ty_O 7 4 F7 x := by unfold TP; rw [h]; rfl
theorem TP_6 (h : t.1 = 6) : TP dA Γ g t x = ty_O 6 5 (F6 Γ g t.2) x := by unfold TP; rw [h]; rfl
theorem TP_7 (h : t.1 = 7) : TP dA Γ g t x = ty_O 4 8 (F4 Γ g) x := by unfold TP; rw [h]; rfl
theorem TP_8 (h : t.1 = 8) : TP dA Γ g t x = ty_O 5 7 (F5 Γ g) x := by unfold TP; rw [h]; rfl
theorem TP_9 (h : t.1 = 9) : TP dA Γ g t x = ty_O 0 6 (Ff Γ g) x := by unfold TP; rw [h]; rfl
theorem TP_10 (h : t.1 = 10) : TP dA Γ g t x = ty_R (dA 4) 6 (aR Γ 2 6 (g 33 0)) x := by unfold TP; rw [h]; rfl
theorem TP_11 (h : t.1 = 11) : TP dA Γ g t x = ty_R (dA 5) 10 (aR Γ 3 10 (g 34 0)) x := by unfold TP; rw [h]; rfl
theorem TP_12 (h : t.1 = 12) : TP dA Γ g t x = ty_R (dA 6) 200 (aR Γ 4 200 (g 35 0)) x := by unfold TP; rw [h]; rfl
theorem TP_13 (h : t.1 = 13) : TP dA Γ g t x = ty_R (dA 5) 53 (aR Γ 3 53 0) x := by unfold TP; rw [h]; rfl
theorem TP_14 (h : t.1 = 14) : TP dA Γ g t x = ty_I (dA 1) 53 (aB 53) x := by unfold TP; rw [h]; rfl
theorem TP_15 (h : t.1 = 15) : TP dA Γ g t x = ty_R (dA 6) 53 (aR Γ 4 53 0) x := by unfold TP; rw [h]; rfl
theorem TP_16 (h : t.1 = 16) : TP dA Γ g t x = ty_I (dA 0) 53 (fun _ => True) x := by unfold TP; rw [h]; rfl
theorem TP_17 (h : t.1 = 17) : TP dA Γ g t x = ty_I (dA 0) 5 (fun _ => True) x := by unfold TP; rw [h]; rfl
theorem TP_18 (h : t.1 = 18) : TP dA Γ g t x = ty_I (dA 0) 300 (aE 300 g 19 0) x := by unfold TP; rw [h]; rfl
theorem TP_19 (h : t.1 = 19) : TP dA Γ g t x = ty_R (dA 6) 9 (aR Γ 4 9 (g 36 0)) x := by unfold TP; rw [h]; rfl
theorem TP_20 (h : t.1 = 20) : TP dA Γ g t x = ty_I (dA 0) 9 (fun _ => True) x := by unfold TP; rw [h]; rfl
theorem TP_21 (h : t.1 = 21) : TP dA Γ g t x = ty_I (dA 0) 4608 (fun _ => True) x := by unfold TP; rw [h]; rfl
theorem TP_22 (h : t.1 = 22) : TP dA Γ g t x = ty_I (dA 0) 512 (fun _ => True) x := by unfold TP; rw [h]; rfl
theorem TP_23 (h : t.1 = 23) : TP dA Γ g t x = ty_I (dA 0) 10 (fun _ => True) x := by unfold TP; rw [h]; rfl
theorem TP_24 (h : t.1 = 24) : TP dA Γ g t x = ty_I (dA 1) 10 (aB 10) x := by unfold TP; rw [h]; rfl
theorem TP_25 (h : t.1 = 25) : TP dA Γ g t x = ty_J (dA 3) 1 x := by unfold TP; rw [h]; rfl
theorem TP_26 (h : t.1 = 26) : TP dA Γ g t x = ty_I (dA 0) 53 (fun _ => True) x := by unfold TP; rw [h]; rfl
theorem TP_30 (h : t.1 = 30) : TP dA Γ g t x = ty_O 9 47 (F9 Γ g) x := by unfold TP; rw [h]; rfl
theorem TP_m {k : Nat} (h : t.1 = 100 + k) : TP dA Γ g t x = ty_I (dA (mC k)) (mN k) (aM k g) x := by unfold TP; rw [if_pos (by omega), h, Nat.add_sub_cancel_left]
theorem TP_cases (h : TP dA Γ g t x) : 100 ≤ t.1 ∨ t.1 ∈ [1, 2, 3, 4, 5, 6, 7, 8, 9, 10, 11, 12, 13, 14, 15, 16, 17, 18, 19, 20, 21, 22, 23, 24, 25, 26, 30] := by
  by_cases h1 : 100 ≤ t.1
  · exact Or.inl h1
  · refine Or.inr ?_
    unfold TP at h
    rw [if_neg h1] at h
    split at h
    all_goals first | (rename_i e; rw [e]; decide) | exact absurd h id
theorem F8_cong (e1 : g' 1 0 = g 1 0) (e2 : g' 2 0 = g 2 0) (e3 : g' 3 0 = g 3 0) (e4 : g' 4 0 = g 4 0) (e5 : g' 5 0 = g 5 0) (e6 : g' 13 0 = g 13 0) (e7 : g' 12 0 = g 12 0) : F8 Γ g' = F8 Γ g := by funext k v; unfold F8; rw [e1, e2, e3, e4, e5, e6, e7]
/-- a ghost that is the same in all that the type holds -/
theorem TP_cong (h : ∀ c j, dpt t c j = true → g' c j = g c j) (hx : TP dA Γ g t x) : TP dA Γ g' t x := by
  rcases TP_cases hx with h1 | h1
  · obtain ⟨k, hk⟩ : ∃ k, t.1 = 100 + k := ⟨t.1 - 100, by omega⟩
    rw [TP_m hk] at hx ⊢
    refine hx.mono (fun f hf => ⟨fun j hj => ?_, hf.2⟩)
    rw [hf.1 j hj]
    refine (h (100 + k) (0 + j) ?_).symm
    have e : dpt t (100 + k) (0 + j) = (t.1 == 30 || t.1 == 100 + k) := by
      rw [show 100 + k = k + 100 by omega]; rfl
    rw [e, hk]; simp
  · simp only [List.mem_cons, List.not_mem_nil, or_false] at h1
    rcases h1 with e | e | e | e | e | e | e | e | e | e | e | e | e | e | e | e | e | e | e | e | e | e | e | e | e | e | e
    · rw [TP_1 e] at hx ⊢
      rw [F8_cong (h 1 0 (by simp [dpt, e])) (h 2 0 (by simp [dpt, e])) (h 3 0 (by simp [dpt, e])) (h 4 0 (by simp [dpt, e])) (h 5 0 (by simp [dpt, e])) (h 13 0 (by simp [dpt, e])) (h 12 0 (by simp [dpt, e]))]
      exact hx
    · rw [TP_2 e] at hx ⊢; exact hx
    · rw [TP_3 e] at hx ⊢; exact hx
    · rw [TP_4 e] at hx ⊢; exact hx
    · rw [TP_5 e] at hx ⊢; exact hx
    · rw [TP_6 e] at hx ⊢
      refine hx.mono (fun k v hv => ?_)
      unfold F6 at hv ⊢
      rw [h 11 t.2 (by simp [dpt, e]), h 10 t.2 (by simp [dpt, e])]
      exact hv
    · rw [TP_7 e] at hx ⊢
      refine hx.mono (fun k v hv => ?_)
      unfold F4 at hv ⊢
      rw [h 6 0 (by simp [dpt, e]), h 9 0 (by simp [dpt, e]), h 14 0 (by simp [dpt, e]), h 16 0 (by simp [dpt, e]), h 15 0 (by simp [dpt, e]), h 17 0 (by simp [dpt, e]), h 18 0 (by simp [dpt, e])]
      exact hv
    · rw [TP_8 e] at hx ⊢
      refine hx.mono (fun k v hv => ?_)
      unfold F5 at hv ⊢
      rw [h 7 0 (by simp [dpt, e]), h 8 0 (by simp [dpt, e])]
      exact hv
    · rw [TP_9 e] at hx ⊢
      refine hx.mono (fun k v hv => ?_)
      unfold Ff at hv ⊢
      rw [h 30 0 (by simp [dpt, e]), h 31 0 (by simp [dpt, e]), h 32 0 (by simp [dpt, e])]
      exact hv
    · rw [TP_10 e] at hx ⊢; rw [h 33 0 (by simp [dpt, e])]; exact hx
    · rw [TP_11 e] at hx ⊢; rw [h 34 0 (by simp [dpt, e])]; exact hx
    · rw [TP_12 e] at hx ⊢; rw [h 35 0 (by simp [dpt, e])]; exact hx
    · rw [TP_13 e] at hx ⊢; exact hx
    · rw [TP_14 e] at hx ⊢; exact hx
    · rw [TP_15 e] at hx ⊢; exact hx
    · rw [TP_16 e] at hx ⊢; exact hx
    · rw [TP_17 e] at hx ⊢; exact hx
    · rw [TP_18 e] at hx ⊢
      exact hx.mono (fun f hf j hj => by rw [hf j hj]; exact (h 19 _ (by simp [dpt, e])).symm)
    · rw [TP_19 e] at hx ⊢; rw [h 36 0 (by simp [dpt, e])]; exact hx
    · rw [TP_20 e] at hx ⊢; exact hx
    · rw [TP_21 e] at hx ⊢; exact hx
    · rw [TP_22 e] at hx ⊢; exact hx
    · rw [TP_23 e] at hx ⊢; exact hx
    · rw [TP_24 e] at hx ⊢; exact hx
    · rw [TP_25 e] at hx ⊢; exact hx
    · rw [TP_26 e] at hx ⊢; exact hx
    · rw [TP_30 e] at hx ⊢
      refine hx.mono (fun k v hv => ?_)
      unfold F9 at hv ⊢
      by_cases hm : mA k = true
      · rw [if_pos hm] at hv ⊢; exact hv
      · rw [if_neg hm] at hv ⊢
        have e2 : dpt t (100 + k) 0 = (t.1 == 30 || t.1 == 100 + k) := by
          rw [show 100 + k = k + 100 by omega]; rfl
        rw [h (100 + k) 0 (by rw [e2, e]; simp)]
        exact hv
theorem TP_gs {c j : Nat} {z : Int} (h : dpt t c j = false) (hx : TP dA Γ g t x) : TP dA Γ (gs g c j z) t x := by
  refine TP_cong (fun c' j' hd => ?_) hx
  by_cases e : c' = c ∧ j' = j
  · obtain ⟨rfl, rfl⟩ := e
    rw [h] at hd; cases hd
  · simp [gs, e]
/-- more cells are typed, none otherwise than before -/
def ext (Γ Γ' : ty_G) : Prop := ∀ a, (Γ a).1 ≠ 0 → Γ' a = Γ a
/-- the type of a cell, as a word that arithmetic does not see -/
def ty (Γ : ty_G) (b t : Nat) : Prop := (Γ b).1 = t
theorem ext.rf : ext Γ Γ := fun _ _ => rfl
theorem ext.trans {Γ'' : ty_G} (h : ext Γ Γ') (h' : ext Γ' Γ'') : ext Γ Γ'' := fun a ha => by
  have e := h a ha
  rw [h' a (by rw [e]; exact ha), e]
theorem ext.up {q : Nat} (h : (Γ q).1 = 0) : ext Γ (va_up Γ q t) := fun a ha => va_up_ne _ _ (fun e => ha (by rw [e]; exact h))
theorem ext.one {a k : Nat} (h : ext Γ Γ') (ha : (Γ a).1 = k) (hk : k ≠ 0) : (Γ' a).1 = k := by rw [h a (by rw [ha]; exact hk)]; exact ha
theorem vR.ext {k : Nat} {v : Value} (hk : k ≠ 0) (h : ext Γ Γ') (hv : vR Γ k v) : vR Γ' k v := by
  obtain ⟨b, h1, h2⟩ := hv
  exact ⟨b, h1, h.one h2 hk⟩
theorem vRi.ext {k : ty_N} {v : Value} (hk : k.1 ≠ 0) (h : ext Γ Γ') (hv : vRi Γ k v) : vRi Γ' k v := by
  obtain ⟨b, h1, h2⟩ := hv
  exact ⟨b, h1, by rw [h b (by rw [h2]; exact hk)]; exact h2⟩
theorem vN.ext {k : Nat} {v : Value} (hk : k ≠ 0) (h : ext Γ Γ') (hv : vN Γ k v) : vN Γ' k v := by
  obtain ⟨r, h1, h2⟩ := hv
  exact ⟨r, h1, fun b hb => h.one (h2 b hb) hk⟩
theorem vT.ext {z : Int} {v : Value} (h : ext Γ Γ') (hv : vT Γ z v) : vT Γ' z v := by
  obtain ⟨b, i, h1, h2, h3⟩ := hv
  exact ⟨b, i, h1, by rw [h b (by rw [h2]; show (6 : Nat) ≠ 0; decide)]; exact h2, h3⟩
theorem aR.ext {k n : Nat} {z : Int} {f : Nat → Option Nat} (hk : k ≠ 0) (h : ext Γ Γ') (hv : aR Γ k n z f) : aR Γ' k n z f := fun j hj => ⟨fun b hb => h.one ((hv j hj).1 b hb) hk, (hv j hj).2⟩

theorem F8_ext (h : ext Γ Γ') : ∀ {k : Nat} {v : Value}, F8 Γ g k v → F8 Γ' g k v
  | 0, _, hv => vR.ext (by decide) h hv
  | 1, _, hv => hv
  | 2, _, hv => vR.ext (by decide) h hv
  | 3, _, hv => hv
  | 4, _, hv => vR.ext (by decide) h hv
  | 5, _, hv => hv
  | 6, _, hv => vR.ext (by decide) h hv
  | 7, _, hv => vT.ext h hv
  | 8, _, hv => vT.ext h hv
  | 9, _, hv => hv
  | 10, _, hv => hv
  | 11, _, hv => vR.ext (by decide) h hv
  | n + 12, _, hv => vR.ext (by decide) h hv
theorem F1_ext (h : ext Γ Γ') : ∀ {k : Nat} {v : Value}, F1 Γ k v → F1 Γ' k v
  | 0, _, hv => hv
  | 1, _, hv => hv
  | 2, _, hv => hv
  | 3, _, hv => vR.ext (by decide) h hv
  | 4, _, hv => vR.ext (by decide) h hv
  | n + 5, _, hv => vR.ext (by decide) h hv
theorem F3_ext (h : ext Γ Γ') : ∀ {k : Nat} {v : Value}, F3 Γ k v → F3 Γ' k v
  | 0, _, hv => hv
  | 1, _, hv => hv
  | 2, _, hv => hv
  | 3, _, hv => hv
  | 4, _, hv => hv
  | 5, _, hv => hv
  | 6, _, hv => hv
  | n + 7, _, hv => vN.ext (by decide) h hv
theorem F2_ext (h : ext Γ Γ') : ∀ {k : Nat} {v : Value}, F2 Γ k v → F2 Γ' k v
  | 0, _, hv => hv
  | 1, _, hv => vR.ext (by decide) h hv
  | 2, _, hv => vR.ext (by decide) h hv
  | 3, _, hv => hv
  | 4, _, hv => hv
  | 5, _, hv => hv
  | 6, _, hv => hv
  | 7, _, hv => vN.ext (by decide) h hv
  | 8, _, hv => vN.ext (by decide) h hv
  | n + 9, _, hv => vN.ext (by decide) h hv
theorem F6_ext (h : ext Γ Γ') {i : Nat} : ∀ {k : Nat} {v : Value}, F6 Γ g i k v → F6 Γ' g i k v
  | 0, _, hv => vRi.ext (by show (16 : Nat) ≠ 0; decide) h hv
  | 1, _, hv => vRi.ext (by show (17 : Nat) ≠ 0; decide) h hv
  | 2, _, hv => vRi.ext (by show (26 : Nat) ≠ 0; decide) h hv
  | 3, _, hv => hv
  | n + 4, _, hv => hv
theorem F4_ext (h : ext Γ Γ') : ∀ {k : Nat} {v : Value}, F4 Γ g k v → F4 Γ' g k v
  | 0, _, hv => vR.ext (by decide) h hv
  | 1, _, hv => hv
  | 2, _, hv => hv
  | 3, _, hv => hv
  | 4, _, hv => hv
  | 5, _, hv => hv
  | 6, _, hv => hv
  | n + 7, _, hv => hv
theorem F5_ext (h : ext Γ Γ') : ∀ {k : Nat} {v : Value}, F5 Γ g k v → F5 Γ' g k v
  | 0, _, hv => vR.ext (by decide) h hv
  | 1, _, hv => hv
  | 2, _, hv => vR.ext (by decide) h hv
  | 3, _, hv => vR.ext (by decide) h hv
  | 4, _, hv => vR.ext (by decide) h hv
  | 5, _, hv => vR.ext (by decide) h hv
  | n + 6, _, hv => hv
theorem Ff_ext (h : ext Γ Γ') : ∀ {k : Nat} {v : Value}, Ff Γ g k v → Ff Γ' g k v
  | 0, _, hv => vR.ext (by decide) h hv
  | 1, _, hv => vR.ext (by decide) h hv
  | 2, _, hv => vR.ext (by decide) h hv
  | 3, _, hv => hv
  | 4, _, hv => hv
  | n + 5, _, hv => hv
theorem F9_ext (h : ext Γ Γ') {k : Nat} {v : Value} (hv : F9 Γ g k v) : F9 Γ' g k v := by
  unfold F9 at hv ⊢
  split
  · rename_i e; rw [if_pos e] at hv; exact vR.ext (by omega) h hv
  · rename_i e; rw [if_neg e] at hv; exact hv
theorem TP_ext (h : ext Γ Γ') (hx : TP dA Γ g t x) : TP dA Γ' g t x := by
  rcases TP_cases hx with h1 | h1
  · obtain ⟨k, hk⟩ : ∃ k, t.1 = 100 + k := ⟨t.1 - 100, by omega⟩
    rw [TP_m hk] at hx ⊢; exact hx
  · simp only [List.mem_cons, List.not_mem_nil, or_false] at h1
    rcases h1 with e | e | e | e | e | e | e | e | e | e | e | e | e | e | e | e | e | e | e | e | e | e | e | e | e | e | e
    · rw [TP_1 e] at hx ⊢; exact hx.mono (fun k v hv => F8_ext h hv)
    · rw [TP_2 e] at hx ⊢; exact hx.mono (fun k v hv => F1_ext h hv)
    · rw [TP_3 e] at hx ⊢; exact hx.mono (fun k v hv => F3_ext h hv)
    · rw [TP_4 e] at hx ⊢; exact hx.mono (fun k v hv => F2_ext h hv)
    · rw [TP_5 e] at hx ⊢; exact hx
    · rw [TP_6 e] at hx ⊢; exact hx.mono (fun k v hv => F6_ext h hv)
    · rw [TP_7 e] at hx ⊢; exact hx.mono (fun k v hv => F4_ext h hv)
    · rw [TP_8 e] at hx ⊢; exact hx.mono (fun k v hv => F5_ext h hv)
    · rw [TP_9 e] at hx ⊢; exact hx.mono (fun k v hv => Ff_ext h hv)
    · rw [TP_10 e] at hx ⊢; exact hx.mono (fun f hf => hf.ext (by decide) h)
    · rw [TP_11 e] at hx ⊢; exact hx.mono (fun f hf => hf.ext (by decide) h)
    · rw [TP_12 e] at hx ⊢; exact hx.mono (fun f hf => hf.ext (by decide) h)
    · rw [TP_13 e] at hx ⊢; exact hx.mono (fun f hf => hf.ext (by decide) h)
    · rw [TP_14 e] at hx ⊢; exact hx
    · rw [TP_15 e] at hx ⊢; exact hx.mono (fun f hf => hf.ext (by decide) h)
    · rw [TP_16 e] at hx ⊢; exact hx
    · rw [TP_17 e] at hx ⊢; exact hx
    · rw [TP_18 e] at hx ⊢; exact hx
    · rw [TP_19 e] at hx ⊢; exact hx.mono (fun f hf => hf.ext (by decide) h)
    · rw [TP_20 e] at hx ⊢; exact hx
    · rw [TP_21 e] at hx ⊢; exact hx
    · rw [TP_22 e] at hx ⊢; exact hx
    · rw [TP_23 e] at hx ⊢; exact hx
    · rw [TP_24 e] at hx ⊢; exact hx
    · rw [TP_25 e] at hx ⊢; exact hx
    · rw [TP_26 e] at hx ⊢; exact hx
    · rw [TP_30 e] at hx ⊢; exact hx.mono (fun k v hv => F9_ext h hv)
end TPL
/-- types of which there is one cell only; types of which there is one for each number -/
def sg (k : Nat) : Bool := k == 1 || k == 7 || k == 8 || k == 9 || k == 10 || k == 11 || k == 12 || k == 18 || k == 19 || k == 30 || Nat.ble 100 k
def sg2 (k : Nat) : Bool := k == 6 || k == 16 || k == 17 || k == 26
def Un (Γ : ty_G) : Prop := (∀ a b, (Γ a).1 = (Γ b).1 → sg (Γ a).1 = true → a = b) ∧ ∀ a b, Γ a = Γ b → sg2 (Γ a).1 = true → a = b
theorem Un.one {Γ : ty_G} (h : Un Γ) {a b k : Nat} (ha : (Γ a).1 = k) (hk : sg k = true) (hb : b ≠ a) : (Γ b).1 ≠ k := fun e => hb (h.1 b a (e.trans ha.symm) (by rw [e]; exact hk))
theorem Un.two {Γ : ty_G} (h : Un Γ) {a b : Nat} {k : ty_N} (ha : Γ a = k) (hk : sg2 k.1 = true) (hb : b ≠ a) : Γ b ≠ k := fun e => hb (h.2 b a (e.trans ha.symm) (by rw [e]; exact hk))
theorem Un.up0 {Γ : ty_G} {q : Nat} {t : ty_N} (hU : Un Γ) (h1 : sg t.1 = false) (h2 : sg2 t.1 = false) : Un (va_up Γ q t) := by
  refine ⟨fun a b hab hs => ?_, fun a b hab hs => ?_⟩
  · by_cases ea : a = q
    · subst ea; rw [va_up_self, h1] at hs; cases hs
    · by_cases eb : b = q
      · subst eb; rw [va_up_self] at hab; rw [hab, h1] at hs; cases hs
      · rw [va_up_ne _ _ ea, va_up_ne _ _ eb] at hab
        rw [va_up_ne _ _ ea] at hs
        exact hU.1 a b hab hs
  · by_cases ea : a = q
    · subst ea; rw [va_up_self, h2] at hs; cases hs
    · by_cases eb : b = q
      · subst eb; rw [va_up_self] at hab; rw [hab, h2] at hs; cases hs
      · rw [va_up_ne _ _ ea, va_up_ne _ _ eb] at hab
        rw [va_up_ne _ _ ea] at hs
        exact hU.2 a b hab hs
theorem ext.two {Γ Γ' : ty_G} {a : Nat} {k : ty_N} (h : ext Γ Γ') (ha : Γ a = k) (hk : k.1 ≠ 0) : Γ' a = k := by rw [h a (by rw [ha]; exact hk)]; exact ha
theorem nmap {t : ty_N} {k : Nat} {L : List ty_N} (h : k ≠ t.1) (hL : k ∉ L.map Prod.fst) : k ∉ (t :: L).map Prod.fst := fun hm => (List.mem_cons.mp hm).elim h hL
theorem nmem {t k : ty_N} {L : List ty_N} (h : k.1 ≠ t.1) (hL : k ∉ L) : k ∉ t :: L := fun hm => (List.mem_cons.mp hm).elim (fun e => h (congrArg Prod.fst e)) hL
def tyIn (Γ : ty_G) (L : List ty_N) : Prop := ∀ a, (Γ a).1 ≠ 0 → Γ a ∈ L
theorem tyIn.up {Γ : ty_G} {L : List ty_N} {q : Nat} {t : ty_N} (h : tyIn Γ L) : tyIn (va_up Γ q t) (t :: L) := fun a ha => by
  by_cases e : a = q
  · subst e; rw [va_up_self]; exact List.mem_cons_self
  · rw [va_up_ne _ _ e] at ha ⊢; exact List.mem_cons_of_mem _ (h a ha)
theorem Un.up {Γ : ty_G} {L : List ty_N} {q : Nat} {t : ty_N} (hU : Un Γ) (h : tyIn Γ L) (ht : t.1 ≠ 0) (h1 : sg t.1 = true → t.1 ∉ L.map (·.1)) (h2 : sg2 t.1 = true → t ∉ L) : Un (va_up Γ q t) := by
  refine ⟨fun a b hab hs => ?_, fun a b hab hs => ?_⟩
  · by_cases ea : a = q <;> by_cases eb : b = q
    · rw [ea, eb]
    · subst ea
      rw [va_up_self, va_up_ne _ _ eb] at hab
      rw [va_up_self] at hs
      exact absurd (by rw [hab]; exact List.mem_map.mpr ⟨_, h b (by rw [← hab]; exact ht), rfl⟩) (h1 hs)
    · subst eb
      rw [va_up_self, va_up_ne _ _ ea] at hab
      rw [va_up_ne _ _ ea, hab] at hs
      exact absurd (by rw [← hab]; exact List.mem_map.mpr ⟨_, h a (by rw [hab]; exact ht), rfl⟩) (h1 hs)
    · rw [va_up_ne _ _ ea, va_up_ne _ _ eb] at hab
      rw [va_up_ne _ _ ea] at hs
      exact hU.1 a b hab hs
  · by_cases ea : a = q <;> by_cases eb : b = q
    · rw [ea, eb]
    · subst ea
      rw [va_up_self, va_up_ne _ _ eb] at hab
      rw [va_up_self] at hs
      exact absurd (by rw [hab]; exact h b (by rw [← hab]; exact ht)) (h2 hs)
    · subst eb
      rw [va_up_self, va_up_ne _ _ ea] at hab
      rw [va_up_ne _ _ ea, hab] at hs
      exact absurd (by rw [← hab]; exact h a (by rw [hab]; exact ht)) (h2 hs)
    · rw [va_up_ne _ _ ea, va_up_ne _ _ eb] at hab
      rw [va_up_ne _ _ ea] at hs
      exact hU.2 a b hab hs
