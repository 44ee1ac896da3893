theorem fb_holes : ∀ (m n : Nat) (f : Nat → Nat), (∀ i, i < n → f i < m) → (∀ i j, i < j → j < n → f i ≠ f j) → n ≤ m := by
  intro m
  induction m with
  | zero =>
    intro n f h1 _
    rcases Nat.eq_zero_or_pos n with h | h
    · omega
    · exact absurd (h1 0 h) (Nat.not_lt_zero _)
  | succ m ih =>
    intro n f h1 h2
    by_cases hx : ∃ i, i < n ∧ f i = m
    · obtain ⟨a, ha, hfa⟩ := hx
      have hg := ih (n - 1) (fun i => if i < a then f i else f (i + 1)) (by
        intro i hi
        by_cases q : i < a
        · simp only [if_pos q]
          have b1 := h1 i (by omega)
          have b2 := h2 i a q ha
          omega
        · simp only [if_neg q]
          have b1 := h1 (i + 1) (by omega)
          have b2 := h2 a (i + 1) (by omega) (by omega)
          omega) (by
        intro i j hij hj
        by_cases q : i < a
        · by_cases r : j < a
          · simp only [if_pos q, if_pos r]
            exact h2 i j hij (by omega)
          · simp only [if_pos q, if_neg r]
            exact h2 i (j + 1) (by omega) (by omega)
        · have r : ¬ j < a := by omega
          simp only [if_neg q, if_neg r]
          exact h2 (i + 1) (j + 1) (by omega) (by omega))
      omega
    · have hg := ih n f (fun i hi => by
        have b1 := h1 i hi
        have b2 : f i ≠ m := fun e => hx ⟨i, hi, e⟩
        omega) h2
      omega
/-- two of them in one place -/
theorem fb_twice {m n : Nat} {f : Nat → Nat} (h : ∀ i, i < n → f i < m) (hm : m < n) : ∃ i j, i < j ∧ j < n ∧ f i = f j := by
  refine Classical.byContradiction fun hx => ?_
  have := fb_holes m n f h (fun i j hij hj e => hx ⟨i, j, hij, hj, e⟩)
  omega
/-- as many as places, none twice: each place is taken -/
theorem fb_onto {n : Nat} {f : Nat → Nat} (h : ∀ i, i < n → f i < n) (h2 : ∀ i j, i < j → j < n → f i ≠ f j) {y : Nat} (hy : y < n) : ∃ i, i < n ∧ f i = y := by
  refine Classical.byContradiction fun hx => ?_
  have hne : ∀ i, i < n → f i ≠ y := fun i hi e => hx ⟨i, hi, e⟩
  have := fb_holes (n - 1) n (fun i => if f i < y then f i else f i - 1) (by
    intro i hi
    have b1 := h i hi
    have b2 := hne i hi
    by_cases q : f i < y
    · simp only [if_pos q]; omega
    · simp only [if_neg q]; omega) (by
    intro i j hij hj
    have b1 := hne i (by omega)
    have b2 := hne j hj
    have b3 := h2 i j hij hj
    by_cases q : f i < y
    · by_cases r : f j < y
      · simp only [if_pos q, if_pos r]; exact b3
      · simp only [if_pos q, if_neg r]; omega
    · by_cases r : f j < y
      · simp only [if_neg q, if_pos r]; omega
      · simp only [if_neg q, if_neg r]; omega)
  omega
/-! ===== how many places have a property ===== -/
def fb_ct (p : Nat → Bool) : Nat → Nat
  | 0 => 0
  | n + 1 => fb_ct p n + (if p n then 1 else 0)
theorem fb_ct_succ (p : Nat → Bool) (n : Nat) : fb_ct p (n + 1) = fb_ct p n + (if p n then 1 else 0) := rfl
theorem fb_ct_le (p : Nat → Bool) : ∀ n, fb_ct p n ≤ n
  | 0 => Nat.le_refl _
  | n + 1 => by
    have h := fb_ct_le p n
    rw [fb_ct_succ]
    split <;> omega
theorem fb_ct_step (p : Nat → Bool) (m : Nat) : ∀ n, fb_ct p m ≤ fb_ct p (m + n)
  | 0 => Nat.le_refl _
  | n + 1 => by
    have h := fb_ct_step p m n
    show fb_ct p m ≤ fb_ct p (m + n + 1)
    rw [fb_ct_succ]
    omega
theorem fb_ct_mono (p : Nat → Bool) {m n : Nat} (h : m ≤ n) : fb_ct p m ≤ fb_ct p n := by
  have := fb_ct_step p m (n - m)
  rwa [Nat.add_sub_cancel' h] at this
theorem fb_ct_cong {p q : Nat → Bool} : ∀ {n : Nat}, (∀ k, k < n → p k = q k) → fb_ct p n = fb_ct q n
  | 0, _ => rfl
  | n + 1, h => by
    rw [fb_ct_succ, fb_ct_succ, fb_ct_cong (fun k hk => h k (by omega)), h n (by omega)]
/-- one place changed -/
theorem fb_ct_out (p : Nat → Bool) (b : Bool) {i n : Nat} (h : n ≤ i) : fb_ct (fun k => if k = i then b else p k) n = fb_ct p n :=
  fb_ct_cong fun k hk => if_neg (by omega)
theorem fb_ct_upd (p : Nat → Bool) (b : Bool) {i : Nat} : ∀ {n : Nat}, i < n → fb_ct (fun k => if k = i then b else p k) n + (if p i then 1 else 0) = fb_ct p n + (if b then 1 else 0)
  | 0, h => absurd h (Nat.not_lt_zero i)
  | n + 1, h => by
    rw [fb_ct_succ, fb_ct_succ]
    rcases Nat.lt_or_ge i n with q | q
    · have := fb_ct_upd p b q
      have e : (if n = i then b else p n) = p n := if_neg (by omega)
      rw [e]
      omega
    · have e : i = n := by omega
      subst e
      rw [fb_ct_out p b (Nat.le_refl _)]
      simp only [if_true]
      omega
theorem fb_ct_sub {p q : Nat → Bool} : ∀ {n : Nat}, (∀ k, k < n → p k = true → q k = true) → fb_ct p n ≤ fb_ct q n
  | 0, _ => Nat.le_refl _
  | n + 1, h => by
    have h1 := fb_ct_sub (n := n) (p := p) (q := q) (fun k hk => h k (by omega))
    have h2 := h n (by omega)
    rw [fb_ct_succ, fb_ct_succ]
    cases hp : p n <;> cases hq : q n <;> simp_all <;> omega
theorem fb_ct_or {p q : Nat → Bool} : ∀ {n : Nat}, (∀ k, k < n → ¬ (p k = true ∧ q k = true)) → fb_ct (fun k => p k || q k) n = fb_ct p n + fb_ct q n
  | 0, _ => rfl
  | n + 1, h => by
    have h1 := fb_ct_or (n := n) (p := p) (q := q) (fun k hk => h k (by omega))
    have h2 := h n (by omega)
    rw [fb_ct_succ, fb_ct_succ, fb_ct_succ, h1]
    cases hp : p n <;> cases hq : q n <;> simp_all <;> omega
theorem fb_ct_not (p : Nat → Bool) : ∀ n, fb_ct p n + fb_ct (fun k => !p k) n = n
  | 0 => rfl
  | n + 1 => by
    have h := fb_ct_not p n
    rw [fb_ct_succ, fb_ct_succ]
    cases p n <;> simp <;> omega
theorem fb_ct_split (p : Nat → Bool) (m : Nat) : ∀ n, fb_ct p (m + n) = fb_ct p m + fb_ct (fun k => p (m + k)) n
  | 0 => rfl
  | n + 1 => by
    have h := fb_ct_split p m n
    show fb_ct p (m + n + 1) = _
    rw [fb_ct_succ, fb_ct_succ, h, Nat.add_assoc]
theorem fb_ct_zero {p : Nat → Bool} : ∀ {n : Nat}, fb_ct p n = 0 ↔ ∀ k, k < n → p k = false
  | 0 => ⟨fun _ k hk => absurd hk (Nat.not_lt_zero k), fun _ => rfl⟩
  | n + 1 => by
    have h := fb_ct_zero (p := p) (n := n)
    rw [fb_ct_succ]
    constructor
    · intro e k hk
      have e1 : fb_ct p n = 0 := by omega
      rcases Nat.lt_or_ge k n with q | q
      · exact h.mp e1 k q
      · have ek : k = n := by omega
        subst ek
        cases hp : p k
        · rfl
        · simp [hp] at e
    · intro a
      rw [h.mpr (fun k hk => a k (by omega)), a n (by omega)]
      rfl
theorem fb_ct_pos {p : Nat → Bool} {n : Nat} : 0 < fb_ct p n ↔ ∃ k, k < n ∧ p k = true := by
  constructor
  · intro h
    refine Classical.byContradiction fun hx => ?_
    have := fb_ct_zero.mpr (fun k hk => by
      cases hp : p k
      · rfl
      · exact absurd ⟨k, hk, hp⟩ hx : ∀ k, k < n → p k = false)
    omega
  · rintro ⟨k, hk, hp⟩
    rcases Nat.eq_zero_or_pos (fb_ct p n) with e | e
    · have := fb_ct_zero.mp e k hk
      rw [this] at hp
      cases hp
    · exact e
theorem fb_ct_all {p : Nat → Bool} {n : Nat} : fb_ct p n = n ↔ ∀ k, k < n → p k = true := by
  have h := fb_ct_not p n
  constructor
  · intro e k hk
    have z : fb_ct (fun k => !p k) n = 0 := by omega
    have := fb_ct_zero.mp z k hk
    cases hp : p k
    · simp [hp] at this
    · rfl
  · intro a
    have z : fb_ct (fun k => !p k) n = 0 := fb_ct_zero.mpr (fun k hk => by simp [a k hk])
    omega
/-- the k-th place with the property -/
theorem fb_ct_kth {p : Nat → Bool} {k : Nat} : ∀ {n : Nat}, k < fb_ct p n → ∃ i, i < n ∧ p i = true ∧ fb_ct p i = k
  | 0, h => absurd h (Nat.not_lt_zero k)
  | n + 1, h => by
    rcases Nat.lt_or_ge k (fb_ct p n) with q | q
    · obtain ⟨i, h1, h2⟩ := fb_ct_kth q
      exact ⟨i, by omega, h2⟩
    · rw [fb_ct_succ] at h
      cases hp : p n
      · simp [hp] at h; omega
      · simp [hp] at h
        exact ⟨n, by omega, hp, by omega⟩
theorem fb_ct_kth_one {p : Nat → Bool} {i j : Nat} (hi : p i = true) (hj : p j = true) (e : fb_ct p i = fb_ct p j) : i = j := by
  have key : ∀ a b : Nat, a < b → p a = true → fb_ct p a < fb_ct p b := by
    intro a b hab ha
    have h := fb_ct_mono p (show a + 1 ≤ b from hab)
    rw [fb_ct_succ, ha] at h
    simp at h
    omega
  rcases Nat.lt_trichotomy i j with q | q | q
  · have := key i j q hi; omega
  · exact q
  · have := key j i q hj; omega
/-! ===== sums over a range: one place changed, parts, bounds ===== -/
/-! ===== the invariants of the reference that are not plain bounds ===== -/
def cnt (n : Nat) (f : Nat → Int) (v : Int) : Nat := fb_ct (fun k => decide (f k = v)) n
theorem cnt_le (n : Nat) (f : Nat → Int) (v : Int) : cnt n f v ≤ n := fb_ct_le _ _
theorem cnt_cong {n : Nat} {f f' : Nat → Int} {v : Int} (h : ∀ k, k < n → f k = f' k) : cnt n f v = cnt n f' v := fb_ct_cong (fun k hk => by simp only [h k hk])
theorem cnt_succ (n : Nat) (f : Nat → Int) (v : Int) : (f n = v ∧ cnt (n + 1) f v = cnt n f v + 1) ∨ (f n ≠ v ∧ cnt (n + 1) f v = cnt n f v) := by
  unfold cnt
  rw [fb_ct_succ]
  by_cases h : f n = v
  · exact Or.inl ⟨h, by simp [h]⟩
  · exact Or.inr ⟨h, by simp [h]⟩
theorem cnt_at (f : Nat → Int) (v : Int) {i i' : Int32} (h0 : 0 ≤ i.toInt) (h : i'.toInt = i.toInt + 1) : (f i.toInt.toNat = v ∧ cnt i'.toInt.toNat f v = cnt i.toInt.toNat f v + 1) ∨ (f i.toInt.toNat ≠ v ∧ cnt i'.toInt.toNat f v = cnt i.toInt.toNat f v) := by
  rw [show i'.toInt.toNat = i.toInt.toNat + 1 by omega]
  exact cnt_succ _ _ _
theorem gs_row (g : gh) (c j : Nat) (z : Int) : gs g c j z c = fun k => if k = j then z else g c k := by
  funext k; simp [gs]
/-- one place of a row is set anew -/
theorem cnt_gs (g : gh) (c : Nat) {j n : Nat} (z v : Int) (hj : j < n) : (g c j = v ∧ z = v ∧ cnt n (gs g c j z c) v = cnt n (g c) v) ∨ (g c j = v ∧ z ≠ v ∧ cnt n (gs g c j z c) v + 1 = cnt n (g c) v) ∨ (g c j ≠ v ∧ z = v ∧ cnt n (gs g c j z c) v = cnt n (g c) v + 1) ∨ (g c j ≠ v ∧ z ≠ v ∧ cnt n (gs g c j z c) v = cnt n (g c) v) := by
  have e : cnt n (gs g c j z c) v = fb_ct (fun k => if k = j then decide (z = v) else decide (g c k = v)) n := by
    unfold cnt; rw [gs_row]; refine fb_ct_cong (fun k _ => ?_)
    by_cases hk : k = j <;> simp [hk]
  have h := fb_ct_upd (fun k => decide (g c k = v)) (decide (z = v)) (i := j) (n := n) hj
  rw [← e] at h
  simp only [decide_eq_true_eq] at h
  change _ = cnt n (g c) v + _ at h
  clear e
  generalize cnt n (gs g c j z c) v = q at h ⊢
  generalize cnt n (g c) v = q2 at h ⊢
  by_cases h1 : g c j = v <;> by_cases h2 : z = v <;> simp only [h1, h2, if_true, if_false] at h
  · exact Or.inl ⟨h1, h2, by omega⟩
  · exact Or.inr (Or.inl ⟨h1, h2, by omega⟩)
  · exact Or.inr (Or.inr (Or.inl ⟨h1, h2, by omega⟩))
  · exact Or.inr (Or.inr (Or.inr ⟨h1, h2, by omega⟩))
theorem cnt_gs_out (g : gh) (c : Nat) {j n : Nat} (z v : Int) (hj : n ≤ j) : cnt n (gs g c j z c) v = cnt n (g c) v := cnt_cong (fun k hk => gs_j _ _ _ _ (by omega))
/-- who gets a week has a number; at most nine wait -/
def IJ (g : gh) : Prop := (∀ j : Nat, g 132 j = 1 ∨ g 132 j = 3 → 0 ≤ g 134 j) ∧ cnt (g 126 0).toNat (g 132) 0 ≤ 9
theorem IJ_cg {g u : gh} (h1 : u 126 0 = g 126 0) (h2 : ∀ j, u 132 j = g 132 j) (h3 : ∀ j, u 134 j = g 134 j) (h : IJ g) : IJ u := by
  refine ⟨fun j hj => ?_, ?_⟩
  · rw [h2 j] at hj; rw [h3 j]; exact h.1 j hj
  · rw [h1, show u 132 = g 132 from funext h2]; exact h.2
theorem IJ_c {g : gh} {c j : Nat} {z : Int} (h1 : c ≠ 126) (h2 : c ≠ 132) (h3 : c ≠ 134) (h : IJ g) : IJ (gs g c j z) :=
  IJ_cg (gs_c _ _ _ _ h1.symm) (fun j => gs_c _ _ _ _ h2.symm) (fun j => gs_c _ _ _ _ h3.symm) h
theorem cnt_dn (g : gh) {j n : Nat} {z : Int} (hz : z ≠ 0) : cnt n (gs g 132 j z 132) 0 ≤ cnt n (g 132) 0 := by
  by_cases hj : j < n
  · have := cnt_gs g 132 z 0 hj; omega
  · rw [cnt_gs_out _ _ _ _ (by omega)]; exact Nat.le_refl _
theorem IJ_how {g : gh} {j : Nat} {z : Int} (hz : z ≠ 0 ∧ z ≠ 1 ∧ z ≠ 3) (h : IJ g) : IJ (gs g 132 j z) := by
  refine ⟨fun k hk => ?_, ?_⟩
  · rw [gs_c _ _ _ _ (by decide)]
    by_cases e : k = j
    · subst e; rw [gs_self] at hk; omega
    · rw [gs_j _ _ _ _ e] at hk; exact h.1 k hk
  · rw [gs_c _ _ _ _ (by decide)]
    exact Nat.le_trans (cnt_dn g hz.1) h.2
theorem IJ_by {g : gh} {j : Nat} {z : Int} (hz : 0 ≤ z) (h : IJ g) : IJ (gs g 134 j z) := by
  refine ⟨fun k hk => ?_, ?_⟩
  · rw [gs_c _ _ _ _ (by decide)] at hk
    by_cases e : k = j
    · subst e; rw [gs_self]; exact hz
    · rw [gs_j _ _ _ _ e]; exact h.1 k hk
  · rw [gs_c _ _ _ _ (by decide), show gs g 134 j z 132 = g 132 from funext fun k => gs_c _ _ _ _ (by decide)]
    exact h.2
theorem IJ_take {g : gh} {j : Nat} {z y : Int} (hz : 0 ≤ z) (hy : y ≠ 0) (h : IJ g) : IJ (gs (gs g 132 j y) 134 j z) := by
  refine ⟨fun k hk => ?_, ?_⟩
  · rw [gs_c _ _ _ _ (by decide)] at hk
    by_cases e : k = j
    · subst e; rw [gs_self]; exact hz
    · rw [gs_j _ _ _ _ e, gs_c _ _ _ _ (by decide)]; rw [gs_j _ _ _ _ e] at hk; exact h.1 k hk
  · rw [gs_c _ _ _ _ (by decide), gs_c _ _ _ _ (by decide), show gs (gs g 132 j y) 134 j z 132 = gs g 132 j y 132 from funext fun k => gs_c _ _ _ _ (by decide)]
    exact Nat.le_trans (cnt_dn g hy) h.2
/-- a new gift waits -/
theorem IJ_give {g u : gh} {n : Nat} (hn : g 126 0 = (n : Int)) (h9 : cnt n (g 132) 0 < 9) (h : IJ g) (h1 : u 126 0 = (n : Int) + 1) (h2 : ∀ j, u 132 j = gs g 132 n 0 132 j) (h3 : ∀ j, j ≠ n → u 134 j = g 134 j) : IJ u := by
  refine ⟨fun k hk => ?_, ?_⟩
  · rw [h2 k] at hk
    by_cases e : k = n
    · subst e; rw [gs_self] at hk; omega
    · rw [gs_j _ _ _ _ e] at hk; rw [h3 k e]; exact h.1 k hk
  · rw [h1, show u 132 = gs g 132 n 0 132 from funext h2, show ((n : Int) + 1).toNat = n + 1 by omega]
    have e := cnt_succ n (gs g 132 n 0 132) 0
    rw [cnt_gs_out g 132 0 0 (Nat.le_refl n)] at e
    omega
theorem cnt_eq {g u : gh} {v : Int} (h1 : u 126 0 = g 126 0) (h2 : ∀ j, u 132 j = g 132 j) : cnt (u 126 0).toNat (u 132) v = cnt (g 126 0).toNat (g 132) v := by
  rw [h1, show u 132 = g 132 from funext h2]
