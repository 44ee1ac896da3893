/-! ===== the table by sets, whole ===== -/
/-- the least place of a set -/
def lo9 (T : Nat) : Nat := if T.testBit 0 then 0 else if T.testBit 1 then 1 else if T.testBit 2 then 2 else if T.testBit 3 then 3 else if T.testBit 4 then 4 else if T.testBit 5 then 5 else if T.testBit 6 then 6 else if T.testBit 7 then 7 else 8
theorem lo9_all : ∀ T, T < 512 → T ≠ 0 → T.testBit (lo9 T) = true ∧ ∀ i, i < 9 → T.testBit i = true → lo9 T ≤ i := by decide +kernel
theorem tb_hi {T i n : Nat} (h : T < 2 ^ n) (hi : T.testBit i = true) : i < n := by
  refine Nat.not_le.mp (fun q => ?_)
  rw [Nat.testBit_lt_two_pow (Nat.lt_of_lt_of_le h (Nat.pow_le_pow_right (by decide) q))] at hi
  cases hi
theorem p2_9 {n : Nat} (h : n ≤ 9) : 2 ^ n ≤ 512 := Nat.pow_le_pow_right (by decide) h
theorem lo9_ok {T n : Nat} (hn : n ≤ 9) (h : T < 2 ^ n) (h0 : T ≠ 0) : T.testBit (lo9 T) = true ∧ ∀ i, T.testBit i = true → lo9 T ≤ i := by
  have q := lo9_all T (Nat.lt_of_lt_of_le h (p2_9 hn)) h0
  exact ⟨q.1, fun i hi => q.2 i (by have := tb_hi h hi; omega) hi⟩
theorem sq_m_pos {x : Nat → Nat} {t : Nat} : sq_m x t ≠ 0 := fun e => by
  have := (sq_tb (x := x) (i := x 0) t).mpr ⟨0, Nat.zero_le _, rfl⟩
  rw [e, Nat.zero_testBit] at this
  cases this
theorem sq_lo {n : Nat} {su : Nat → Nat → Bool} {x : Nat → Nat} {t : Nat} (hn : n ≤ 9) (h : sq_ok n su x t) : lo9 (sq_m x t) = x 0 := by
  have hl := sq_lt (n := n) h.1
  obtain ⟨a, b⟩ := lo9_ok hn hl sq_m_pos
  have c := b (x 0) ((sq_tb t).mpr ⟨0, Nat.zero_le _, rfl⟩)
  obtain ⟨s, s1, s2⟩ := (sq_tb t).mp a
  by_cases e : s = 0
  · rw [← s2, e]
  · have := h.2.2.2 s (by omega) s1; omega
theorem sq_m_cg {x y : Nat → Nat} : ∀ t, (∀ s, s ≤ t → x s = y s) → sq_m x t = sq_m y t := by
  intro t
  induction t with
  | zero => intro h; unfold sq_m; rw [h 0 (Nat.le_refl _)]
  | succ t ih => intro h; unfold sq_m; rw [ih (fun s hs => h s (by omega)), h (t + 1) (Nat.le_refl _)]
theorem sq_c_cg {x y : Nat → Nat} : ∀ t, (∀ s, s ≤ t → x s = y s) → sq_c x t = sq_c y t := by
  intro t
  induction t with
  | zero => intro h; rfl
  | succ t ih => intro h; unfold sq_c; rw [ih (fun s hs => h s (by omega)), h (t + 1) (Nat.le_refl _), h t (by omega)]
/-- a path and one place more -/
theorem sq_ext {n : Nat} {su : Nat → Nat → Bool} {x : Nat → Nat} {t y : Nat} (h : sq_ok n su x t) (hy : y < n) (hT : (sq_m x t).testBit y = false) (hs : su (x t) y = true) (h0 : x 0 < y) : ∃ x', sq_ok n su x' (t + 1) ∧ sq_m x' (t + 1) = sq_m x t ||| 2 ^ y ∧ x' (t + 1) = y ∧ sq_c x' (t + 1) = sq_c x t + (y : Int) * dp_D (x t) := by
  have no : ∀ s, s ≤ t → x s ≠ y := fun s hs' e => by
    rw [(sq_tb t).mpr ⟨s, hs', e⟩] at hT; cases hT
  refine ⟨fun s => if s ≤ t then x s else y, ⟨fun s hs' => ?_, fun s s' h1 h2 => ?_, fun s hs' => ?_, fun s h1 h2 => ?_⟩, ?_, ?_, ?_⟩
  · dsimp only; split
    · exact h.1 s (by omega)
    · exact hy
  · dsimp only
    rw [if_pos (show s ≤ t by omega)]
    split
    · exact h.2.1 s s' h1 (by omega)
    · exact no s (by omega)
  · dsimp only
    rw [if_pos (show s ≤ t by omega)]
    by_cases e : s + 1 ≤ t
    · rw [if_pos e]; exact h.2.2.1 s (by omega)
    · rw [if_neg e]
      obtain rfl : s = t := by omega
      exact hs
  · dsimp only
    rw [if_pos (Nat.zero_le _)]
    split
    · exact h.2.2.2 s h1 (by omega)
    · exact h0
  · show sq_m _ t ||| 2 ^ (if t + 1 ≤ t then x (t + 1) else y) = _
    rw [if_neg (by omega), sq_m_cg (x := fun s => if s ≤ t then x s else y) (y := x) t (fun s hs' => if_pos hs')]
  · exact if_neg (by omega)
  · show sq_c _ t + ((if t + 1 ≤ t then x (t + 1) else y : Nat) : Int) * dp_D (if t ≤ t then x t else y) = _
    rw [if_neg (show ¬ t + 1 ≤ t by omega), if_pos (Nat.le_refl t), sq_c_cg (x := fun s => if s ≤ t then x s else y) (y := x) t (fun s hs' => if_pos hs')]
def dd_all (n : Nat) (su : Nat → Nat → Bool) (L : Int) (R Q : Nat → Int) : Nat → (Nat → Int) × (Nat → Int)
  | 0 => (R, Q)
  | T + 1 => if T = 0 ∨ L < bcz T then dd_all n su L R Q T else dd_go n su T (lo9 T) (dd_all n su L R Q T).1 (dd_all n su L R Q T).2 n
def dp_S (n : Nat) (su : Nat → Nat → Bool) (P : Nat → Int) : Prop := ∀ S y, S < 2 ^ n → y < n → P (S * 9 + y) ≠ dp_N → ∃ x t, sq_ok n su x t ∧ sq_m x t = S ∧ x t = y ∧ sq_c x t = P (S * 9 + y)
def dp_C (n : Nat) (su : Nat → Nat → Bool) (L : Int) (P : Nat → Int) (T : Nat) : Prop := ∀ x t, sq_ok n su x t → (t = 0 ∨ (sq_m x (t - 1) < T ∧ (t : Int) ≤ L)) → P (sq_m x t * 9 + x t) ≤ sq_c x t
def dp_RS (n : Nat) (su : Nat → Nat → Bool) (L : Int) (Q : Nat → Int) (T : Nat) : Prop := ∀ S, S < 2 ^ n → Q S ≠ dp_N → S < T ∧ ∃ x t, sq_ok n su x t ∧ su (x t) (x 0) = true ∧ sq_m x t = S ∧ (t : Int) + 1 ≤ L ∧ Q S = sq_c x t + (x 0 : Int) * dp_D (x t)
def dp_RC (n : Nat) (su : Nat → Nat → Bool) (L : Int) (Q : Nat → Int) (T : Nat) : Prop := ∀ x t, sq_ok n su x t → su (x t) (x 0) = true → (t : Int) + 1 ≤ L → sq_m x t < T → Q (sq_m x t) ≤ sq_c x t + (x 0 : Int) * dp_D (x t)
theorem dd_inv {n : Nat} {su : Nat → Nat → Bool} {L : Int} {R Q : Nat → Int} (hn : n ≤ 9) (h1 : dp_S n su R) (h2 : dp_C n su L R 0) (h3 : ∀ S, S < 2 ^ n → Q S = dp_N) : ∀ T, T ≤ 2 ^ n → dp_S n su (dd_all n su L R Q T).1 ∧ dp_C n su L (dd_all n su L R Q T).1 T ∧ dp_RS n su L (dd_all n su L R Q T).2 T ∧ dp_RC n su L (dd_all n su L R Q T).2 T := by
  intro T
  induction T with
  | zero => intro _; exact ⟨h1, h2, fun S hS hq => absurd (h3 S hS) hq, fun x t _ _ _ h => absurd h (Nat.not_lt_zero _)⟩
  | succ T ih =>
    intro hT
    obtain ⟨i1, i2, i3, i4⟩ := ih (by omega)
    by_cases e : T = 0 ∨ L < bcz T
    · have eq : dd_all n su L R Q (T + 1) = dd_all n su L R Q T := by
        show (if _ then _ else _) = _
        rw [if_pos e]
      rw [eq]
      refine ⟨i1, fun x t hx ht => ?_, fun S hS hq => ?_, fun x t hx hc ht hm => ?_⟩
      · by_cases t0 : t = 0
        · exact i2 x t hx (Or.inl t0)
        · have q := ht.resolve_left t0
          obtain ⟨t', rfl⟩ : ∃ t', t = t' + 1 := ⟨t - 1, by omega⟩
          rw [Nat.add_sub_cancel] at q
          refine i2 x (t' + 1) hx (Or.inr ⟨?_, q.2⟩)
          rw [Nat.add_sub_cancel]
          by_cases e0 : sq_m x t' = T
          · exfalso
            rcases e with e | e
            · exact sq_m_pos (e0.trans e)
            · have b := sq_bc hn t' (sq_ok_le hx)
              rw [e0] at b
              have q2 := q.2
              omega
          · omega
      · obtain ⟨a, b⟩ := i3 S hS hq
        exact ⟨by omega, b⟩
      · refine i4 x t hx hc ht ?_
        by_cases e0 : sq_m x t = T
        · exfalso
          rcases e with e | e
          · exact sq_m_pos (e0.trans e)
          · have b := sq_bc hn t hx
            rw [e0] at b
            omega
        · omega
    · have eq : dd_all n su L R Q (T + 1) = dd_go n su T (lo9 T) (dd_all n su L R Q T).1 (dd_all n su L R Q T).2 n := by
        show (if _ then _ else _) = _
        rw [if_neg e]
      rw [eq]
      have hT0 : T ≠ 0 := fun q => e (Or.inl q)
      have hTb : bcz T ≤ L := Int.not_lt.mp (fun q => e (Or.inr q))
      have hTn : T < 2 ^ n := by omega
      obtain ⟨l1, l2⟩ := lo9_ok hn hTn hT0
      obtain ⟨g1, g2, g3, g4, g5, g6⟩ := dd_go_all (su := su) (T := T) (a := lo9 T) (R := (dd_all n su L R Q T).1) (Q := (dd_all n su L R Q T).2) hn n (Nat.le_refl _)
      generalize hP : (dd_all n su L R Q T).1 = P at *
      generalize hQ : (dd_all n su L R Q T).2 = K at *
      -- paths of T are known
      have known : ∀ x t, sq_ok n su x t → sq_m x t = T → P (T * 9 + x t) ≤ sq_c x t ∧ P (T * 9 + x t) ≠ dp_N := by
        intro x t hx hm
        have hb := sq_bc hn t hx
        rw [hm] at hb
        have q := i2 x t hx (by
          by_cases t0 : t = 0
          · exact Or.inl t0
          · obtain ⟨t', rfl⟩ : ∃ t', t = t' + 1 := ⟨t - 1, by omega⟩
            refine Or.inr ⟨?_, by omega⟩
            rw [Nat.add_sub_cancel, ← hm]
            exact sq_up (fun s hs => hx.2.1 s (t' + 1) (by omega) (Nat.le_refl _)))
        rw [hm] at q
        have r := sq_c_le hn hx
        exact ⟨q, fun e9 => by rw [e9] at q; unfold dp_N at q; omega⟩
      refine ⟨fun S y hS hy hq => ?_, fun x t hx ht => ?_, fun S hS hq => ?_, fun x t hx hc ht hm => ?_⟩
      · rcases g4 (S * 9 + y) with c | ⟨x0, y0, c1, c2, c3, c4, c5, c6, c7, c8, c9⟩
        · rw [c] at hq ⊢; exact i1 S y hS hy hq
        · obtain ⟨rfl, rfl⟩ : S = T ||| 2 ^ y0 ∧ y = y0 := by omega
          obtain ⟨x, t, x1, x2, x3, x4⟩ := i1 T x0 hTn c1 c3
          have x0e : x 0 = lo9 T := by rw [← x2]; exact (sq_lo hn x1).symm
          obtain ⟨x', z1, z2, z3, z4⟩ := sq_ext x1 c4 (by rw [x2]; exact c7) (by rw [x3]; exact c6) (by rw [x0e]; exact c5)
          exact ⟨x', t + 1, z1, by rw [z2, x2], z3, by rw [z4, x3, x4, c9]⟩
      · by_cases t0 : t = 0
        · exact Int.le_trans (g2 _) (i2 x t hx (Or.inl t0))
        · obtain ⟨t', rfl⟩ : ∃ t', t = t' + 1 := ⟨t - 1, by omega⟩
          have ht := ht.resolve_left t0
          rw [Nat.add_sub_cancel] at ht
          by_cases e0 : sq_m x t' = T
          · have hx' := sq_ok_le hx
            obtain ⟨k1, k2⟩ := known x t' hx' e0
            have xl := sq_lo hn hx'
            rw [e0] at xl
            have no : T.testBit (x (t' + 1)) = false := by
              rw [← e0]; exact sq_no (fun s hs => hx.2.1 s (t' + 1) (by omega) (Nat.le_refl _))
            have q := g3 (x t') (x (t' + 1)) (hx'.1 t' (Nat.le_refl _)) (l2 _ (by rw [← e0]; exact (sq_tb t').mpr ⟨t', Nat.le_refl _, rfl⟩)) k2 (hx.1 _ (Nat.le_refl _)) (by rw [xl]; exact hx.2.2.2 (t' + 1) (by omega) (Nat.le_refl _)) (hx.2.2.1 t' (by omega)) no
            show _ ≤ sq_c x t' + (x (t' + 1) : Int) * dp_D (x t')
            show (dd_go n su T (lo9 T) P K n).1 ((sq_m x t' ||| 2 ^ x (t' + 1)) * 9 + x (t' + 1)) ≤ _
            rw [e0]
            omega
          · exact Int.le_trans (g2 _) (i2 x (t' + 1) hx (Or.inr ⟨by rw [Nat.add_sub_cancel]; omega, ht.2⟩))
      · rcases g6 S with c | ⟨rfl, x0, c1, c2, c3, c4, c5⟩
        · rw [c] at hq ⊢
          obtain ⟨a, b⟩ := i3 S hS hq
          exact ⟨by omega, b⟩
        · obtain ⟨x, t, x1, x2, x3, x4⟩ := i1 S x0 hTn c1 c3
          have x0e : x 0 = lo9 S := by rw [← x2]; exact (sq_lo hn x1).symm
          have hb := sq_bc hn t x1
          rw [x2] at hb
          exact ⟨Nat.lt_succ_self _, x, t, x1, by rw [x3, x0e]; exact c4, x2, by omega, by rw [c5, x4, x3, x0e]⟩
      · by_cases e0 : sq_m x t = T
        · obtain ⟨k1, k2⟩ := known x t hx e0
          have xl := sq_lo hn hx
          rw [e0] at xl
          have q := g5 (x t) (hx.1 t (Nat.le_refl _)) (l2 _ (by rw [← e0]; exact (sq_tb t).mpr ⟨t, Nat.le_refl _, rfl⟩)) k2 (by rw [xl]; exact hc)
          rw [e0, ← xl]
          omega
        · rcases g6 (sq_m x t) with c | ⟨c, -⟩
          · rw [c]; exact i4 x t hx hc ht (by omega)
          · exact absurd c e0
