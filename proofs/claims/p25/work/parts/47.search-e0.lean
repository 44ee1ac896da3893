/-! ===== what a swap does ===== -/
def SW (m : Nat → Nat) (p ow : Nat → Int) (P : Nat → Prop) (s0 g0 b0 s g b : Nat → Int) : Prop :=
  (∀ i, P i → 0 ≤ p i → s (m i) = 1 ∧ g (m i) = (m (p i).toNat : Int) ∧ b (m (p i).toNat) = ow (m i)) ∧
  (∀ x, (∀ i, P i → 0 ≤ p i → m i ≠ x) → s x = s0 x ∧ g x = g0 x) ∧
  (∀ x, (∀ i, P i → 0 ≤ p i → m (p i).toNat ≠ x) → b x = b0 x)
section SWS
variable {m : Nat → Nat} {p ow : Nat → Int} {P P' : Nat → Prop} {s0 g0 b0 s g b : Nat → Int} {k : Nat}
theorem SW_0 (h : ∀ i, ¬ P i) : SW m p ow P s0 g0 b0 s0 g0 b0 := ⟨fun i hi => absurd hi (h i), fun x _ => ⟨rfl, rfl⟩, fun x _ => rfl⟩
theorem SW_cg (h : SW m p ow P s0 g0 b0 s g b) (e : ∀ i, P' i ↔ P i) : SW m p ow P' s0 g0 b0 s g b :=
  ⟨fun i hi => h.1 i ((e i).mp hi), fun x hx => h.2.1 x (fun i hi => hx i ((e i).mpr hi)), fun x hx => h.2.2 x (fun i hi => hx i ((e i).mpr hi))⟩
theorem SW_no (h : SW m p ow P s0 g0 b0 s g b) (e : ∀ i, P' i ↔ P i ∨ i = k) (hk : p k < 0) : SW m p ow P' s0 g0 b0 s g b := by
  refine ⟨fun i hi h0 => ?_, fun x hx => h.2.1 x (fun i hi => hx i ((e i).mpr (Or.inl hi))), fun x hx => h.2.2 x (fun i hi => hx i ((e i).mpr (Or.inl hi)))⟩
  rcases (e i).mp hi with q | q
  · exact h.1 i q h0
  · rw [q] at h0; omega
theorem SW_up {s' g' b' : Nat → Int} (h : SW m p ow P s0 g0 b0 s g b) (e : ∀ i, P' i ↔ P i ∨ i = k) (hk : 0 ≤ p k) (h1 : ∀ i, P i → 0 ≤ p i → m i ≠ m k) (h2 : ∀ i, P i → 0 ≤ p i → m (p i).toNat ≠ m (p k).toNat) (es : s' = pz_up s (m k) 1) (eg : g' = pz_up g (m k) (m (p k).toNat : Int)) (eb : b' = pz_up b (m (p k).toNat) (ow (m k))) : SW m p ow P' s0 g0 b0 s' g' b' := by
  subst es eg eb
  refine ⟨fun i hi h0 => ?_, fun x hx => ?_, fun x hx => ?_⟩
  · rcases (e i).mp hi with q | q
    · obtain ⟨a, b, c⟩ := h.1 i q h0
      exact ⟨by rw [pz_up_n (h1 i q h0)]; exact a, by rw [pz_up_n (h1 i q h0)]; exact b, by rw [pz_up_n (h2 i q h0)]; exact c⟩
    · subst q; exact ⟨pz_up_s, pz_up_s, pz_up_s⟩
  · have n := hx k ((e k).mpr (Or.inr rfl)) hk
    obtain ⟨a, b⟩ := h.2.1 x (fun i hi => hx i ((e i).mpr (Or.inl hi)))
    exact ⟨by rw [pz_up_n (fun q => n q.symm)]; exact a, by rw [pz_up_n (fun q => n q.symm)]; exact b⟩
  · have n := hx k ((e k).mpr (Or.inr rfl)) hk
    rw [pz_up_n (fun q => n q.symm)]
    exact h.2.2 x (fun i hi => hx i ((e i).mpr (Or.inl hi)))
end SWS
/-- a swap, gift by gift: F says who gets what -/
def SWF (F ow s0 g0 b0 s g b : Nat → Int) : Prop :=
  (∀ x, s x = if 0 ≤ F x then 1 else s0 x) ∧ (∀ x, g x = if 0 ≤ F x then F x else g0 x) ∧ (∀ y, 0 ≤ F y → b (F y).toNat = ow y) ∧ (∀ x, (∀ y, 0 ≤ F y → (F y).toNat ≠ x) → b x = b0 x)
/-- the best way among places is the best way among gifts, and so is what is done -/
theorem rg_fin {n G L : Nat} {m : Nat → Nat} {su : Nat → Nat → Prop} {w p ow s0 g0 b0 s g b : Nat → Int} (hn9 : n ≤ 1000) (hG9 : G ≤ 1000) (hm : ∀ i j, i < j → j < n → m i < m j) (hG : ∀ i, i < n → m i < G) (hs : ∀ x y, x < G → su x y → ∃ i, i < n ∧ m i = x) (hB : rg_B n (fun i j => su (m i) (m j)) L (fun i => w (m i)) p) (hS : SW m p ow (fun i => i < n) s0 g0 b0 s g b) : ∃ F, rg_B G su L w F ∧ (∀ x, G ≤ x → F x = -1) ∧ rg_c F G = rg_c p n ∧ SWF F ow s0 g0 b0 s g b := by
  have ex : ∀ x : Nat, ∃ z : Int, (∃ i, i < n ∧ m i = x ∧ 0 ≤ p i ∧ z = (m (p i).toNat : Int)) ∨ ((∀ i, i < n → m i = x → p i < 0) ∧ z = -1) := by
    intro x
    by_cases e : ∃ i, i < n ∧ m i = x ∧ 0 ≤ p i
    · obtain ⟨i, a, b, c⟩ := e
      exact ⟨_, Or.inl ⟨i, a, b, c, rfl⟩⟩
    · exact ⟨-1, Or.inr ⟨fun i a b => Int.not_le.mp (fun c => e ⟨i, a, b, c⟩), rfl⟩⟩
  obtain ⟨F, hF⟩ := Classical.axiomOfChoice ex
  have inj : ∀ i j, i < n → j < n → m i = m j → i = j := fun i j hi hj e => by
    rcases Nat.lt_trichotomy i j with q | q | q
    · have := hm i j q hj; omega
    · exact q
    · have := hm j i q hi; omega
  have f1 : ∀ i, i < n → p i < 0 → F (m i) = -1 := fun i hi h => by
    rcases hF (m i) with ⟨j, a, b, c, d⟩ | ⟨-, d⟩
    · rw [inj j i a hi b] at c; omega
    · exact d
  have f2 : ∀ i, i < n → 0 ≤ p i → F (m i) = (m (p i).toNat : Int) := fun i hi h => by
    rcases hF (m i) with ⟨j, a, b, c, d⟩ | ⟨e, -⟩
    · rw [inj j i a hi b] at d; exact d
    · have := e i hi rfl; omega
  have f3 : ∀ x, (∀ i, i < n → m i ≠ x) → F x = -1 := fun x h => by
    rcases hF x with ⟨j, a, b, -, -⟩ | ⟨-, d⟩
    · exact absurd b (h j a)
    · exact d
  have f4 : ∀ x, 0 ≤ F x → ∃ i, i < n ∧ m i = x ∧ 0 ≤ p i ∧ F x = (m (p i).toNat : Int) := fun x h => by
    rcases hF x with ⟨j, a, b, c, d⟩ | ⟨-, d⟩
    · exact ⟨j, a, b, c, d⟩
    · omega
  obtain ⟨B1, B2⟩ := rg_lift hn9 hG9 hm hG hs f1 f2 (fun x _ h => f3 x h) hB
  refine ⟨F, B1, fun x hx => f3 x (fun i hi e => by have := hG i hi; omega), B2, fun x => ?_, fun x => ?_, fun y h => ?_, fun x hx => ?_⟩
  · by_cases c : 0 ≤ F x
    · obtain ⟨i, a, b, d, -⟩ := f4 x c
      rw [if_pos c, ← b]; exact (hS.1 i a d).1
    · rw [if_neg c]
      exact (hS.2.1 x (fun i hi h0 e => c (by rw [← e, f2 i hi h0]; omega))).1
  · by_cases c : 0 ≤ F x
    · obtain ⟨i, a, b, d, e⟩ := f4 x c
      rw [if_pos c, e, ← b]; exact (hS.1 i a d).2.1
    · rw [if_neg c]
      exact (hS.2.1 x (fun i hi h0 e => c (by rw [← e, f2 i hi h0]; omega))).2
  · obtain ⟨i, a, b, d, e⟩ := f4 y h
    rw [e, Int.toNat_natCast, ← b]; exact (hS.1 i a d).2.2
  · refine hS.2.2 x (fun i hi h0 e => ?_)
    exact hx (m i) (by rw [f2 i hi h0]; omega) (by rw [f2 i hi h0, Int.toNat_natCast]; exact e)
/-- two swaps by one way are one -/
theorem SWF_un {G : Nat} {F F' ow ow' s0 g0 b0 s g b s0' g0' b0' s' g' b' : Nat → Int} (h : SWF F ow s0 g0 b0 s g b) (h' : SWF F' ow' s0' g0' b0' s' g' b') (e : ∀ x, x < G → F x = F' x) (e1 : ∀ x, G ≤ x → F x = -1) (e2 : ∀ x, G ≤ x → F' x = -1) (eo : ow = ow') (es : s0 = s0') (eg : g0 = g0') (eb : b0 = b0') : s = s' ∧ g = g' ∧ b = b' := by
  obtain rfl : F = F' := funext fun x => by
    by_cases c : x < G
    · exact e x c
    · rw [e1 x (by omega), e2 x (by omega)]
  subst eo es eg eb
  refine ⟨funext fun x => by rw [h.1 x, h'.1 x], funext fun x => by rw [h.2.1 x, h'.2.1 x], funext fun x => ?_⟩
  by_cases c : ∃ y, 0 ≤ F y ∧ (F y).toNat = x
  · obtain ⟨y, y1, y2⟩ := c
    rw [← y2, h.2.2.1 y y1, h'.2.2.1 y y1]
  · rw [h.2.2.2 x (fun y a b => c ⟨y, a, b⟩), h'.2.2.2 x (fun y a b => c ⟨y, a, b⟩)]
theorem div10 {x y z : Int32} (h : z = x / y) (hy : y.toInt = 10) (hx : 0 ≤ x.toInt) : z.toInt = x.toInt / 10 := by
  have hl := Int32.toInt_lt x
  rw [h, Int32.toInt_div, hy, Int.tdiv_eq_ediv_of_nonneg hx]
  exact ty_bm (by omega) (by omega)
theorem rem10 {x y z : Int32} (h : z = x - x / y * y) (hy : y.toInt = 10) (hx : 0 ≤ x.toInt) : z.toInt = x.toInt % 10 := by
  have hl := Int32.toInt_lt x
  have hd := div10 (x := x) (y := y) (z := x / y) rfl hy hx
  have hm : (x / y * y).toInt = x.toInt / 10 * 10 := by
    rw [Int32.toInt_mul, hd, hy]; exact ty_bm (by omega) (by omega)
  rw [h, Int32.toInt_sub, hm, ty_bm (by omega) (by omega)]
  omega
theorem dig_s {W : Int} {k : Nat} : W / 10 ^ k / 10 = W / 10 ^ (k + 1) := by
  have p : (0 : Int) < 10 ^ k := Int.pow_pos (by decide)
  rw [Int.ediv_ediv, if_neg (fun q => absurd q.1 (by omega)), Int.pow_succ, Int.sub_zero]
/-- the digit of a place -/
theorem dig_p {p : Nat → Int} {n b : Nat} {W : Int} (hn : n ≤ 9) (hb : b < 2 ^ n) (h1 : ∀ i, i < n → (0 ≤ p i ↔ b.testBit i = true)) (h2 : ∀ i, i < n → p i < (n : Int)) (hW : wy_c p b n = W) {i : Nat} (hi : i < n) (hc : b.testBit i = true) : W / 10 ^ (8 - i) % 10 = p i := by
  have key := dg9 (e := fun i => if b.testBit i then p i else 0) (N := W) (fun i hi => by
    by_cases c : b.testBit i = true
    · rw [if_pos c]
      have l := tb_hi hb c
      have := (h1 i l).mpr c; have := h2 i l; omega
    · rw [if_neg c]; decide) (by
    rw [← hW]
    unfold wy_c
    rw [← ms_ext hb 9 hn]
    have : ∀ m, ms (fun i => p i * dp_D i) b m = rg_s (fun i => (if b.testBit i = true then p i else 0) * dp_D i) m := by
      intro m
      induction m with
      | zero => rfl
      | succ m ih =>
        unfold ms rg_s
        rw [ih]
        by_cases c : b.testBit m = true
        · rw [if_pos c, if_pos c]
        · rw [if_neg c, if_neg c]; omega
    exact this 9) i (by omega)
  rw [key, if_pos hc]
