/-! ===== what the reference's choice finds ===== -/
/-- the walk from one that nobody gets, so far -/
def EW (f : Nat → Int) (W i n : Nat) (a : Int) : Prop := (∀ s, s + 1 < n → rg_it f s i < W ∧ 0 ≤ f (rg_it f s i)) ∧ (n = 0 → a = (i : Int)) ∧ (1 ≤ n → rg_it f (n - 1) i < W ∧ a = f (rg_it f (n - 1) i))
theorem EW_0 {f : Nat → Int} {W i n : Nat} {a : Int} (hn : n = 0) (ha : a = (i : Int)) : EW f W i n a := by
  subst hn
  exact ⟨fun s h => absurd h (by omega), fun _ => ha, fun h => absurd h (by omega)⟩
theorem EW_s {f : Nat → Int} {W i n n' : Nat} {a b : Int} (h : EW f W i n a) (hn : n' = n + 1) (h0 : 0 ≤ a) (hW : a < (W : Int)) (hb : b = f a.toNat) : EW f W i n' b := by
  subst hn
  have e : rg_it f n i = a.toNat := by
    rcases Nat.eq_zero_or_pos n with q | q
    · rw [h.2.1 q, q, Int.toNat_natCast]; rfl
    · obtain ⟨m, rfl⟩ : ∃ m, n = m + 1 := ⟨n - 1, by omega⟩
      rw [rg_it_s, (h.2.2 q).2]; rfl
  refine ⟨fun s hs => ?_, fun q => absurd q (by omega), fun _ => ?_⟩
  · rcases Nat.lt_or_ge (s + 1) n with l | l
    · exact h.1 s l
    · obtain rfl : n = s + 1 := by omega
      have := h.2.2 (by omega)
      rw [Nat.add_sub_cancel] at this
      exact ⟨this.1, by rw [← this.2]; exact h0⟩
  · rw [Nat.add_sub_cancel, e]; exact ⟨by omega, hb⟩
/-- what suits among those that wait -/
def su_w (wi fl wk ty si wt : Nat → Int) (i j : Nat) : Prop := i ≠ j ∧ mm_b wi (wt i).toNat (ty (fl (wt j).toNat).toNat) (si (fl (wt j).toNat).toNat) (wk (wt j).toNat) ≠ 0
def CP (f : Nat → Int) (su : Nat → Nat → Prop) (w : Nat → Int) (W k L : Nat) (many lost all : Int) : Prop :=
  rg_R f W L ∧ (∀ i, i < k → 0 ≤ f i → su i (f i).toNat) ∧ many = rg_c f k ∧ lost = rg_l w f k ∧ all = rg_a w W ∧ (∀ i, i < W → 0 ≤ w i ∧ w i ≤ 29997)
section CHS
variable {f u w p : Nat → Int} {su : Nat → Nat → Prop} {W n k L m : Nat} {many lost all j j' : Int} {g : gh}
theorem rg_l_b : ∀ k, (∀ i, i < k → 0 ≤ w i ∧ w i ≤ 29997) → 0 ≤ rg_l w f k ∧ rg_l w f k ≤ 29997 * k := by
  intro k
  induction k with
  | zero => exact fun _ => ⟨Int.le_refl _, Int.le_refl _⟩
  | succ k ih =>
    intro h
    have := ih (fun i hi => h i (by omega)); have := h k (by omega)
    unfold rg_l; split <;> omega
theorem rg_a_b : ∀ k, (∀ i, i < k → 0 ≤ w i ∧ w i ≤ 29997) → 0 ≤ rg_a w k ∧ rg_a w k ≤ 29997 * k := by
  intro k
  induction k with
  | zero => exact fun _ => ⟨Int.le_refl _, Int.le_refl _⟩
  | succ k ih =>
    intro h
    have := ih (fun i hi => h i (by omega)); have := h k (by omega)
    unfold rg_a; omega
theorem CP_b (h : CP f su w W k L many lost all) (hk : k ≤ W) : 0 ≤ lost ∧ lost ≤ 29997 * k ∧ 0 ≤ all ∧ all ≤ 29997 * W := by
  obtain ⟨-, -, -, h4, h5, h6⟩ := h
  have a := rg_l_b (f := f) k (fun i hi => h6 i (by omega)); have b := rg_a_b W h6
  rw [h4, h5]; exact ⟨a.1, a.2, b.1, b.2⟩
theorem rg_up_s {z : Int} : rg_up f k z k = z := if_pos rfl
theorem rg_up_n {z : Int} {i : Nat} (h : i ≠ k) : rg_up f k z i = f i := if_neg h
theorem CP_get (h : CP f su w W k L many lost all) (hf : f k < 0) {J : Nat} (hu : u = rg_up f k (J : Int)) (hs : su k J) (hE : rg_E u W k m) (hn : m ≤ L) {many' : Int} (hm : many' = many + 1) : CP u su w W (k + 1) L many' lost all := by
  obtain ⟨h1, h2, h3, h4, h5, h6⟩ := h
  have un : ∀ i, i ≠ k → u i = f i := fun i hi => by rw [hu]; exact rg_up_n hi
  have uk : u k = (J : Int) := by rw [hu]; exact rg_up_s
  refine ⟨rg_R_up h1 hf un hE hn, fun i hi h0 => ?_, ?_, ?_, h5, h6⟩
  · rcases Nat.lt_or_ge i k with l | l
    · rw [un i (by omega)] at h0 ⊢; exact h2 i l h0
    · obtain rfl : i = k := by omega
      rw [uk, Int.toNat_natCast]; exact hs
  · unfold rg_c; rw [uk, if_pos (by omega), rg_c_cg k (fun i hi => un i (by omega)), hm, h3]
  · unfold rg_l; rw [uk, if_pos (by omega), rg_l_cg k (fun i hi => un i (by omega)), h4, Int.add_zero]
theorem CP_none (h : CP f su w W k L many lost all) (hu : u = rg_up f k (-1)) {lost' : Int} (hl : lost' = lost + w k) : CP u su w W (k + 1) L many lost' all := by
  obtain ⟨h1, h2, h3, h4, h5, h6⟩ := h
  have un : ∀ i, i ≠ k → u i = f i := fun i hi => by rw [hu]; exact rg_up_n hi
  have uk : u k = -1 := by rw [hu]; exact rg_up_s
  refine ⟨rg_R_none h1 (by omega) un, fun i hi h0 => ?_, ?_, ?_, h5, h6⟩
  · rcases Nat.lt_or_ge i k with l | l
    · rw [un i (by omega)] at h0 ⊢; exact h2 i l h0
    · obtain rfl : i = k := by omega
      omega
  · unfold rg_c; rw [uk, if_neg (by omega), rg_c_cg k (fun i hi => un i (by omega)), h3, Int.add_zero]
  · unfold rg_l; rw [uk, if_neg (by omega), rg_l_cg k (fun i hi => un i (by omega)), hl, h4]
variable {am aw bm bw cm cw : Int} {af bf cf : Nat → Int}
theorem ch_V (hC : CH g n n) (hP : CP (g 138) su w n n L many lost all) : rg_V n su L (g 138) :=
  rg_full (fun i hi => by
    have a := hC.1 i hi
    by_cases c : 0 ≤ g 138 i
    · exact Or.inr ⟨c, a.2, hP.2.1 i hi c⟩
    · exact Or.inl (by omega)) (fun i j hi hj h0 e => hC.2.2.1 i j hi hj e h0) (fun i hi h0 => (hC.2.2.2.2 _ (by have := hC.1 i hi; omega) (hC.2.2.2.1 i hi h0)).2 (by have := hC.1 i hi; omega)) hP.1
theorem ch_leaf (hC : CH g n n) (hP : CP (g 138) su w n n L many lost all) (hb : ∀ i, i < n → bf i = g 138 i) (h1 : bm = many) (h2 : bw = all - lost) (h : ¬ rg_le bm bw am aw) : rg_S n w (rg_P n su L n (g 138)) am aw af bm bw bf :=
  rg_leaf (ch_V hC hP) hb (by rw [h1, hP.2.2.1]) (by rw [h2, hP.2.2.2.1, hP.2.2.2.2.1]) h (rg_V_cg (ch_V hC hP) hb)
theorem ch_J0 (hj : j = 0) : rg_S n w (rg_J n su L k p j) am aw af am aw af := by
  subst hj
  exact rg_S_none (fun f h => absurd h.2.2 (by have := h.2.1; omega))
theorem ch_no (h : rg_S n w (rg_J n su L k p j) am aw af bm bw bf) (hj : 0 ≤ j) (hj' : j' = j + 1) (no : ∀ f, rg_V n su L f → rg_on k p f → f k = j → False) : rg_S n w (rg_J n su L k p j') am aw af bm bw bf := by
  subst hj'
  refine rg_S_skip h (fun f => (rg_J_s hj f).trans ⟨fun q => ?_, Or.inl⟩)
  rcases q with q | ⟨q1, q2⟩
  · exact q
  · exact absurd (rg_on_up.mp q2) (fun q => no f q1 q.1 q.2)
theorem no_self (hk : k < n) (irr : ∀ i, ¬ su i i) (hj : j = (k : Int)) : ∀ f, rg_V n su L f → rg_on k p f → f k = j → False := fun f hV _ e => by
  rcases hV.1 k hk with q | q
  · omega
  · exact irr k (by have := q.2.2; rw [e, hj, Int.toNat_natCast] at this; exact this)
theorem no_got (hC : CH g n k) (hk : k < n) {J : Nat} (hJ : J < n) (hj : j = (J : Int)) (h : g 140 J = 1) : ∀ f, rg_V n su L f → rg_on k (g 138) f → f k = j → False := fun f hV hon e => by
  obtain ⟨⟨i, i1, i2⟩, -⟩ := hC.2.2.2.2 J hJ h
  have := hV.2.1 i k (by omega) hk (by rw [hon i i1, i2]; omega) (by rw [hon i i1, i2, e, hj])
  omega
theorem no_none (hk : k < n) {J : Nat} (hJ : J < k) (hj : j = (J : Int)) (h : p J = -1) : ∀ f, rg_V n su L f → rg_on k p f → f k = j → False := fun f hV hon e => by
  have := hV.2.2.1 k hk (by omega)
  rw [e, hj, Int.toNat_natCast, hon J hJ, h] at this; omega
theorem no_meet (hk : k < n) {J : Nat} (hj : j = (J : Int)) (h : ¬ su k J) : ∀ f, rg_V n su L f → rg_on k p f → f k = j → False := fun f hV hon e => by
  rcases hV.1 k hk with q | q
  · omega
  · exact h (by have := q.2.2; rw [e, hj, Int.toNat_natCast] at this; exact this)
theorem ch_on (hC : CH g n k) (hu : u = rg_up (g 138) k j) (hon : rg_on k (g 138) f) (e : f k = j) : ∀ i, i < n → 0 ≤ u i → f i = u i := fun i hi h0 => by
  rcases Nat.lt_trichotomy i k with l | l | l
  · rw [hu, rg_up_n (by omega)]; exact hon i l
  · rw [l, hu, rg_up_s]; exact e
  · rw [hu, rg_up_n (by omega), hC.2.1 i (by omega) hi] at h0; omega
theorem no_short (hC : CH g n k) (hk : k < n) (hj : 0 ≤ j) (hu : u = rg_up (g 138) k j) (hE : rg_E u n k m) (hm : L < m) : ∀ f, rg_V n su L f → rg_on k (g 138) f → f k = j → False := fun f hV hon e =>
  rg_cut1 hV hk hE.1 hm (ch_on hC hu hon e) (by omega)
theorem no_even (hC : CH g n k) (hu : u = rg_up (g 138) k j) (h : ∃ i m, i < n ∧ (∀ j, j < n → u j ≠ (i : Int)) ∧ (∀ s, s + 1 < m → rg_it u s i < n ∧ 0 ≤ u (rg_it u s i)) ∧ L < m ∧ 2 ≤ m) : ∀ f, rg_V n su L f → rg_on k (g 138) f → f k = j → False := fun f hV hon e => by
  obtain ⟨i, m, a, b, c, d, d2⟩ := h
  exact rg_cut2 hV a b c d d2 (ch_on hC hu hon e)
theorem rg_P_cg {f f' : Nat → Int} (hk : k ≤ n) (e : ∀ i, i < n → f i = f' i) (h : rg_P n su L k p f) : rg_P n su L k p f' := ⟨rg_V_cg h.1 (fun i hi => (e i hi).symm), fun i hi => by rw [← e i (by omega)]; exact h.2 i hi⟩
theorem rg_J_cg {f f' : Nat → Int} (hk : k < n) (e : ∀ i, i < n → f i = f' i) (h : rg_J n su L k p j f) : rg_J n su L k p j f' := ⟨rg_P_cg (by omega) e h.1, by rw [← e k hk]; exact h.2.1, by rw [← e k hk]; exact h.2.2⟩
theorem ch_rec (hk : k < n) (h : rg_S n w (rg_J n su L k p j) am aw af bm bw bf) (h' : rg_S n w (rg_P n su L (k + 1) (rg_up p k j)) bm bw bf cm cw cf) (hj : 0 ≤ j) (hj' : j' = j + 1) : rg_S n w (rg_J n su L k p j') am aw af cm cw cf := by
  subst hj'
  refine rg_S_or h h' (rg_J_s hj) (fun f q hf hq => ?_) (fun f f' e => rg_J_cg hk e)
  obtain ⟨q1, q2⟩ := rg_on_up.mp hq.2
  exact rg_lt_no hf.1.2 q1 (by unfold rg_k; have := hf.2.1; have := hf.2.2; rw [if_neg (by omega), if_neg (by omega)]; omega)
theorem ch_end (hk : k < n) (hn : n ≤ 9) (hj : j = (n : Int)) (h : rg_S n w (rg_J n su L k p j) am aw af bm bw bf) (h' : rg_S n w (rg_P n su L (k + 1) (rg_up p k (-1))) bm bw bf cm cw cf) : rg_S n w (rg_P n su L k p) am aw af cm cw cf := by
  subst hj
  refine rg_S_or h h' (rg_J_all hk) (fun f q hf hq => ?_) (fun f f' e => rg_J_cg hk e)
  obtain ⟨q1, q2⟩ := rg_on_up.mp hq.2
  exact rg_lt_no hf.1.2 q1 (by unfold rg_k; have := hf.2.1; have := hf.2.2; rw [if_neg (by omega), if_pos (by omega)]; omega)
theorem ch_endn (hC : CH g n k) (hk : k < n) (hj : j = (n : Int)) (hg : g 140 k = 1) (h : rg_S n w (rg_J n su L k (g 138) j) am aw af bm bw bf) : rg_S n w (rg_P n su L k (g 138)) am aw af bm bw bf := by
  subst hj
  refine rg_S_skip h (fun f => (rg_J_all hk f).trans ⟨fun q => ?_, Or.inl⟩)
  rcases q with q | ⟨q1, q2⟩
  · exact q
  · obtain ⟨r1, r2⟩ := rg_on_up.mp q2
    obtain ⟨⟨i, i1, i2⟩, -⟩ := hC.2.2.2.2 k hk hg
    have := q1.2.2.1 i (by omega) (by rw [r1 i i1, i2]; omega)
    rw [r1 i i1, i2, Int.toNat_natCast, r2] at this
    omega
end CHS
