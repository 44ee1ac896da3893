/-! ===== the reference's search: partial ways ===== -/
/-- a walk from k: n places, none but the first is k, all but the last go on -/
def rg_W (f : Nat → Int) (W k n : Nat) : Prop := 1 ≤ n ∧ ∀ s, s < n → rg_it f s k < W ∧ (1 ≤ s → rg_it f s k ≠ k) ∧ (s + 1 < n → 0 ≤ f (rg_it f s k))
/-- it ends: back at k, or nowhere yet -/
def rg_E (f : Nat → Int) (W k n : Nat) : Prop := rg_W f W k n ∧ (f (rg_it f (n - 1) k) = (k : Int) ∨ f (rg_it f (n - 1) k) < 0)
theorem rg_W_1 {f : Nat → Int} {W k : Nat} (h : k < W) : rg_W f W k 1 := ⟨Nat.le_refl _, fun s hs => by
  obtain rfl : s = 0 := by omega
  exact ⟨h, fun q => absurd q (by omega), fun q => absurd q (by omega)⟩⟩
theorem rg_W_s {f : Nat → Int} {W k n : Nat} {a b : Int} (h : rg_W f W k n) (ha : a = f (rg_it f (n - 1) k)) (h0 : 0 ≤ a) (hk : a ≠ (k : Int)) (hW : a < (W : Int)) (hb : b = f a.toNat) : rg_W f W k (n + 1) ∧ b = f (rg_it f (n + 1 - 1) k) := by
  obtain ⟨h1, h2⟩ := h
  have e : rg_it f n k = a.toNat := by
    obtain ⟨m, rfl⟩ : ∃ m, n = m + 1 := ⟨n - 1, by omega⟩
    rw [rg_it_s, ha, Nat.add_sub_cancel]
  refine ⟨⟨by omega, fun s hs => ?_⟩, by rw [Nat.add_sub_cancel, e]; exact hb⟩
  by_cases q : s = n
  · subst q
    rw [e]
    exact ⟨by omega, fun _ => by omega, fun q => absurd q (by omega)⟩
  · have r := h2 s (by omega)
    refine ⟨r.1, r.2.1, fun q2 => ?_⟩
    by_cases q3 : s + 1 < n
    · exact r.2.2 q3
    · obtain rfl : s = n - 1 := by omega
      rw [← ha]; exact h0
/-- rings that are closed have at most L steps -/
def rg_R (f : Nat → Int) (W L : Nat) : Prop := ∀ i t, i < W → 1 ≤ t → (∀ s, s < t → rg_it f s i < W ∧ 0 ≤ f (rg_it f s i)) → rg_it f t i = i → (∀ s, 1 ≤ s → s < t → rg_it f s i ≠ i) → t ≤ L
theorem rg_it_cg2 {p f : Nat → Int} {i : Nat} : ∀ t, (∀ s, s < t → f (rg_it p s i) = p (rg_it p s i)) → rg_it f t i = rg_it p t i := fun t h => rg_it_cg t h t (Nat.le_refl _)
/-- k chooses: what it closes is short enough -/
theorem rg_R_up {p u : Nat → Int} {W L k n : Nat} (h : rg_R p W L) (hp : p k < 0) (hu : ∀ i, i ≠ k → u i = p i) (hE : rg_E u W k n) (hn : n ≤ L) : rg_R u W L := by
  intro i t hi ht hw hc hmin
  by_cases e : ∃ s, s < t ∧ rg_it u s i = k
  · obtain ⟨s, hs, hk⟩ := e
    -- k's own walk closes with n steps
    have key : ∀ q, 0 ≤ u (rg_it u q k) := by
      have pos : ∀ r, rg_it u r i < W ∧ 0 ≤ u (rg_it u r i) := by
        intro r
        have : ∀ r, ∃ s', s' < t ∧ rg_it u r i = rg_it u s' i := by
          intro r
          induction r with
          | zero => exact ⟨0, by omega, rfl⟩
          | succ r ih =>
            obtain ⟨s', a, b⟩ := ih
            by_cases q : s' + 1 = t
            · exact ⟨0, by omega, by rw [rg_it_s, b, ← rg_it_s, q, hc]; rfl⟩
            · exact ⟨s' + 1, by omega, by rw [rg_it_s, b, ← rg_it_s]⟩
        obtain ⟨s', a, b⟩ := this r
        rw [b]; exact hw s' a
      intro q
      have := (pos (q + s)).2
      rw [rg_it_add, hk] at this
      exact this
    have cl : rg_it u n k = k := by
      obtain ⟨⟨n1, -⟩, hE2⟩ := hE
      obtain ⟨m, rfl⟩ : ∃ m, n = m + 1 := ⟨n - 1, by omega⟩
      rw [Nat.add_sub_cancel] at hE2
      have := key m
      rw [rg_it_s]
      omega
    have back : rg_it u (t - s) k = i := by
      rw [← hk, ← rg_it_add, show t - s + s = t by omega]; exact hc
    have ret : rg_it u n i = i := by
      have q : rg_it u n (rg_it u (t - s) k) = rg_it u (t - s) (rg_it u n k) := by rw [← rg_it_add, ← rg_it_add, Nat.add_comm]
      rw [back, cl, back] at q
      exact q
    have : ¬ n < t := fun q => hmin n hE.1.1 q ret
    omega
  · have ne : ∀ s, s < t → rg_it u s i ≠ k := fun s hs q => e ⟨s, hs, q⟩
    have eq : ∀ s, s ≤ t → rg_it p s i = rg_it u s i := by
      intro s hs
      exact rg_it_cg2 s (fun r hr => (hu _ (ne r (by omega))).symm)
    refine h i t hi ht (fun s hs => ?_) (by rw [eq t (Nat.le_refl _)]; exact hc) (fun s h1 h2 => by rw [eq s (by omega)]; exact hmin s h1 h2)
    rw [eq s (by omega), ← hu _ (ne s hs)]
    exact hw s hs
/-- k gets none: nothing is closed -/
theorem rg_R_none {p u : Nat → Int} {W L k : Nat} (h : rg_R p W L) (hk : u k < 0) (hu : ∀ i, i ≠ k → u i = p i) : rg_R u W L := by
  intro i t hi ht hw hc hmin
  have ne : ∀ s, s < t → rg_it u s i ≠ k := fun s hs q => by have := (hw s hs).2; rw [q] at this; omega
  have eq : ∀ s, s ≤ t → rg_it p s i = rg_it u s i := by
    intro s hs
    exact rg_it_cg2 s (fun r hr => (hu _ (ne r (by omega))).symm)
  refine h i t hi ht (fun s hs => ?_) (by rw [eq t (Nat.le_refl _)]; exact hc) (fun s h1 h2 => by rw [eq s (by omega)]; exact hmin s h1 h2)
  rw [eq s (by omega), ← hu _ (ne s hs)]
  exact hw s hs
theorem rg_R_0 {f : Nat → Int} {W L : Nat} (h : ∀ i, i < W → f i < 0) : rg_R f W L := fun i t hi ht hw _ _ => by
  have q := hw 0 (by omega)
  have := h _ q.1
  omega
theorem rg_R_cg {f u : Nat → Int} {W L : Nat} (h : rg_R f W L) (e : ∀ i, u i = f i) : rg_R u W L := by
  have : u = f := funext e
  rw [this]; exact h
/-- the least number of which something holds -/
theorem rg_min {P : Nat → Prop} : ∀ t, 1 ≤ t → P t → ∃ m, 1 ≤ m ∧ m ≤ t ∧ P m ∧ ∀ s, 1 ≤ s → s < m → ¬ P s := by
  intro t
  induction t using Nat.strongRecOn with
  | ind t ih =>
    intro ht hp
    by_cases e : ∃ s, 1 ≤ s ∧ s < t ∧ P s
    · obtain ⟨s, a, b, c⟩ := e
      obtain ⟨m, m1, m2, m3, m4⟩ := ih s b a c
      exact ⟨m, m1, by omega, m3, m4⟩
    · exact ⟨t, ht, Nat.le_refl _, hp, fun s a b c => e ⟨s, a, b, c⟩⟩
/-- all have chosen: it is a way -/
theorem rg_full {f : Nat → Int} {n L : Nat} {su : Nat → Nat → Prop} (h1 : ∀ i, i < n → f i = -1 ∨ (0 ≤ f i ∧ f i < (n : Int) ∧ su i (f i).toNat)) (h2 : ∀ i j, i < n → j < n → 0 ≤ f i → f i = f j → i = j) (h3 : ∀ i, i < n → 0 ≤ f i → 0 ≤ f (f i).toNat) (hR : rg_R f n L) : rg_V n su L f := by
  refine ⟨h1, h2, h3, fun i hi h0 => ?_⟩
  obtain ⟨t, t1, -, t3⟩ := rg_back (fun i hi h0 => by rcases h1 i hi with e | e; omega; exact e.2.1) h2 h3 hi h0
  obtain ⟨m, m1, -, m3, m4⟩ := rg_min (P := fun s => rg_it f s i = i) t t1 t3
  have stay : ∀ s, rg_it f s i < n ∧ 0 ≤ f (rg_it f s i) := by
    intro s
    induction s with
    | zero => exact ⟨hi, h0⟩
    | succ s ih =>
      rw [rg_it_s]
      have := h1 _ ih.1
      exact ⟨by omega, h3 _ ih.1 ih.2⟩
  exact ⟨m, m1, hR i m hi m1 (fun s _ => stay s) m3 m4, m3⟩
/-- what is cut can't be completed: a walk that is too long -/
theorem rg_cut1 {p f : Nat → Int} {W L k n : Nat} {su : Nat → Nat → Prop} (hV : rg_V W su L f) (hk : k < W) (hW : rg_W p W k n) (hn : L < n) (hon : ∀ i, i < W → 0 ≤ p i → f i = p i) (h0 : 0 ≤ f k) : False := by
  obtain ⟨t, t1, t2, t3⟩ := hV.2.2.2 k hk h0
  have := rg_short (p := p) (f := f) (k := k) (m := n) (L := L) (fun s hs => hon _ (hW.2 s (by omega)).1 ((hW.2 s (by omega)).2.2 hs)) (fun s a b => (hW.2 s b).2.1 a) t1 t2 t3
  omega
/-- a walk from one that nobody gets, too long -/
theorem rg_cut2 {p f : Nat → Int} {W L i m : Nat} {su : Nat → Nat → Prop} (hV : rg_V W su L f) (hi : i < W) (hno : ∀ j, j < W → p j ≠ (i : Int)) (hw : ∀ s, s + 1 < m → rg_it p s i < W ∧ 0 ≤ p (rg_it p s i)) (hm : L < m) (h2 : 2 ≤ m) (hon : ∀ j, j < W → 0 ≤ p j → f j = p j) : False := by
  have q := hw 0 (by omega)
  have h0 : 0 ≤ f i := by rw [hon i hi q.2]; exact q.2
  obtain ⟨t, t1, t2, t3⟩ := hV.2.2.2 i hi h0
  have := rg_short (p := p) (f := f) (k := i) (m := m) (L := L) (fun s hs => hon _ (hw s hs).1 (hw s hs).2) (rg_start hno hw) t1 t2 t3
  omega
/-- what the search has found: nothing new among ways that there are none of -/
theorem rg_S_skip {n : Nat} {w af bf : Nat → Int} {P Q : (Nat → Int) → Prop} {am aw bm bw : Int} (h : rg_S n w P am aw af bm bw bf) (e : ∀ f, Q f ↔ P f) : rg_S n w Q am aw af bm bw bf := by
  obtain ⟨a, b, c⟩ := h
  refine ⟨a, fun f hf => b f ((e f).mp hf), ?_⟩
  rcases c with c | ⟨c1, c2, c3, c4, c5⟩
  · exact Or.inl c
  · exact Or.inr ⟨(e bf).mpr c1, c2, c3, c4, fun f hf => c5 f ((e f).mp hf)⟩
theorem rg_S_cg {n : Nat} {w w' af af' bf bf' : Nat → Int} {P : (Nat → Int) → Prop} {am aw bm bw am' aw' bm' bw' : Int} (h : rg_S n w P am aw af bm bw bf) (e1 : am' = am) (e2 : aw' = aw) (e3 : af' = af) (e4 : bm' = bm) (e5 : bw' = bw) (e6 : bf' = bf) (e7 : w' = w) : rg_S n w' P am' aw' af' bm' bw' bf' := by
  subst e1 e2 e3 e4 e5 e6 e7; exact h
/-- ways are the same where their places are -/
theorem rg_V_cg {n L : Nat} {su : Nat → Nat → Prop} {f g : Nat → Int} (h : rg_V n su L f) (e : ∀ i, i < n → g i = f i) : rg_V n su L g := by
  have stay : ∀ i, i < n → 0 ≤ f i → ∀ s, rg_it f s i < n ∧ 0 ≤ f (rg_it f s i) ∧ rg_it g s i = rg_it f s i := by
    intro i hi h0 s
    induction s with
    | zero => exact ⟨hi, h0, rfl⟩
    | succ s ih =>
      rw [rg_it_s, rg_it_s, ih.2.2, e _ ih.1]
      have := h.1 _ ih.1
      exact ⟨by omega, h.2.2.1 _ ih.1 ih.2.1, rfl⟩
  refine ⟨fun i hi => by rw [e i hi]; exact h.1 i hi, fun i j hi hj h0 hij => ?_, fun i hi h0 => ?_, fun i hi h0 => ?_⟩
  · rw [e i hi] at h0 hij; rw [e j hj] at hij; exact h.2.1 i j hi hj h0 hij
  · rw [e i hi] at h0 ⊢
    have := h.1 i hi
    rw [e _ (by omega)]; exact h.2.2.1 i hi h0
  · rw [e i hi] at h0
    obtain ⟨t, t1, t2, t3⟩ := h.2.2.2 i hi h0
    exact ⟨t, t1, t2, by rw [(stay i hi h0 t).2.2]; exact t3⟩
/-- all that is found by the whole search is the best, and of the best the first -/
theorem rg_top {n L : Nat} {su : Nat → Nat → Prop} {w af bf : Nat → Int} {bm bw : Int} (hw : ∀ i, i < n → 0 ≤ w i) (h : rg_S n w (rg_V n su L) (-1) (-1) af bm bw bf) : rg_B n su L w bf ∧ bm = rg_c bf n ∧ bw = rg_w w bf n := by
  have h0 : rg_V n su L (fun _ => -1) := ⟨fun i hi => Or.inl rfl, fun i j hi hj h0 => absurd (show (0 : Int) ≤ -1 from h0) (by decide), fun i hi h0 => absurd (show (0 : Int) ≤ -1 from h0) (by decide), fun i hi h0 => absurd (show (0 : Int) ≤ -1 from h0) (by decide)⟩
  have c0 : ∀ m, rg_c (fun _ => (-1 : Int)) m = 0 := by
    intro m
    induction m with
    | zero => rfl
    | succ m ih => unfold rg_c; rw [ih]; rfl
  obtain ⟨a, b, c⟩ := h
  have q := b _ h0
  rw [c0 n] at q
  rcases c with ⟨e1, -, -⟩ | ⟨c1, c2, c3, c4, c5⟩
  · unfold rg_le at q; omega
  · refine ⟨⟨c1, fun f' hf' => ?_⟩, c2.symm, c3.symm⟩
    have r := b f' hf'
    unfold rg_le at r
    rw [c2, c3]
    by_cases e1 : rg_c f' n < bm
    · exact Or.inl e1
    · by_cases e2 : rg_w w f' n < bw
      · exact Or.inr (Or.inl ⟨by omega, e2⟩)
      · exact Or.inr (Or.inr ⟨by omega, by omega, c5 f' hf' (by omega) (by omega)⟩)
