/-! ===== rings: who gets whom; the best way, and of the best the first ===== -/
/-- the place after t steps -/
def rg_it (f : Nat → Int) : Nat → Nat → Nat
  | 0, i => i
  | t + 1, i => rg_it f t (f i).toNat
theorem rg_it_s (f : Nat → Int) : ∀ (t i : Nat), rg_it f (t + 1) i = (f (rg_it f t i)).toNat := by
  intro t
  induction t with
  | zero => intro i; rfl
  | succ t ih => intro i; exact ih (f i).toNat
theorem rg_it_add (f : Nat → Int) : ∀ (s t i : Nat), rg_it f (s + t) i = rg_it f s (rg_it f t i) := by
  intro s t
  induction t with
  | zero => intro i; rfl
  | succ t ih => intro i; exact ih (f i).toNat
/-- a way: each gets one that suits it, or none; no one is got twice; who gets none is got by none; back in at most L steps -/
def rg_V (n : Nat) (su : Nat → Nat → Prop) (L : Nat) (f : Nat → Int) : Prop :=
  (∀ i, i < n → f i = -1 ∨ (0 ≤ f i ∧ f i < (n : Int) ∧ su i (f i).toNat)) ∧
  (∀ i j, i < n → j < n → 0 ≤ f i → f i = f j → i = j) ∧
  (∀ i, i < n → 0 ≤ f i → 0 ≤ f (f i).toNat) ∧
  (∀ i, i < n → 0 ≤ f i → ∃ t, 1 ≤ t ∧ t ≤ L ∧ rg_it f t i = i)
/-- how many of the first n get one; what these are worth -/
def rg_c (f : Nat → Int) : Nat → Int
  | 0 => 0
  | n + 1 => rg_c f n + if 0 ≤ f n then 1 else 0
def rg_w (w : Nat → Int) (f : Nat → Int) : Nat → Int
  | 0 => 0
  | n + 1 => rg_w w f n + if 0 ≤ f n then w n else 0
def rg_k (z : Int) : Int := if z < 0 then 1000 else z
/-- f comes before f' -/
def rg_lt (n : Nat) (f f' : Nat → Int) : Prop := ∃ k, k < n ∧ (∀ i, i < k → f i = f' i) ∧ rg_k (f k) < rg_k (f' k)
def rg_B (n : Nat) (su : Nat → Nat → Prop) (L : Nat) (w : Nat → Int) (f : Nat → Int) : Prop :=
  rg_V n su L f ∧ ∀ f', rg_V n su L f' → rg_c f' n < rg_c f n ∨ (rg_c f' n = rg_c f n ∧ rg_w w f' n < rg_w w f n) ∨ (rg_c f' n = rg_c f n ∧ rg_w w f' n = rg_w w f n ∧ ¬ rg_lt n f' f)
theorem rg_first {f f' : Nat → Int} : ∀ n, (∀ i, i < n → f i = f' i) ∨ ∃ k, k < n ∧ (∀ i, i < k → f i = f' i) ∧ f k ≠ f' k := by
  intro n
  induction n with
  | zero => exact Or.inl (fun i h => absurd h (Nat.not_lt_zero _))
  | succ n ih =>
    rcases ih with h | ⟨k, h1, h2, h3⟩
    · by_cases e : f n = f' n
      · refine Or.inl (fun i hi => ?_)
        by_cases e2 : i = n
        · rw [e2]; exact e
        · exact h i (by omega)
      · exact Or.inr ⟨n, Nat.lt_succ_self _, h, e⟩
    · exact Or.inr ⟨k, by omega, h2, h3⟩
/-- there is one best way alone -/
theorem rg_un {n L : Nat} {su : Nat → Nat → Prop} {w f f' : Nat → Int} (hn : n ≤ 1000) (h : rg_B n su L w f) (h' : rg_B n su L w f') : ∀ i, i < n → f i = f' i := by
  have q := h.2 f' h'.1
  have q' := h'.2 f h.1
  have a1 : ¬ rg_lt n f' f ∧ ¬ rg_lt n f f' := by
    rcases q with q | q | q <;> rcases q' with q' | q' | q' <;> first | (exfalso; omega) | exact ⟨q.2.2, q'.2.2⟩
  rcases rg_first (f := f) (f' := f') n with e | ⟨k, h1, h2, h3⟩
  · exact e
  · exfalso
    have b1 := h.1.1 k h1
    have b2 := h'.1.1 k h1
    have c1 : ¬ rg_k (f' k) < rg_k (f k) := fun c => a1.1 ⟨k, h1, fun i hi => (h2 i hi).symm, c⟩
    have c2 : ¬ rg_k (f k) < rg_k (f' k) := fun c => a1.2 ⟨k, h1, h2, c⟩
    unfold rg_k at c1 c2
    have d1 : f k = -1 ∨ (0 ≤ f k ∧ f k < 1000) := by rcases b1 with e | e; exact Or.inl e; exact Or.inr ⟨e.1, by omega⟩
    have d2 : f' k = -1 ∨ (0 ≤ f' k ∧ f' k < 1000) := by rcases b2 with e | e; exact Or.inl e; exact Or.inr ⟨e.1, by omega⟩
    split at c1 <;> split at c1 <;> omega
/-! the search: what a partial choice may still become -/
/-- f goes on from what the first k have chosen -/
def rg_on (k : Nat) (p f : Nat → Int) : Prop := ∀ i, i < k → f i = p i
/-- a value is not above another -/
def rg_le (c w c' w' : Int) : Prop := c < c' ∨ (c = c' ∧ w ≤ w')
/-- what the search has found (bm, bw, bf) of all ways that P names, when it had (am, aw, af) before -/
def rg_S (n : Nat) (w : Nat → Int) (P : (Nat → Int) → Prop) (am aw : Int) (af : Nat → Int) (bm bw : Int) (bf : Nat → Int) : Prop :=
  rg_le am aw bm bw ∧ (∀ f, P f → rg_le (rg_c f n) (rg_w w f n) bm bw) ∧
  ((bm = am ∧ bw = aw ∧ ∀ i, i < n → bf i = af i) ∨
   (P bf ∧ rg_c bf n = bm ∧ rg_w w bf n = bw ∧ ¬ rg_le bm bw am aw ∧ ∀ f, P f → rg_c f n = bm → rg_w w f n = bw → ¬ rg_lt n f bf))
theorem rg_S_none {n : Nat} {w af : Nat → Int} {P : (Nat → Int) → Prop} {am aw : Int} (h : ∀ f, P f → rg_le (rg_c f n) (rg_w w f n) am aw) : rg_S n w P am aw af am aw af := ⟨Or.inr ⟨rfl, Int.le_refl _⟩, h, Or.inl ⟨rfl, rfl, fun _ _ => rfl⟩⟩
theorem rg_c_cg {f g : Nat → Int} : ∀ n, (∀ i, i < n → f i = g i) → rg_c f n = rg_c g n := by
  intro n
  induction n with
  | zero => intro _; rfl
  | succ n ih => intro h; unfold rg_c; rw [ih (fun i hi => h i (by omega)), h n (Nat.lt_succ_self _)]
theorem rg_w_cg {w f g : Nat → Int} : ∀ n, (∀ i, i < n → f i = g i) → rg_w w f n = rg_w w g n := by
  intro n
  induction n with
  | zero => intro _; rfl
  | succ n ih => intro h; unfold rg_w; rw [ih (fun i hi => h i (by omega)), h n (Nat.lt_succ_self _)]
theorem rg_lt_cg {n : Nat} {f g g' : Nat → Int} (h : ∀ i, i < n → g i = g' i) (q : rg_lt n f g) : rg_lt n f g' := by
  obtain ⟨k, h1, h2, h3⟩ := q
  exact ⟨k, h1, fun i hi => (h2 i hi).trans (h i (by omega)), by rw [← h k h1]; exact h3⟩
theorem rg_le_tr {a b c d e f : Int} (h : rg_le a b c d) (h' : rg_le c d e f) : rg_le a b e f := by unfold rg_le at *; omega
/-- first the ways of P, then those of Q, none of which comes before one of P -/
theorem rg_S_or {n : Nat} {w af bf cf : Nat → Int} {P Q R : (Nat → Int) → Prop} {am aw bm bw cm cw : Int} (h : rg_S n w P am aw af bm bw bf) (h' : rg_S n w Q bm bw bf cm cw cf) (hR : ∀ f, R f ↔ P f ∨ Q f) (hlt : ∀ f g, P f → Q g → ¬ rg_lt n g f) (hP : ∀ f g, (∀ i, i < n → f i = g i) → P f → P g) : rg_S n w R am aw af cm cw cf := by
  obtain ⟨h1, h2, h3⟩ := h
  obtain ⟨k1, k2, k3⟩ := h'
  refine ⟨rg_le_tr h1 k1, fun f hf => ?_, ?_⟩
  · rcases (hR f).mp hf with q | q
    · exact rg_le_tr (h2 f q) k1
    · exact k2 f q
  · rcases k3 with ⟨e1, e2, e3⟩ | ⟨q1, q2, q3, q4, q5⟩
    · rcases h3 with ⟨d1, d2, d3⟩ | ⟨d1, d2, d3, d4, d5⟩
      · exact Or.inl ⟨e1.trans d1, e2.trans d2, fun i hi => (e3 i hi).trans (d3 i hi)⟩
      · refine Or.inr ⟨(hR cf).mpr (Or.inl (hP bf cf (fun i hi => (e3 i hi).symm) d1)), ?_, ?_, ?_, fun f hf c1 c2 c3 => ?_⟩
        · rw [rg_c_cg n e3, d2, e1]
        · rw [rg_w_cg n e3, d3, e2]
        · rw [e1, e2]; exact d4
        · have c3 := rg_lt_cg e3 c3
          rcases (hR f).mp hf with q | q
          · exact d5 f q (c1.trans e1) (c2.trans e2) c3
          · exact hlt bf f d1 q c3
    · refine Or.inr ⟨(hR cf).mpr (Or.inr q1), q2, q3, fun c => q4 (rg_le_tr c h1), fun f hf c1 c2 => ?_⟩
      rcases (hR f).mp hf with q | q
      · exact absurd (show rg_le cm cw bm bw by rw [← c1, ← c2]; exact h2 f q) q4
      · exact q5 f q c1 c2
/-- the ways that go on from p's first k -/
def rg_P (n : Nat) (su : Nat → Nat → Prop) (L k : Nat) (p f : Nat → Int) : Prop := rg_V n su L f ∧ rg_on k p f
/-- what all of the first n are worth; what those of the first n are worth that get none -/
def rg_a (w : Nat → Int) : Nat → Int
  | 0 => 0
  | n + 1 => rg_a w n + w n
def rg_l (w : Nat → Int) (f : Nat → Int) : Nat → Int
  | 0 => 0
  | n + 1 => rg_l w f n + if 0 ≤ f n then 0 else w n
theorem rg_wl (w f : Nat → Int) : ∀ n, rg_w w f n = rg_a w n - rg_l w f n := by
  intro n
  induction n with
  | zero => rfl
  | succ n ih => unfold rg_w rg_a rg_l; split <;> omega
theorem rg_l_cg {w f g : Nat → Int} : ∀ n, (∀ i, i < n → f i = g i) → rg_l w f n = rg_l w g n := by
  intro n
  induction n with
  | zero => intro _; rfl
  | succ n ih => intro h; unfold rg_l; rw [ih (fun i hi => h i (by omega)), h n (Nat.lt_succ_self _)]
/-- at most all of the rest get one, and if all do nothing more is lost -/
theorem rg_rest {w f : Nat → Int} {k : Nat} : ∀ n, k ≤ n → rg_c f n ≤ rg_c f k + ((n : Int) - k) ∧ (rg_c f n = rg_c f k + ((n : Int) - k) → rg_l w f n = rg_l w f k) := by
  intro n
  induction n with
  | zero =>
    intro h
    obtain rfl : k = 0 := by omega
    exact ⟨by simp, fun _ => rfl⟩
  | succ n ih =>
    intro h
    by_cases e : k = n + 1
    · subst e; exact ⟨by omega, fun _ => rfl⟩
    · obtain ⟨h1, h2⟩ := ih (by omega)
      have e1 : rg_c f (n + 1) = rg_c f n + if 0 ≤ f n then 1 else 0 := rfl
      have e2 : rg_l w f (n + 1) = rg_l w f n + if 0 ≤ f n then 0 else w n := rfl
      rw [e1, e2]
      split
      · exact ⟨by omega, fun q => by rw [h2 (by omega)]; omega⟩
      · exact ⟨by omega, fun q => by exfalso; omega⟩
/-- nothing that goes on from here is better -/
theorem rg_prune {n L k : Nat} {su : Nat → Nat → Prop} {w p : Nat → Int} {bm bw : Int} (hk : k ≤ n) (h : rg_c p k + ((n : Int) - k) < bm ∨ (rg_c p k + ((n : Int) - k) = bm ∧ rg_a w n - rg_l w p k ≤ bw)) : ∀ f, rg_P n su L k p f → rg_le (rg_c f n) (rg_w w f n) bm bw := by
  intro f hf
  have e1 := rg_c_cg k hf.2
  have e2 := rg_l_cg (w := w) k hf.2
  obtain ⟨q1, q2⟩ := rg_rest (w := w) (f := f) (k := k) n hk
  rw [rg_wl]
  unfold rg_le
  by_cases e : rg_c f n = rg_c f k + ((n : Int) - k)
  · have := q2 e; omega
  · omega
/-- all have chosen, and it is better than what was found -/
theorem rg_leaf {n L : Nat} {su : Nat → Nat → Prop} {w p af bf : Nat → Int} {am aw bm bw : Int} (hV : rg_V n su L p) (hb : ∀ i, i < n → bf i = p i) (h1 : bm = rg_c p n) (h2 : bw = rg_a w n - rg_l w p n) (h : ¬ rg_le bm bw am aw) (hcg : rg_V n su L bf) : rg_S n w (rg_P n su L n p) am aw af bm bw bf := by
  have hp : ∀ f, rg_P n su L n p f → rg_c f n = bm ∧ rg_w w f n = bw := fun f hf => by
    rw [rg_c_cg n hf.2, rg_wl, rg_l_cg n hf.2, h1, h2]; exact ⟨rfl, rfl⟩
  have hB : rg_P n su L n p bf := ⟨hcg, hb⟩
  refine ⟨?_, fun f hf => ?_, Or.inr ⟨hB, (hp bf hB).1, (hp bf hB).2, h, fun f hf _ _ q => ?_⟩⟩
  · unfold rg_le at h ⊢; omega
  · rw [(hp f hf).1, (hp f hf).2]; exact Or.inr ⟨rfl, Int.le_refl _⟩
  · obtain ⟨k, k1, k2, k3⟩ := q
    rw [hf.2 k k1, hb k k1] at k3
    exact absurd k3 (Int.lt_irrefl _)
/-- one who has chosen less comes first -/
theorem rg_lt_no {n k : Nat} {p f g : Nat → Int} (hf : rg_on k p f) (hg : rg_on k p g) (h : rg_k (f k) < rg_k (g k)) : ¬ rg_lt n g f := by
  rintro ⟨m, m1, m2, m3⟩
  rcases Nat.lt_trichotomy m k with e | e | e
  · rw [hf m e, hg m e] at m3; exact absurd m3 (Int.lt_irrefl _)
  · subst e; omega
  · rw [m2 k e] at h; exact absurd h (Int.lt_irrefl _)
/-- what k may choose: the ways by what it gets, those below j first, none behind all -/
def rg_up (p : Nat → Int) (k : Nat) (z : Int) : Nat → Int := fun i => if i = k then z else p i
def rg_J (n : Nat) (su : Nat → Nat → Prop) (L k : Nat) (p : Nat → Int) (j : Int) (f : Nat → Int) : Prop := rg_P n su L k p f ∧ 0 ≤ f k ∧ f k < j
theorem rg_on_up {k : Nat} {p f : Nat → Int} {z : Int} : rg_on (k + 1) (rg_up p k z) f ↔ rg_on k p f ∧ f k = z := by
  constructor
  · intro h
    refine ⟨fun i hi => ?_, ?_⟩
    · rw [h i (by omega)]; unfold rg_up; rw [if_neg (by omega)]
    · rw [h k (Nat.lt_succ_self _)]; unfold rg_up; rw [if_pos rfl]
  · rintro ⟨h1, h2⟩ i hi
    unfold rg_up
    by_cases e : i = k
    · rw [if_pos e, e]; exact h2
    · rw [if_neg e]; exact h1 i (by omega)
theorem rg_J_s {n L k : Nat} {su : Nat → Nat → Prop} {p : Nat → Int} {j : Int} (hj : 0 ≤ j) : ∀ f, rg_J n su L k p (j + 1) f ↔ rg_J n su L k p j f ∨ rg_P n su L (k + 1) (rg_up p k j) f := by
  intro f
  unfold rg_J rg_P
  rw [rg_on_up]
  constructor
  · rintro ⟨h1, h2, h3⟩
    by_cases e : f k = j
    · exact Or.inr ⟨h1.1, h1.2, e⟩
    · exact Or.inl ⟨h1, h2, by omega⟩
  · rintro (⟨h1, h2, h3⟩ | ⟨h1, h2, h3⟩)
    · exact ⟨h1, h2, by omega⟩
    · exact ⟨⟨h1, h2⟩, by omega, by omega⟩
theorem rg_J_all {n L k : Nat} {su : Nat → Nat → Prop} {p : Nat → Int} (hk : k < n) : ∀ f, rg_P n su L k p f ↔ rg_J n su L k p (n : Int) f ∨ rg_P n su L (k + 1) (rg_up p k (-1)) f := by
  intro f
  unfold rg_J rg_P
  rw [rg_on_up]
  constructor
  · rintro ⟨h1, h2⟩
    rcases h1.1 k hk with e | e
    · exact Or.inr ⟨h1, h2, e⟩
    · exact Or.inl ⟨⟨h1, h2⟩, e.1, e.2.1⟩
  · rintro (⟨h1, -, -⟩ | ⟨h1, h2, -⟩)
    · exact h1
    · exact ⟨h1, h2⟩
/-! what isShort and isEven cut can't be completed -/
theorem rg_it_cg {p f : Nat → Int} {k : Nat} : ∀ m, (∀ s, s < m → f (rg_it p s k) = p (rg_it p s k)) → ∀ s, s ≤ m → rg_it f s k = rg_it p s k := by
  intro m h s
  induction s with
  | zero => intro _; rfl
  | succ s ih =>
    intro hs
    rw [rg_it_s, rg_it_s, ih (by omega), h s (by omega)]
/-- who comes back in t steps has not come back before the walk's m-th -/
theorem rg_short {p f : Nat → Int} {k m t L : Nat} (ha : ∀ s, s + 1 < m → f (rg_it p s k) = p (rg_it p s k)) (hne : ∀ s, 1 ≤ s → s < m → rg_it p s k ≠ k) (h1 : 1 ≤ t) (h2 : t ≤ L) (h3 : rg_it f t k = k) : m ≤ L := by
  by_cases e : m ≤ t
  · omega
  · exfalso
    have := rg_it_cg (p := p) (f := f) (k := k) (m - 1) (fun s hs => ha s (by omega)) t (by omega)
    rw [h3] at this
    exact hne t h1 (by omega) this.symm
/-- a walk that has no one before its first does not come back -/
theorem rg_start {p : Nat → Int} {n i : Nat} (hp : ∀ j, j < n → p j ≠ (i : Int)) {m : Nat} (hn : ∀ s, s + 1 < m → rg_it p s i < n ∧ 0 ≤ p (rg_it p s i)) : ∀ s, 1 ≤ s → s < m → rg_it p s i ≠ i := by
  intro s h1 h2 e
  obtain ⟨q, rfl⟩ : ∃ q, s = q + 1 := ⟨s - 1, by omega⟩
  rw [rg_it_s] at e
  obtain ⟨a, b⟩ := hn q (by omega)
  exact hp _ a (by omega)
/-- rings are closed: all places of one come back in as many steps -/
theorem rg_turn {p : Nat → Int} {k m s : Nat} (h : rg_it p m k = k) : rg_it p m (rg_it p s k) = rg_it p s k := by
  rw [← rg_it_add, Nat.add_comm, rg_it_add, h]
/-- of n + 1 places below n two are one -/
theorem rg_pig {n : Nat} {a : Nat → Nat} (h : ∀ s, s ≤ n → a s < n) : ∃ s t, s < t ∧ t ≤ n ∧ a s = a t := by
  induction n generalizing a with
  | zero => exact absurd (h 0 (Nat.le_refl _)) (Nat.not_lt_zero _)
  | succ n ih =>
    by_cases e : ∃ s, s ≤ n ∧ a s = a (n + 1)
    · obtain ⟨s, h1, h2⟩ := e
      exact ⟨s, n + 1, by omega, Nat.le_refl _, h2⟩
    · -- the last one's value is taken by nobody else: put n's value in its place
      have ne : ∀ s, s ≤ n → a s ≠ a (n + 1) := fun s hs q => e ⟨s, hs, q⟩
      obtain ⟨s, t, h1, h2, h3⟩ := ih (a := fun s => if a s = n then a (n + 1) else a s) (fun s hs => by
        have q1 := h s (by omega); have q2 := h (n + 1) (Nat.le_refl _); have q3 := ne s hs
        split <;> omega)
      refine ⟨s, t, h1, by omega, ?_⟩
      have q1 := ne s (by omega); have q2 := ne t (by omega)
      split at h3 <;> split at h3 <;> omega
/-- one to one among its own: each place comes back -/
theorem rg_back {n : Nat} {f : Nat → Int} (h1 : ∀ i, i < n → 0 ≤ f i → f i < (n : Int)) (h2 : ∀ i j, i < n → j < n → 0 ≤ f i → f i = f j → i = j) (h3 : ∀ i, i < n → 0 ≤ f i → 0 ≤ f (f i).toNat) {i : Nat} (hi : i < n) (hf : 0 ≤ f i) : ∃ t, 1 ≤ t ∧ t ≤ n ∧ rg_it f t i = i := by
  have key : ∀ s, rg_it f s i < n ∧ 0 ≤ f (rg_it f s i) := by
    intro s
    induction s with
    | zero => exact ⟨hi, hf⟩
    | succ s ih =>
      rw [rg_it_s]
      have := h1 _ ih.1 ih.2
      exact ⟨by omega, h3 _ ih.1 ih.2⟩
  have can : ∀ s t, rg_it f s i = rg_it f (s + t) i → rg_it f t i = i := by
    intro s
    induction s with
    | zero => intro t h; rw [Nat.zero_add] at h; exact h.symm
    | succ s ih =>
      intro t h
      refine ih t ?_
      rw [rg_it_s, show s + 1 + t = (s + t) + 1 by omega, rg_it_s] at h
      have a := key s; have b := key (s + t)
      refine h2 _ _ a.1 b.1 a.2 ?_
      omega
  obtain ⟨s, t, q1, q2, q3⟩ := rg_pig (a := fun s => rg_it f s i) (fun s _ => (key s).1)
  exact ⟨t - s, by omega, by omega, can s (t - s) (by rw [show s + (t - s) = t by omega]; exact q3)⟩
