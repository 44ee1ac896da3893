/-! ===== ways of a set ===== -/
/-- f is a way, and those that get one are the places of S -/
def wy_V (n : Nat) (su : Nat → Nat → Bool) (L : Nat) (S : Nat) (f : Nat → Int) : Prop := rg_V n (fun i j => su i j = true) L f ∧ ∀ i, i < n → (0 ≤ f i ↔ S.testBit i = true)
def wy_c (f : Nat → Int) (S n : Nat) : Int := ms (fun i => f i * dp_D i) S n
theorem wy_c_le {n L S : Nat} {su : Nat → Nat → Bool} {f : Nat → Int} (hn : n ≤ 9) (h : wy_V n su L S f) : 0 ≤ wy_c f S n ∧ wy_c f S n ≤ 888888888 := by
  have b : ∀ i, i < n → S.testBit i = true → 0 ≤ f i * dp_D i ∧ f i * dp_D i ≤ 8 * dp_D i := fun i hi hs => by
    have q := h.1.1 i hi
    have r := (h.2 i hi).mpr hs
    have d := dp_D_pos i
    exact ⟨Int.mul_nonneg r (by omega), Int.mul_le_mul_of_nonneg_right (by omega) (by omega)⟩
  refine ⟨ms_0 n (fun i hi hs => (b i hi hs).1), Int.le_trans (ms_le (ψ := fun i => 8 * dp_D i) n (fun i _ => by have := dp_D_pos i; omega) (fun i hi hs => (b i hi hs).2)) (rg_s_D n hn)⟩
/-- what a ring's places are worth -/
theorem sq_ms {n : Nat} {su : Nat → Nat → Bool} {x : Nat → Nat} {f : Nat → Int} : ∀ t, sq_ok n su x t → (∀ s, s < t → f (x s) = (x (s + 1) : Int)) → ms (fun i => f i * dp_D i) (sq_m x t) n = sq_c x t + f (x t) * dp_D (x t) := by
  intro t
  induction t with
  | zero =>
    intro h _
    have a := h.1 0 (Nat.le_refl _)
    have q := ms_or (φ := fun i => f i * dp_D i) (S := 0) (y := x 0) (Nat.zero_testBit _) n
    rw [Nat.zero_or, if_pos a] at q
    have z : ∀ m, ms (fun i => f i * dp_D i) 0 m = 0 := by
      intro m
      induction m with
      | zero => rfl
      | succ m ih => unfold ms; rw [ih, Nat.zero_testBit]; rfl
    rw [z] at q
    exact q
  | succ t ih =>
    intro h hf
    have q := ih (sq_ok_le h) (fun s hs => hf s (by omega))
    show ms _ (sq_m x t ||| 2 ^ x (t + 1)) n = sq_c x t + (x (t + 1) : Int) * dp_D (x t) + _
    rw [ms_or (sq_no (fun s hs => h.2.1 s (t + 1) (by omega) (Nat.le_refl _))), if_pos (h.1 _ (Nat.le_refl _)), q, hf t (Nat.lt_succ_self _)]
/-- in a one to one f what comes together was together -/
theorem rg_can {n : Nat} {f : Nat → Int} {i : Nat} (h2 : ∀ i j, i < n → j < n → 0 ≤ f i → f i = f j → i = j) (key : ∀ s, rg_it f s i < n ∧ 0 ≤ f (rg_it f s i)) : ∀ s t, rg_it f s i = rg_it f (s + t) i → rg_it f t i = i := by
  intro s
  induction s with
  | zero => intro t h; rw [Nat.zero_add] at h; exact h.symm
  | succ s ih =>
    intro t h
    refine ih t ?_
    rw [rg_it_s, show s + 1 + t = (s + t) + 1 by omega, rg_it_s] at h
    have a := key s; have b := key (s + t)
    refine h2 _ _ a.1 b.1 a.2 ?_
    omega
/-- the ring of a set's least place in a way -/
theorem wy_ring {n L S : Nat} {su : Nat → Nat → Bool} {f : Nat → Int} (hn : n ≤ 9) (hS : S < 2 ^ n) (h0 : S ≠ 0) (h : wy_V n su L S f) : ∃ t, sq_ok n su (fun s => rg_it f s (lo9 S)) t ∧ t + 1 ≤ L ∧ f (rg_it f t (lo9 S)) = (lo9 S : Int) ∧ (∀ s, rg_it f s (lo9 S) < n ∧ 0 ≤ f (rg_it f s (lo9 S))) := by
  obtain ⟨l1, l2⟩ := lo9_ok hn hS h0
  have la := tb_hi hS l1
  have f0 := (h.2 _ la).mpr l1
  have key : ∀ s, rg_it f s (lo9 S) < n ∧ 0 ≤ f (rg_it f s (lo9 S)) := by
    intro s
    induction s with
    | zero => exact ⟨la, f0⟩
    | succ s ih =>
      rw [rg_it_s]
      have := h.1.1 _ ih.1
      exact ⟨by omega, h.1.2.2.1 _ ih.1 ih.2⟩
  obtain ⟨t, t1, t2, t3⟩ := h.1.2.2.2 _ la f0
  obtain ⟨m, m1, m2, m3, m4⟩ := rg_min (P := fun s => rg_it f s (lo9 S) = lo9 S) t t1 t3
  obtain ⟨k, rfl⟩ : ∃ k, m = k + 1 := ⟨m - 1, by omega⟩
  refine ⟨k, ⟨fun s _ => (key s).1, fun s s' a b e => ?_, fun s _ => ?_, fun s a b => ?_⟩, by omega, ?_, key⟩
  · have := rg_can h.1.2.1 key s (s' - s) (by rw [show s + (s' - s) = s' by omega]; exact e)
    exact m4 (s' - s) (by omega) (by omega) this
  · show su (rg_it f s (lo9 S)) (rg_it f (s + 1) (lo9 S)) = true
    rw [rg_it_s]
    have q := h.1.1 _ (key s).1
    have r := (key s).2
    rcases q with q | q
    · omega
    · exact q.2.2
  · show lo9 S < rg_it f s (lo9 S)
    have c := l2 _ ((h.2 _ (key s).1).mp (key s).2)
    have d := m4 s a (by omega)
    have d : rg_it f s (lo9 S) ≠ lo9 S := d
    omega
  · have m3 : rg_it f (k + 1) (lo9 S) = lo9 S := m3
    rw [rg_it_s] at m3
    have := (key k).2
    omega
/-- the way without that ring -/
theorem wy_rest {n L S B : Nat} {su : Nat → Nat → Bool} {f : Nat → Int} (h : wy_V n su L S f) (hB : ∀ i, i < n → B.testBit i = true → S.testBit i = true) (hc : ∀ i, i < n → B.testBit i = true → B.testBit (f i).toNat = true) : wy_V n su L B (fun i => if B.testBit i then f i else -1) := by
  have sv : ∀ i, i < n → B.testBit i = true → ∀ s, rg_it f s i < n ∧ B.testBit (rg_it f s i) = true ∧ rg_it (fun i => if B.testBit i then f i else -1) s i = rg_it f s i := by
    intro i hi hb s
    induction s with
    | zero => exact ⟨hi, hb, rfl⟩
    | succ s ih =>
      obtain ⟨a, b, c⟩ := ih
      have q := h.1.1 _ a
      have r := (h.2 _ a).mpr (hB _ a b)
      rw [rg_it_s, rg_it_s, c]
      rw [if_pos b]
      exact ⟨by omega, hc _ a b, rfl⟩
  refine ⟨⟨fun i hi => ?_, fun i j hi hj h0 hij => ?_, fun i hi h0 => ?_, fun i hi h0 => ?_⟩, fun i hi => ?_⟩
  · by_cases b : B.testBit i = true
    · dsimp only; rw [if_pos b]; exact h.1.1 i hi
    · dsimp only; rw [if_neg b]; exact Or.inl rfl
  · dsimp only at h0 hij
    by_cases b : B.testBit i = true
    · rw [if_pos b] at h0 hij
      by_cases b' : B.testBit j = true
      · rw [if_pos b'] at hij; exact h.1.2.1 i j hi hj h0 hij
      · rw [if_neg b'] at hij; omega
    · rw [if_neg b] at h0; omega
  · dsimp only at h0 ⊢
    by_cases b : B.testBit i = true
    · rw [if_pos b] at h0 ⊢
      have q := h.1.1 i hi
      rw [if_pos (hc i hi b)]
      exact h.1.2.2.1 i hi h0
    · rw [if_neg b] at h0; omega
  · dsimp only at h0
    by_cases b : B.testBit i = true
    · rw [if_pos b] at h0
      obtain ⟨t, t1, t2, t3⟩ := h.1.2.2.2 i hi h0
      exact ⟨t, t1, t2, by rw [(sv i hi b t).2.2]; exact t3⟩
    · rw [if_neg b] at h0; omega
  · dsimp only
    by_cases b : B.testBit i = true
    · rw [if_pos b]; exact ⟨fun _ => b, fun _ => (h.2 i hi).mpr (hB i hi b)⟩
    · rw [if_neg b]; exact ⟨fun q => absurd q (by decide), fun q => absurd q b⟩
/-- a ring and a way of other places: one way -/
theorem wy_add {n L B : Nat} {su : Nat → Nat → Bool} {g : Nat → Int} {x : Nat → Nat} {t : Nat} (hx : sq_ok n su x t) (hc : su (x t) (x 0) = true) (ht : t + 1 ≤ L) (hg : wy_V n su L B g) (hd : ∀ i, i < n → ¬ ((sq_m x t).testBit i = true ∧ B.testBit i = true)) (S : Nat) (hS : ∀ i, i < n → (S.testBit i = true ↔ (sq_m x t).testBit i = true ∨ B.testBit i = true)) : ∃ f, wy_V n su L S f ∧ wy_c f S n = sq_c x t + (x 0 : Int) * dp_D (x t) + wy_c g B n := by
  have ex : ∀ i : Nat, ∃ z : Int, (∃ s, s ≤ t ∧ x s = i ∧ z = if s = t then (x 0 : Int) else (x (s + 1) : Int)) ∨ ((∀ s, s ≤ t → x s ≠ i) ∧ z = g i) := by
    intro i
    by_cases e : ∃ s, s ≤ t ∧ x s = i
    · obtain ⟨s, a, b⟩ := e
      exact ⟨_, Or.inl ⟨s, a, b, rfl⟩⟩
    · exact ⟨g i, Or.inr ⟨fun s a b => e ⟨s, a, b⟩, rfl⟩⟩
  obtain ⟨f, hf⟩ := Classical.axiomOfChoice ex
  have inj : ∀ s s', s ≤ t → s' ≤ t → x s = x s' → s = s' := fun s s' a b e => by
    rcases Nat.lt_trichotomy s s' with q | q | q
    · exact absurd e (hx.2.1 s s' q b)
    · exact q
    · exact absurd e.symm (hx.2.1 s' s q a)
  have fx : ∀ s, s ≤ t → f (x s) = if s = t then (x 0 : Int) else (x (s + 1) : Int) := fun s hs => by
    rcases hf (x s) with ⟨s', a, b, c⟩ | ⟨a, -⟩
    · rw [inj s' s a hs b] at c; exact c
    · exact absurd rfl (a s hs)
  have fg : ∀ i, (∀ s, s ≤ t → x s ≠ i) → f i = g i := fun i hi => by
    rcases hf i with ⟨s', a, b, c⟩ | ⟨-, c⟩
    · exact absurd b (hi s' a)
    · exact c
  have fb : ∀ i, i < n → B.testBit i = true → f i = g i := fun i hi hb => fg i (fun s a b => hd i hi ⟨(sq_tb t).mpr ⟨s, a, b⟩, hb⟩)
  have fx1 : ∀ s, s < t → f (x s) = (x (s + 1) : Int) := fun s hs => by rw [fx s (by omega), if_neg (by omega)]
  have fxt : f (x t) = (x 0 : Int) := by rw [fx t (Nat.le_refl _), if_pos rfl]
  have w0 : ∀ s, s ≤ t → rg_it f s (x 0) = x s := by
    intro s
    induction s with
    | zero => intro _; rfl
    | succ s ih =>
      intro h
      rw [rg_it_s, ih (by omega), fx1 s (by omega), Int.toNat_natCast]
  have wt : rg_it f (t + 1) (x 0) = x 0 := by rw [rg_it_s, w0 t (Nat.le_refl _), fxt, Int.toNat_natCast]
  -- places of g go on as they did
  have gs_ : ∀ i, i < n → B.testBit i = true → ∀ s, rg_it g s i < n ∧ B.testBit (rg_it g s i) = true ∧ rg_it f s i = rg_it g s i := by
    intro i hi hb s
    induction s with
    | zero => exact ⟨hi, hb, rfl⟩
    | succ s ih =>
      obtain ⟨a, b, c⟩ := ih
      have q := hg.1.1 _ a
      have r := (hg.2 _ a).mpr b
      have p := hg.1.2.2.1 _ a r
      rw [rg_it_s, rg_it_s, c, fb _ a b]
      exact ⟨by omega, (hg.2 _ (by omega)).mp p, rfl⟩
  have cases_ : ∀ i, i < n → (∃ s, s ≤ t ∧ x s = i) ∨ (B.testBit i = true ∧ f i = g i) ∨ (S.testBit i = false ∧ f i = -1) := by
    intro i hi
    by_cases e : ∃ s, s ≤ t ∧ x s = i
    · exact Or.inl e
    · have ni : ∀ s, s ≤ t → x s ≠ i := fun s a b => e ⟨s, a, b⟩
      by_cases b : B.testBit i = true
      · exact Or.inr (Or.inl ⟨b, fb i hi b⟩)
      · refine Or.inr (Or.inr ⟨?_, ?_⟩)
        · rw [← Bool.not_eq_true, hS i hi]
          exact fun q => q.elim (fun c => e ((sq_tb t).mp c)) b
        · rw [fg i ni]
          rcases hg.1.1 i hi with c | c
          · exact c
          · exact absurd ((hg.2 i hi).mp c.1) b
  have pos : ∀ s, s ≤ t → 0 ≤ f (x s) ∧ f (x s) < (n : Int) := fun s hs => by
    rw [fx s hs]
    by_cases e : s = t
    · rw [if_pos e]; have := hx.1 0 (Nat.zero_le _); omega
    · rw [if_neg e]; have := hx.1 (s + 1) (by omega); omega
  have img : ∀ s, s ≤ t → ∃ s', s' ≤ t ∧ (f (x s)).toNat = x s' := fun s hs => by
    rw [fx s hs]
    by_cases e : s = t
    · rw [if_pos e]; exact ⟨0, Nat.zero_le _, Int.toNat_natCast _⟩
    · rw [if_neg e]; exact ⟨s + 1, by omega, Int.toNat_natCast _⟩
  refine ⟨f, ⟨⟨fun i hi => ?_, fun i j hi hj h0 hij => ?_, fun i hi h0 => ?_, fun i hi h0 => ?_⟩, fun i hi => ?_⟩, ?_⟩
  · rcases cases_ i hi with ⟨s, a, rfl⟩ | ⟨b, e⟩ | ⟨b, e⟩
    · have p := pos s a
      refine Or.inr ⟨p.1, p.2, ?_⟩
      rw [fx s a]
      by_cases e : s = t
      · rw [if_pos e, Int.toNat_natCast, e]; exact hc
      · rw [if_neg e, Int.toNat_natCast]; exact hx.2.2.1 s (by omega)
    · rw [e]; exact hg.1.1 i hi
    · exact Or.inl e
  · rcases cases_ i hi with ⟨s, a, rfl⟩ | ⟨b, e⟩ | ⟨b, e⟩
    · rcases cases_ j hj with ⟨s', a', rfl⟩ | ⟨b', e'⟩ | ⟨b', e'⟩
      · rw [fx s a, fx s' a'] at hij
        by_cases e1 : s = t
        · by_cases e2 : s' = t
          · rw [e1, e2]
          · rw [if_pos e1, if_neg e2] at hij
            have := inj 0 (s' + 1) (Nat.zero_le _) (by omega) (by omega)
            omega
        · by_cases e2 : s' = t
          · rw [if_neg e1, if_pos e2] at hij
            have := inj (s + 1) 0 (by omega) (Nat.zero_le _) (by omega)
            omega
          · rw [if_neg e1, if_neg e2] at hij
            have := inj (s + 1) (s' + 1) (by omega) (by omega) (by omega)
            rw [show s = s' by omega]
      · exfalso
        obtain ⟨s2, c1, c2⟩ := img s a
        have q := gs_ j hj b' 1
        have q1 : rg_it g 1 j = (g j).toNat := rfl
        rw [q1] at q
        refine hd _ q.1 ⟨(sq_tb t).mpr ⟨s2, c1, ?_⟩, q.2.1⟩
        rw [← c2, hij, e']
      · omega
    · rcases cases_ j hj with ⟨s', a', rfl⟩ | ⟨b', e'⟩ | ⟨b', e'⟩
      · exfalso
        obtain ⟨s2, c1, c2⟩ := img s' a'
        have q := gs_ i hi b 1
        have q1 : rg_it g 1 i = (g i).toNat := rfl
        rw [q1] at q
        refine hd _ q.1 ⟨(sq_tb t).mpr ⟨s2, c1, ?_⟩, q.2.1⟩
        rw [← c2, ← hij, e]
      · rw [e] at h0 hij; rw [e'] at hij; exact hg.1.2.1 i j hi hj h0 hij
      · omega
    · omega
  · rcases cases_ i hi with ⟨s, a, rfl⟩ | ⟨b, e⟩ | ⟨b, e⟩
    · obtain ⟨s', c1, c2⟩ := img s a
      rw [c2]; exact (pos s' c1).1
    · have q := gs_ i hi b 1
      have q1 : rg_it g 1 i = (g i).toNat := rfl
      rw [q1] at q
      rw [e, fb _ q.1 q.2.1]
      exact (hg.2 _ q.1).mpr q.2.1
    · omega
  · rcases cases_ i hi with ⟨s, a, rfl⟩ | ⟨b, e⟩ | ⟨b, e⟩
    · refine ⟨t + 1, by omega, ht, ?_⟩
      rw [← w0 s a]; exact rg_turn wt
    · rw [e] at h0
      obtain ⟨u, u1, u2, u3⟩ := hg.1.2.2.2 i hi h0
      exact ⟨u, u1, u2, by rw [(gs_ i hi b u).2.2]; exact u3⟩
    · omega
  · rcases cases_ i hi with ⟨s, a, rfl⟩ | ⟨b, e⟩ | ⟨b, e⟩
    · exact ⟨fun _ => (hS _ hi).mpr (Or.inl ((sq_tb t).mpr ⟨s, a, rfl⟩)), fun _ => (pos s a).1⟩
    · rw [e]; exact ⟨fun _ => (hS _ hi).mpr (Or.inr b), fun _ => (hg.2 i hi).mpr b⟩
    · rw [e, b]; exact ⟨fun q => absurd q (by decide), fun q => by cases q⟩
  · unfold wy_c
    rw [ms_two (A := sq_m x t) (B := B) n (fun i hi => ⟨hS i hi, hd i hi⟩), sq_ms t hx fx1, fxt]
    congr 1
    exact ms_cg n (fun i hi hb => by rw [fb i hi hb])
theorem wy_none {n L : Nat} {su : Nat → Nat → Bool} : wy_V n su L 0 (fun _ => -1) := ⟨⟨fun _ _ => Or.inl rfl, fun i j hi hj h0 => absurd (show (0 : Int) ≤ -1 from h0) (by decide), fun i hi h0 => absurd (show (0 : Int) ≤ -1 from h0) (by decide), fun i hi h0 => absurd (show (0 : Int) ≤ -1 from h0) (by decide)⟩, fun i hi => ⟨fun q => absurd (show (0 : Int) ≤ -1 from q) (by decide), fun q => by rw [Nat.zero_testBit] at q; cases q⟩⟩
