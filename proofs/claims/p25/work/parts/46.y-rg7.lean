/-! ===== the first way of a set; the best set ===== -/
/-- a set without another's places -/
def sd (S r : Nat) : Nat := S ^^^ (S &&& r)
theorem sd_tb {S r i : Nat} : (sd S r).testBit i = (S.testBit i && !r.testBit i) := by
  unfold sd
  rw [Nat.testBit_xor, Nat.testBit_and]
  cases S.testBit i <;> cases r.testBit i <;> rfl
theorem and_two (x y a b : Nat) (ha : a < 2) (hb : b < 2) : (2 * x + a) &&& (2 * y + b) = 2 * (x &&& y) + (a &&& b) := by
  refine Nat.eq_of_testBit_eq (fun i => ?_)
  cases i with
  | zero =>
    rw [Nat.testBit_and, Nat.testBit_zero, Nat.testBit_zero, Nat.testBit_zero]
    have : a = 0 ∨ a = 1 := by omega
    have : b = 0 ∨ b = 1 := by omega
    rcases ‹a = 0 ∨ a = 1› with rfl | rfl <;> rcases ‹b = 0 ∨ b = 1› with rfl | rfl <;> simp <;> omega
  | succ i =>
    have e1 : (2 * x + a) / 2 = x := by omega
    have e2 : (2 * y + b) / 2 = y := by omega
    have e3 : (2 * (x &&& y) + (a &&& b)) / 2 = x &&& y := by
      have : a &&& b < 2 := Nat.lt_of_le_of_lt Nat.and_le_left ha
      omega
    rw [Nat.testBit_and, Nat.testBit_succ, Nat.testBit_succ, Nat.testBit_succ, e1, e2, e3, Nat.testBit_and]
/-- the subsets of a set, from the greatest down: the next one -/
theorem sub_next : ∀ (k o s r : Nat), s < 2 ^ k → o &&& s = s → o &&& r = r → r < s → r ≤ (s - 1) &&& o := by
  intro k
  induction k with
  | zero => intro o s r h1 _ _ h2; omega
  | succ k ih =>
    intro o s r h1 h2 h3 h4
    have es : s = 2 * (s / 2) + s % 2 := by omega
    have eo : o = 2 * (o / 2) + o % 2 := by omega
    have er : r = 2 * (r / 2) + r % 2 := by omega
    have q2 := h2
    rw [es, eo, and_two _ _ _ _ (by omega) (by omega)] at q2
    have q3 := h3
    rw [er, eo, and_two _ _ _ _ (by omega) (by omega)] at q3
    have l2 : o % 2 &&& s % 2 < 2 := Nat.lt_of_le_of_lt Nat.and_le_left (by omega)
    have l3 : o % 2 &&& r % 2 < 2 := Nat.lt_of_le_of_lt Nat.and_le_left (by omega)
    have le3 : o % 2 &&& r % 2 ≤ o % 2 := Nat.and_le_left
    have s2 : o / 2 &&& s / 2 = s / 2 := by omega
    have r2 : o / 2 &&& r / 2 = r / 2 := by omega
    rcases (show s % 2 = 1 ∨ s % 2 = 0 by omega) with b | b
    · -- the last place goes
      have e : s - 1 = 2 * (s / 2) + 0 := by omega
      rw [e]
      conv => rhs; rw [eo]
      rw [and_two _ _ _ _ (by omega) (by omega), Nat.and_comm (s / 2), s2, Nat.zero_and]
      omega
    · have e : s - 1 = 2 * (s / 2 - 1) + 1 := by omega
      rw [e]
      conv => rhs; rw [eo]
      rw [and_two _ _ _ _ (by omega) (by omega)]
      have i := ih (o / 2) (s / 2) (r / 2) (by rw [Nat.pow_succ] at h1; omega) s2 r2 (by omega)
      have e1 : 1 &&& o % 2 = o % 2 := by
        rcases (show o % 2 = 1 ∨ o % 2 = 0 by omega) with c | c <;> rw [c] <;> rfl
      rw [e1]
      omega
def fw_f (Q W : Nat → Int) (S o : Nat) : Nat → Nat → Int → Int
  | 0, _, v => v
  | k + 1, r, v => if r = 0 then v else fw_f Q W S o k ((r - 1) &&& o) (if Q (sd S r) ≠ dp_N ∧ W r ≠ dp_N then min v (Q (sd S r) + W r) else v)
def dd_fw (Q W : Nat → Int) (S : Nat) : Int := fw_f Q W S (S &&& (S - 1)) 512 (S &&& (S - 1)) (Q S)
theorem fw_go {Q W : Nat → Int} {S o k r : Nat} {v v' : Int} (h : r ≠ 0) (hv : v' = if Q (sd S r) ≠ dp_N ∧ W r ≠ dp_N then min v (Q (sd S r) + W r) else v) : fw_f Q W S o (k + 1) r v = fw_f Q W S o k ((r - 1) &&& o) v' := by
  show (if _ then _ else _) = _
  rw [if_neg h, hv]
theorem fw_end {Q W : Nat → Int} {S o k : Nat} {v : Int} : fw_f Q W S o k 0 v = v := by
  cases k with
  | zero => rfl
  | succ k => show (if _ then _ else _) = _; rw [if_pos rfl]
theorem fw_all {Q W : Nat → Int} {S o : Nat} : ∀ (k r : Nat) (v : Int), r < k → r < 512 → o &&& r = r →
    fw_f Q W S o k r v ≤ v ∧ (∀ q, q ≠ 0 → q ≤ r → o &&& q = q → Q (sd S q) ≠ dp_N → W q ≠ dp_N → fw_f Q W S o k r v ≤ Q (sd S q) + W q) ∧
    (fw_f Q W S o k r v = v ∨ ∃ q, q ≠ 0 ∧ q ≤ r ∧ o &&& q = q ∧ Q (sd S q) ≠ dp_N ∧ W q ≠ dp_N ∧ fw_f Q W S o k r v = Q (sd S q) + W q) := by
  intro k
  induction k with
  | zero => intro r v h; exact absurd h (Nat.not_lt_zero _)
  | succ k ih =>
    intro r v hk h5 ho
    by_cases e : r = 0
    · subst e; rw [fw_end]
      exact ⟨Int.le_refl _, fun q h1 h2 => absurd h2 (by omega), Or.inl rfl⟩
    · rw [fw_go e rfl]
      have lt : (r - 1) &&& o < r := Nat.lt_of_le_of_lt Nat.and_le_left (by omega)
      have so : o &&& ((r - 1) &&& o) = (r - 1) &&& o := by rw [Nat.and_comm (r - 1) o, ← Nat.and_assoc, Nat.and_self]
      obtain ⟨i1, i2, i3⟩ := ih ((r - 1) &&& o) (if Q (sd S r) ≠ dp_N ∧ W r ≠ dp_N then min v (Q (sd S r) + W r) else v) (by omega) (by omega) so
      have m1 : (if Q (sd S r) ≠ dp_N ∧ W r ≠ dp_N then min v (Q (sd S r) + W r) else v) ≤ v := by split <;> omega
      refine ⟨Int.le_trans i1 m1, fun q h1 h2 h3 h4 h5' => ?_, ?_⟩
      · by_cases e2 : q = r
        · subst e2
          refine Int.le_trans i1 ?_
          rw [if_pos ⟨h4, h5'⟩]; omega
        · exact i2 q h1 (sub_next 9 o r q (by omega) ho h3 (by omega)) h3 h4 h5'
      · rcases i3 with c | ⟨q, q1, q2, q3, q4, q5, q6⟩
        · by_cases d : Q (sd S r) ≠ dp_N ∧ W r ≠ dp_N
          · rw [if_pos d] at c
            by_cases d2 : v ≤ Q (sd S r) + W r
            · left; rw [if_pos d, c]; omega
            · right; exact ⟨r, e, Nat.le_refl _, ho, d.1, d.2, by rw [if_pos d, c]; omega⟩
          · left; rw [c, if_neg d]
        · exact Or.inr ⟨q, q1, by omega, q3, q4, q5, q6⟩
/-- ways by sets, in order -/
def dd_wy (Q W : Nat → Int) : Nat → Nat → Int
  | 0 => W
  | S + 1 => if S = 0 then dd_wy Q W S else pz_up (dd_wy Q W S) S (dd_fw Q (dd_wy Q W S) S)
theorem lo9_and : ∀ S, S < 512 → S ≠ 0 → ∀ i, i < 9 → (S &&& (S - 1)).testBit i = (S.testBit i && decide (i ≠ lo9 S)) := by decide +kernel
theorem dd_wy_all {n L : Nat} {su : Nat → Nat → Bool} {Q W : Nat → Int} (hn : n ≤ 9) (hs : dp_RS n su L Q (2 ^ n)) (hc : dp_RC n su L Q (2 ^ n)) : ∀ T, T ≤ 2 ^ n → ∀ S, S < T → S ≠ 0 →
    (dd_wy Q W T S ≠ dp_N → ∃ f, wy_V n su L S f ∧ wy_c f S n = dd_wy Q W T S) ∧ (∀ f, wy_V n su L S f → dd_wy Q W T S ≤ wy_c f S n) := by
  intro T
  induction T with
  | zero => intro _ S h; exact absurd h (Nat.not_lt_zero _)
  | succ T ih =>
    intro hT S hS h0
    by_cases eT : T = 0
    · exact absurd hS (by omega)
    have ih := ih (by omega)
    have eq : dd_wy Q W (T + 1) = pz_up (dd_wy Q W T) T (dd_fw Q (dd_wy Q W T) T) := by
      show (if _ then _ else _) = _
      rw [if_neg eT]
    rw [eq]
    by_cases e : S = T
    · subst e
      rw [pz_up_s]
      have hSn : S < 2 ^ n := by omega
      have h5 : S < 512 := Nat.lt_of_lt_of_le hSn (p2_9 hn)
      have lo := lo9_ok hn hSn h0
      have la := tb_hi hSn lo.1
      have andl : S &&& (S - 1) ≤ S := Nat.and_le_left
      have oS : ∀ i, i < n → (S &&& (S - 1)).testBit i = (S.testBit i && decide (i ≠ lo9 S)) := fun i hi => lo9_and S h5 h0 i (by omega)
      obtain ⟨a1, a2, a3⟩ := fw_all (Q := Q) (W := dd_wy Q W S) (S := S) (o := S &&& (S - 1)) 512 (S &&& (S - 1)) (Q S) (by omega) (by omega) (Nat.and_self _)
      refine ⟨fun hq => ?_, fun f hf => ?_⟩
      · have ring : ∀ R, R < 2 ^ n → Q R ≠ dp_N → ∃ x t, sq_ok n su x t ∧ su (x t) (x 0) = true ∧ sq_m x t = R ∧ t + 1 ≤ L ∧ Q R = sq_c x t + (x 0 : Int) * dp_D (x t) := fun R hR hq => by
          obtain ⟨-, x, t, b1, b2, b3, b4, b5⟩ := hs R hR hq
          exact ⟨x, t, b1, b2, b3, by omega, b5⟩
        rcases a3 with c | ⟨q, q1, q2, q3, q4, q5, q6⟩
        · have c : dd_fw Q (dd_wy Q W S) S = Q S := c
          rw [c] at hq ⊢
          obtain ⟨x, t, b1, b2, b3, b4, b5⟩ := ring S hSn hq
          obtain ⟨f, f1, f2⟩ := wy_add b1 b2 b4 (wy_none (n := n) (L := L) (su := su)) (fun i hi q => by rw [Nat.zero_testBit] at q; cases q.2) S (fun i hi => by rw [b3, Nat.zero_testBit]; simp)
          refine ⟨f, f1, f2.trans ?_⟩
          have z : wy_c (fun _ => -1) 0 n = 0 := by
            unfold wy_c
            have : ∀ m, ms (fun i => (-1 : Int) * dp_D i) 0 m = 0 := by
              intro m
              induction m with
              | zero => rfl
              | succ m ih => unfold ms; rw [ih, Nat.zero_testBit]; rfl
            exact this n
          rw [z, b5]; omega
        · have q6 : dd_fw Q (dd_wy Q W S) S = _ := q6
          have sub : ∀ i, i < n → q.testBit i = true → S.testBit i = true ∧ i ≠ lo9 S := fun i hi hq => by
            have r := oS i hi
            rw [← q3, Nat.testBit_and, Bool.and_eq_true] at hq
            rw [hq.1] at r
            have r := r.symm
            rw [Bool.and_eq_true, decide_eq_true_eq] at r
            exact r
          have qS : q < S := by
            have hle : q ≤ S := Nat.le_trans q2 andl
            have hne : q ≠ S := fun e => (sub _ la (e ▸ lo.1)).2 rfl
            omega
          obtain ⟨g, g1, g2⟩ := (ih q qS q1).1 q5
          have sdl : sd S q < 2 ^ n := Nat.lt_pow_two_of_testBit _ (fun i hi => by
            rw [sd_tb, Nat.testBit_lt_two_pow (Nat.lt_of_lt_of_le hSn (Nat.pow_le_pow_right (by decide) hi))]; rfl)
          obtain ⟨x, t, b1, b2, b3, b4, b5⟩ := ring _ sdl q4
          obtain ⟨f, f1, f2⟩ := wy_add b1 b2 b4 g1 (fun i hi c => by
            rw [b3, sd_tb, c.2] at c
            rw [Bool.not_true, Bool.and_false] at c
            cases c.1) S (fun i hi => by
            rw [b3, sd_tb]
            by_cases c : q.testBit i = true
            · simp [c, (sub i hi c).1]
            · simp [c])
          exact ⟨f, f1, by rw [f2, q6, g2, b5]⟩
      · obtain ⟨t, r1, r2, r3, r4⟩ := wy_ring hn hSn h0 hf
        have fx1 : ∀ s, s < t → f (rg_it f s (lo9 S)) = ((rg_it f (s + 1) (lo9 S) : Nat) : Int) := fun s _ => by
          rw [rg_it_s]; have := (r4 s).2; omega
        have ml : sq_m (fun s => rg_it f s (lo9 S)) t < 2 ^ n := sq_lt r1.1
        have hR := hc _ t r1 (by
          have q := hf.1.1 _ (r4 t).1
          rcases q with q | q
          · have := (r4 t).2; omega
          · have q2 := q.2.2
            rw [r3, Int.toNat_natCast] at q2
            exact q2) (by omega) ml
        have e1 := sq_ms (f := f) t r1 fx1
        rw [r3] at e1
        have hR2 : Q (sq_m (fun s => rg_it f s (lo9 S)) t) ≤ wy_c f (sq_m (fun s => rg_it f s (lo9 S)) t) n := by
          unfold wy_c; rw [e1]; exact hR
        generalize hm : sq_m (fun s => rg_it f s (lo9 S)) t = R at *
        have tb : ∀ i, R.testBit i = true ↔ ∃ s, s ≤ t ∧ rg_it f s (lo9 S) = i := fun i => by rw [← hm]; exact sq_tb t
        have RS : ∀ i, i < n → R.testBit i = true → S.testBit i = true := fun i hi hr => by
          obtain ⟨s, s1, s2⟩ := (tb i).mp hr
          rw [← s2]; exact (hf.2 _ (r4 s).1).mp (r4 s).2
        by_cases e2 : R = S
        · refine Int.le_trans (show dd_fw Q (dd_wy Q W S) S ≤ Q S from a1) ?_
          rw [e2] at hR2; exact hR2
        · -- the rest
          have bt : ∀ i, i < n → ((sd S R).testBit i = true ↔ S.testBit i = true ∧ R.testBit i = false) := fun i hi => by
            rw [sd_tb]; simp
          have Bl : sd S R < 2 ^ n := Nat.lt_pow_two_of_testBit _ (fun i hi => by
            rw [sd_tb, Nat.testBit_lt_two_pow (Nat.lt_of_lt_of_le hSn (Nat.pow_le_pow_right (by decide) hi))]; rfl)
          have B0 : sd S R ≠ 0 := fun z => e2 (Nat.eq_of_testBit_eq (fun i => by
            by_cases hi : i < n
            · have c := sd_tb (S := S) (r := R) (i := i)
              rw [z, Nat.zero_testBit] at c
              have d := RS i hi
              cases h1 : S.testBit i <;> cases h2 : R.testBit i
              · rfl
              · rw [h1, h2] at d; exact absurd (d rfl) (by decide)
              · rw [h1, h2] at c; cases c
              · rfl
            · rw [Nat.testBit_lt_two_pow (Nat.lt_of_lt_of_le ml (Nat.pow_le_pow_right (by decide) (by omega))), Nat.testBit_lt_two_pow (Nat.lt_of_lt_of_le hSn (Nat.pow_le_pow_right (by decide) (by omega)))]))
          have clos : ∀ i, i < n → (sd S R).testBit i = true → (sd S R).testBit (f i).toNat = true := fun i hi hb => by
            have c := (bt i hi).mp hb
            have f0 := (hf.2 i hi).mpr c.1
            have fr := hf.1.1 i hi
            have fl : (f i).toNat < n := by omega
            refine (bt _ fl).mpr ⟨(hf.2 _ fl).mp (hf.1.2.2.1 i hi f0), ?_⟩
            rw [← Bool.not_eq_true]
            intro hr
            obtain ⟨s, s1, s2⟩ := (tb _).mp hr
            have : R.testBit i = true := by
              by_cases s0 : s = 0
              · subst s0
                have s2 : lo9 S = (f i).toNat := s2
                have : rg_it f t (lo9 S) = i := hf.1.2.1 _ _ (r4 t).1 hi (r4 t).2 (by rw [r3]; omega)
                exact (tb i).mpr ⟨t, Nat.le_refl _, this⟩
              · obtain ⟨s', rfl⟩ : ∃ s', s = s' + 1 := ⟨s - 1, by omega⟩
                rw [rg_it_s] at s2
                have p := (r4 s').2
                have : rg_it f s' (lo9 S) = i := hf.1.2.1 _ _ (r4 s').1 hi p (by omega)
                exact (tb i).mpr ⟨s', by omega, this⟩
            rw [c.2] at this; cases this
          have hB := wy_rest hf (B := sd S R) (fun i hi hb => ((bt i hi).mp hb).1) clos
          have BS : sd S R < S := by
            have hse : S &&& sd S R = sd S R := Nat.eq_of_testBit_eq (fun i => by rw [Nat.testBit_and, sd_tb]; cases S.testBit i <;> cases R.testBit i <;> rfl)
            have hle : sd S R ≤ S := by rw [← hse]; exact Nat.and_le_left
            have hne : sd S R ≠ S := fun z => by
              have c := sd_tb (S := S) (r := R) (i := lo9 S)
              have : R.testBit (lo9 S) = true := (tb _).mpr ⟨0, Nat.zero_le _, rfl⟩
              rw [z, lo.1, this] at c; cases c
            omega
          have i2 := (ih _ BS B0).2 _ hB
          have cc : wy_c (fun i => if (sd S R).testBit i then f i else -1) (sd S R) n = wy_c f (sd S R) n := ms_cg n (fun i hi hb => by show (if (sd S R).testBit i = true then f i else -1) * dp_D i = _; rw [if_pos hb])
          rw [cc] at i2
          have sum : wy_c f S n = wy_c f R n + wy_c f (sd S R) n := ms_two n (fun i hi => by
            have c := bt i hi
            have d := RS i hi
            constructor
            · constructor
              · intro h
                by_cases q : R.testBit i = true
                · exact Or.inl q
                · exact Or.inr (c.mpr ⟨h, by rw [← Bool.not_eq_true]; exact q⟩)
              · rintro (h | h)
                · exact d h
                · exact (c.mp h).1
            · rintro ⟨h1, h2⟩
              rw [(c.mp h2).2] at h1; cases h1)
          have bl := wy_c_le hn hB
          rw [cc] at bl
          have rl : wy_c f R n ≤ 888888888 := by
            have := (wy_c_le hn hf).2; omega
          have nq : Q R ≠ dp_N := fun z => by rw [z] at hR2; unfold dp_N at hR2; omega
          have nw : dd_wy Q W S (sd S R) ≠ dp_N := fun z => by rw [z] at i2; unfold dp_N at i2; omega
          have sdsd : sd S (sd S R) = R := Nat.eq_of_testBit_eq (fun i => by
            rw [sd_tb, sd_tb]
            by_cases hi : i < n
            · have d := RS i hi
              cases h1 : S.testBit i <;> cases h2 : R.testBit i
              · rfl
              · rw [h1, h2] at d; exact absurd (d rfl) (by decide)
              · rfl
              · rfl
            · rw [Nat.testBit_lt_two_pow (Nat.lt_of_lt_of_le ml (Nat.pow_le_pow_right (by decide) (by omega))), Nat.testBit_lt_two_pow (Nat.lt_of_lt_of_le hSn (Nat.pow_le_pow_right (by decide) (by omega)))]; rfl)
          have os : (S &&& (S - 1)) &&& sd S R = sd S R := Nat.eq_of_testBit_eq (fun i => by
            rw [Nat.testBit_and]
            by_cases hi : i < n
            · rw [oS i hi]
              by_cases hb : (sd S R).testBit i = true
              · have c := (bt i hi).mp hb
                have ne : i ≠ lo9 S := fun z => by
                  have : R.testBit i = true := (tb _).mpr ⟨0, Nat.zero_le _, z.symm⟩
                  rw [c.2] at this; cases this
                rw [hb, c.1, decide_eq_true ne]; rfl
              · rw [Bool.not_eq_true] at hb; rw [hb, Bool.and_false]
            · rw [Nat.testBit_lt_two_pow (Nat.lt_of_lt_of_le Bl (Nat.pow_le_pow_right (by decide) (by omega))), Bool.and_false])
          have q := a2 (sd S R) B0 (by rw [← os]; exact Nat.and_le_left) os (by rw [sdsd]; exact nq) nw
          rw [sdsd] at q
          have q : dd_fw Q (dd_wy Q W S) S ≤ _ := q
          rw [sum]
          omega
    · rw [pz_up_n e]; exact ih S (by omega) h0
