/-! ===== the best set, and its way ===== -/
/-- nines for the places that are not in the set -/
def hc_f (S : Nat) : Nat → Int
  | 0 => 0
  | n + 1 => hc_f S n + if S.testBit n then 0 else 9 * dp_D n
def bt_b (V w : Nat → Int) (n S b : Nat) : Bool := decide (bcz b < bcz S ∨ (bcz b = bcz S ∧ (ms w b n < ms w S n ∨ (ms w b n = ms w S n ∧ V S + hc_f S n < V b + hc_f b n))))
def bs_f (Q W w : Nat → Int) (n : Nat) : Nat → Nat
  | 0 => 0
  | T + 1 => if T ≠ 0 ∧ dd_wy Q W (T + 1) T ≠ dp_N ∧ bt_b (dd_wy Q W (T + 1)) w n T (bs_f Q W w n T) = true then T else bs_f Q W w n T
theorem wy_fix {Q W : Nat → Int} {S : Nat} : ∀ T T', S < T → T ≤ T' → dd_wy Q W T' S = dd_wy Q W T S := by
  intro T T' h1 h2
  induction T' with
  | zero => omega
  | succ T' ih =>
    by_cases e : T = T' + 1
    · rw [e]
    · have q := ih (by omega)
      rw [← q]
      show (if T' = 0 then dd_wy Q W T' else pz_up (dd_wy Q W T') T' (dd_fw Q (dd_wy Q W T') T')) S = _
      rw [if_neg (by omega), pz_up_n (by omega)]
theorem wy_fix0 {Q W : Nat → Int} : ∀ T, dd_wy Q W T 0 = W 0 := by
  intro T
  induction T with
  | zero => rfl
  | succ T ih =>
    show (if T = 0 then dd_wy Q W T else pz_up (dd_wy Q W T) T (dd_fw Q (dd_wy Q W T) T)) 0 = _
    by_cases e : T = 0
    · rw [if_pos e]; exact ih
    · rw [if_neg e, pz_up_n (by omega)]; exact ih
theorem bt_eq {V V' w : Nat → Int} {n S b : Nat} (h1 : V S = V' S) (h2 : V b = V' b) : bt_b V w n S b = bt_b V' w n S b := by unfold bt_b; rw [h1, h2]
theorem bs_lt {Q W w : Nat → Int} {n : Nat} : ∀ T, bs_f Q W w n T = 0 ∨ bs_f Q W w n T < T := by
  intro T
  induction T with
  | zero => exact Or.inl rfl
  | succ T ih =>
    by_cases c : T ≠ 0 ∧ dd_wy Q W (T + 1) T ≠ dp_N ∧ bt_b (dd_wy Q W (T + 1)) w n T (bs_f Q W w n T) = true
    · have e9 : bs_f Q W w n (T + 1) = T := if_pos c
      rw [e9]; exact Or.inr (Nat.lt_succ_self _)
    · have e9 : bs_f Q W w n (T + 1) = bs_f Q W w n T := if_neg c
      rw [e9]
      rcases ih with h | h
      · exact Or.inl h
      · exact Or.inr (by omega)
theorem bs_all {Q W w : Nat → Int} {n N : Nat} : ∀ T, T ≤ N → (bs_f Q W w n T = 0 ∨ dd_wy Q W N (bs_f Q W w n T) ≠ dp_N) ∧ ∀ S, S < T → S ≠ 0 → dd_wy Q W N S ≠ dp_N → bt_b (dd_wy Q W N) w n S (bs_f Q W w n T) = false := by
  intro T
  induction T with
  | zero => intro _; exact ⟨Or.inl rfl, fun S h => absurd h (Nat.not_lt_zero _)⟩
  | succ T ih =>
    intro hT
    obtain ⟨i1, i2⟩ := ih (by omega)
    have vT : dd_wy Q W (T + 1) T = dd_wy Q W N T := (wy_fix (T + 1) N (Nat.lt_succ_self _) hT).symm
    have vb : dd_wy Q W (T + 1) (bs_f Q W w n T) = dd_wy Q W N (bs_f Q W w n T) := by
      rcases bs_lt (Q := Q) (W := W) (w := w) (n := n) T with h | h
      · rw [h, wy_fix0, wy_fix0]
      · exact (wy_fix (T + 1) N (by omega) hT).symm
    have be := bt_eq (V := dd_wy Q W (T + 1)) (V' := dd_wy Q W N) (w := w) (n := n) vT vb
    by_cases c : T ≠ 0 ∧ dd_wy Q W (T + 1) T ≠ dp_N ∧ bt_b (dd_wy Q W (T + 1)) w n T (bs_f Q W w n T) = true
    · have e9 : bs_f Q W w n (T + 1) = T := if_pos c
      rw [e9]
      rw [vT, be] at c
      refine ⟨Or.inr c.2.1, fun S hS h0 hN => ?_⟩
      by_cases e : S = T
      · subst e; unfold bt_b; exact decide_eq_false (by omega)
      · have q := i2 S (by omega) h0 hN
        have r := c.2.2
        unfold bt_b at q r ⊢
        have q := of_decide_eq_false q
        have r := of_decide_eq_true r
        exact decide_eq_false (by omega)
    · have e9 : bs_f Q W w n (T + 1) = bs_f Q W w n T := if_neg c
      rw [e9]
      refine ⟨i1, fun S hS h0 hN => ?_⟩
      by_cases e : S = T
      · subst e
        rw [vT, be] at c
        rw [← Bool.not_eq_true]
        exact fun q => c ⟨h0, hN, q⟩
      · exact i2 S (by omega) h0 hN
theorem ms_ext {φ : Nat → Int} {S n : Nat} (h : S < 2 ^ n) : ∀ m, n ≤ m → ms φ S m = ms φ S n := by
  intro m
  induction m with
  | zero =>
    intro q
    obtain rfl : n = 0 := by omega
    rfl
  | succ m ih =>
    intro q
    by_cases e : n = m + 1
    · rw [e]
    · show ms φ S m + (if S.testBit m = true then φ m else 0) = ms φ S n
      rw [Nat.testBit_lt_two_pow (Nat.lt_of_lt_of_le h (Nat.pow_le_pow_right (by decide) (by omega))), ih (by omega)]
      exact Int.add_zero _
/-- who gets one, as a set -/
theorem wy_set (f : Nat → Int) : ∀ n, ∃ S, S < 2 ^ n ∧ ∀ i, i < n → (0 ≤ f i ↔ S.testBit i = true) := by
  intro n
  induction n with
  | zero => exact ⟨0, by decide, fun i h => absurd h (Nat.not_lt_zero _)⟩
  | succ n ih =>
    obtain ⟨S, h1, h2⟩ := ih
    have p : 2 ^ (n + 1) = 2 ^ n + 2 ^ n := by rw [Nat.pow_succ]; omega
    by_cases e : 0 ≤ f n
    · refine ⟨S ||| 2 ^ n, Nat.or_lt_two_pow (by omega) (by have := Nat.two_pow_pos n; omega), fun i hi => ?_⟩
      by_cases q : i = n
      · subst q; rw [tb_or_s]; exact ⟨fun _ => rfl, fun _ => e⟩
      · rw [tb_or_n q]; exact h2 i (by omega)
    · refine ⟨S, by omega, fun i hi => ?_⟩
      by_cases q : i = n
      · subst q; rw [Nat.testBit_lt_two_pow h1]; exact ⟨fun c => absurd c e, fun c => by cases c⟩
      · exact h2 i (by omega)
theorem wy_cnt {f w : Nat → Int} {S : Nat} : ∀ n, (∀ i, i < n → (0 ≤ f i ↔ S.testBit i = true)) → rg_c f n = ms (fun _ => 1) S n ∧ rg_w w f n = ms w S n := by
  intro n
  induction n with
  | zero => intro _; exact ⟨rfl, rfl⟩
  | succ n ih =>
    intro h
    obtain ⟨a, b⟩ := ih (fun i hi => h i (by omega))
    have q := h n (Nat.lt_succ_self _)
    unfold rg_c rg_w ms
    rw [a, b]
    by_cases e : 0 ≤ f n
    · rw [if_pos e, if_pos e, if_pos (q.mp e), if_pos (q.mp e)]; exact ⟨rfl, rfl⟩
    · rw [if_neg e, if_neg e, if_neg (fun c => e (q.mpr c)), if_neg (fun c => e (q.mpr c))]; exact ⟨rfl, rfl⟩
def dgz (z : Int) : Int := if z < 0 then 9 else z
theorem wy_whole {f : Nat → Int} {S : Nat} : ∀ n, (∀ i, i < n → (0 ≤ f i ↔ S.testBit i = true)) → rg_s (fun i => dgz (f i) * dp_D i) n = wy_c f S n + hc_f S n := by
  intro n
  induction n with
  | zero => intro _; rfl
  | succ n ih =>
    intro h
    have a := ih (fun i hi => h i (by omega))
    have q := h n (Nat.lt_succ_self _)
    unfold wy_c at a ⊢
    unfold rg_s ms hc_f
    rw [a]
    unfold dgz
    by_cases e : 0 ≤ f n
    · rw [if_neg (by omega), if_pos (q.mp e), if_pos (q.mp e)]; omega
    · rw [if_pos (by omega), if_neg (fun c => e (q.mpr c)), if_neg (fun c => e (q.mpr c))]; omega
theorem nine_all : ∀ n, n < 10 → ∀ k, k < n → rg_s (fun i => 9 * dp_D i) n - rg_s (fun i => 9 * dp_D i) (k + 1) < dp_D k := by decide
/-- who comes first has the lesser number -/
theorem wh_lt {n : Nat} {f f' : Nat → Int} (hn : n ≤ 9) (h1 : ∀ i, i < n → -1 ≤ f i ∧ f i < (n : Int)) (h2 : ∀ i, i < n → -1 ≤ f' i ∧ f' i < (n : Int)) (h : rg_lt n f' f) : rg_s (fun i => dgz (f' i) * dp_D i) n < rg_s (fun i => dgz (f i) * dp_D i) n := by
  obtain ⟨k, k1, k2, k3⟩ := h
  have dk : dgz (f' k) + 1 ≤ dgz (f k) := by
    have a := h1 k k1; have b := h2 k k1
    unfold rg_k at k3
    unfold dgz
    split at k3 <;> split at k3 <;> (repeat' split) <;> omega
  have e0 : rg_s (fun i => dgz (f' i) * dp_D i) k = rg_s (fun i => dgz (f i) * dp_D i) k := rg_s_cg k (fun i hi => by rw [k2 i hi])
  have key : ∀ m, k + 1 ≤ m → m ≤ n → rg_s (fun i => dgz (f' i) * dp_D i) m ≤ rg_s (fun i => dgz (f i) * dp_D i) m - dp_D k + (rg_s (fun i => 9 * dp_D i) m - rg_s (fun i => 9 * dp_D i) (k + 1)) := by
    intro m
    induction m with
    | zero => intro q; omega
    | succ m ih =>
      intro q r
      by_cases e : k = m
      · subst e
        have d := dp_D_pos k
        have m1 : (dgz (f' k) + 1) * dp_D k ≤ dgz (f k) * dp_D k := Int.mul_le_mul_of_nonneg_right dk (by omega)
        rw [Int.add_mul, Int.one_mul] at m1
        show rg_s _ k + dgz (f' k) * dp_D k ≤ rg_s _ k + dgz (f k) * dp_D k - dp_D k + (rg_s _ (k + 1) - rg_s _ (k + 1))
        rw [e0]
        omega
      · have a := ih (by omega) (by omega)
        have d := dp_D_pos m
        have b1 : 0 ≤ dgz (f m) := by have := h1 m (by omega); unfold dgz; split <;> omega
        have b2 : dgz (f' m) ≤ 9 := by have := h2 m (by omega); unfold dgz; split <;> omega
        have m1 : dgz (f' m) * dp_D m ≤ 9 * dp_D m := Int.mul_le_mul_of_nonneg_right b2 (by omega)
        have m2 : 0 ≤ dgz (f m) * dp_D m := Int.mul_nonneg b1 (by omega)
        show rg_s _ m + dgz (f' m) * dp_D m ≤ rg_s _ m + dgz (f m) * dp_D m - dp_D k + (rg_s _ m + 9 * dp_D m - rg_s _ (k + 1))
        omega
  have a := key n (by omega) (Nat.le_refl _)
  have b := nine_all n (by omega) k k1
  omega
theorem bcz_pos : ∀ b, b < 512 → b ≠ 0 → 1 ≤ bcz b := by decide +kernel
/-- the class's search finds the best way, and of the best the first -/
theorem dd_best {n L : Nat} {su : Nat → Nat → Bool} {Q W w : Nat → Int} (hn : n ≤ 9) (hs : dp_RS n su L Q (2 ^ n)) (hc : dp_RC n su L Q (2 ^ n)) : ∃ p, rg_B n (fun i j => su i j = true) L w p ∧ (∀ i, i < n → (0 ≤ p i ↔ (bs_f Q W w n (2 ^ n)).testBit i = true)) ∧ (bs_f Q W w n (2 ^ n) ≠ 0 → wy_c p (bs_f Q W w n (2 ^ n)) n = dd_wy Q W (2 ^ n) (bs_f Q W w n (2 ^ n))) ∧ rg_c p n = bcz (bs_f Q W w n (2 ^ n)) ∧ bs_f Q W w n (2 ^ n) < 2 ^ n := by
  have wall := dd_wy_all (W := W) hn hs hc (2 ^ n) (Nat.le_refl _)
  obtain ⟨b1, b2⟩ := bs_all (Q := Q) (W := W) (w := w) (n := n) (N := 2 ^ n) (2 ^ n) (Nat.le_refl _)
  have bl : bs_f Q W w n (2 ^ n) < 2 ^ n := by
    rcases bs_lt (Q := Q) (W := W) (w := w) (n := n) (2 ^ n) with h | h
    · rw [h]; exact Nat.two_pow_pos n
    · exact h
  generalize hb : bs_f Q W w n (2 ^ n) = b at *
  have bcn : ∀ S, S < 2 ^ n → bcz S = ms (fun _ => 1) S n := fun S hS => ms_ext hS 9 hn
  -- the way of b
  obtain ⟨p, p1, p2⟩ : ∃ p, wy_V n su L b p ∧ (b ≠ 0 → wy_c p b n = dd_wy Q W (2 ^ n) b) := by
    by_cases e : b = 0
    · exact ⟨fun _ => -1, by rw [e]; exact wy_none, fun q => absurd e q⟩
    · rcases b1 with h | h
      · exact absurd h e
      · obtain ⟨f, f1, f2⟩ := (wall b bl e).1 h
        exact ⟨f, f1, fun _ => f2⟩
  have pc := wy_cnt (w := w) n p1.2
  refine ⟨p, ⟨p1.1, fun f' hf' => ?_⟩, p1.2, p2, by rw [pc.1, bcn b bl], bl⟩
  obtain ⟨S, s1, s2⟩ := wy_set f' n
  have fc := wy_cnt (w := w) n s2
  rw [pc.1, pc.2, fc.1, fc.2, ← bcn b bl, ← bcn S s1]
  have rng : ∀ g : Nat → Int, rg_V n (fun i j => su i j = true) L g → ∀ i, i < n → -1 ≤ g i ∧ g i < (n : Int) := fun g hg i hi => by
    have := hg.1 i hi; omega
  by_cases e : S = 0
  · by_cases e2 : b = 0
    · refine Or.inr (Or.inr ⟨by rw [e, e2], by rw [e, e2], fun hlt => ?_⟩)
      obtain ⟨k, k1, -, k3⟩ := hlt
      have a := hf'.1 k k1; have c := p1.1.1 k k1
      have a2 := s2 k k1; have c2 := p1.2 k k1
      rw [e, Nat.zero_testBit] at a2
      rw [e2, Nat.zero_testBit] at c2
      have a3 : ¬ 0 ≤ f' k := fun q => by have := a2.mp q; cases this
      have c3 : ¬ 0 ≤ p k := fun q => by have := c2.mp q; cases this
      unfold rg_k at k3
      rw [if_pos (by omega), if_pos (by omega)] at k3
      omega
    · left
      have := bcz_pos b (Nat.lt_of_lt_of_le bl (p2_9 hn)) e2
      rw [e]
      have z : bcz 0 = 0 := by decide
      omega
  · have le := (wall S s1 e).2 f' ⟨hf', s2⟩
    have cl := (wy_c_le hn (show wy_V n su L S f' from ⟨hf', s2⟩)).2
    have nn : dd_wy Q W (2 ^ n) S ≠ dp_N := fun z => by rw [z] at le; unfold dp_N at le; omega
    have q := b2 S s1 e nn
    unfold bt_b at q
    have q := of_decide_eq_false q
    by_cases c1 : bcz S < bcz b
    · exact Or.inl c1
    · by_cases c2 : ms w S n < ms w b n
      · exact Or.inr (Or.inl ⟨by omega, c2⟩)
      · refine Or.inr (Or.inr ⟨by omega, by omega, fun hlt => ?_⟩)
        have lt := wh_lt hn (rng p p1.1) (rng f' hf') hlt
        rw [wy_whole n s2, wy_whole n p1.2] at lt
        by_cases e2 : b = 0
        · have := bcz_pos S (Nat.lt_of_lt_of_le s1 (p2_9 hn)) e
          have z : bcz 0 = 0 := by decide
          rw [e2] at q c1
          omega
        · have := p2 e2
          omega
/-- the digits of a way -/
theorem dg9 {e : Nat → Int} {N : Int} (h : ∀ i, i < 9 → 0 ≤ e i ∧ e i ≤ 9) (hN : N = rg_s (fun i => e i * dp_D i) 9) : ∀ i, i < 9 → N / 10 ^ (8 - i) % 10 = e i := by
  have h0 := h 0 (by omega); have h1 := h 1 (by omega); have h2 := h 2 (by omega); have h3 := h 3 (by omega); have h4 := h 4 (by omega); have h5 := h 5 (by omega); have h6 := h 6 (by omega); have h7 := h 7 (by omega); have h8 := h 8 (by omega)
  have hN : N = e 0 * 100000000 + e 1 * 10000000 + e 2 * 1000000 + e 3 * 100000 + e 4 * 10000 + e 5 * 1000 + e 6 * 100 + e 7 * 10 + e 8 * 1 := by
    rw [hN]
    show 0 + e 0 * dp_D 0 + e 1 * dp_D 1 + e 2 * dp_D 2 + e 3 * dp_D 3 + e 4 * dp_D 4 + e 5 * dp_D 5 + e 6 * dp_D 6 + e 7 * dp_D 7 + e 8 * dp_D 8 = _
    have d : dp_D 0 = 100000000 ∧ dp_D 1 = 10000000 ∧ dp_D 2 = 1000000 ∧ dp_D 3 = 100000 ∧ dp_D 4 = 10000 ∧ dp_D 5 = 1000 ∧ dp_D 6 = 100 ∧ dp_D 7 = 10 ∧ dp_D 8 = 1 := by decide
    obtain ⟨d0, d1, d2, d3, d4, d5, d6, d7, d8⟩ := d
    rw [d0, d1, d2, d3, d4, d5, d6, d7, d8, Int.zero_add]
  intro i hi
  rcases (show i = 0 ∨ i = 1 ∨ i = 2 ∨ i = 3 ∨ i = 4 ∨ i = 5 ∨ i = 6 ∨ i = 7 ∨ i = 8 by omega) with rfl | rfl | rfl | rfl | rfl | rfl | rfl | rfl | rfl
  · show N / 100000000 % 10 = e 0; omega
  · show N / 10000000 % 10 = e 1; omega
  · show N / 1000000 % 10 = e 2; omega
  · show N / 100000 % 10 = e 3; omega
  · show N / 10000 % 10 = e 4; omega
  · show N / 1000 % 10 = e 5; omega
  · show N / 100 % 10 = e 6; omega
  · show N / 10 % 10 = e 7; omega
  · show N / 1 % 10 = e 8; omega
