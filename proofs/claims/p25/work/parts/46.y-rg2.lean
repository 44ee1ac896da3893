/-! ===== ways among places, ways among gifts ===== -/
def rg_s (φ : Nat → Int) : Nat → Int
  | 0 => 0
  | n + 1 => rg_s φ n + φ n
theorem rg_s_cg {φ ψ : Nat → Int} : ∀ n, (∀ i, i < n → φ i = ψ i) → rg_s φ n = rg_s ψ n := by
  intro n
  induction n with
  | zero => intro _; rfl
  | succ n ih => intro h; unfold rg_s; rw [ih (fun i hi => h i (by omega)), h n (Nat.lt_succ_self _)]
theorem rg_c_s (f : Nat → Int) : ∀ n, rg_c f n = rg_s (fun i => if 0 ≤ f i then 1 else 0) n := by
  intro n
  induction n with
  | zero => rfl
  | succ n ih => unfold rg_c rg_s; rw [ih]
theorem rg_w_s (w f : Nat → Int) : ∀ n, rg_w w f n = rg_s (fun i => if 0 ≤ f i then w i else 0) n := by
  intro n
  induction n with
  | zero => rfl
  | succ n ih => unfold rg_w rg_s; rw [ih]
/-- a sum over places that some numbers name in order -/
theorem rg_s_map {m : Nat → Nat} {φ : Nat → Int} : ∀ (G n : Nat), (∀ i j, i < j → j < n → m i < m j) → (∀ i, i < n → m i < G) → (∀ x, x < G → (∀ i, i < n → m i ≠ x) → φ x = 0) → rg_s φ G = rg_s (fun i => φ (m i)) n := by
  intro G
  induction G with
  | zero =>
    intro n h1 h2 h3
    obtain rfl : n = 0 := by
      cases n with
      | zero => rfl
      | succ n => exact absurd (h2 0 (Nat.succ_pos _)) (Nat.not_lt_zero _)
    rfl
  | succ G ih =>
    intro n h1 h2 h3
    by_cases e : ∃ i, i < n ∧ m i = G
    · obtain ⟨i, hi, he⟩ := e
      obtain ⟨k, rfl⟩ : ∃ k, n = k + 1 := ⟨n - 1, by omega⟩
      have hk : m k = G := by
        by_cases q : i = k
        · rw [← q]; exact he
        · have a := h1 i k (by omega) (by omega); have b := h2 k (by omega); omega
      show rg_s φ G + φ G = rg_s (fun i => φ (m i)) k + φ (m k)
      rw [hk, ih k (fun i j a b => h1 i j a (by omega)) (fun i a => by have := h1 i k a (by omega); omega) (fun x a b => h3 x (by omega) (fun i c => ?_))]
      by_cases q : i = k
      · rw [q, hk]; omega
      · exact b i (by omega)
    · show rg_s φ G + φ G = _
      rw [h3 G (Nat.lt_succ_self _) (fun i a b => e ⟨i, a, b⟩), ih n h1 (fun i a => by
        have b := h2 i a
        have c : m i ≠ G := fun q => e ⟨i, a, q⟩
        omega) (fun x a b => h3 x (by omega) b)]
      exact Int.add_zero _
theorem rg_lift {n G L : Nat} {m : Nat → Nat} {su : Nat → Nat → Prop} {w p F : Nat → Int}
    (hn9 : n ≤ 1000) (hG9 : G ≤ 1000) (hm : ∀ i j, i < j → j < n → m i < m j) (hG : ∀ i, i < n → m i < G)
    (hs : ∀ x y, x < G → su x y → ∃ i, i < n ∧ m i = x)
    (hF1 : ∀ i, i < n → p i < 0 → F (m i) = -1) (hF2 : ∀ i, i < n → 0 ≤ p i → F (m i) = (m (p i).toNat : Int))
    (hF3 : ∀ x, x < G → (∀ i, i < n → m i ≠ x) → F x = -1)
    (hB : rg_B n (fun i j => su (m i) (m j)) L (fun i => w (m i)) p) : rg_B G su L w F ∧ rg_c F G = rg_c p n := by
  have inj : ∀ i j, i < n → j < n → m i = m j → i = j := fun i j hi hj e => by
    rcases Nat.lt_trichotomy i j with q | q | q
    · have := hm i j q hj; omega
    · exact q
    · have := hm j i q hi; omega
  -- what a way among gifts is among places
  have down : ∀ F', rg_V G su L F' → ∃ p' : Nat → Int, (∀ i, i < n → (F' (m i) = -1 ∧ p' i = -1) ∨ (0 ≤ p' i ∧ p' i < (n : Int) ∧ F' (m i) = (m (p' i).toNat : Int))) := by
    intro F' hV
    have h : ∀ i : Nat, ∃ z : Int, i < n → (F' (m i) = -1 ∧ z = -1) ∨ (0 ≤ z ∧ z < (n : Int) ∧ F' (m i) = (m z.toNat : Int)) := by
      intro i
      by_cases hi : i < n
      · rcases hV.1 (m i) (hG i hi) with e | ⟨e1, e2, e3⟩
        · exact ⟨-1, fun _ => Or.inl ⟨e, rfl⟩⟩
        · have q := hV.2.2.1 (m i) (hG i hi) e1
          have ql : (F' (m i)).toNat < G := by omega
          rcases hV.1 _ ql with r | ⟨r1, r2, r3⟩
          · omega
          · obtain ⟨j, hj, hjm⟩ := hs _ _ ql r3
            exact ⟨(j : Int), fun _ => Or.inr ⟨by omega, by omega, by rw [Int.toNat_natCast, hjm]; omega⟩⟩
      · exact ⟨0, fun h => absurd h hi⟩
    obtain ⟨p', hp⟩ := Classical.axiomOfChoice h
    exact ⟨p', hp⟩
  -- sums
  have sc : ∀ (F' p' : Nat → Int), (∀ i, i < n → (F' (m i) = -1 ∧ p' i = -1) ∨ (0 ≤ p' i ∧ p' i < (n : Int) ∧ F' (m i) = (m (p' i).toNat : Int))) → (∀ x, x < G → (∀ i, i < n → m i ≠ x) → F' x = -1) → rg_c F' G = rg_c p' n ∧ rg_w w F' G = rg_w (fun i => w (m i)) p' n := by
    intro F' p' hp hx
    rw [rg_c_s, rg_c_s, rg_w_s, rg_w_s]
    constructor
    · rw [rg_s_map G n hm hG (fun x a b => by rw [hx x a b]; rfl)]
      refine rg_s_cg n (fun i hi => ?_)
      rcases hp i hi with ⟨a, b⟩ | ⟨a, b, c⟩
      · simp only [a, b]
      · rw [if_pos (by rw [c]; omega), if_pos a]
    · rw [rg_s_map (φ := fun x => if 0 ≤ F' x then w x else 0) G n hm hG (fun x a b => by rw [hx x a b]; rfl)]
      refine rg_s_cg n (fun i hi => ?_)
      rcases hp i hi with ⟨a, b⟩ | ⟨a, b, c⟩
      · rw [a, b]
      · rw [if_pos (by rw [c]; omega), if_pos a]
  have supp : ∀ F', rg_V G su L F' → ∀ x, x < G → (∀ i, i < n → m i ≠ x) → F' x = -1 := by
    intro F' hV x hx hn
    rcases hV.1 x hx with e | ⟨e1, e2, e3⟩
    · exact e
    · obtain ⟨i, a, b⟩ := hs _ _ hx e3
      exact absurd b (hn i a)
  have hpF : ∀ i, i < n → (F (m i) = -1 ∧ p i = -1) ∨ (0 ≤ p i ∧ p i < (n : Int) ∧ F (m i) = (m (p i).toNat : Int)) := by
    intro i hi
    rcases hB.1.1 i hi with e | ⟨e1, e2, -⟩
    · exact Or.inl ⟨hF1 i hi (by omega), e⟩
    · exact Or.inr ⟨e1, e2, hF2 i hi e1⟩
  have mem : ∀ x, x < G → 0 ≤ F x → ∃ i, i < n ∧ m i = x ∧ 0 ≤ p i := by
    intro x hx h0
    by_cases e : ∃ i, i < n ∧ m i = x
    · obtain ⟨i, a, b⟩ := e
      refine ⟨i, a, b, ?_⟩
      rcases hpF i a with ⟨c, -⟩ | ⟨c, -, -⟩
      · rw [b] at c; omega
      · exact c
    · rw [hF3 x hx (fun i a b => e ⟨i, a, b⟩)] at h0; omega
  have itF : ∀ t i, i < n → 0 ≤ p i → rg_it F t (m i) = m (rg_it p t i) ∧ rg_it p t i < n ∧ 0 ≤ p (rg_it p t i) := by
    intro t
    induction t with
    | zero => intro i hi h0; exact ⟨rfl, hi, h0⟩
    | succ t ih =>
      intro i hi h0
      obtain ⟨a, b, c⟩ := ih i hi h0
      have q := hB.1.1 _ b
      have r := hB.1.2.2.1 _ b c
      rw [rg_it_s, rg_it_s, a, hF2 _ b c, Int.toNat_natCast]
      exact ⟨rfl, by omega, r⟩
  have hVF : rg_V G su L F := by
    refine ⟨fun x hx => ?_, fun x y hx hy h0 hxy => ?_, fun x hx h0 => ?_, fun x hx h0 => ?_⟩
    · by_cases e : ∃ i, i < n ∧ m i = x
      · obtain ⟨i, a, rfl⟩ := e
        rcases hB.1.1 i a with e1 | ⟨e1, e2, e3⟩
        · exact Or.inl (hF1 i a (by omega))
        · have g1 := hG (p i).toNat (by omega)
          rw [hF2 i a e1]
          exact Or.inr ⟨by omega, by omega, by rw [Int.toNat_natCast]; exact e3⟩
      · exact Or.inl (hF3 x hx (fun i a b => e ⟨i, a, b⟩))
    · obtain ⟨i, a, rfl, c⟩ := mem x hx h0
      obtain ⟨j, a', rfl, c'⟩ := mem y hy (by omega)
      rw [hF2 i a c, hF2 j a' c'] at hxy
      have q1 := hB.1.1 i a; have q2 := hB.1.1 j a'
      have e := inj (p i).toNat (p j).toNat (by omega) (by omega) (by omega)
      rw [hB.1.2.1 i j a a' c (by omega)]
    · obtain ⟨i, a, rfl, c⟩ := mem x hx h0
      have q1 := hB.1.1 i a
      have q2 := hB.1.2.2.1 i a c
      rw [hF2 i a c, Int.toNat_natCast, hF2 _ (by omega) q2]
      omega
    · obtain ⟨i, a, rfl, c⟩ := mem x hx h0
      obtain ⟨t, t1, t2, t3⟩ := hB.1.2.2.2 i a c
      exact ⟨t, t1, t2, by rw [(itF t i a c).1, t3]⟩
  have sF := sc F p hpF hF3
  refine ⟨⟨hVF, fun F' hV' => ?_⟩, sF.1⟩
  obtain ⟨p', hp'⟩ := down F' hV'
  have sF' := sc F' p' hp' (supp F' hV')
  have itF' : ∀ t i, i < n → 0 ≤ p' i → rg_it F' t (m i) = m (rg_it p' t i) ∧ rg_it p' t i < n ∧ 0 ≤ p' (rg_it p' t i) := by
    intro t
    induction t with
    | zero => intro i hi h0; exact ⟨rfl, hi, h0⟩
    | succ t ih =>
      intro i hi h0
      obtain ⟨a, b, c⟩ := ih i hi h0
      rcases hp' _ b with ⟨q, r⟩ | ⟨q, r, s⟩
      · omega
      · rw [rg_it_s, rg_it_s, a, s, Int.toNat_natCast]
        refine ⟨rfl, by omega, ?_⟩
        rcases hp' (p' (rg_it p' t i)).toNat (by omega) with ⟨u, v⟩ | ⟨u, v, x⟩
        · have := hV'.2.2.1 (m (rg_it p' t i)) (hG _ b) (by rw [s]; omega)
          rw [s, Int.toNat_natCast, u] at this
          omega
        · exact u
  have hVp : rg_V n (fun i j => su (m i) (m j)) L p' := by
    refine ⟨fun i hi => ?_, fun i j hi hj h0 hij => ?_, fun i hi h0 => (itF' 1 i hi h0).2.2, fun i hi h0 => ?_⟩
    · rcases hp' i hi with ⟨a, b⟩ | ⟨a, b, c⟩
      · exact Or.inl b
      · refine Or.inr ⟨a, b, ?_⟩
        rcases hV'.1 (m i) (hG i hi) with e | ⟨e1, e2, e3⟩
        · omega
        · rw [c, Int.toNat_natCast] at e3; exact e3
    · rcases hp' i hi with ⟨a, b⟩ | ⟨a, b, c⟩
      · omega
      · rcases hp' j hj with ⟨a', b'⟩ | ⟨a', b', c'⟩
        · omega
        · exact inj i j hi hj (hV'.2.1 (m i) (m j) (hG i hi) (hG j hj) (by rw [c]; omega) (by rw [c, c', hij]))
    · rcases hp' i hi with ⟨a, b⟩ | ⟨a, b, c⟩
      · omega
      · obtain ⟨t, t1, t2, t3⟩ := hV'.2.2.2 (m i) (hG i hi) (by rw [c]; omega)
        have q := itF' t i hi h0
        rw [q.1] at t3
        exact ⟨t, t1, t2, inj _ _ q.2.1 hi t3⟩
  rw [sF.1, sF.2, sF'.1, sF'.2]
  rcases hB.2 p' hVp with q | q | ⟨q1, q2, q3⟩
  · exact Or.inl q
  · exact Or.inr (Or.inl q)
  · refine Or.inr (Or.inr ⟨q1, q2, fun hlt => q3 ?_⟩)
    obtain ⟨x, x1, x2, x3⟩ := hlt
    by_cases e : ∃ i, i < n ∧ m i = x
    · obtain ⟨k, k1, rfl⟩ := e
      refine ⟨k, k1, fun i hi => ?_, ?_⟩
      · have q := x2 (m i) (hm i k hi k1)
        have u1 := hG i (by omega)
        rcases hp' i (by omega) with ⟨a, b⟩ | ⟨a, b, c⟩ <;> rcases hpF i (by omega) with ⟨a', b'⟩ | ⟨a', b', c'⟩
        · omega
        · omega
        · omega
        · have := inj (p' i).toNat (p i).toNat (by omega) (by omega) (by omega)
          omega
      · unfold rg_k at x3 ⊢
        rcases hp' k k1 with ⟨a, b⟩ | ⟨a, b, c⟩ <;> rcases hpF k k1 with ⟨a', b'⟩ | ⟨a', b', c'⟩
        · rw [a, a'] at x3; omega
        · exfalso
          have := hG (p k).toNat (by omega)
          rw [a, c', if_pos (by omega), if_neg (by omega)] at x3
          omega
        · rw [b', if_pos (show (-1 : Int) < 0 by omega), if_neg (by omega)]
          omega
        · rw [c, c', if_neg (by omega), if_neg (by omega)] at x3
          rw [if_neg (by omega), if_neg (by omega)]
          refine Int.not_le.mp (fun hle => ?_)
          by_cases e2 : (p k).toNat = (p' k).toNat
          · rw [e2] at x3; omega
          · have := hm (p k).toNat (p' k).toNat (by omega) (by omega); omega
    · rw [supp F' hV' x x1 (fun i a b => e ⟨i, a, b⟩), hF3 x x1 (fun i a b => e ⟨i, a, b⟩)] at x3
      omega
