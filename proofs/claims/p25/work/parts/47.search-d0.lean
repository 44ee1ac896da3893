/-! ===== the table's beginning; the whole search ===== -/
def si_f (r : Nat → Int) : Nat → Nat → Int
  | 0 => r
  | i + 1 => pz_up (si_f r i) (2 ^ i * 9 + i) 0
theorem si_at {r : Nat → Int} {S y : Nat} (hy : y < 9) : ∀ m, m ≤ 9 → si_f r m (S * 9 + y) = if y < m ∧ S = 2 ^ y then 0 else r (S * 9 + y) := by
  intro m
  induction m with
  | zero => intro _; rw [if_neg (by omega)]; rfl
  | succ m ih =>
    intro hm
    show pz_up (si_f r m) (2 ^ m * 9 + m) 0 (S * 9 + y) = _
    by_cases e : S * 9 + y = 2 ^ m * 9 + m
    · obtain ⟨rfl, rfl⟩ : S = 2 ^ m ∧ y = m := by omega
      rw [pz_up_s, if_pos ⟨by omega, rfl⟩]
    · rw [pz_up_n e, ih (by omega)]
      by_cases c : y < m ∧ S = 2 ^ y
      · rw [if_pos c, if_pos ⟨by omega, c.2⟩]
      · rw [if_neg c]
        by_cases d : y = m
        · subst d; rw [if_neg (fun q => e (by rw [q.2]))]
        · rw [if_neg (fun q => c ⟨by omega, q.2⟩)]
theorem sd_le {s r : Nat} : sd s r ≤ s := by
  have hse : s &&& sd s r = sd s r := Nat.eq_of_testBit_eq (fun i => by rw [Nat.testBit_and, sd_tb]; cases s.testBit i <;> cases r.testBit i <;> rfl)
  rw [← hse]; exact Nat.and_le_left
section RGI
variable {n : Nat} {su : Nat → Nat → Bool} {L : Int} {r q : Nat → Int}
theorem dd_start (hn : n ≤ 9) : dp_S n su (si_f (fz r 0 dp_N (9 * 2 ^ n)) n) ∧ dp_C n su L (si_f (fz r 0 dp_N (9 * 2 ^ n)) n) 0 ∧ ∀ S, S < 2 ^ n → fz q 0 dp_N (2 ^ n) S = dp_N := by
  refine ⟨fun S y hS hy hv => ?_, fun x t hx ht => ?_, fun S hS => ?_⟩
  · rw [si_at (by omega) n hn] at hv ⊢
    by_cases c : y < n ∧ S = 2 ^ y
    · rw [if_pos c]
      refine ⟨fun _ => y, 0, ⟨fun s _ => hy, fun s s' a b => absurd b (by omega), fun s hs => absurd hs (Nat.not_lt_zero _), fun s a b => absurd b (by omega)⟩, c.2.symm, rfl, rfl⟩
    · rw [if_neg c, fz_at, if_pos ⟨Nat.zero_le _, by omega⟩] at hv
      exact absurd rfl hv
  · rcases ht with t0 | ⟨t1, -⟩
    · subst t0
      have a := hx.1 0 (Nat.le_refl _)
      show si_f _ n (2 ^ x 0 * 9 + x 0) ≤ 0
      rw [si_at (by omega) n hn, if_pos ⟨a, rfl⟩]
      exact Int.le_refl _
    · exact absurd t1 (Nat.not_lt_zero _)
  · rw [fz_at, if_pos ⟨Nat.zero_le _, by omega⟩]
/-- what the table holds is none, or small -/
theorem dd_bnd (hn : n ≤ 9) {T : Nat} (hT : T ≤ 2 ^ n) {S : Nat} (hS : S < 2 ^ n) : (∀ z, z < n → (dd_all n su L (si_f (fz r 0 dp_N (9 * 2 ^ n)) n) (fz q 0 dp_N (2 ^ n)) T).1 (S * 9 + z) = dp_N ∨ (0 ≤ (dd_all n su L (si_f (fz r 0 dp_N (9 * 2 ^ n)) n) (fz q 0 dp_N (2 ^ n)) T).1 (S * 9 + z) ∧ (dd_all n su L (si_f (fz r 0 dp_N (9 * 2 ^ n)) n) (fz q 0 dp_N (2 ^ n)) T).1 (S * 9 + z) ≤ 888888888)) ∧ ((dd_all n su L (si_f (fz r 0 dp_N (9 * 2 ^ n)) n) (fz q 0 dp_N (2 ^ n)) T).2 S = dp_N ∨ (0 ≤ (dd_all n su L (si_f (fz r 0 dp_N (9 * 2 ^ n)) n) (fz q 0 dp_N (2 ^ n)) T).2 S ∧ (dd_all n su L (si_f (fz r 0 dp_N (9 * 2 ^ n)) n) (fz q 0 dp_N (2 ^ n)) T).2 S ≤ 888888888)) := by
  obtain ⟨s1, s2, s3⟩ := dd_start (su := su) (L := L) (r := r) (q := q) hn
  obtain ⟨i1, -, i3, -⟩ := dd_inv hn s1 s2 s3 T hT
  constructor
  · intro z hz
    by_cases e : (dd_all n su L (si_f (fz r 0 dp_N (9 * 2 ^ n)) n) (fz q 0 dp_N (2 ^ n)) T).1 (S * 9 + z) = dp_N
    · exact Or.inl e
    · obtain ⟨x, t, x1, -, -, x4⟩ := i1 S z hS hz e
      rw [← x4]; exact Or.inr (sq_c_le hn x1)
  · by_cases e : (dd_all n su L (si_f (fz r 0 dp_N (9 * 2 ^ n)) n) (fz q 0 dp_N (2 ^ n)) T).2 S = dp_N
    · exact Or.inl e
    · obtain ⟨-, x, t, x1, -, -, -, x5⟩ := i3 S hS e
      rw [x5]; exact Or.inr (sq_r_le hn x1)
end RGI
/-- the rings' numbers behind the table's whole run -/
def dd_Q (n : Nat) (su : Nat → Nat → Bool) (L : Int) (r q : Nat → Int) : Nat → Int := (dd_all n su L (si_f (fz r 0 dp_N (9 * 2 ^ n)) n) (fz q 0 dp_N (2 ^ n)) (2 ^ n)).2
theorem dd_Q_ok {n : Nat} {su : Nat → Nat → Bool} {L : Nat} {r q : Nat → Int} (hn : n ≤ 9) : dp_RS n su L (dd_Q n su L r q) (2 ^ n) ∧ dp_RC n su L (dd_Q n su L r q) (2 ^ n) := by
  obtain ⟨s1, s2, s3⟩ := dd_start (su := su) (L := (L : Int)) (r := r) (q := q) hn
  obtain ⟨-, -, i3, i4⟩ := dd_inv hn s1 s2 s3 (2 ^ n) (Nat.le_refl _)
  exact ⟨i3, i4⟩
theorem dd_Qb {n : Nat} {su : Nat → Nat → Bool} {L : Int} {r q : Nat → Int} (hn : n ≤ 9) {S : Nat} (hS : S < 2 ^ n) : dd_Q n su L r q S = dp_N ∨ (0 ≤ dd_Q n su L r q S ∧ dd_Q n su L r q S ≤ 888888888) := (dd_bnd hn (Nat.le_refl _) hS).2
theorem dd_Wb {n : Nat} {su : Nat → Nat → Bool} {L : Nat} {r q W : Nat → Int} (hn : n ≤ 9) {T S : Nat} (hT : T ≤ 2 ^ n) (hS : S < T) (h0 : S ≠ 0) : dd_wy (dd_Q n su L r q) W T S = dp_N ∨ (0 ≤ dd_wy (dd_Q n su L r q) W T S ∧ dd_wy (dd_Q n su L r q) W T S ≤ 888888888) := by
  obtain ⟨a, b⟩ := dd_Q_ok (su := su) (L := L) (r := r) (q := q) hn
  by_cases e : dd_wy (dd_Q n su L r q) W T S = dp_N
  · exact Or.inl e
  · obtain ⟨f, f1, f2⟩ := (dd_wy_all (W := W) hn a b T hT S hS h0).1 e
    rw [← f2]; exact Or.inr (wy_c_le hn f1)
theorem rg_V_su {n L : Nat} {su su' : Nat → Nat → Prop} {f : Nat → Int} (h : ∀ i j, i < n → j < n → su i j → su' i j) (hV : rg_V n su L f) : rg_V n su' L f :=
  ⟨fun i hi => (hV.1 i hi).imp_right (fun q => ⟨q.1, q.2.1, h i _ hi (by omega) q.2.2⟩), hV.2⟩
theorem rg_B_su {n L : Nat} {su su' : Nat → Nat → Prop} {w f : Nat → Int} (h : ∀ i j, i < n → j < n → (su i j ↔ su' i j)) (hB : rg_B n su L w f) : rg_B n su' L w f :=
  ⟨rg_V_su (fun i j a b => (h i j a b).mp) hB.1, fun f' hf' => hB.2 f' (rg_V_su (fun i j a b => (h i j a b).mpr) hf')⟩
theorem rg_B_w {n L : Nat} {su : Nat → Nat → Prop} {w w' f : Nat → Int} (h : ∀ i, i < n → w i = w' i) (hB : rg_B n su L w f) : rg_B n su L w' f := by
  have e : ∀ f : Nat → Int, rg_w w' f n = rg_w w f n := fun f => by
    rw [rg_w_s, rg_w_s]
    exact rg_s_cg n (fun i hi => by rw [h i hi])
  refine ⟨hB.1, fun f' hf' => ?_⟩
  rw [e, e]; exact hB.2 f' hf'
/-- all of the class's search: what it finds -/
theorem dd_find {n L : Nat} {r q W w F : Nat → Int} {P : Nat → Nat → Bool} (hn : n ≤ 9) (hF : ∀ i, i < n → F i = (sm_f (P i) n : Int)) : ∃ p, rg_B n (fun i j => P i j = true) L w p ∧ (∀ i, i < n → (0 ≤ p i ↔ (bs_f (dd_Q n (fun x y => (F x).toNat.testBit y) L r q) W w n (2 ^ n)).testBit i = true)) ∧ (bs_f (dd_Q n (fun x y => (F x).toNat.testBit y) L r q) W w n (2 ^ n) ≠ 0 → wy_c p (bs_f (dd_Q n (fun x y => (F x).toNat.testBit y) L r q) W w n (2 ^ n)) n = dd_wy (dd_Q n (fun x y => (F x).toNat.testBit y) L r q) W (2 ^ n) (bs_f (dd_Q n (fun x y => (F x).toNat.testBit y) L r q) W w n (2 ^ n))) ∧ rg_c p n = bcz (bs_f (dd_Q n (fun x y => (F x).toNat.testBit y) L r q) W w n (2 ^ n)) ∧ bs_f (dd_Q n (fun x y => (F x).toNat.testBit y) L r q) W w n (2 ^ n) < 2 ^ n := by
  obtain ⟨a, b⟩ := dd_Q_ok (su := fun x y => (F x).toNat.testBit y) (L := L) (r := r) (q := q) hn
  obtain ⟨p, p1, p2⟩ := dd_best (W := W) (w := w) hn a b
  refine ⟨p, rg_B_su (fun i j hi hj => ?_) p1, p2⟩
  rw [hF i hi, Int.toNat_natCast, sm_tb, decide_eq_true hj, Bool.true_and]
theorem dd_all_1 {n : Nat} {su : Nat → Nat → Bool} {L : Int} {R Q : Nat → Int} : dd_all n su L R Q 1 = (R, Q) := by
  show (if _ then _ else _) = _
  rw [if_pos (Or.inl rfl)]; rfl
theorem dd_all_s {n : Nat} {su : Nat → Nat → Bool} {L : Int} {R Q : Nat → Int} {T : Nat} (h : T ≠ 0) : (dd_all n su L R Q (T + 1)).1 = (if L < bcz T then (dd_all n su L R Q T).1 else (dd_go n su T (lo9 T) (dd_all n su L R Q T).1 (dd_all n su L R Q T).2 n).1) ∧ (dd_all n su L R Q (T + 1)).2 = (if L < bcz T then (dd_all n su L R Q T).2 else (dd_go n su T (lo9 T) (dd_all n su L R Q T).1 (dd_all n su L R Q T).2 n).2) := by
  have e : dd_all n su L R Q (T + 1) = if T = 0 ∨ L < bcz T then dd_all n su L R Q T else dd_go n su T (lo9 T) (dd_all n su L R Q T).1 (dd_all n su L R Q T).2 n := rfl
  by_cases c : L < bcz T
  · rw [e, if_pos (Or.inr c), if_pos c, if_pos c]; exact ⟨rfl, rfl⟩
  · rw [e, if_neg (fun q => q.elim h c), if_neg c, if_neg c]; exact ⟨rfl, rfl⟩
theorem dd_wy_s {Q W : Nat → Int} {S : Nat} (h : S ≠ 0) : dd_wy Q W (S + 1) = pz_up (dd_wy Q W S) S (dd_fw Q (dd_wy Q W S) S) := by
  show (if _ then _ else _) = _
  rw [if_neg h]
theorem dd_wy_1 {Q W : Nat → Int} : dd_wy Q W 1 = W := by
  show (if _ then _ else _) = _
  rw [if_pos rfl]; rfl
theorem bs_1 {Q W w : Nat → Int} {n : Nat} : bs_f Q W w n 1 = 0 := by
  show (if _ then _ else _) = _
  rw [if_neg (fun q => q.1 rfl)]; rfl
theorem bs_y {Q W w : Nat → Int} {n T : Nat} (h0 : T ≠ 0) (h1 : dd_wy Q W (T + 1) T ≠ dp_N) (h2 : bt_b (dd_wy Q W (T + 1)) w n T (bs_f Q W w n T) = true) : bs_f Q W w n (T + 1) = T := if_pos ⟨h0, h1, h2⟩
theorem bs_n {Q W w : Nat → Int} {n T : Nat} (h : dd_wy Q W (T + 1) T = dp_N ∨ ¬ bt_b (dd_wy Q W (T + 1)) w n T (bs_f Q W w n T) = true) : bs_f Q W w n (T + 1) = bs_f Q W w n T := if_neg (fun q => h.elim q.2.1 (fun z => z q.2.2))
/-- the best set so far: its way is none, or small -/
theorem bs_Wb {n : Nat} {su : Nat → Nat → Bool} {L : Nat} {r q W w : Nat → Int} (hn : n ≤ 9) {T : Nat} (hT : T + 1 ≤ 2 ^ n) (hW : W 0 = 0) : 0 ≤ dd_wy (dd_Q n su L r q) W (T + 1) (bs_f (dd_Q n su L r q) W w n T) ∧ dd_wy (dd_Q n su L r q) W (T + 1) (bs_f (dd_Q n su L r q) W w n T) ≤ 888888888 := by
  by_cases e : bs_f (dd_Q n su L r q) W w n T = 0
  · rw [e, wy_fix0, hW]; exact ⟨by decide, by decide⟩
  · have a := (bs_all (Q := dd_Q n su L r q) (W := W) (w := w) (n := n) (N := T + 1) T (by omega)).1.resolve_left e
    have b := (bs_lt (Q := dd_Q n su L r q) (W := W) (w := w) (n := n) T).resolve_left e
    exact (dd_Wb (W := W) hn hT (S := bs_f (dd_Q n su L r q) W w n T) (by omega) e).resolve_left a
theorem fs_in {r : Nat → Int} {P : Nat → Nat → Bool} {n m q : Nat} (h : q < m) : fs_f r P n m q = (sm_f (P q) n : Int) := if_pos h
