/-! ===== who is searched among ===== -/
theorem cnt_mo {m n : Nat} (h : m ≤ n) (f : Nat → Int) (v : Int) : cnt m f v ≤ cnt n f v := fb_ct_mono _ h
theorem rg_V_s2 {n L : Nat} {su su' : Nat → Nat → Prop} {f : Nat → Int} (h : rg_V n su L f) (e : ∀ i j, i < n → j < n → su i j → su' i j) : rg_V n su' L f :=
  ⟨fun i hi => (h.1 i hi).imp id (fun q => ⟨q.1, q.2.1, e _ _ hi (by have := q.1; have := q.2.1; omega) q.2.2⟩), h.2⟩
theorem rg_B_s2 {n L : Nat} {su su' : Nat → Nat → Prop} {w f : Nat → Int} (h : rg_B n su L w f) (e : ∀ i j, i < n → j < n → (su i j ↔ su' i j)) : rg_B n su' L w f :=
  ⟨rg_V_s2 h.1 (fun i j a b => (e i j a b).mp), fun f' h' => h.2 f' (rg_V_s2 h' (fun i j a b => (e i j a b).mpr))⟩
/-- the first n places hold, in order, those of the first i gifts that q picks among the open ones -/
def MB (r s : Nat → Int) (q : Nat → Prop) (n i : Nat) : Prop :=
  (∀ a b, a < b → b < n → (r (0 + a)).toNat < (r (0 + b)).toNat) ∧ (∀ a, a < n → 0 ≤ r (0 + a) ∧ (r (0 + a)).toNat < i ∧ s (r (0 + a)).toNat = 0 ∧ q (r (0 + a)).toNat) ∧ (∀ x, x < i → s x = 0 → q x → ∃ a, a < n ∧ (r (0 + a)).toNat = x) ∧ n ≤ cnt i s 0
section MBS
variable {r r' s : Nat → Int} {q : Nat → Prop} {n n' i i' : Nat}
theorem MB_0 (hn : n = 0) (hi : i = 0) : MB r s q n i := by
  subst hn hi
  exact ⟨fun a b _ h => absurd h (by omega), fun a h => absurd h (by omega), fun x h => absurd h (by omega), Nat.zero_le _⟩
theorem MB_no (h : MB r s q n i) (hi : i' = i + 1) (c : s i = 0 → ¬ q i) : MB r s q n i' := by
  subst hi
  refine ⟨h.1, fun a ha => ?_, fun x hx h0 h1 => ?_, Nat.le_trans h.2.2.2 (cnt_mo (by omega) s 0)⟩
  · obtain ⟨a1, a2, a3⟩ := h.2.1 a ha
    exact ⟨a1, by omega, a3⟩
  · rcases Nat.lt_or_ge x i with l | l
    · exact h.2.2.1 x l h0 h1
    · obtain rfl : x = i := by omega
      exact absurd h1 (c h0)
theorem MB_up (h : MB r s q n i) (hn : n' = n + 1) (hi : i' = i + 1) (h0 : s i = 0) (h1 : q i) {k : Nat} (hk : k = i) (e : r' = pz_up r (0 + n) (k : Int)) : MB r' s q n' i' := by
  subst hn hi hk e
  have at1 : ∀ a, a < n → pz_up r (0 + n) (k : Int) (0 + a) = r (0 + a) := fun a ha => pz_up_n (by omega)
  have at2 : pz_up r (0 + n) (k : Int) (0 + n) = (k : Int) := pz_up_s
  refine ⟨fun a b ab hb => ?_, fun a ha => ?_, fun x hx x0 x1 => ?_, ?_⟩
  · rw [at1 a (by omega)]
    rcases Nat.lt_or_ge b n with l | l
    · rw [at1 b l]; exact h.1 a b ab l
    · obtain rfl : b = n := by omega
      rw [at2, Int.toNat_natCast]; exact (h.2.1 a ab).2.1
  · rcases Nat.lt_or_ge a n with l | l
    · rw [at1 a l]
      obtain ⟨a1, a2, a3⟩ := h.2.1 a l
      exact ⟨a1, by omega, a3⟩
    · obtain rfl : a = n := by omega
      rw [at2, Int.toNat_natCast]; exact ⟨by omega, by omega, h0, h1⟩
  · rcases Nat.lt_or_ge x k with l | l
    · obtain ⟨a, a1, a2⟩ := h.2.2.1 x l x0 x1
      exact ⟨a, by omega, by rw [at1 a a1]; exact a2⟩
    · exact ⟨n, by omega, by rw [at2, Int.toNat_natCast]; omega⟩
  · have := h.2.2.2
    rcases cnt_succ k s 0 with ⟨_, e⟩ | ⟨e, _⟩
    · omega
    · exact absurd h0 e
theorem MB_inj (h : MB r s q n i) : ∀ a b, a < n → b < n → (r (0 + a)).toNat = (r (0 + b)).toNat → a = b := fun a b ha hb e => by
  rcases Nat.lt_trichotomy a b with l | l | l
  · have := h.1 a b l hb; omega
  · exact l
  · have := h.1 b a l ha; omega
end MBS
/-- what the class's rings suit by -/
def su_c (s wi fl wk ty si : Nat → Int) (x y : Nat) : Prop := x ≠ y ∧ s x = 0 ∧ mz_b (wi x) (ty (fl y).toNat) (si (fl y).toNat) (wk y) ≠ 0
/-- the best way is taken, and so many get one -/
def RGS (G L : Nat) (su : Nat → Nat → Prop) (w ow s0 g0 b0 s g b : Nat → Int) (z : Int) : Prop :=
  ∃ F, rg_B G su L w F ∧ (∀ x, G ≤ x → F x = -1) ∧ z = rg_c F G ∧ SWF F ow s0 g0 b0 s g b
theorem RGS_un {G L : Nat} {su su' : Nat → Nat → Prop} {w ow s0 g0 b0 s g b s' g' b' : Nat → Int} {z z' : Int} (hG : G ≤ 1000) (h : RGS G L su w ow s0 g0 b0 s g b z) (h' : RGS G L su' w ow s0 g0 b0 s' g' b' z') (e : ∀ i j, i < G → j < G → (su i j ↔ su' i j)) : z = z' ∧ s = s' ∧ g = g' ∧ b = b' := by
  obtain ⟨F, a1, a2, a3, a4⟩ := h
  obtain ⟨F', c1, c2, c3, c4⟩ := h'
  have ee := rg_un hG (rg_B_s2 a1 e) c1
  exact ⟨by rw [a3, c3]; exact rg_c_cg G ee, SWF_un a4 c4 ee a2 c2 rfl rfl rfl rfl⟩
theorem mz_pos {z t s w : Int} (h : mz_b z t s w ≠ 0) : 0 ≤ z := by
  unfold mz_b at h
  by_cases c : 0 ≤ z
  · exact c
  · rw [if_neg (fun q => c q.1)] at h; exact absurd rfl h
theorem RGS_c {r s wi fl wk ty si w ow g0 b0 s' g' b' p : Nat → Int} {n G L : Nat} {z : Int} (hM : MB r s (fun x => 0 ≤ wi x) n G) (hn : n ≤ 9) (hG : G ≤ 200)
    (hB : rg_B n (fun i j => (decide (i ≠ j ∧ mz_b (wi (r (0 + i)).toNat) (ty (fl (r (0 + j)).toNat).toNat) (si (fl (r (0 + j)).toNat).toNat) (wk (r (0 + j)).toNat) ≠ 0)) = true) L (fun i => w (r (0 + i)).toNat) p)
    (hS : SW (fun i => (r (0 + i)).toNat) p ow (fun i => i < n) s g0 b0 s' g' b') (hz : z = rg_c p n) : RGS G L (su_c s wi fl wk ty si) w ow s g0 b0 s' g' b' z := by
  obtain ⟨F, f1, f2, f3, f4⟩ := rg_fin (m := fun i => (r (0 + i)).toNat) (G := G) (su := su_c s wi fl wk ty si) (w := w) (by omega) (by omega) hM.1 (fun i hi => (hM.2.1 i hi).2.1) (fun x y hx h => hM.2.2.1 x hx h.2.1 (mz_pos h.2.2)) (rg_B_s2 hB (fun i j hi hj => by
    rw [decide_eq_true_iff]
    refine ⟨fun h => ⟨fun e => h.1 (MB_inj hM i j hi hj e), (hM.2.1 i hi).2.2.1, h.2⟩, fun h => ⟨fun e => h.1 (by rw [e]), h.2.2⟩⟩)) hS
  exact ⟨F, f1, f2, by rw [f3, hz], f4⟩
