/-! ===== the reference's rings ===== -/
theorem CP_0 {f w : Nat → Int} {su : Nat → Nat → Prop} {W k L : Nat} {many lost all : Int} (hk : k = 0) (h1 : many = 0) (h2 : lost = 0) (hf : ∀ i, i < W → f i < 0) (ha : all = rg_a w W) (hw : ∀ i, i < W → 0 ≤ w i ∧ w i ≤ 29997) : CP f su w W k L many lost all := by
  subst hk h1 h2
  exact ⟨rg_R_0 hf, fun i hi => absurd hi (by omega), rfl, rfl, ha, hw⟩
theorem rg_a_cg {w w' : Nat → Int} : ∀ n, (∀ i, i < n → w i = w' i) → rg_a w n = rg_a w' n := by
  intro n
  induction n with
  | zero => exact fun _ => rfl
  | succ n ih => intro h; unfold rg_a; rw [ih (fun i hi => h i (by omega)), h n (by omega)]
theorem rg_a_up {r r' w : Nat → Int} {n n' k : Nat} {z z' : Int} (e : r' = pz_up r n (k : Int)) (hn : n' = n + 1) (h : z = rg_a (fun i => w (r i).toNat) n) (hz : z' = z + w k) : z' = rg_a (fun i => w (r' i).toNat) n' := by
  subst hn
  have h9 := rg_a_cg (w := fun i => w (r' i).toNat) (w' := fun i => w (r i).toNat) n (fun i hi => by show w (r' i).toNat = _; rw [e, pz_up_n (by omega)])
  show z' = rg_a (fun i => w (r' i).toNat) n + w (r' n).toNat
  rw [h9, ← h, e, pz_up_s, Int.toNat_natCast, hz]
theorem rg_c_y {f : Nat → Int} {n : Nat} (h : 0 ≤ f n) : rg_c f (n + 1) = rg_c f n + 1 := by
  show rg_c f n + (if 0 ≤ f n then 1 else 0) = _
  rw [if_pos h]
theorem rg_c_n {f : Nat → Int} {n : Nat} (h : f n < 0) : rg_c f (n + 1) = rg_c f n := by
  show rg_c f n + (if 0 ≤ f n then 1 else 0) = _
  rw [if_neg (by omega), Int.add_zero]
theorem MBz {r s : Nat → Int} {q : Nat → Prop} {n i : Nat} (h : MB r s q n i) : (∀ a b, a < b → b < n → (r a).toNat < (r b).toNat) ∧ (∀ a, a < n → 0 ≤ r a ∧ (r a).toNat < i ∧ s (r a).toNat = 0 ∧ q (r a).toNat) ∧ (∀ x, x < i → s x = 0 → q x → ∃ a, a < n ∧ (r a).toNat = x) := by
  obtain ⟨h1, h2, h3, -⟩ := h
  exact ⟨fun a b ab hb => by have := h1 a b ab hb; rw [Nat.zero_add, Nat.zero_add] at this; exact this, fun a ha => by have := h2 a ha; rw [Nat.zero_add] at this; exact this, fun x a b c => by obtain ⟨y, y1, y2⟩ := h3 x a b c; rw [Nat.zero_add] at y2; exact ⟨y, y1, y2⟩⟩
theorem MBi {r s : Nat → Int} {q : Nat → Prop} {n i : Nat} (h : MB r s q n i) : ∀ a b, a < n → b < n → (r a).toNat = (r b).toNat → a = b := fun a b ha hb e => MB_inj h a b ha hb (by rw [Nat.zero_add, Nat.zero_add]; exact e)
theorem ch_top {n L k : Nat} {su : Nat → Nat → Prop} {w af bf p : Nat → Int} {am aw bm bw : Int} (hk : k = 0) (h1 : am = -1) (h2 : aw = -1) (hw : ∀ i, i < n → 0 ≤ w i) (h : rg_S n w (rg_P n su L k p) am aw af bm bw bf) : rg_B n su L w bf := by
  subst hk h1 h2
  exact (rg_top hw (rg_S_skip h (fun f => ⟨fun q => ⟨q, fun i hi => absurd hi (by omega)⟩, fun q => q.1⟩))).1
/-- what the reference's rings suit by -/
def su_m (s wi fl wk ty si : Nat → Int) (x y : Nat) : Prop := x ≠ y ∧ s x = 0 ∧ mm_b wi x (ty (fl y).toNat) (si (fl y).toNat) (wk y) ≠ 0
theorem RGS_m {r s wi fl wk ty si w ow g0 b0 s' g' b' p : Nat → Int} {n G L : Nat} {z : Int} (hM : MB r s (fun _ => True) n G) (hn : n ≤ 9) (hG : G ≤ 200)
    (hB : rg_B n (su_w wi fl wk ty si r) L (fun i => w (r i).toNat) p)
    (hS : SW (fun i => (r i).toNat) p ow (fun i => i < n) s g0 b0 s' g' b') (hz : z = rg_c p n) : RGS G L (su_m s wi fl wk ty si) w ow s g0 b0 s' g' b' z := by
  have hZ := MBz hM
  obtain ⟨F, f1, f2, f3, f4⟩ := rg_fin (m := fun i => (r i).toNat) (G := G) (su := su_m s wi fl wk ty si) (w := w) (by omega) (by omega) hZ.1 (fun i hi => (hZ.2.1 i hi).2.1) (fun x y hx h => hZ.2.2 x hx h.2.1 trivial) (rg_B_s2 hB (fun i j hi hj =>
    ⟨fun h => ⟨fun e => h.1 (MBi hM i j hi hj e), (hZ.2.1 i hi).2.2.1, h.2⟩, fun h => ⟨fun e => h.1 (by rw [e]), h.2.2⟩⟩)) hS
  exact ⟨F, f1, f2, by rw [f3, hz], f4⟩
