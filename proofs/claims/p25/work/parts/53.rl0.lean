/-! ===== what the two sides hold in common: wishes ===== -/
/-- a wish (a number, -1 none) and the reference's four numbers at q -/
def WR (z : Int) (r : Nat → Int) (q : Nat) : Prop := (0 ≤ z ↔ r (4 * q + 3) ≠ 0) ∧ (0 ≤ z → wz_t z.toNat = r (4 * q) ∧ wz_f z.toNat = r (4 * q + 1) ∧ wz_o z.toNat = r (4 * q + 2) ∧ wz_s z.toNat = r (4 * q + 3))
section WRS
variable {z : Int} {r r' : Nat → Int} {q q' : Nat} {t s w f o : Int}
theorem WR_b (h : WR z r q) : mz_b z t s w = mm_b r q t s w := by
  obtain ⟨h1, h2⟩ := h
  by_cases c : 0 ≤ z
  · obtain ⟨a, b, d, e⟩ := h2 c
    have n := h1.mp c
    unfold mz_b mm_b
    rw [a, b, d, e]
    by_cases k : r (4 * q + 3) ≤ s ∧ (r (4 * q) = -1 ∨ r (4 * q) = t) ∧ r (4 * q + 1) ≤ w ∧ w ≤ r (4 * q + 2)
    · rw [if_pos ⟨c, k.2.1, k.2.2.1, k.2.2.2, k.1⟩, if_pos ⟨n, k⟩]
    · rw [if_neg (fun x => k ⟨x.2.2.2.2, x.2.1, x.2.2.1, x.2.2.2.1⟩), if_neg (fun x => k x.2)]
  · unfold mz_b mm_b
    rw [if_neg (fun x => c x.1), if_neg (fun x => c (h1.mpr x.1))]
theorem WR_cg (h : WR z r q) (e : ∀ j, 4 * q ≤ j → j < 4 * q + 4 → r' j = r j) : WR z r' q := by
  unfold WR
  rw [e (4 * q) (by omega) (by omega), e (4 * q + 1) (by omega) (by omega), e (4 * q + 2) (by omega) (by omega), e (4 * q + 3) (by omega) (by omega)]
  exact h
theorem WR_set (h : ok_wi t f o s) : WR (wz_c t f o s) (w4_f r q t f o s) q := by
  obtain ⟨h1, h2, h3, h4, h5, h6, h7, h8, h9⟩ := h
  obtain ⟨a, b, c, d, e⟩ := wz_ok (t := t) (f := f) (o := o) (s := s) h1 ⟨h3, h4⟩ ⟨h5, h6⟩ ⟨by omega, h9⟩
  have e3 : w4_f r q t f o s (4 * q + 3) = s := by unfold w4_f; exact pz_up_s
  have e2 : w4_f r q t f o s (4 * q + 2) = o := by unfold w4_f; rw [pz_up_n (by omega)]; exact pz_up_s
  have e1 : w4_f r q t f o s (4 * q + 1) = f := by unfold w4_f; rw [pz_up_n (by omega), pz_up_n (by omega)]; exact pz_up_s
  have e0 : w4_f r q t f o s (4 * q) = t := by unfold w4_f; rw [pz_up_n (by omega), pz_up_n (by omega), pz_up_n (by omega)]; exact pz_up_s
  refine ⟨⟨fun _ => by rw [e3]; omega, fun _ => a⟩, fun _ => ?_⟩
  rw [e0, e1, e2, e3]
  exact ⟨b, c, d, e⟩
theorem w4_off {j : Nat} (h : ¬ (4 * q ≤ j ∧ j < 4 * q + 4)) : w4_f r q t f o s j = r j := by
  unfold w4_f
  rw [pz_up_n (by omega), pz_up_n (by omega), pz_up_n (by omega), pz_up_n (by omega)]
theorem WR_off (h : WR z r q) (n : q ≠ q') : WR z (w4_f r q' t f o s) q := WR_cg h (fun j h1 h2 => w4_off (by omega))
theorem WR_no (hz : z < 0) : WR z (pz_up r (4 * q + 3) 0) q := by
  refine ⟨⟨fun h => absurd h (by omega), fun h => absurd (pz_up_s (r := r)) h⟩, fun h => absurd h (by omega)⟩
theorem WR_offn (h : WR z r q) (n : q ≠ q') : WR z (pz_up r (4 * q' + 3) t) q := WR_cg h (fun j h1 h2 => pz_up_n (by omega))
theorem fi_cg {li li' lu lu' : Nat → Int} : ∀ n, (∀ o, o < n → (li o ≠ 0 ↔ li' o ≠ 0) ∧ (li o ≠ 0 → lu o = lu' o)) → fi_f li lu n = fi_f li' lu' n := by
  intro n
  induction n with
  | zero => exact fun _ => rfl
  | succ n ih =>
    intro h
    have e := ih (fun o ho => h o (by omega))
    have k := h n (by omega)
    have z := fi_in (li := li) (lu := lu) (n := n) rfl
    show (if _ then _ else _) = (if _ then _ else _)
    rw [← e]
    by_cases c : li n ≠ 0
    · rw [k.2 c]
      rcases z with z | ⟨z1, z2, z3⟩
      · rw [if_pos ⟨c, Or.inl z⟩, if_pos ⟨k.1.mp c, Or.inl z⟩]
      · have k2 := (h (fi_f li lu n).toNat (by omega)).2 z3
        rw [k2]
        by_cases d : fi_f li lu n = -1 ∨ lu' n < lu' (fi_f li lu n).toNat
        · rw [if_pos ⟨c, d⟩, if_pos ⟨k.1.mp c, d⟩]
        · rw [if_neg (fun x => d x.2), if_neg (fun x => d x.2)]
    · rw [if_neg (fun x => c x.1), if_neg (fun x => c (k.1.mpr x.1))]
theorem bb_rb {s wo fl we tw si : Nat → Int} {P : Int} (h : WR z r q) : ∀ n, bb_f s wo fl we tw si P z n = rb_f s wo fl we tw si r P q n := by
  intro n
  induction n with
  | zero => rfl
  | succ n ih =>
    show (if _ then _ else _) = (if _ then _ else _)
    rw [← ih, ← WR_b h]
    by_cases c : s n = 2 ∧ wo n ≤ P ∧ mz_b z (tw (fl n).toNat) (si (fl n).toNat) (we n) ≠ 0 ∧ (bb_f s wo fl we tw si P z n = -1 ∨ wo (bb_f s wo fl we tw si P z n).toNat < wo n)
    · rw [if_pos c, if_pos ⟨c.1, c.2.2.1, c.2.1, c.2.2.2⟩]
    · rw [if_neg c, if_neg (fun x => c ⟨x.1, x.2.2.1, x.2.1, x.2.2.2⟩)]
end WRS
/-- the class's rush goes as the reference's -/
theorem ru_sim {wo fl we tw si de lu : Nat → Int} {G N : Nat} (hN : N ≤ 10) : ∀ (t : Nat) (p l i a w r s b : Nat → Int) (c : Int),
    (∀ o, o < N → (i o ≠ 0 ↔ rl_f de r a o ≠ 0) ∧ (i o ≠ 0 → l o = lu o)) → (∀ o, o < 10 → WR (w o) r (200 + o)) →
    (ru_f wo fl we tw si G N t (p, l, i, w, s, b, c)).1 = (rm_f wo fl we tw si de lu G N t (p, l, a, r, s, b, c)).1 ∧
    (ru_f wo fl we tw si G N t (p, l, i, w, s, b, c)).2.1 = (rm_f wo fl we tw si de lu G N t (p, l, a, r, s, b, c)).2.1 ∧
    (ru_f wo fl we tw si G N t (p, l, i, w, s, b, c)).2.2.2.2 = (rm_f wo fl we tw si de lu G N t (p, l, a, r, s, b, c)).2.2.2.2 ∧
    (∀ o, o < 10 → WR ((ru_f wo fl we tw si G N t (p, l, i, w, s, b, c)).2.2.2.1 o) (rm_f wo fl we tw si de lu G N t (p, l, a, r, s, b, c)).2.2.2.1 (200 + o)) ∧
    (∀ j, j < 800 → (rm_f wo fl we tw si de lu G N t (p, l, a, r, s, b, c)).2.2.2.1 j = r j) ∧
    (∀ o, (ru_f wo fl we tw si G N t (p, l, i, w, s, b, c)).2.2.2.1 o = w o ∨ (ru_f wo fl we tw si G N t (p, l, i, w, s, b, c)).2.2.2.1 o = -1) ∧
    (∀ o, N ≤ o → (ru_f wo fl we tw si G N t (p, l, i, w, s, b, c)).1 o = p o ∧ (ru_f wo fl we tw si G N t (p, l, i, w, s, b, c)).2.1 o = l o ∧ (ru_f wo fl we tw si G N t (p, l, i, w, s, b, c)).2.2.2.1 o = w o) := by
  intro t
  induction t with
  | zero => intro p l i a w r s b c h1 h2; exact ⟨rfl, rfl, rfl, h2, fun _ _ => rfl, fun _ => Or.inl rfl, fun _ _ => ⟨rfl, rfl, rfl⟩⟩
  | succ t ih =>
    intro p l i a w r s b c h1 h2
    have e := fi_cg N h1
    have hz := fi_in (li := i) (lu := l) (n := N) rfl
    by_cases c0 : fi_f i l N = -1
    · have x1 : ru_f wo fl we tw si G N (t + 1) (p, l, i, w, s, b, c) = (p, l, i, w, s, b, c) := by show (if _ then _ else _) = _; rw [if_pos c0]
      have x2 : rm_f wo fl we tw si de lu G N (t + 1) (p, l, a, r, s, b, c) = (p, l, a, r, s, b, c) := by show (if _ then _ else _) = _; rw [if_pos (e ▸ c0)]
      rw [x1, x2]
      exact ⟨rfl, rfl, rfl, h2, fun _ _ => rfl, fun _ => Or.inl rfl, fun _ _ => ⟨rfl, rfl, rfl⟩⟩
    · obtain ⟨z0, z1, z2⟩ : 0 ≤ fi_f i l N ∧ fi_f i l N < (N : Int) ∧ i (fi_f i l N).toNat ≠ 0 := by
        rcases hz with q | q
        · exact absurd q c0
        · exact q
      obtain ⟨O, hO⟩ : ∃ O : Nat, fi_f i l N = (O : Int) := ⟨(fi_f i l N).toNat, by omega⟩
      have e' : fi_f (rl_f de r a) lu N = (O : Int) := by rw [← e]; exact hO
      have hO9 : O < N := by omega
      have eb := bb_rb (s := s) (wo := wo) (fl := fl) (we := we) (tw := tw) (si := si) (P := p O) (h2 O (by omega)) G
      by_cases c1 : bb_f s wo fl we tw si (p O) (w O) G = -1
      · have x1 : ru_f wo fl we tw si G N (t + 1) (p, l, i, w, s, b, c) = ru_f wo fl we tw si G N t (p, l, pz_up i O 0, w, s, b, c) := by
          show (if fi_f i l N = -1 then _ else _) = _
          simp only [hO, Int.toNat_natCast]
          rw [if_neg (by omega), if_pos c1]
        have x2 : rm_f wo fl we tw si de lu G N (t + 1) (p, l, a, r, s, b, c) = rm_f wo fl we tw si de lu G N t (p, l, pz_up a O 1, r, s, b, c) := by
          show (if fi_f (rl_f de r a) lu N = -1 then _ else _) = _
          simp only [e', Int.toNat_natCast]
          rw [if_neg (by omega), if_pos (eb ▸ c1)]
        rw [x1, x2]
        refine ih p l (pz_up i O 0) (pz_up a O 1) w r s b c (fun o ho => ?_) h2
        by_cases q : o = O
        · subst q
          rw [pz_up_s]
          exact ⟨⟨fun h => absurd rfl h, fun h => absurd (rl_n (fun x => by rw [pz_up_s] at x; omega)) h⟩, fun h => absurd rfl h⟩
        · have := h1 o ho
          unfold rl_f at this ⊢
          rw [pz_up_n q, pz_up_n q]; exact this
      · have x1 : ru_f wo fl we tw si G N (t + 1) (p, l, i, w, s, b, c) = ru_f wo fl we tw si G N t (pz_up p O (ws (p O) (wo (bb_f s wo fl we tw si (p O) (w O) G).toNat)), pz_up l O (wa (l O) (wo (bb_f s wo fl we tw si (p O) (w O) G).toNat)), pz_up i O 0, pz_up w O (-1), pz_up s (bb_f s wo fl we tw si (p O) (w O) G).toNat 3, pz_up b (bb_f s wo fl we tw si (p O) (w O) G).toNat (O : Int), c + 1) := by
          show (if fi_f i l N = -1 then _ else _) = _
          simp only [hO, Int.toNat_natCast]
          rw [if_neg (by omega), if_neg c1]
        have x2 : rm_f wo fl we tw si de lu G N (t + 1) (p, l, a, r, s, b, c) = rm_f wo fl we tw si de lu G N t (pz_up p O (ws (p O) (wo (bb_f s wo fl we tw si (p O) (w O) G).toNat)), pz_up l O (wa (l O) (wo (bb_f s wo fl we tw si (p O) (w O) G).toNat)), pz_up a O 1, pz_up r (4 * (200 + O) + 3) 0, pz_up s (bb_f s wo fl we tw si (p O) (w O) G).toNat 3, pz_up b (bb_f s wo fl we tw si (p O) (w O) G).toNat (O : Int), c + 1) := by
          show (if fi_f (rl_f de r a) lu N = -1 then _ else _) = _
          simp only [e', Int.toNat_natCast, ← eb]
          rw [if_neg (by omega), if_neg c1]
        rw [x1, x2]
        have hh := ih (pz_up p O (ws (p O) (wo (bb_f s wo fl we tw si (p O) (w O) G).toNat))) (pz_up l O (wa (l O) (wo (bb_f s wo fl we tw si (p O) (w O) G).toNat))) (pz_up i O 0) (pz_up a O 1) (pz_up w O (-1)) (pz_up r (4 * (200 + O) + 3) 0) (pz_up s (bb_f s wo fl we tw si (p O) (w O) G).toNat 3) (pz_up b (bb_f s wo fl we tw si (p O) (w O) G).toNat (O : Int)) (c + 1) (fun o ho => by
          by_cases q : o = O
          · subst q
            rw [pz_up_s]
            exact ⟨⟨fun h => absurd rfl h, fun h => absurd (rl_n (fun x => by rw [pz_up_s] at x; omega)) h⟩, fun h => absurd rfl h⟩
          · have := h1 o ho
            unfold rl_f at this ⊢
            rw [pz_up_n q, pz_up_n q, pz_up_n q, pz_up_n (by omega)]; exact this) (fun o ho => by
          by_cases q : o = O
          · subst q; rw [pz_up_s]; exact WR_no (by omega)
          · rw [pz_up_n q]; exact WR_offn (h2 o ho) (by omega))
        obtain ⟨k1, k2, k3, k4, k5, k6, k7⟩ := hh
        refine ⟨k1, k2, k3, k4, fun j hj => ?_, fun o => ?_, fun o ho => ?_⟩
        · rw [k5 j hj]; exact pz_up_n (by omega)
        · rcases k6 o with q | q
          · by_cases d : o = O
            · right; rw [q, d]; exact pz_up_s
            · left; rw [q]; exact pz_up_n d
          · exact Or.inr q
        · obtain ⟨y1, y2, y3⟩ := k7 o ho
          exact ⟨by rw [y1]; exact pz_up_n (by omega), by rw [y2]; exact pz_up_n (by omega), by rw [y3]; exact pz_up_n (by omega)⟩
