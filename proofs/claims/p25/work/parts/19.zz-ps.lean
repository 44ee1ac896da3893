/-! ===== a text of rules, read as numbers: tokens, statements, faults ===== -/
theorem pz_or {A B C : Prop} (h : (A → B) ∧ (¬ A → C)) : (A ∧ B) ∨ (¬ A ∧ C) := (Classical.em A).elim (fun q => Or.inl ⟨q, h.1 q⟩) (fun q => Or.inr ⟨q, h.2 q⟩)
def pz_bk (x : Int) : Bool := decide (x = 32 ∨ x = 10)
def pz_lc (x : Int) : Bool := decide (97 ≤ x ∧ x ≤ 122)
def pz_dg (x : Int) : Bool := decide (48 ≤ x ∧ x ≤ 57)
def pz_skp (p : Int → Bool) (t : Nat → Int) : Nat → Nat → Nat
  | 0, a => a
  | k + 1, a => if p (t a) = true then pz_skp p t k (a + 1) else a
/-- where the run of p's from a on ends; n: the text's end -/
def pz_run (p : Int → Bool) (t : Nat → Int) (n a : Nat) : Nat := pz_skp p t (n - a) a
theorem pz_go {p : Int → Bool} {t : Nat → Int} {n a : Nat} (h : a < n) (hp : p (t a) = true) : pz_run p t n a = pz_run p t n (a + 1) := by
  unfold pz_run
  rw [show n - a = (n - (a + 1)) + 1 by omega]
  simp only [pz_skp, hp, if_true]
theorem pz_no {p : Int → Bool} {t : Nat → Int} {n a : Nat} (hp : p (t a) = false) : pz_run p t n a = a := by
  unfold pz_run
  cases n - a with
  | zero => rfl
  | succ k => simp [pz_skp, hp]
theorem pz_end {p : Int → Bool} {t : Nat → Int} {n a : Nat} (h : n ≤ a) : pz_run p t n a = a := by
  unfold pz_run
  rw [show n - a = 0 by omega]; rfl
theorem pz_skb (p : Int → Bool) (t : Nat → Int) : ∀ k a, a ≤ pz_skp p t k a ∧ pz_skp p t k a ≤ a + k := by
  intro k
  induction k with
  | zero => intro a; exact ⟨Nat.le_refl _, Nat.le_refl _⟩
  | succ k ih =>
    intro a
    have := ih (a + 1)
    simp only [pz_skp]
    split <;> omega
theorem pz_b {p : Int → Bool} {t : Nat → Int} {n a : Nat} (h : a ≤ n) : a ≤ pz_run p t n a ∧ pz_run p t n a ≤ n := by
  have := pz_skb p t (n - a) a
  unfold pz_run
  omega
/-- the number that k digits from s on make -/
def pz_dig (t : Nat → Int) (s : Nat) : Nat → Int
  | 0 => 0
  | k + 1 => pz_dig t s k * 10 + (t (s + k) - 48)
/-- a reader: where it is, where its token began, the token's kind (0 the end, 1 word, 2 number, 3 sign, 4 odd), the latest number, the fault, its place -/
abbrev pz_T : Type := Int × Int × Int × Int × Int × Int
def pz_nx (t : Nat → Int) (n : Nat) (x : pz_T) : pz_T :=
  let s := pz_run pz_bk t n x.1.toNat
  if s < n then
    if pz_lc (t s) = true then ((pz_run pz_lc t n s : Nat), (s : Int), 1, x.2.2.2.1, x.2.2.2.2)
    else if pz_dg (t s) = true then ((pz_run pz_dg t n s : Nat), (s : Int), (if pz_run pz_dg t n s - s ≤ 4 then 2 else 4), pz_dig t s (min (pz_run pz_dg t n s - s) 4), x.2.2.2.2)
    else ((s : Int) + 1, (s : Int), (if t s = 59 then 3 else 4), x.2.2.2.1, x.2.2.2.2)
  else ((s : Int), (s : Int), 0, x.2.2.2.1, x.2.2.2.2)
theorem pz_lct {x : Int} (h : 97 ≤ x ∧ x ≤ 122) : pz_lc x = true := decide_eq_true h
theorem pz_lcf {x : Int} (h : ¬ (97 ≤ x ∧ x ≤ 122)) : pz_lc x = false := decide_eq_false h
theorem pz_dgt {x : Int} (h : 48 ≤ x ∧ x ≤ 57) : pz_dg x = true := decide_eq_true h
theorem pz_dgf {x : Int} (h : ¬ (48 ≤ x ∧ x ≤ 57)) : pz_dg x = false := decide_eq_false h
theorem pz_bkt {x : Int} (h : x = 32 ∨ x = 10) : pz_bk x = true := decide_eq_true h
theorem pz_bkf {x : Int} (h : ¬ (x = 32 ∨ x = 10)) : pz_bk x = false := decide_eq_false h
section PZ
variable {t : Nat → Int} {n : Nat} {x : pz_T} {s e k v : Int}
theorem pz_nx_e (hs : s = (pz_run pz_bk t n x.1.toNat : Nat)) (h : (n : Int) ≤ s) : pz_nx t n x = (s, s, 0, x.2.2.2.1, x.2.2.2.2.1, x.2.2.2.2.2) := by
  unfold pz_nx
  dsimp only
  rw [if_neg (by omega), ← hs]
theorem pz_nx_l (hs : s = (pz_run pz_bk t n x.1.toNat : Nat)) (h : s < (n : Int)) (hl : 97 ≤ t s.toNat ∧ t s.toNat ≤ 122) (he : e = (pz_run pz_lc t n s.toNat : Nat)) : pz_nx t n x = (e, s, 1, x.2.2.2.1, x.2.2.2.2.1, x.2.2.2.2.2) := by
  have e1 : pz_run pz_bk t n x.1.toNat = s.toNat := by omega
  unfold pz_nx
  dsimp only
  rw [e1, if_pos (by omega), if_pos (pz_lct hl), ← he, show ((s.toNat : Nat) : Int) = s by omega]
theorem pz_nx_d (hs : s = (pz_run pz_bk t n x.1.toNat : Nat)) (h : s < (n : Int)) (hl : 48 ≤ t s.toNat ∧ t s.toNat ≤ 57) (he : e = (pz_run pz_dg t n s.toNat : Nat)) (hv : v = pz_dig t s.toNat (min (e.toNat - s.toNat) 4)) (hk : (e - s ≤ 4 → k = 2) ∧ (¬ e - s ≤ 4 → k = 4)) : pz_nx t n x = (e, s, k, v, x.2.2.2.2.1, x.2.2.2.2.2) := by
  have e1 : pz_run pz_bk t n x.1.toNat = s.toNat := by omega
  have e2 : pz_run pz_dg t n s.toNat = e.toNat := by omega
  have e3 := pz_b (p := pz_dg) (t := t) (n := n) (a := s.toNat) (by omega)
  unfold pz_nx
  dsimp only
  rw [e1, if_pos (by omega), if_neg (by rw [pz_lcf (by omega)]; decide), if_pos (pz_dgt hl), e2, ← hv, show ((s.toNat : Nat) : Int) = s by omega, show ((e.toNat : Nat) : Int) = e by omega]
  by_cases h4 : e.toNat - s.toNat ≤ 4
  · rw [if_pos h4, hk.1 (by omega)]
  · rw [if_neg h4, hk.2 (by omega)]
theorem pz_nx_o (hs : s = (pz_run pz_bk t n x.1.toNat : Nat)) (h : s < (n : Int)) (h1 : ¬ (97 ≤ t s.toNat ∧ t s.toNat ≤ 122)) (h2 : ¬ (48 ≤ t s.toNat ∧ t s.toNat ≤ 57)) (he : e = s + 1) (hk : (t s.toNat = 59 → k = 3) ∧ (t s.toNat ≠ 59 → k = 4)) : pz_nx t n x = (e, s, k, x.2.2.2.1, x.2.2.2.2.1, x.2.2.2.2.2) := by
  have e1 : pz_run pz_bk t n x.1.toNat = s.toNat := by omega
  unfold pz_nx
  dsimp only
  rw [e1, if_pos (by omega), if_neg (by rw [pz_lcf h1]; decide), if_neg (by rw [pz_dgf h2]; decide), show ((s.toNat : Nat) : Int) = s by omega, he]
  by_cases h4 : t s.toNat = 59
  · rw [if_pos h4, hk.1 h4]
  · rw [if_neg h4, hk.2 h4]
end PZ
/-- the fault c where the token began -/
def pz_bl (c : Int) (x : pz_T) : pz_T := (x.1, x.2.1, x.2.2.1, x.2.2.2.1, c, x.2.1)
def pz_W (t : Nat → Int) (x : pz_T) (w : List Int32) : Bool := decide (x.2.2.1 = 1 ∧ x.1 - x.2.1 = (w.length : Int) ∧ ∀ i, i < w.length → t (x.2.1.toNat + i) = (w.getD i 0).toInt)
def pz_N (t : Nat → Int) (n : Nat) (lo hi : Int) (x : pz_T) : pz_T × Int :=
  if x.2.2.2.2.1 ≠ 0 then (x, 0) else if x.2.2.1 ≠ 2 then (pz_bl 1 x, 0) else if x.2.2.2.1 < lo ∨ hi < x.2.2.2.1 then (pz_bl 2 x, 0) else (pz_nx t n x, x.2.2.2.1)
def pz_B (t : Nat → Int) (n : Nat) (x : pz_T) : pz_T × Int :=
  if pz_W t x (sB 4) = true then (pz_nx t n x, 1) else if pz_W t x (sB 5) = true then (pz_nx t n x, 0) else (pz_bl 1 x, 0)
def pz_G (t : Nat → Int) (n : Nat) (x : pz_T) : pz_T :=
  if x.2.2.2.2.1 ≠ 0 then x else if x.2.2.1 ≠ 3 then pz_bl 1 x else pz_nx t n x
def pz_k (t : Nat → Int) (x : pz_T) : Int :=
  if pz_W t x (sB 0) = true then 1 else if pz_W t x (sB 1) = true then 2 else if pz_W t x (sB 2) = true then 3 else if pz_W t x (sB 3) = true then 4 else 0
/-- what stands behind a statement's first word: the reader behind it, and the statement's numbers -/
def pz_R (t : Nat → Int) (n : Nat) (k : Int) (x : pz_T) : pz_T × Int × Int × Int :=
  if k = 1 then ((pz_N t n 0 9999 (pz_N t n (pz_N t n 0 52 x).2 52 (pz_N t n 0 52 x).1).1).1, (pz_N t n 0 52 x).2, (pz_N t n (pz_N t n 0 52 x).2 52 (pz_N t n 0 52 x).1).2, (pz_N t n 0 9999 (pz_N t n (pz_N t n 0 52 x).2 52 (pz_N t n 0 52 x).1).1).2)
  else if k = 2 then ((pz_N t n 0 9999 (pz_N t n 1 4 x).1).1, (pz_N t n 1 4 x).2, (pz_N t n 0 9999 (pz_N t n 1 4 x).1).2, 0)
  else if k = 3 then ((pz_N t n 0 9999 (pz_N t n 0 52 x).1).1, (pz_N t n 0 52 x).2, (pz_N t n 0 9999 (pz_N t n 0 52 x).1).2, 0)
  else ((pz_B t n x).1, (pz_B t n x).2, 0, 0)
def pz_st (t : Nat → Int) (n : Nat) (c : Int) (x : pz_T) : pz_T :=
  if pz_k t x = 0 then pz_bl 1 x else if 30 ≤ c then pz_bl 3 x else pz_G t n (pz_R t n (pz_k t x) (pz_nx t n x)).1
/-- statement by statement, at most m of them -/
def pz_L (t : Nat → Int) (n : Nat) : Nat → Int → pz_T → pz_T × Int
  | 0, c, x => (x, c)
  | m + 1, c, x => if x.2.2.1 ≠ 0 ∧ x.2.2.2.2.1 = 0 then pz_L t n m (c + 1) (pz_st t n c x) else (x, c)
theorem pz_L_go {t : Nat → Int} {n m : Nat} {c : Int} {x : pz_T} (h1 : x.2.2.1 ≠ 0) (h2 : x.2.2.2.2.1 = 0) : pz_L t n (m + 1) c x = pz_L t n m (c + 1) (pz_st t n c x) := if_pos ⟨h1, h2⟩
theorem pz_L_no {t : Nat → Int} {n m : Nat} {c : Int} {x : pz_T} (h : ¬ (x.2.2.1 ≠ 0 ∧ x.2.2.2.2.1 = 0)) : pz_L t n m c x = (x, c) := by
  cases m with
  | zero => rfl
  | succ m => exact if_neg h
/-- the class's reader, the reference's -/
def pz_c (g : gh) : pz_T := (g 16 0, g 17 0, g 15 0, g 18 0, g 9 0, g 14 0)
def pz_s (k : Int) : Int := if k = 1 then 4 else if k = 3 then 1 else if k = 4 then 3 else k
def pz_m (g : gh) : pz_T := (g 115 0, g 116 0, pz_s (g 117 0), g 118 0, g 119 0, if g 119 0 = 0 then -1 else g 120 0)
def pz_t (g : gh) : Nat → Int := fun j => g 113 j % 256
theorem pz_mk {a b c d e f a' b' c' d' e' f' : Int} (h1 : a = a') (h2 : b = b') (h3 : c = c') (h4 : d = d') (h5 : e = e') (h6 : f = f') : ((a, b, c, d, e, f) : pz_T) = (a', b', c', d', e', f') := by
  subst h1 h2 h3 h4 h5 h6; rfl
/-- as many digits as k says keep a number below 10 to the k -/
def pz_vb (k v : Int) : Prop := 0 ≤ v ∧ (k ≤ 0 → v = 0) ∧ (k ≤ 1 → v ≤ 9) ∧ (k ≤ 2 → v ≤ 99) ∧ (k ≤ 3 → v ≤ 999) ∧ v ≤ 9999
theorem pz_vb_0 {k v : Int} (h1 : k = 0) (h2 : v = 0) : pz_vb k v := by unfold pz_vb; omega
theorem pz_vb_go {k v d k2 v2 : Int} (h : pz_vb k v) (h0 : 0 ≤ k) (h1 : k < 4) (hd : 0 ≤ d ∧ d ≤ 9) (e1 : k2 = k + 1) (e2 : v2 = v * 10 + d) : pz_vb k2 v2 := by
  unfold pz_vb at h ⊢; omega
theorem pz_vb_up {k v k2 : Int} (h : pz_vb k v) (h1 : ¬ k < 4) (e1 : k2 = k + 1) : pz_vb k2 v := by
  unfold pz_vb at h ⊢; omega
theorem pz_vb_le {k v : Int} (h : pz_vb k v) (h1 : k < 4) : 0 ≤ v ∧ v ≤ 999 := by
  unfold pz_vb at h; omega
theorem pz_dig_go {t : Nat → Int} {s : Nat} {a v z b : Int} (h : v = pz_dig t s (min (a.toNat - s) 4)) (h1 : (s : Int) ≤ a) (h2 : a - s < 4) (hz : z = v * 10 + (t a.toNat - 48)) (hb : b = a + 1) : z = pz_dig t s (min (b.toNat - s) 4) := by
  have e1 : min (a.toNat - s) 4 = a.toNat - s := by omega
  have e2 : min (b.toNat - s) 4 = (a.toNat - s) + 1 := by omega
  have e3 : s + (a.toNat - s) = a.toNat := by omega
  rw [e1] at h
  rw [e2, hz, h]
  show _ = pz_dig t s (a.toNat - s) * 10 + (t (s + (a.toNat - s)) - 48)
  rw [e3]
theorem pz_dig_up {t : Nat → Int} {s : Nat} {a v b : Int} (h : v = pz_dig t s (min (a.toNat - s) 4)) (h1 : (s : Int) ≤ a) (h2 : ¬ a - s < 4) (hb : b = a + 1) : v = pz_dig t s (min (b.toNat - s) 4) := by
  have e1 : min (a.toNat - s) 4 = 4 := by omega
  have e2 : min (b.toNat - s) 4 = 4 := by omega
  rw [e1] at h
  rw [e2]; exact h
section PZ2
variable {t : Nat → Int} {n : Nat} {x : pz_T} {w : List Int32}
theorem pz_Wt (h1 : x.2.2.1 = 1) (h2 : x.1 - x.2.1 = (w.length : Int)) (h3 : ∀ i, i < w.length → t (x.2.1.toNat + i) = (w.getD i 0).toInt) : pz_W t x w = true := decide_eq_true ⟨h1, h2, h3⟩
theorem pz_Wf1 (h1 : x.2.2.1 ≠ 1) : pz_W t x w = false := decide_eq_false (fun h => h1 h.1)
theorem pz_Wf2 (h1 : x.1 - x.2.1 ≠ (w.length : Int)) : pz_W t x w = false := decide_eq_false (fun h => h1 h.2.1)
theorem pz_Wf3 {i : Nat} (hi : i < w.length) (h1 : t (x.2.1.toNat + i) ≠ (w.getD i 0).toInt) : pz_W t x w = false := decide_eq_false (fun h => h1 (h.2.2 i hi))
theorem pz_N1 {lo hi : Int} (h : x.2.2.2.2.1 ≠ 0) : pz_N t n lo hi x = (x, 0) := if_pos h
theorem pz_N2 {lo hi : Int} (h : x.2.2.2.2.1 = 0) (h2 : x.2.2.1 ≠ 2) : pz_N t n lo hi x = (pz_bl 1 x, 0) := by unfold pz_N; rw [if_neg (fun q => q h), if_pos h2]
theorem pz_N3 {lo hi : Int} (h : x.2.2.2.2.1 = 0) (h2 : x.2.2.1 = 2) (h3 : x.2.2.2.1 < lo ∨ hi < x.2.2.2.1) : pz_N t n lo hi x = (pz_bl 2 x, 0) := by unfold pz_N; rw [if_neg (fun q => q h), if_neg (fun q => q h2), if_pos h3]
theorem pz_N4 {lo hi : Int} (h : x.2.2.2.2.1 = 0) (h2 : x.2.2.1 = 2) (h3 : ¬ (x.2.2.2.1 < lo ∨ hi < x.2.2.2.1)) : pz_N t n lo hi x = (pz_nx t n x, x.2.2.2.1) := by unfold pz_N; rw [if_neg (fun q => q h), if_neg (fun q => q h2), if_neg h3]
theorem pz_B1 (h : pz_W t x (sB 4) = true) : pz_B t n x = (pz_nx t n x, 1) := if_pos h
theorem pz_B2 (h : pz_W t x (sB 4) = false) (h2 : pz_W t x (sB 5) = true) : pz_B t n x = (pz_nx t n x, 0) := by unfold pz_B; rw [if_neg (by rw [h]; decide), if_pos h2]
theorem pz_B3 (h : pz_W t x (sB 4) = false) (h2 : pz_W t x (sB 5) = false) : pz_B t n x = (pz_bl 1 x, 0) := by unfold pz_B; rw [if_neg (by rw [h]; decide), if_neg (by rw [h2]; decide)]
theorem pz_G1 (h : x.2.2.2.2.1 ≠ 0) : pz_G t n x = x := if_pos h
theorem pz_G2 (h : x.2.2.2.2.1 = 0) (h2 : x.2.2.1 ≠ 3) : pz_G t n x = pz_bl 1 x := by unfold pz_G; rw [if_neg (fun q => q h), if_pos h2]
theorem pz_G3 (h : x.2.2.2.2.1 = 0) (h2 : x.2.2.1 = 3) : pz_G t n x = pz_nx t n x := by unfold pz_G; rw [if_neg (fun q => q h), if_neg (fun q => q h2)]
theorem pz_k1 (h0 : pz_W t x (sB 0) = true) : pz_k t x = 1 := if_pos h0
theorem pz_k2 (h0 : pz_W t x (sB 0) = false) (h1 : pz_W t x (sB 1) = true) : pz_k t x = 2 := by unfold pz_k; rw [if_neg (by rw [h0]; decide), if_pos h1]
theorem pz_k3 (h0 : pz_W t x (sB 0) = false) (h1 : pz_W t x (sB 1) = false) (h2 : pz_W t x (sB 2) = true) : pz_k t x = 3 := by unfold pz_k; rw [if_neg (by rw [h0]; decide), if_neg (by rw [h1]; decide), if_pos h2]
theorem pz_k4 (h0 : pz_W t x (sB 0) = false) (h1 : pz_W t x (sB 1) = false) (h2 : pz_W t x (sB 2) = false) (h3 : pz_W t x (sB 3) = true) : pz_k t x = 4 := by unfold pz_k; rw [if_neg (by rw [h0]; decide), if_neg (by rw [h1]; decide), if_neg (by rw [h2]; decide), if_pos h3]
theorem pz_k0 (h0 : pz_W t x (sB 0) = false) (h1 : pz_W t x (sB 1) = false) (h2 : pz_W t x (sB 2) = false) (h3 : pz_W t x (sB 3) = false) : pz_k t x = 0 := by unfold pz_k; rw [if_neg (by rw [h0]; decide), if_neg (by rw [h1]; decide), if_neg (by rw [h2]; decide), if_neg (by rw [h3]; decide)]
theorem pz_k_le (t : Nat → Int) (x : pz_T) : 0 ≤ pz_k t x ∧ pz_k t x ≤ 4 := by unfold pz_k; repeat' split <;> omega
theorem pz_R1 {k : Int} (h : k = 1) : (pz_R t n k x).1 = (pz_N t n 0 9999 (pz_N t n (pz_N t n 0 52 x).2 52 (pz_N t n 0 52 x).1).1).1 := by unfold pz_R; rw [if_pos h]
theorem pz_R2 {k : Int} (h : k = 2) : (pz_R t n k x).1 = (pz_N t n 0 9999 (pz_N t n 1 4 x).1).1 := by unfold pz_R; rw [if_neg (by omega), if_pos h]
theorem pz_R3 {k : Int} (h : k = 3) : (pz_R t n k x).1 = (pz_N t n 0 9999 (pz_N t n 0 52 x).1).1 := by unfold pz_R; rw [if_neg (by omega), if_neg (by omega), if_pos h]
theorem pz_R4 {k : Int} (h1 : k ≠ 1) (h2 : k ≠ 2) (h3 : k ≠ 3) : (pz_R t n k x).1 = (pz_B t n x).1 := by unfold pz_R; rw [if_neg h1, if_neg h2, if_neg h3]
theorem pz_st1 {c : Int} (h : pz_k t x = 0) : pz_st t n c x = pz_bl 1 x := if_pos h
theorem pz_st2 {c : Int} (h : pz_k t x ≠ 0) (h2 : 30 ≤ c) : pz_st t n c x = pz_bl 3 x := by unfold pz_st; rw [if_neg h, if_pos h2]
theorem pz_st3 {c : Int} (h : pz_k t x ≠ 0) (h2 : ¬ 30 ≤ c) : pz_st t n c x = pz_G t n (pz_R t n (pz_k t x) (pz_nx t n x)).1 := by unfold pz_st; rw [if_neg h, if_neg h2]
/-- a whole text: the reader behind it, how many statements -/
def pz_Z (t : Nat → Int) (n : Nat) (v : Int) : pz_T × Int := pz_L t n 31 0 (pz_nx t n (0, 0, 0, v, 0, -1))
def pz_res (z : pz_T × Int) : Int := if z.1.2.2.2.2.1 = 0 then z.2 else -1 - z.1.2.2.2.2.1
end PZ2
/-- bytes -/
def pz_by (x : Int32) (m : Nat) : Int := x.toInt / 2 ^ (24 - 8 * m) % 256
def pz_up (t : Nat → Int) (j : Nat) (z : Int) : Nat → Int := fun i => if i = j then z else t i
def pz_a4 (t : Nat → Int) (n : Nat) (x : Int32) : Nat → Nat → Int
  | 0 => t
  | m + 1 => pz_up (pz_a4 t n x m) (n + m) (pz_by x m)
def pz_sel (a b c d e : Int32) (k : Nat) : Int32 := if k < 4 then a else if k < 8 then b else if k < 12 then c else if k < 16 then d else e
def pz_fk (t : Nat → Int) (n : Nat) (a b c d e : Int32) : Nat → Nat → Int
  | 0 => t
  | k + 1 => pz_up (pz_fk t n a b c d e k) (n + k) (pz_by (pz_sel a b c d e k) (k % 4))
theorem pz_fk20 (t : Nat → Int) (n : Nat) (a b c d e : Int32) : pz_a4 (pz_a4 (pz_a4 (pz_a4 (pz_a4 t n a 4) (n + 4) b 4) (n + 8) c 4) (n + 12) d 4) (n + 16) e 4 = pz_fk t n a b c d e 20 := rfl
theorem pz_gs {g : gh} {c j : Nat} {z : Int} : gs g c j z c = pz_up (g c) j z := by
  funext i
  unfold gs pz_up
  by_cases h : i = j
  · rw [if_pos ⟨rfl, h⟩, if_pos h]
  · rw [if_neg (fun q => h q.2), if_neg h]
theorem pz_by_c {x y z k w : Int32} {m : Nat} (hm : m < 4) (hy : y.toInt = 24 - 8 * (m : Int)) (hz : z = (x.toUInt32 >>> (y.toUInt32 &&& Int32.toUInt32 31)).toInt32) (hk : k.toInt = 255) (hw : w = z &&& k) : w.toInt = pz_by x m := by
  have key : ∀ (y : Int32) (q : Nat), ((y.toUInt32 &&& Int32.toUInt32 31).toNat % 32 = q) → (z = (x.toUInt32 >>> (y.toUInt32 &&& Int32.toUInt32 31)).toInt32) → w.toBitVec.toNat = x.toBitVec.toNat / 2 ^ q % 256 := by
    intro y q hq hz
    obtain rfl : k = 255 := ty_eq32.mpr hk
    rw [hw, hz, Int32.toBitVec_and, BitVec.toNat_and]
    show (x.toUInt32 >>> (y.toUInt32 &&& Int32.toUInt32 31)).toBitVec.toNat &&& 255 = _
    have e1 : (x.toUInt32 >>> (y.toUInt32 &&& Int32.toUInt32 31)).toBitVec.toNat = x.toBitVec.toNat / 2 ^ q := by
      show (x.toUInt32 >>> (y.toUInt32 &&& Int32.toUInt32 31)).toNat = _
      rw [UInt32.toNat_shiftRight, hq, Nat.shiftRight_eq_div_pow]
      rfl
    rw [e1]
    exact Nat.and_two_pow_sub_one_eq_mod _ 8
  have hx1 : x.toInt = x.toBitVec.toInt := rfl
  have hlt := x.toBitVec.isLt
  rw [BitVec.toInt_eq_toNat_cond] at hx1
  unfold pz_by
  match m, hm with
  | 0, _ =>
    obtain rfl : y = 24 := ty_eq32.mpr (by rw [hy]; rfl)
    have e := key 24 24 (by decide) hz
    rw [i32_of (by omega), e]
    split at hx1 <;> omega
  | 1, _ =>
    obtain rfl : y = 16 := ty_eq32.mpr (by rw [hy]; rfl)
    have e := key 16 16 (by decide) hz
    rw [i32_of (by omega), e]
    split at hx1 <;> omega
  | 2, _ =>
    obtain rfl : y = 8 := ty_eq32.mpr (by rw [hy]; rfl)
    have e := key 8 8 (by decide) hz
    rw [i32_of (by omega), e]
    split at hx1 <;> omega
  | 3, _ =>
    obtain rfl : y = 0 := ty_eq32.mpr (by rw [hy]; rfl)
    have e := key 0 0 (by decide) hz
    rw [i32_of (by omega), e]
    split at hx1 <;> omega
theorem pz_nb (z : Int32) : (vp_nar .byte z).toInt % 256 = z.toInt % 256 ∧ -128 ≤ (vp_nar .byte z).toInt ∧ (vp_nar .byte z).toInt ≤ 127 := by
  rw [vp_nar_byte, Int8.toInt_toInt32, Int32.toInt_toInt8]
  simp only [Int.bmod]
  omega
theorem pz_by_m {x y v b : Int32} {m : Nat} (hm : m < 4) (hy : y.toInt = 24 - 8 * (m : Int)) (hv : v = x >>> (y &&& 31)) (hb : b = v.toInt8.toInt32) : (vp_nar .byte b).toInt % 256 = pz_by x m := by
  have e0 : (vp_nar .byte b).toInt % 256 = v.toInt % 256 := by
    rw [(pz_nb b).1, hb, ← vp_nar_byte, (pz_nb v).1]
  rw [e0]
  have key : ∀ (y : Int32) (q : Nat), ((y &&& 31).toBitVec.smod 32).toNat = q → v = x >>> (y &&& 31) → v.toInt = x.toInt / 2 ^ q := by
    intro y q hq hv
    rw [hv]
    show (x.toBitVec.sshiftRight' ((y &&& 31).toBitVec.smod 32)).toInt = _
    rw [BitVec.sshiftRight_eq', BitVec.toInt_sshiftRight, hq, Int.shiftRight_eq_div_pow]
    rfl
  unfold pz_by
  match m, hm with
  | 0, _ =>
    obtain rfl : y = 24 := ty_eq32.mpr (by rw [hy]; rfl)
    rw [key 24 24 (by decide) hv]
  | 1, _ =>
    obtain rfl : y = 16 := ty_eq32.mpr (by rw [hy]; rfl)
    rw [key 16 16 (by decide) hv]
  | 2, _ =>
    obtain rfl : y = 8 := ty_eq32.mpr (by rw [hy]; rfl)
    rw [key 8 8 (by decide) hv]
  | 3, _ =>
    obtain rfl : y = 0 := ty_eq32.mpr (by rw [hy]; rfl)
    rw [key 0 0 (by decide) hv]
theorem sB_rg : ∀ k, k < 12 → ∀ i, i < (sB k).length → 0 ≤ ((sB k).getD i 0).toInt ∧ ((sB k).getD i 0).toInt ≤ 127 := by decide +kernel
theorem pz_c_cg {u g : gh} (h1 : u 16 0 = g 16 0) (h2 : u 17 0 = g 17 0) (h3 : u 15 0 = g 15 0) (h4 : u 18 0 = g 18 0) (h5 : u 9 0 = g 9 0) (h6 : u 14 0 = g 14 0) : pz_c u = pz_c g := pz_mk h1 h2 h3 h4 h5 h6
theorem pz_m_cg {u g : gh} (h1 : u 115 0 = g 115 0) (h2 : u 116 0 = g 116 0) (h3 : u 117 0 = g 117 0) (h4 : u 118 0 = g 118 0) (h5 : u 119 0 = g 119 0) (h6 : u 120 0 = g 120 0) : pz_m u = pz_m g := by unfold pz_m; rw [h1, h2, h3, h4, h5, h6]
theorem pz_s0 {k : Int} : pz_s k = 0 ↔ k = 0 := by unfold pz_s; repeat' split <;> omega
theorem pz_s1 {k : Int} : pz_s k = 1 ↔ k = 3 := by unfold pz_s; repeat' split <;> omega
theorem pz_s2 {k : Int} : pz_s k = 2 ↔ k = 2 := by unfold pz_s; repeat' split <;> omega
theorem pz_s3 {k : Int} : pz_s k = 3 ↔ k = 4 := by unfold pz_s; repeat' split <;> omega
theorem pz_s4 {k : Int} (h : k = 1) : pz_s k = 4 := if_pos h
theorem pz_cl {b : Bool} {p q : Int} (h1 : b = decide (p = 1)) (h2 : b = decide (q = 1)) : p = 1 ↔ q = 1 := by rw [h1] at h2; exact decide_eq_decide.mp h2
theorem pz_neg {x z : Int32} (h : z = -x) (h1 : -2147483648 < x.toInt) : z.toInt = -x.toInt := by
  have := Int32.toInt_lt x
  rw [h, Int32.toInt_neg]; exact ty_bm (by omega) (by omega)
/-- faults are 0 to 3 -/
def pz_ok (x : pz_T) : Prop := 0 ≤ x.2.2.2.2.1 ∧ x.2.2.2.2.1 ≤ 3
theorem pz_ok_nx {t : Nat → Int} {n : Nat} {x : pz_T} (h : pz_ok x) : pz_ok (pz_nx t n x) := by unfold pz_nx; dsimp only; (repeat' split) <;> exact h
theorem pz_ok_bl {c : Int} {x : pz_T} (h : 0 ≤ c ∧ c ≤ 3) : pz_ok (pz_bl c x) := h
theorem pz_ok_N {t : Nat → Int} {n : Nat} {lo hi : Int} {x : pz_T} (h : pz_ok x) : pz_ok (pz_N t n lo hi x).1 := by
  unfold pz_N; repeat' split
  · exact h
  · exact pz_ok_bl (by decide)
  · exact pz_ok_bl (by decide)
  · exact pz_ok_nx h
theorem pz_ok_B {t : Nat → Int} {n : Nat} {x : pz_T} (h : pz_ok x) : pz_ok (pz_B t n x).1 := by
  unfold pz_B; repeat' split
  · exact pz_ok_nx h
  · exact pz_ok_nx h
  · exact pz_ok_bl (by decide)
theorem pz_ok_G {t : Nat → Int} {n : Nat} {x : pz_T} (h : pz_ok x) : pz_ok (pz_G t n x) := by
  unfold pz_G; repeat' split
  · exact h
  · exact pz_ok_bl (by decide)
  · exact pz_ok_nx h
theorem pz_ok_R {t : Nat → Int} {n : Nat} {k : Int} {x : pz_T} (h : pz_ok x) : pz_ok (pz_R t n k x).1 := by
  unfold pz_R; repeat' split
  · exact pz_ok_N (pz_ok_N (pz_ok_N h))
  · exact pz_ok_N (pz_ok_N h)
  · exact pz_ok_N (pz_ok_N h)
  · exact pz_ok_B h
theorem pz_ok_st {t : Nat → Int} {n : Nat} {c : Int} {x : pz_T} (h : pz_ok x) : pz_ok (pz_st t n c x) := by
  unfold pz_st; repeat' split
  · exact pz_ok_bl (by decide)
  · exact pz_ok_bl (by decide)
  · exact pz_ok_G (pz_ok_R (pz_ok_nx h))
theorem pz_ok_L {t : Nat → Int} {n : Nat} : ∀ (m : Nat) (c : Int) (x : pz_T), pz_ok x → pz_ok (pz_L t n m c x).1 := by
  intro m
  induction m with
  | zero => intro c x h; exact h
  | succ m ih =>
    intro c x h
    unfold pz_L
    split
    · exact ih _ _ (pz_ok_st h)
    · exact h
theorem pz_ok_Z (t : Nat → Int) (n : Nat) (v : Int) : pz_ok (pz_Z t n v).1 := pz_ok_L _ _ _ (pz_ok_nx (show pz_ok (0, 0, 0, v, 0, -1) from ⟨show (0 : Int) ≤ 0 by decide, show (0 : Int) ≤ 3 by decide⟩))
theorem pz_nx_st {t : Nat → Int} {n : Nat} {a s s' k k' v f q : Int} : pz_nx t n (a, s, k, v, f, q) = pz_nx t n (a, s', k', v, f, q) := rfl
theorem pz_rem4 {k y z : Int32} (hk : 0 ≤ k.toInt) (hy : y.toInt = 4) (hz : z = k % y) : z.toInt = k.toInt % 4 := by
  rw [hz, Int32.toInt_mod, hy]
  exact Int.tmod_eq_emod_of_nonneg hk
theorem pz_t_up {g : gh} {j : Nat} {z y : Int} : pz_t (gs (gs g 113 j z) 114 0 y) = pz_up (pz_t g) j (z % 256) := by
  funext i
  show gs (gs g 113 j z) 114 0 y 113 i % 256 = if i = j then z % 256 else g 113 i % 256
  rw [gs_c _ _ _ _ (by decide)]
  by_cases h : i = j
  · subst h; rw [gs_self, if_pos rfl]
  · rw [gs_j _ _ _ _ h, if_neg h]
theorem pz_sel1 {a b c d e : Int32} {k : Nat} (h : k < 4) : pz_sel a b c d e k = a := if_pos h
theorem pz_sel2 {a b c d e : Int32} {k : Nat} (h : ¬ k < 4) (h2 : k < 8) : pz_sel a b c d e k = b := by unfold pz_sel; rw [if_neg h, if_pos h2]
theorem pz_sel3 {a b c d e : Int32} {k : Nat} (h : ¬ k < 8) (h2 : k < 12) : pz_sel a b c d e k = c := by unfold pz_sel; rw [if_neg (by omega), if_neg h, if_pos h2]
theorem pz_sel4 {a b c d e : Int32} {k : Nat} (h : ¬ k < 12) (h2 : k < 16) : pz_sel a b c d e k = d := by unfold pz_sel; rw [if_neg (by omega), if_neg (by omega), if_neg h, if_pos h2]
theorem pz_sel5 {a b c d e : Int32} {k : Nat} (h : ¬ k < 16) : pz_sel a b c d e k = e := by unfold pz_sel; rw [if_neg (by omega), if_neg (by omega), if_neg (by omega), if_neg h]
/-- the same in whole numbers, that arithmetic need not look into -/
def pz_ru (p : Int → Bool) (t : Nat → Int) (n : Nat) (a : Int) : Int := (pz_run p t n a.toNat : Nat)
def pz_di (t : Nat → Int) (s a : Int) : Int := pz_dig t s.toNat (min (a.toNat - s.toNat) 4)
section PZ3
variable {p : Int → Bool} {t : Nat → Int} {n : Nat} {x : pz_T} {a b s e k v z : Int}
theorem pz_ru_go (h0 : 0 ≤ a) (h : a < (n : Int)) (hp : p (t a.toNat) = true) : pz_ru p t n a = pz_ru p t n (a + 1) := by
  unfold pz_ru
  rw [pz_go (by omega) hp, show (a + 1).toNat = a.toNat + 1 by omega]
theorem pz_ru_no (h0 : 0 ≤ a) (hp : p (t a.toNat) = false) : pz_ru p t n a = a := by
  unfold pz_ru
  rw [pz_no hp]; omega
theorem pz_ru_end (h0 : 0 ≤ a) (h : (n : Int) ≤ a) : pz_ru p t n a = a := by
  unfold pz_ru
  rw [pz_end (by omega)]; omega
theorem pz_di_0 (h : a = s) : pz_di t s a = 0 := by
  unfold pz_di
  rw [h, Nat.sub_self, Nat.zero_min]; rfl
theorem pz_di_go (h : v = pz_di t s a) (h0 : 0 ≤ s) (h1 : s ≤ a) (h2 : a - s < 4) (hz : z = v * 10 + (t a.toNat - 48)) (hb : b = a + 1) : z = pz_di t s b := by
  unfold pz_di at h ⊢
  exact pz_dig_go h (by omega) (by omega) hz hb
theorem pz_di_up (h : v = pz_di t s a) (h0 : 0 ≤ s) (h1 : s ≤ a) (h2 : ¬ a - s < 4) (hb : b = a + 1) : v = pz_di t s b := by
  unfold pz_di at h ⊢
  exact pz_dig_up h (by omega) (by omega) hb
theorem pz_mx_e (hs : s = pz_ru pz_bk t n x.1) (h : (n : Int) ≤ s) : pz_nx t n x = (s, s, 0, x.2.2.2.1, x.2.2.2.2.1, x.2.2.2.2.2) := pz_nx_e hs h
theorem pz_mx_l (hs : s = pz_ru pz_bk t n x.1) (h : s < (n : Int)) (hl : 97 ≤ t s.toNat ∧ t s.toNat ≤ 122) (he : e = pz_ru pz_lc t n s) : pz_nx t n x = (e, s, 1, x.2.2.2.1, x.2.2.2.2.1, x.2.2.2.2.2) := pz_nx_l hs h hl he
theorem pz_mx_d (hs : s = pz_ru pz_bk t n x.1) (h : s < (n : Int)) (hl : 48 ≤ t s.toNat ∧ t s.toNat ≤ 57) (he : e = pz_ru pz_dg t n s) (hv : v = pz_di t s e) (hk : (e - s ≤ 4 → k = 2) ∧ (¬ e - s ≤ 4 → k = 4)) : pz_nx t n x = (e, s, k, v, x.2.2.2.2.1, x.2.2.2.2.2) := pz_nx_d hs h hl he hv hk
theorem pz_mx_o (hs : s = pz_ru pz_bk t n x.1) (h : s < (n : Int)) (h1 : ¬ (97 ≤ t s.toNat ∧ t s.toNat ≤ 122)) (h2 : ¬ (48 ≤ t s.toNat ∧ t s.toNat ≤ 57)) (he : e = s + 1) (hk : (t s.toNat = 59 → k = 3) ∧ (t s.toNat ≠ 59 → k = 4)) : pz_nx t n x = (e, s, k, x.2.2.2.1, x.2.2.2.2.1, x.2.2.2.2.2) := pz_nx_o hs h h1 h2 he hk
end PZ3
