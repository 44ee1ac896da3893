/-! ===== what a text of rules tells: the class's rows, the reference's statements ===== -/
def cs_S (S : Nat → Int) (o : Nat) (k : Int) (y : Int × Int × Int) : Nat → Int := if k = 1 then sn_f S o y.1 y.2.1 y.2.2 else S
def cs_Z (Z : Nat → Int) (o : Nat) (k : Int) (y : Int × Int × Int) : Nat → Int := if k = 2 then sz_f Z o y.1 y.2.1 else Z
def cs_E (E : Nat → Int) (o : Nat) (k : Int) (y : Int × Int × Int) : Nat → Int := if k = 3 then se_f E o y.1 y.2.1 else E
def cs_H (H : Nat → Int) (ii : Nat) (k : Int) (y : Int × Int × Int) : Nat → Int := if k = 1 ∨ k = 2 ∨ k = 3 then H else pz_up H ii y.1
/-- a statement of the reference, as it is written down -/
def rr_f (r : Nat → Int) (c : Nat) (k : Int) (y : Int × Int × Int) : Nat → Int :=
  if k = 1 then pz_up (pz_up (pz_up (pz_up r (4 * c) 0) (4 * c + 1) y.1) (4 * c + 2) y.2.1) (4 * c + 3) y.2.2
  else if k = 2 then pz_up (pz_up (pz_up r (4 * c) 1) (4 * c + 1) y.1) (4 * c + 2) y.2.1
  else if k = 3 then pz_up (pz_up (pz_up r (4 * c) 2) (4 * c + 1) y.1) (4 * c + 2) y.2.1
  else pz_up (pz_up r (4 * c) 3) (4 * c + 1) y.1
section EX4
variable {t : Nat → Int} {n : Nat} {x : pz_T} {k lo hi : Int}
theorem pz_R1n (h : k = 1) : (pz_R t n k x).2 = ((pz_N t n 0 52 x).2, (pz_N t n (pz_N t n 0 52 x).2 52 (pz_N t n 0 52 x).1).2, (pz_N t n 0 9999 (pz_N t n (pz_N t n 0 52 x).2 52 (pz_N t n 0 52 x).1).1).2) := by unfold pz_R; rw [if_pos h]
theorem pz_R2n (h : k = 2) : (pz_R t n k x).2 = ((pz_N t n 1 4 x).2, (pz_N t n 0 9999 (pz_N t n 1 4 x).1).2, 0) := by unfold pz_R; rw [if_neg (by omega), if_pos h]
theorem pz_R3n (h : k = 3) : (pz_R t n k x).2 = ((pz_N t n 0 52 x).2, (pz_N t n 0 9999 (pz_N t n 0 52 x).1).2, 0) := by unfold pz_R; rw [if_neg (by omega), if_neg (by omega), if_pos h]
theorem pz_R4n (h1 : k ≠ 1) (h2 : k ≠ 2) (h3 : k ≠ 3) : (pz_R t n k x).2 = ((pz_B t n x).2, 0, 0) := by unfold pz_R; rw [if_neg h1, if_neg h2, if_neg h3]
theorem pz_N_rg (h : 0 ≤ lo) (hh : 0 ≤ hi) : 0 ≤ (pz_N t n lo hi x).2 ∧ (pz_N t n lo hi x).2 ≤ hi := by
  unfold pz_N
  split
  · exact ⟨Int.le_refl _, hh⟩
  · split
    · exact ⟨Int.le_refl _, hh⟩
    · split
      · exact ⟨Int.le_refl _, hh⟩
      · rename_i q
        show 0 ≤ x.2.2.2.1 ∧ x.2.2.2.1 ≤ hi
        omega
theorem pz_B_rg : (pz_B t n x).2 = 0 ∨ (pz_B t n x).2 = 1 := by
  unfold pz_B
  split
  · exact Or.inr rfl
  · split
    · exact Or.inl rfl
    · exact Or.inl rfl
/-- the numbers of a statement lie between -/
theorem pz_R_rg : 0 ≤ (pz_R t n k x).2.1 ∧ (pz_R t n k x).2.1 ≤ 52 ∧ 0 ≤ (pz_R t n k x).2.2.1 ∧ (pz_R t n k x).2.2.1 ≤ 9999 ∧ 0 ≤ (pz_R t n k x).2.2.2 ∧ (pz_R t n k x).2.2.2 ≤ 9999 ∧ (k = 1 → (pz_R t n k x).2.2.1 ≤ 52) ∧ (k ≠ 1 ∧ k ≠ 2 ∧ k ≠ 3 → (pz_R t n k x).2.1 = 0 ∨ (pz_R t n k x).2.1 = 1) := by
  by_cases h1 : k = 1
  · rw [pz_R1n h1]
    have a := pz_N_rg (t := t) (n := n) (x := x) (lo := 0) (hi := 52) (by decide) (by decide)
    have b := pz_N_rg (t := t) (n := n) (x := (pz_N t n 0 52 x).1) (lo := (pz_N t n 0 52 x).2) (hi := 52) a.1 (by decide)
    have c := pz_N_rg (t := t) (n := n) (x := (pz_N t n (pz_N t n 0 52 x).2 52 (pz_N t n 0 52 x).1).1) (lo := 0) (hi := 9999) (by decide) (by decide)
    dsimp only
    exact ⟨a.1, a.2, b.1, by omega, c.1, c.2, fun _ => b.2, fun q => absurd h1 q.1⟩
  · by_cases h2 : k = 2
    · rw [pz_R2n h2]
      have a := pz_N_rg (t := t) (n := n) (x := x) (lo := 1) (hi := 4) (by decide) (by decide)
      have b := pz_N_rg (t := t) (n := n) (x := (pz_N t n 1 4 x).1) (lo := 0) (hi := 9999) (by decide) (by decide)
      dsimp only
      exact ⟨a.1, by omega, b.1, b.2, by decide, by decide, fun q => absurd q h1, fun q => absurd h2 q.2.1⟩
    · by_cases h3 : k = 3
      · rw [pz_R3n h3]
        have a := pz_N_rg (t := t) (n := n) (x := x) (lo := 0) (hi := 52) (by decide) (by decide)
        have b := pz_N_rg (t := t) (n := n) (x := (pz_N t n 0 52 x).1) (lo := 0) (hi := 9999) (by decide) (by decide)
        dsimp only
        exact ⟨a.1, a.2, b.1, b.2, by decide, by decide, fun q => absurd q h1, fun q => absurd h3 q.2.2⟩
      · rw [pz_R4n h1 h2 h3]
        have a := pz_B_rg (t := t) (n := n) (x := x)
        dsimp only
        exact ⟨by omega, by omega, by decide, by decide, by decide, by decide, fun q => absurd q h1, fun _ => a⟩
end EX4
/-- a statement, whole -/
def st_S (T : Nat → Int) (N : Nat) (o : Nat) (c : Int) (x : pz_T) (S : Nat → Int) : Nat → Int := if pz_k T x = 0 ∨ 30 ≤ c then S else cs_S S o (pz_k T x) (pz_R T N (pz_k T x) (pz_nx T N x)).2
def st_Z (T : Nat → Int) (N : Nat) (o : Nat) (c : Int) (x : pz_T) (S : Nat → Int) : Nat → Int := if pz_k T x = 0 ∨ 30 ≤ c then S else cs_Z S o (pz_k T x) (pz_R T N (pz_k T x) (pz_nx T N x)).2
def st_E (T : Nat → Int) (N : Nat) (o : Nat) (c : Int) (x : pz_T) (S : Nat → Int) : Nat → Int := if pz_k T x = 0 ∨ 30 ≤ c then S else cs_E S o (pz_k T x) (pz_R T N (pz_k T x) (pz_nx T N x)).2
def st_H (T : Nat → Int) (N : Nat) (ii : Nat) (c : Int) (x : pz_T) (S : Nat → Int) : Nat → Int := if pz_k T x = 0 ∨ 30 ≤ c then S else cs_H S ii (pz_k T x) (pz_R T N (pz_k T x) (pz_nx T N x)).2
def st_m (T : Nat → Int) (N : Nat) (c : Int) (x : pz_T) (r : Nat → Int) : Nat → Int := if pz_k T x = 0 ∨ 30 ≤ c then r else rr_f r c.toNat (pz_k T x) (pz_R T N (pz_k T x) (pz_nx T N x)).2
abbrev pl_T : Type := (Nat → Int) × (Nat → Int) × (Nat → Int) × (Nat → Int)
def pq_c (T : Nat → Int) (N o ii : Nat) : Nat → Int → pz_T → pl_T → pl_T
  | 0, _, _, s => s
  | m + 1, c, x, s => if x.2.2.1 ≠ 0 ∧ x.2.2.2.2.1 = 0 then pq_c T N o ii m (c + 1) (pz_st T N c x) (st_S T N o c x s.1, st_Z T N o c x s.2.1, st_E T N o c x s.2.2.1, st_H T N ii c x s.2.2.2) else s
def pq_m (T : Nat → Int) (N : Nat) : Nat → Int → pz_T → (Nat → Int) → (Nat → Int)
  | 0, _, _, r => r
  | m + 1, c, x, r => if x.2.2.1 ≠ 0 ∧ x.2.2.2.2.1 = 0 then pq_m T N m (c + 1) (pz_st T N c x) (st_m T N c x r) else r
section PL
variable {T : Nat → Int} {N o ii m : Nat} {c : Int} {x : pz_T}
theorem pq_c_go {S Z E H S' Z' E' H' : Nat → Int} {c' : Int} {x' : pz_T} {m' : Nat} (h1 : x.2.2.1 ≠ 0) (h2 : x.2.2.2.2.1 = 0) (hm : m' = m + 1) (hc : c' = c + 1) (hx : x' = pz_st T N c x) (e1 : S' = st_S T N o c x S) (e2 : Z' = st_Z T N o c x Z) (e3 : E' = st_E T N o c x E) (e4 : H' = st_H T N ii c x H) : pq_c T N o ii m c' x' (S', Z', E', H') = pq_c T N o ii m' c x (S, Z, E, H) := by
  subst hm hc hx e1 e2 e3 e4
  show _ = (if _ then _ else _)
  rw [if_pos ⟨h1, h2⟩]
theorem pq_c_no {s : pl_T} (h : ¬ (x.2.2.1 ≠ 0 ∧ x.2.2.2.2.1 = 0)) : pq_c T N o ii m c x s = s := by
  cases m with
  | zero => rfl
  | succ m => show (if _ then _ else _) = _; rw [if_neg h]
theorem pq_m_go {r r' : Nat → Int} {c' : Int} {x' : pz_T} {m' : Nat} (h1 : x.2.2.1 ≠ 0) (h2 : x.2.2.2.2.1 = 0) (hm : m' = m + 1) (hc : c' = c + 1) (hx : x' = pz_st T N c x) (e1 : r' = st_m T N c x r) : pq_m T N m c' x' r' = pq_m T N m' c x r := by
  subst hm hc hx e1
  show _ = (if _ then _ else _)
  rw [if_pos ⟨h1, h2⟩]
theorem pq_m_no {r : Nat → Int} (h : ¬ (x.2.2.1 ≠ 0 ∧ x.2.2.2.2.1 = 0)) : pq_m T N m c x r = r := by
  cases m with
  | zero => rfl
  | succ m => show (if _ then _ else _) = _; rw [if_neg h]
end PL
/-- of the first n statements the last that tells of a week, of a size, of a number of weeks ahead -/
def sl_f (r : Nat → Int) (w : Int) : Nat → Int
  | 0 => 0
  | k + 1 => if r (4 * k) = 0 ∧ r (4 * k + 1) ≤ w ∧ w ≤ r (4 * k + 2) then r (4 * k + 3) else sl_f r w k
def zl_f (r : Nat → Int) (s : Int) : Nat → Int
  | 0 => 0
  | k + 1 => if r (4 * k) = 1 ∧ r (4 * k + 1) = s then r (4 * k + 2) else zl_f r s k
def el_f (r : Nat → Int) (a : Int) : Nat → Int
  | 0 => -1
  | k + 1 => if r (4 * k) = 2 ∧ r (4 * k + 1) = a then r (4 * k + 2) else el_f r a k
def BLK (o : Nat) (S Z E : Nat → Int) (h : Int) (r : Nat → Int) (n : Nat) : Prop :=
  (∀ w : Nat, w < 53 → S (o + w) = sl_f r (w : Int) n) ∧ (∀ s : Nat, 1 ≤ s → s ≤ 4 → Z (o + s) = zl_f r (s : Int) n) ∧ (∀ a : Nat, a < 53 → E (o + a) = el_f r (a : Int) n) ∧ h = hb_f r n
section BL
variable {r r' : Nat → Int} {w s d : Int}
theorem sl_cg : ∀ {n : Nat}, (∀ j, j < 4 * n → r' j = r j) → sl_f r' w n = sl_f r w n := by
  intro n
  induction n with
  | zero => intro _; rfl
  | succ n ih => intro h; unfold sl_f; rw [ih (fun j hj => h j (by omega)), h (4 * n) (by omega), h (4 * n + 1) (by omega), h (4 * n + 2) (by omega), h (4 * n + 3) (by omega)]
theorem zl_cg : ∀ {n : Nat}, (∀ j, j < 4 * n → r' j = r j) → zl_f r' w n = zl_f r w n := by
  intro n
  induction n with
  | zero => intro _; rfl
  | succ n ih => intro h; unfold zl_f; rw [ih (fun j hj => h j (by omega)), h (4 * n) (by omega), h (4 * n + 1) (by omega), h (4 * n + 2) (by omega)]
theorem el_cg : ∀ {n : Nat}, (∀ j, j < 4 * n → r' j = r j) → el_f r' w n = el_f r w n := by
  intro n
  induction n with
  | zero => intro _; rfl
  | succ n ih => intro h; unfold el_f; rw [ih (fun j hj => h j (by omega)), h (4 * n) (by omega), h (4 * n + 1) (by omega), h (4 * n + 2) (by omega)]
theorem hb_cg : ∀ {n : Nat}, (∀ j, j < 4 * n → r' j = r j) → hb_f r' n = hb_f r n := by
  intro n
  induction n with
  | zero => intro _; rfl
  | succ n ih => intro h; unfold hb_f; rw [ih (fun j hj => h j (by omega)), h (4 * n) (by omega), h (4 * n + 1) (by omega)]
theorem BLK_cg {o n : Nat} {S Z E S' Z' E' : Nat → Int} {h h' : Int} (b : BLK o S Z E h r n) (e1 : ∀ w : Nat, w < 53 → S' (o + w) = S (o + w)) (e2 : ∀ s : Nat, s ≤ 4 → Z' (o + s) = Z (o + s)) (e3 : ∀ a : Nat, a < 53 → E' (o + a) = E (o + a)) (e4 : h' = h) (e5 : ∀ j, j < 4 * n → r' j = r j) : BLK o S' Z' E' h' r' n :=
  ⟨fun w hw => by rw [e1 w hw, b.1 w hw, sl_cg e5], fun s h1 h2 => by rw [e2 s h2, b.2.1 s h1 h2, zl_cg e5], fun a ha => by rw [e3 a ha, b.2.2.1 a ha, el_cg e5], by rw [e4, b.2.2.2, hb_cg e5]⟩
/-- what the reference reckons with, each by itself -/
theorem wm_1 : ∀ n, (wm_f r w s d n).1 = sl_f r w n := by
  intro n
  induction n with
  | zero => rfl
  | succ n ih =>
    unfold sl_f
    by_cases h0 : r (4 * n) = 0
    · by_cases h : r (4 * n + 1) ≤ w ∧ w ≤ r (4 * n + 2)
      · rw [wm_0y h0 h, if_pos ⟨h0, h.1, h.2⟩]
      · rw [wm_0n h0 h, if_neg (fun q => h q.2)]; exact ih
    · rw [if_neg (fun q => h0 q.1)]
      by_cases h1 : r (4 * n) = 1
      · by_cases h : r (4 * n + 1) = s
        · rw [wm_1y h1 h]; exact ih
        · rw [wm_1n h1 h]; exact ih
      · by_cases h2 : r (4 * n) = 2
        · by_cases h : r (4 * n + 1) ≤ d ∧ (wm_f r w s d n).2.2.2 ≤ r (4 * n + 1)
          · rw [wm_2y h2 h]; exact ih
          · rw [wm_2n h2 h]; exact ih
        · rw [wm_3 (by omega)]; exact ih
theorem wm_2 : ∀ n, (wm_f r w s d n).2.1 = zl_f r s n := by
  intro n
  induction n with
  | zero => rfl
  | succ n ih =>
    unfold zl_f
    by_cases h0 : r (4 * n) = 0
    · rw [if_neg (by omega)]
      by_cases h : r (4 * n + 1) ≤ w ∧ w ≤ r (4 * n + 2)
      · rw [wm_0y h0 h]; exact ih
      · rw [wm_0n h0 h]; exact ih
    · by_cases h1 : r (4 * n) = 1
      · by_cases h : r (4 * n + 1) = s
        · rw [wm_1y h1 h, if_pos ⟨h1, h⟩]
        · rw [wm_1n h1 h, if_neg (fun q => h q.2)]; exact ih
      · rw [if_neg (fun q => h1 q.1)]
        by_cases h2 : r (4 * n) = 2
        · by_cases h : r (4 * n + 1) ≤ d ∧ (wm_f r w s d n).2.2.2 ≤ r (4 * n + 1)
          · rw [wm_2y h2 h]; exact ih
          · rw [wm_2n h2 h]; exact ih
        · rw [wm_3 (by omega)]; exact ih
/-- early: the greatest told that isn't above d -/
theorem wm_3e (hr : ∀ j, 0 ≤ r j) : ∀ n, ((wm_f r w s d n).2.2.2 = -1 ∧ (wm_f r w s d n).2.2.1 = 0 ∧ ∀ a : Int, a ≤ d → el_f r a n = -1) ∨ (0 ≤ (wm_f r w s d n).2.2.2 ∧ (wm_f r w s d n).2.2.2 ≤ d ∧ el_f r (wm_f r w s d n).2.2.2 n = (wm_f r w s d n).2.2.1 ∧ 0 ≤ (wm_f r w s d n).2.2.1 ∧ ∀ a : Int, (wm_f r w s d n).2.2.2 < a → a ≤ d → el_f r a n = -1) := by
  intro n
  induction n with
  | zero => exact Or.inl ⟨rfl, rfl, fun _ _ => rfl⟩
  | succ n ih =>
    by_cases h2 : r (4 * n) = 2
    · have e : ∀ a, el_f r a (n + 1) = if r (4 * n + 1) = a then r (4 * n + 2) else el_f r a n := fun a => by
        show (if _ then _ else _) = _
        by_cases q : r (4 * n + 1) = a
        · rw [if_pos ⟨h2, q⟩, if_pos q]
        · rw [if_neg (fun z => q z.2), if_neg q]
      have p1 := hr (4 * n + 1); have p2 := hr (4 * n + 2)
      by_cases h : r (4 * n + 1) ≤ d ∧ (wm_f r w s d n).2.2.2 ≤ r (4 * n + 1)
      · rw [wm_2y h2 h]
        refine Or.inr ⟨p1, h.1, by rw [e, if_pos rfl], p2, fun a ha hd => ?_⟩
        have ha : r (4 * n + 1) < a := ha
        rw [e, if_neg (by omega)]
        rcases ih with ⟨i1, i2, i3⟩ | ⟨i1, i2, i3, i4, i5⟩
        · exact i3 a hd
        · exact i5 a (by omega) hd
      · rw [wm_2n h2 h]
        rcases ih with ⟨i1, i2, i3⟩ | ⟨i1, i2, i3, i4, i5⟩
        · exact Or.inl ⟨i1, i2, fun a ha => by rw [e, if_neg (by omega)]; exact i3 a ha⟩
        · exact Or.inr ⟨i1, i2, by rw [e, if_neg (by omega)]; exact i3, i4, fun a h1 h3 => by rw [e, if_neg (by omega)]; exact i5 a h1 h3⟩
    · have e : ∀ a, el_f r a (n + 1) = el_f r a n := fun a => by
        show (if _ then _ else _) = _
        rw [if_neg (fun z => h2 z.1)]
      have f : (wm_f r w s d (n + 1)).2.2 = (wm_f r w s d n).2.2 := by
        by_cases h0 : r (4 * n) = 0
        · by_cases h : r (4 * n + 1) ≤ w ∧ w ≤ r (4 * n + 2)
          · rw [wm_0y h0 h]
          · rw [wm_0n h0 h]
        · by_cases h1 : r (4 * n) = 1
          · by_cases h : r (4 * n + 1) = s
            · rw [wm_1y h1 h]
            · rw [wm_1n h1 h]
          · rw [wm_3 (by omega)]
      rw [f]
      simp only [e]
      exact ih
theorem ea_eq {E : Nat → Int} {o n : Nat} {v c : Int} (hE : ∀ a : Nat, a < 53 → E (o + a) = el_f r (a : Int) n) (hc : (c = -1 ∧ v = 0 ∧ ∀ a : Int, a ≤ d → el_f r a n = -1) ∨ (0 ≤ c ∧ c ≤ d ∧ c ≤ 52 ∧ el_f r c n = v ∧ 0 ≤ v ∧ ∀ a : Int, c < a → a ≤ d → el_f r a n = -1)) : ea_f E o (ea_n d) = v := by
  have key : ∀ m : Nat, m ≤ 53 → (m : Int) ≤ d + 1 → ((c = -1 ∨ (m : Int) ≤ c) → ea_f E o m = ea_f E o m) ∧ (0 ≤ c → c < (m : Int) → ea_f E o m = v) ∧ (c = -1 → ea_f E o m = v) := by
    intro m
    induction m with
    | zero =>
      intro _ _
      refine ⟨fun _ => rfl, fun h1 h2 => by omega, fun h => ?_⟩
      rcases hc with q | q
      · rw [q.2.1]; rfl
      · omega
    | succ m ih =>
      intro h1 h2
      obtain ⟨-, i2, i3⟩ := ih (by omega) (by omega)
      have em := hE m (by omega)
      refine ⟨fun _ => rfl, fun p1 p2 => ?_, fun h => ?_⟩
      · rcases hc with q | ⟨q1, q2, q3, q4, q5, q6⟩
        · omega
        · by_cases e : (m : Int) = c
          · rw [ea_t (by rw [em, e]; omega), em, e]; exact q4
          · rw [ea_s (by rw [em]; exact q6 m (by omega) (by omega))]
            exact i2 p1 (by omega)
      · rcases hc with ⟨q1, q2, q3⟩ | q
        · rw [ea_s (by rw [em]; exact q3 m (by omega))]; exact i3 h
        · omega
  have b : ea_n d ≤ 53 ∧ ((ea_n d : Nat) : Int) ≤ d + 1 ∨ (d < -1 ∧ ea_n d = 0) := by unfold ea_n; omega
  rcases b with ⟨b1, b2⟩ | ⟨b1, b2⟩
  · obtain ⟨-, k2, k3⟩ := key (ea_n d) b1 b2
    rcases hc with q | ⟨q1, q2, q3, q⟩
    · exact k3 q.1
    · exact k2 q1 (by unfold ea_n; omega)
  · rw [b2]
    rcases hc with q | q
    · rw [q.2.1]; rfl
    · omega
theorem el_hi (hr : ∀ j, r j ≤ 9999) (h52 : ∀ k, r (4 * k) = 2 → r (4 * k + 1) ≤ 52) {a : Int} (ha : 52 < a) : ∀ n, el_f r a n = -1 := by
  intro n
  induction n with
  | zero => rfl
  | succ n ih =>
    show (if _ then _ else _) = _
    rw [if_neg (fun q => by have := h52 n q.1; omega)]; exact ih
/-- a week's worth, by the class and by the reference -/
theorem worth_eq {S Z E : Nat → Int} {h : Int} {o n : Nat} (b : BLK o S Z E h r n) (hr : ∀ j, 0 ≤ r j) (hr2 : ∀ j, r j ≤ 9999) (h52 : ∀ k, r (4 * k) = 2 → r (4 * k + 1) ≤ 52) (hw : 0 ≤ w ∧ w ≤ 52) (hs : 1 ≤ s ∧ s ≤ 4) : wo_f S Z E o s w d = wm_w r w s d n := by
  unfold wo_f wm_w
  rw [if_pos ⟨hs.1, hs.2, hw.1, hw.2⟩, wm_1, wm_2, b.1 w.toNat (by omega), b.2.1 s.toNat (by omega) (by omega), show ((w.toNat : Nat) : Int) = w by omega, show ((s.toNat : Nat) : Int) = s by omega]
  congr 1
  refine ea_eq (r := r) (n := n) (c := (wm_f r w s d n).2.2.2) b.2.2.1 ?_
  rcases wm_3e (w := w) (s := s) (d := d) hr n with q | ⟨q1, q2, q3, q4, q5⟩
  · exact Or.inl q
  · refine Or.inr ⟨q1, q2, ?_, q3, q4, q5⟩
    refine Int.not_lt.mp (fun c => ?_)
    rw [el_hi hr2 h52 c n] at q3
    omega
/-- and it is small -/
theorem worth_rg (hr : ∀ j, 0 ≤ r j) (hr2 : ∀ j, r j ≤ 9999) : ∀ n, 0 ≤ wm_w r w s d n ∧ wm_w r w s d n ≤ 29997 := by
  intro n
  have a : ∀ n, 0 ≤ sl_f r w n ∧ sl_f r w n ≤ 9999 := by
    intro n
    induction n with
    | zero => exact ⟨(show (0 : Int) ≤ 0 by decide), (show (0 : Int) ≤ 9999 by decide)⟩
    | succ n ih => unfold sl_f; split; exact ⟨hr _, hr2 _⟩; exact ih
  have b : ∀ n, 0 ≤ zl_f r s n ∧ zl_f r s n ≤ 9999 := by
    intro n
    induction n with
    | zero => exact ⟨(show (0 : Int) ≤ 0 by decide), (show (0 : Int) ≤ 9999 by decide)⟩
    | succ n ih => unfold zl_f; split; exact ⟨hr _, hr2 _⟩; exact ih
  have c : ∀ n, 0 ≤ (wm_f r w s d n).2.2.1 ∧ (wm_f r w s d n).2.2.1 ≤ 9999 := by
    intro n
    induction n with
    | zero => exact ⟨(show (0 : Int) ≤ 0 by decide), (show (0 : Int) ≤ 9999 by decide)⟩
    | succ n ih =>
      by_cases h0 : r (4 * n) = 0
      · by_cases h : r (4 * n + 1) ≤ w ∧ w ≤ r (4 * n + 2)
        · rw [wm_0y h0 h]; exact ih
        · rw [wm_0n h0 h]; exact ih
      · by_cases h1 : r (4 * n) = 1
        · by_cases h : r (4 * n + 1) = s
          · rw [wm_1y h1 h]; exact ih
          · rw [wm_1n h1 h]; exact ih
        · by_cases h2 : r (4 * n) = 2
          · by_cases h : r (4 * n + 1) ≤ d ∧ (wm_f r w s d n).2.2.2 ≤ r (4 * n + 1)
            · rw [wm_2y h2 h]; exact ⟨hr _, hr2 _⟩
            · rw [wm_2n h2 h]; exact ih
          · rw [wm_3 (by omega)]; exact ih
  have a := a n; have b := b n; have c := c n
  unfold wm_w
  rw [wm_1, wm_2]
  have e1 : wa (sl_f r w n) (zl_f r s n) = sl_f r w n + zl_f r s n := wa_in (by omega)
  rw [e1, wa_in (by omega)]
  omega
end BL
/-- a statement told on both sides -/
theorem BLK_st {o ii : Nat} {S Z E H r : Nat → Int} {n : Nat} {k : Int} {y : Int × Int × Int} (b : BLK o S Z E (H ii) r n) (hk : 1 ≤ k ∧ k ≤ 4) (h1 : 0 ≤ y.1 ∧ y.1 ≤ 52) (h2 : 0 ≤ y.2.1) (h3 : k = 1 → y.2.1 ≤ 52) (h4 : k = 4 → y.1 = 0 ∨ y.1 = 1) : BLK o (cs_S S o k y) (cs_Z Z o k y) (cs_E E o k y) (cs_H H ii k y ii) (rr_f r n k y) (n + 1) := by
  obtain ⟨b1, b2, b3, b4⟩ := b
  have low : ∀ j, j < 4 * n → rr_f r n k y j = r j := fun j hj => by
    unfold rr_f
    split
    · rw [pz_up_n (by omega), pz_up_n (by omega), pz_up_n (by omega), pz_up_n (by omega)]
    · split
      · rw [pz_up_n (by omega), pz_up_n (by omega), pz_up_n (by omega)]
      · split
        · rw [pz_up_n (by omega), pz_up_n (by omega), pz_up_n (by omega)]
        · rw [pz_up_n (by omega), pz_up_n (by omega)]
  have r0 : rr_f r n k y (4 * n) = k - 1 := by
    unfold rr_f
    split
    · rw [pz_up_n (by omega), pz_up_n (by omega), pz_up_n (by omega), pz_up_s]; omega
    · split
      · rw [pz_up_n (by omega), pz_up_n (by omega), pz_up_s]; omega
      · split
        · rw [pz_up_n (by omega), pz_up_n (by omega), pz_up_s]; omega
        · rw [pz_up_n (by omega), pz_up_s]; omega
  have r1 : rr_f r n k y (4 * n + 1) = y.1 := by
    unfold rr_f
    split
    · rw [pz_up_n (by omega), pz_up_n (by omega), pz_up_s]
    · split
      · rw [pz_up_n (by omega), pz_up_s]
      · split
        · rw [pz_up_n (by omega), pz_up_s]
        · rw [pz_up_s]
  have r2 : k ≠ 4 → rr_f r n k y (4 * n + 2) = y.2.1 := fun h => by
    unfold rr_f
    split
    · rw [pz_up_n (by omega), pz_up_s]
    · split
      · rw [pz_up_s]
      · split
        · rw [pz_up_s]
        · omega
  have r3 : k = 1 → rr_f r n k y (4 * n + 3) = y.2.2 := fun h => by
    unfold rr_f
    rw [if_pos h, pz_up_s]
  refine ⟨fun w hw => ?_, fun s s1 s2 => ?_, fun a ha => ?_, ?_⟩
  · show _ = (if _ then _ else _)
    rw [r0, r1, sl_cg low]
    unfold cs_S
    by_cases e : k = 1
    · rw [if_pos e, r2 (by omega), r3 e]
      unfold sn_f
      rw [fz_at]
      have m : mx0 y.1 = y.1 := by unfold mx0; split <;> omega
      have h3 := h3 e
      unfold sn_m
      rw [m]
      by_cases q : y.1 ≤ (w : Int) ∧ (w : Int) ≤ y.2.1
      · rw [if_pos (by omega), if_pos ⟨by omega, q.1, q.2⟩]
      · rw [if_neg (by omega), if_neg (fun z => q z.2)]; exact b1 w hw
    · rw [if_neg e, if_neg (by omega)]; exact b1 w hw
  · show _ = (if _ then _ else _)
    rw [r0, r1, zl_cg low]
    unfold cs_Z
    by_cases e : k = 2
    · rw [if_pos e, r2 (by omega)]
      unfold sz_f
      by_cases q : y.1 = (s : Int)
      · rw [if_pos (by omega), show o + y.1.toNat = o + s by omega, pz_up_s, if_pos ⟨by omega, q⟩]
      · rw [if_neg (show ¬ (k - 1 = 1 ∧ y.1 = (s : Int)) from fun z => q z.2)]
        by_cases q2 : 1 ≤ y.1 ∧ y.1 ≤ 4
        · rw [if_pos q2, pz_up_n (by omega)]; exact b2 s s1 s2
        · rw [if_neg q2]; exact b2 s s1 s2
    · rw [if_neg e, if_neg (by omega)]; exact b2 s s1 s2
  · show _ = (if _ then _ else _)
    rw [r0, r1, el_cg low]
    unfold cs_E
    by_cases e : k = 3
    · rw [if_pos e, r2 (by omega)]
      unfold se_f
      rw [if_pos h1]
      by_cases q : y.1 = (a : Int)
      · rw [show o + y.1.toNat = o + a by omega, pz_up_s, if_pos ⟨by omega, q⟩]
      · rw [if_neg (fun z => q z.2), pz_up_n (by omega)]; exact b3 a ha
    · rw [if_neg e, if_neg (by omega)]; exact b3 a ha
  · show _ = (if _ then _ else _)
    rw [r0, r1, hb_cg low]
    unfold cs_H
    by_cases e : k = 4
    · rw [if_neg (by omega), if_pos (by omega), pz_up_s]
      rcases h4 e with q | q
      · rw [q]; rfl
      · rw [q]; rfl
    · rw [if_pos (by omega), if_neg (by omega)]; exact b4
theorem pl_rel {T : Nat → Int} {N o ii : Nat} : ∀ (m : Nat) (c : Nat) (x : pz_T) (S Z E H r : Nat → Int), BLK o S Z E (H ii) r c → (pz_L T N m (c : Int) x).1.2.2.2.2.1 = 0 → ∃ c' : Nat, (pz_L T N m (c : Int) x).2 = (c' : Int) ∧ BLK o (pq_c T N o ii m c x (S, Z, E, H)).1 (pq_c T N o ii m c x (S, Z, E, H)).2.1 (pq_c T N o ii m c x (S, Z, E, H)).2.2.1 ((pq_c T N o ii m c x (S, Z, E, H)).2.2.2 ii) (pq_m T N m c x r) c' := by
  intro m
  induction m with
  | zero => intro c x S Z E H r b _; exact ⟨c, rfl, b⟩
  | succ m ih =>
    intro c x S Z E H r b hf
    by_cases h : x.2.2.1 ≠ 0 ∧ x.2.2.2.2.1 = 0
    · rw [pz_L_go h.1 h.2] at hf ⊢
      rw [← pq_c_go (m := m) h.1 h.2 rfl rfl rfl rfl rfl rfl rfl, ← pq_m_go (m := m) h.1 h.2 rfl rfl rfl rfl]
      -- the statement has no fault
      have y0 : (pz_st T N c x).2.2.2.2.1 = 0 := by
        refine Classical.byContradiction (fun q => ?_)
        rw [pz_L_no (fun z => q z.2)] at hf
        exact q hf
      have k0 : pz_k T x ≠ 0 := fun q => by rw [pz_st1 q] at y0; exact absurd y0 (by show (1 : Int) ≠ 0; decide)
      have c0 : ¬ 30 ≤ (c : Int) := fun q => by rw [pz_st2 k0 q] at y0; exact absurd y0 (by show (3 : Int) ≠ 0; decide)
      have kl := pz_k_le T x
      have e := (show ¬ (pz_k T x = 0 ∨ 30 ≤ (c : Int)) from fun q => q.elim k0 c0)
      have rg := pz_R_rg (t := T) (n := N) (x := pz_nx T N x) (k := pz_k T x)
      have bb := BLK_st (k := pz_k T x) (y := (pz_R T N (pz_k T x) (pz_nx T N x)).2) b ⟨by omega, kl.2⟩ ⟨rg.1, rg.2.1⟩ rg.2.2.1 rg.2.2.2.2.2.2.1 (fun q => rg.2.2.2.2.2.2.2 (by omega))
      have i := ih (c + 1) (pz_st T N c x) (st_S T N o c x S) (st_Z T N o c x Z) (st_E T N o c x E) (st_H T N ii c x H) (st_m T N c x r) (by
        unfold st_S st_Z st_E st_H st_m
        rw [if_neg e, if_neg e, if_neg e, if_neg e, if_neg e, Int.toNat_natCast]
        exact bb) (by rw [Int.natCast_add]; exact hf)
      rw [Int.natCast_add] at i
      exact i
    · rw [pz_L_no h, pq_c_no h, pq_m_no h]
      exact ⟨c, rfl, b⟩
/-- the numbers written down lie between -/
theorem pl_rg {T : Nat → Int} {N : Nat} : ∀ (m : Nat) (c : Nat) (x : pz_T) (r : Nat → Int), ((∀ j, 0 ≤ r j ∧ r j ≤ 9999) ∧ ∀ k, r (4 * k) = 2 → r (4 * k + 1) ≤ 52) → (∀ j, 0 ≤ pq_m T N m c x r j ∧ pq_m T N m c x r j ≤ 9999) ∧ ∀ k, pq_m T N m c x r (4 * k) = 2 → pq_m T N m c x r (4 * k + 1) ≤ 52 := by
  intro m
  induction m with
  | zero => intro c x r h; exact h
  | succ m ih =>
    intro c x r h
    by_cases q : x.2.2.1 ≠ 0 ∧ x.2.2.2.2.1 = 0
    · rw [← pq_m_go (m := m) q.1 q.2 rfl rfl rfl rfl]
      have i := ih (c + 1) (pz_st T N c x) (st_m T N c x r) (by
        unfold st_m
        by_cases e : pz_k T x = 0 ∨ 30 ≤ (c : Int)
        · rw [if_pos e]; exact h
        · rw [if_neg e, Int.toNat_natCast]
          have rg := pz_R_rg (t := T) (n := N) (x := pz_nx T N x) (k := pz_k T x)
          generalize (pz_R T N (pz_k T x) (pz_nx T N x)).2 = y at rg
          have up : ∀ (R : Nat → Int) (i : Nat) (z : Int), (∀ j, 0 ≤ R j ∧ R j ≤ 9999) → 0 ≤ z ∧ z ≤ 9999 → ∀ j, 0 ≤ pz_up R i z j ∧ pz_up R i z j ≤ 9999 := fun R i z hR hz j => by
            unfold pz_up; split; exact hz; exact hR j
          have y1 : 0 ≤ y.1 ∧ y.1 ≤ 9999 := ⟨rg.1, by have := rg.2.1; omega⟩
          have y2 : 0 ≤ y.2.1 ∧ y.2.1 ≤ 9999 := ⟨rg.2.2.1, rg.2.2.2.1⟩
          have y3 : 0 ≤ y.2.2 ∧ y.2.2 ≤ 9999 := ⟨rg.2.2.2.2.1, rg.2.2.2.2.2.1⟩
          refine ⟨?_, fun k hk => ?_⟩
          · unfold rr_f
            split
            · exact up _ _ _ (up _ _ _ (up _ _ _ (up _ _ _ h.1 (by decide)) y1) y2) y3
            · split
              · exact up _ _ _ (up _ _ _ (up _ _ _ h.1 (by decide)) y1) y2
              · split
                · exact up _ _ _ (up _ _ _ (up _ _ _ h.1 (by decide)) y1) y2
                · exact up _ _ _ (up _ _ _ h.1 (by decide)) y1
          · by_cases ek : k = c
            · subst ek
              have : rr_f r k (pz_k T x) y (4 * k + 1) = y.1 := by
                unfold rr_f
                split
                · rw [pz_up_n (by omega), pz_up_n (by omega), pz_up_s]
                · split
                  · rw [pz_up_n (by omega), pz_up_s]
                  · split
                    · rw [pz_up_n (by omega), pz_up_s]
                    · rw [pz_up_s]
              rw [this]; exact rg.2.1
            · have nn : ∀ j, j / 4 ≠ c → rr_f r c (pz_k T x) y j = r j := fun j hj => by
                unfold rr_f
                split
                · rw [pz_up_n (by omega), pz_up_n (by omega), pz_up_n (by omega), pz_up_n (by omega)]
                · split
                  · rw [pz_up_n (by omega), pz_up_n (by omega), pz_up_n (by omega)]
                  · split
                    · rw [pz_up_n (by omega), pz_up_n (by omega), pz_up_n (by omega)]
                    · rw [pz_up_n (by omega), pz_up_n (by omega)]
              rw [nn _ (by omega)] at hk ⊢
              exact h.2 k hk)
      rw [Int.natCast_add] at i
      exact i
    · rw [pq_m_no q]; exact h
theorem fz_v {r : Nat → Int} {o n : Nat} {v v' : Int} (h : v = v') : fz r o v n = fz r o v' n := by rw [h]
theorem pl4 {a a' b b' c c' d d' : Nat → Int} (h1 : a = a') (h2 : b = b') (h3 : c = c') (h4 : d = d') : ((a, b, c, d) : pl_T) = (a', b', c', d') := by subst h1 h2 h3 h4; rfl
theorem pz_upc3 {r : Nat → Int} {i i' j j' k k' : Nat} {x x' y y' z z' : Int} (hi : i = i') (hx : x = x') (hj : j = j') (hy : y = y') (hk : k = k') (hz : z = z') : pz_up (pz_up (pz_up r i x) j y) k z = pz_up (pz_up (pz_up r i' x') j' y') k' z' := by rw [hi, hx, hj, hy, hk, hz]
theorem pz_upc4 {r : Nat → Int} {i i' j j' k k' l l' : Nat} {x x' y y' z z' w w' : Int} (hi : i = i') (hx : x = x') (hj : j = j') (hy : y = y') (hk : k = k') (hz : z = z') (hl : l = l') (hw : w = w') : pz_up (pz_up (pz_up (pz_up r i x) j y) k z) l w = pz_up (pz_up (pz_up (pz_up r i' x') j' y') k' z') l' w' := by rw [hi, hx, hj, hy, hk, hz, hl, hw]
