/-! ===== what the calls answer, as functions of rows ===== -/
def ok_own (fc oc : Int) (de : Nat → Int) (z : Int) (st : Nat → Int) (f w o : Int) : Prop := 0 ≤ f ∧ f < fc ∧ 0 ≤ w ∧ w ≤ 52 ∧ (o = -1 ∨ (0 ≤ o ∧ o < oc ∧ de o.toNat = 0)) ∧ ¬ (0 ≤ z ∧ 0 ≤ st z.toNat ∧ st z.toNat ≤ 3)
def ok_pl (fc f w : Int) : Prop := 0 ≤ f ∧ f < fc ∧ 0 ≤ w ∧ w ≤ 52
def ok_wi (t f o s : Int) : Prop := -1 ≤ t ∧ t ≤ 3 ∧ 0 ≤ f ∧ f ≤ 52 ∧ 0 ≤ o ∧ o ≤ 52 ∧ f ≤ o ∧ 1 ≤ s ∧ s ≤ 4
/-- give: 0 if it may be, else what it answers; z: the week's latest gift -/
def gv_c (fc oc gc now : Int) (de ow sh : Nat → Int) (z : Int) (st : Nat → Int) (o f w : Int) : Int :=
  if ¬ (0 ≤ o ∧ o < oc ∧ de o.toNat = 0 ∧ 0 ≤ f ∧ f < fc ∧ 0 ≤ w ∧ w ≤ 52) then -1
  else if ow (53 * f.toNat + w.toNat) ≠ o then -2
  else if w ≤ now then -3
  else if sh (53 * f.toNat + w.toNat) ≠ 0 then -4
  else if 0 ≤ z ∧ st z.toNat ≠ 4 then -5
  else if 200 ≤ gc ∨ 9 ≤ (cnt gc.toNat st 0 : Int) then -6
  else 0
/-- party -/
def pt_c (fc : Int) (ow : Nat → Int) (z : Int) (st bq : Nat → Int) (f w : Int) : Int :=
  if ¬ (0 ≤ f ∧ f < fc ∧ 0 ≤ w ∧ w ≤ 52) then -1
  else if 0 ≤ z ∧ 0 ≤ st z.toNat ∧ st z.toNat ≤ 3 then (if st z.toNat = 1 ∨ st z.toNat = 3 then bq z.toNat else -2)
  else ow (53 * f.toNat + w.toNat)
/-- of -/
def of_c (ow fl we ye wo st go bq : Nat → Int) (k : Nat) (v : Int) : Int :=
  if v = 0 then ow k else if v = 1 then fl k else if v = 2 then we k else if v = 3 then ye k else if v = 4 then wo k else if v = 5 then st k
  else if v = 6 then (if st k = 1 then go k else -1) else (if st k = 1 ∨ st k = 3 then bq k else -1)
/-- ownerOf: wh 1 where there is a wish -/
def oo_c (oc : Int) (pt lu li : Nat → Int) (wk : Int) (de : Nat → Int) (wh : Int) (o v : Int) : Int :=
  if ¬ (0 ≤ o ∧ o < oc) then -1
  else if v = 0 then pt o.toNat else if v = 1 then lu o.toNat else if v = 2 then li o.toNat else if v = 3 then wk else if v = 4 then de o.toNat else if v = 5 then wh else -1
def ct_c (fc oc ye now gc len hb : Int) (st pt : Nat → Int) (v : Int) : Int :=
  if v = 0 then fc else if v = 1 then oc else if v = 2 then ye else if v = 3 then now else if v = 4 then gc else if v = 5 then (cnt gc.toNat st 0 : Int) else if v = 6 then (cnt gc.toNat st 2 : Int) else if v = 7 then len else if v = 8 then hb else if v = 9 then sp_f pt oc.toNat else -1
/-! the rush -/
abbrev ru_S : Type := (Nat → Int) × (Nat → Int) × (Nat → Int) × (Nat → Int) × (Nat → Int) × (Nat → Int) × Int
/-- the turns of a rush: points, luck, who is in line, wishes, states, who got it, how many were taken -/
def ru_f (wo fl we tw si : Nat → Int) (G N : Nat) : Nat → ru_S → ru_S
  | 0, x => x
  | t + 1, x =>
    if fi_f x.2.2.1 x.2.1 N = -1 then x
    else if bb_f x.2.2.2.2.1 wo fl we tw si (x.1 (fi_f x.2.2.1 x.2.1 N).toNat) (x.2.2.2.1 (fi_f x.2.2.1 x.2.1 N).toNat) G = -1 then ru_f wo fl we tw si G N t (x.1, x.2.1, pz_up x.2.2.1 (fi_f x.2.2.1 x.2.1 N).toNat 0, x.2.2.2)
    else ru_f wo fl we tw si G N t
      (pz_up x.1 (fi_f x.2.2.1 x.2.1 N).toNat (ws (x.1 (fi_f x.2.2.1 x.2.1 N).toNat) (wo (bb_f x.2.2.2.2.1 wo fl we tw si (x.1 (fi_f x.2.2.1 x.2.1 N).toNat) (x.2.2.2.1 (fi_f x.2.2.1 x.2.1 N).toNat) G).toNat)),
       pz_up x.2.1 (fi_f x.2.2.1 x.2.1 N).toNat (wa (x.2.1 (fi_f x.2.2.1 x.2.1 N).toNat) (wo (bb_f x.2.2.2.2.1 wo fl we tw si (x.1 (fi_f x.2.2.1 x.2.1 N).toNat) (x.2.2.2.1 (fi_f x.2.2.1 x.2.1 N).toNat) G).toNat)),
       pz_up x.2.2.1 (fi_f x.2.2.1 x.2.1 N).toNat 0,
       pz_up x.2.2.2.1 (fi_f x.2.2.1 x.2.1 N).toNat (-1),
       pz_up x.2.2.2.2.1 (bb_f x.2.2.2.2.1 wo fl we tw si (x.1 (fi_f x.2.2.1 x.2.1 N).toNat) (x.2.2.2.1 (fi_f x.2.2.1 x.2.1 N).toNat) G).toNat 3,
       pz_up x.2.2.2.2.2.1 (bb_f x.2.2.2.2.1 wo fl we tw si (x.1 (fi_f x.2.2.1 x.2.1 N).toNat) (x.2.2.2.1 (fi_f x.2.2.1 x.2.1 N).toNat) G).toNat (fi_f x.2.2.1 x.2.1 N),
       x.2.2.2.2.2.2 + 1)
section RU
variable {wo fl we tw si p l i w s b p' l' i' w' s' b' : Nat → Int} {G N t t' : Nat} {c c' o k : Int}
theorem ru_no (h : fi_f i l N = -1) : ru_f wo fl we tw si G N t (p, l, i, w, s, b, c) = (p, l, i, w, s, b, c) := by
  cases t with
  | zero => rfl
  | succ t => show (if _ then _ else _) = _; rw [if_pos h]
theorem ru_1 (ht : t' = t + 1) (ho : o = fi_f i l N) (h0 : 0 ≤ o) (hk : bb_f s wo fl we tw si (p o.toNat) (w o.toNat) G = -1) (e1 : p' = p) (e2 : l' = l) (e3 : i' = pz_up i o.toNat 0) (e4 : w' = w) (e5 : s' = s) (e6 : b' = b) (e7 : c' = c) : ru_f wo fl we tw si G N t (p', l', i', w', s', b', c') = ru_f wo fl we tw si G N t' (p, l, i, w, s, b, c) := by
  subst e1 e2 e3 e4 e5 e6 e7 ht ho
  show _ = (if _ then _ else _)
  rw [if_neg (by show ¬ fi_f i l' N = -1; omega)]
  show _ = (if _ then _ else _)
  rw [if_pos hk]
theorem ru_2 (ht : t' = t + 1) (ho : o = fi_f i l N) (h0 : 0 ≤ o) (hk : k = bb_f s wo fl we tw si (p o.toNat) (w o.toNat) G) (h1 : 0 ≤ k) (e1 : p' = pz_up p o.toNat (ws (p o.toNat) (wo k.toNat))) (e2 : l' = pz_up l o.toNat (wa (l o.toNat) (wo k.toNat))) (e3 : i' = pz_up i o.toNat 0) (e4 : w' = pz_up w o.toNat (-1)) (e5 : s' = pz_up s k.toNat 3) (e6 : b' = pz_up b k.toNat o) (e7 : c' = c + 1) : ru_f wo fl we tw si G N t (p', l', i', w', s', b', c') = ru_f wo fl we tw si G N t' (p, l, i, w, s, b, c) := by
  subst e1 e2 e3 e4 e5 e6 e7 ht ho hk
  show _ = (if _ then _ else _)
  rw [if_neg (by show ¬ fi_f i l N = -1; omega)]
  show _ = (if _ then _ else _)
  rw [if_neg (by show ¬ bb_f s wo fl we tw si (p (fi_f i l N).toNat) (w (fi_f i l N).toNat) G = -1; omega)]
end RU
/-- who is in line as a rush begins -/
def il_f (r w : Nat → Int) (n : Nat) : Nat → Int := fun i => if i < n then (if 0 ≤ w i then 1 else 0) else r i
theorem il_0 {r w : Nat → Int} {n : Nat} (h : n = 0) : r = il_f r w n := by funext j; unfold il_f; rw [if_neg (by omega)]
theorem il_s {r q w : Nat → Int} {n m : Nat} {z : Int} (hz : z = if 0 ≤ w n then 1 else 0) (hm : m = n + 1) (hr : q = il_f r w n) : pz_up q n z = il_f r w m := by
  subst hm hz hr
  funext j
  by_cases e : j = n
  · subst e; rw [pz_up_s]; unfold il_f; rw [if_pos (show j < j + 1 by omega)]
  · rw [pz_up_n e]; unfold il_f
    by_cases h : j < n
    · rw [if_pos h, if_pos (show j < n + 1 by omega)]
    · rw [if_neg h, if_neg (show ¬ j < n + 1 by omega)]
theorem pz_c7 {a a' b b' c c' d d' e e' f f' : Nat → Int} {z z' : Int} (h1 : a = a') (h2 : b = b') (h3 : c = c') (h4 : d = d') (h5 : e = e') (h6 : f = f') (h7 : z = z') : ((a, b, c, d, e, f, z) : ru_S) = (a', b', c', d', e', f', z') := by subst h1 h2 h3 h4 h5 h6 h7; rfl
def tk_c (oc gc : Int) (de pt st wo : Nat → Int) (o k : Int) : Int :=
  if ¬ (0 ≤ o ∧ o < oc ∧ de o.toNat = 0 ∧ 0 ≤ k ∧ k < gc ∧ st k.toNat = 2) then -1 else if pt o.toNat < wo k.toNat then -2 else 0
/-! the reference's own -/
/-- a wish as four numbers -/
def w4_f (r : Nat → Int) (q : Nat) (t f o s : Int) : Nat → Int := pz_up (pz_up (pz_up (pz_up r (4 * q) t) (4 * q + 1) f) (4 * q + 2) o) (4 * q + 3) s
def mm_b (wi : Nat → Int) (q : Nat) (t s w : Int) : Int := if wi (4 * q + 3) ≠ 0 ∧ wi (4 * q + 3) ≤ s ∧ (wi (4 * q) = -1 ∨ wi (4 * q) = t) ∧ wi (4 * q + 1) ≤ w ∧ w ≤ wi (4 * q + 2) then 1 else 0
/-- whether heirs are bound, by the first k statements -/
def hb_f (r : Nat → Int) : Nat → Int
  | 0 => 0
  | k + 1 => if r (4 * k) = 3 then (if r (4 * k + 1) = 1 then 1 else 0) else hb_f r k
/-- season, what the size adds, what early adds, how far ahead: by the first k statements -/
def wm_f (r : Nat → Int) (w s d : Int) : Nat → Int × Int × Int × Int
  | 0 => (0, 0, 0, -1)
  | k + 1 =>
    if r (4 * k) = 0 then (if r (4 * k + 1) ≤ w ∧ w ≤ r (4 * k + 2) then (r (4 * k + 3), (wm_f r w s d k).2) else wm_f r w s d k)
    else if r (4 * k) = 1 then (if r (4 * k + 1) = s then ((wm_f r w s d k).1, r (4 * k + 2), (wm_f r w s d k).2.2) else wm_f r w s d k)
    else if r (4 * k) = 2 then (if r (4 * k + 1) ≤ d ∧ (wm_f r w s d k).2.2.2 ≤ r (4 * k + 1) then ((wm_f r w s d k).1, (wm_f r w s d k).2.1, r (4 * k + 2), r (4 * k + 1)) else wm_f r w s d k)
    else wm_f r w s d k
def wm_w (r : Nat → Int) (w s d : Int) (n : Nat) : Int := wa (wa (wm_f r w s d n).1 (wm_f r w s d n).2.1) (wm_f r w s d n).2.2.1
section WM
variable {r : Nat → Int} {w s d a b c e a' b' c' e' : Int} {k m : Nat}
theorem wm_0y (h0 : r (4 * k) = 0) (h : r (4 * k + 1) ≤ w ∧ w ≤ r (4 * k + 2)) : wm_f r w s d (k + 1) = (r (4 * k + 3), (wm_f r w s d k).2) := by
  show (if _ then _ else _) = _; rw [if_pos h0, if_pos h]
theorem wm_0n (h0 : r (4 * k) = 0) (h : ¬ (r (4 * k + 1) ≤ w ∧ w ≤ r (4 * k + 2))) : wm_f r w s d (k + 1) = wm_f r w s d k := by
  show (if _ then _ else _) = _; rw [if_pos h0, if_neg h]
theorem wm_1y (h0 : r (4 * k) = 1) (h : r (4 * k + 1) = s) : wm_f r w s d (k + 1) = ((wm_f r w s d k).1, r (4 * k + 2), (wm_f r w s d k).2.2) := by
  show (if _ then _ else _) = _; rw [if_neg (by omega), if_pos h0, if_pos h]
theorem wm_1n (h0 : r (4 * k) = 1) (h : ¬ r (4 * k + 1) = s) : wm_f r w s d (k + 1) = wm_f r w s d k := by
  show (if _ then _ else _) = _; rw [if_neg (by omega), if_pos h0, if_neg h]
theorem wm_2y (h0 : r (4 * k) = 2) (h : r (4 * k + 1) ≤ d ∧ (wm_f r w s d k).2.2.2 ≤ r (4 * k + 1)) : wm_f r w s d (k + 1) = ((wm_f r w s d k).1, (wm_f r w s d k).2.1, r (4 * k + 2), r (4 * k + 1)) := by
  show (if _ then _ else _) = _; rw [if_neg (by omega), if_neg (by omega), if_pos h0, if_pos h]
theorem wm_2n (h0 : r (4 * k) = 2) (h : ¬ (r (4 * k + 1) ≤ d ∧ (wm_f r w s d k).2.2.2 ≤ r (4 * k + 1))) : wm_f r w s d (k + 1) = wm_f r w s d k := by
  show (if _ then _ else _) = _; rw [if_neg (by omega), if_neg (by omega), if_pos h0, if_neg h]
theorem wm_3 (h0 : r (4 * k) < 0 ∨ 2 < r (4 * k)) : wm_f r w s d (k + 1) = wm_f r w s d k := by
  show (if _ then _ else _) = _; rw [if_neg (by omega), if_neg (by omega), if_neg (by omega)]
theorem wm_gn (h : wm_f r w s d (k + 1) = wm_f r w s d k) (hm : m = k + 1) (H : a = (wm_f r w s d k).1 ∧ b = (wm_f r w s d k).2.1 ∧ c = (wm_f r w s d k).2.2.1 ∧ e = (wm_f r w s d k).2.2.2) : a = (wm_f r w s d m).1 ∧ b = (wm_f r w s d m).2.1 ∧ c = (wm_f r w s d m).2.2.1 ∧ e = (wm_f r w s d m).2.2.2 := by
  subst hm; rw [h]; exact H
theorem wm_g0 (h0 : r (4 * k) = 0) (h : r (4 * k + 1) ≤ w ∧ w ≤ r (4 * k + 2)) (hm : m = k + 1) (H : a = (wm_f r w s d k).1 ∧ b = (wm_f r w s d k).2.1 ∧ c = (wm_f r w s d k).2.2.1 ∧ e = (wm_f r w s d k).2.2.2) (ha : a' = r (4 * k + 3)) : a' = (wm_f r w s d m).1 ∧ b = (wm_f r w s d m).2.1 ∧ c = (wm_f r w s d m).2.2.1 ∧ e = (wm_f r w s d m).2.2.2 := by
  subst hm; rw [wm_0y h0 h]; exact ⟨ha, H.2⟩
theorem wm_g1 (h0 : r (4 * k) = 1) (h : r (4 * k + 1) = s) (hm : m = k + 1) (H : a = (wm_f r w s d k).1 ∧ b = (wm_f r w s d k).2.1 ∧ c = (wm_f r w s d k).2.2.1 ∧ e = (wm_f r w s d k).2.2.2) (hb : b' = r (4 * k + 2)) : a = (wm_f r w s d m).1 ∧ b' = (wm_f r w s d m).2.1 ∧ c = (wm_f r w s d m).2.2.1 ∧ e = (wm_f r w s d m).2.2.2 := by
  subst hm; rw [wm_1y h0 h]; exact ⟨H.1, hb, H.2.2⟩
theorem wm_g2 (h0 : r (4 * k) = 2) (h : r (4 * k + 1) ≤ d ∧ e ≤ r (4 * k + 1)) (hm : m = k + 1) (H : a = (wm_f r w s d k).1 ∧ b = (wm_f r w s d k).2.1 ∧ c = (wm_f r w s d k).2.2.1 ∧ e = (wm_f r w s d k).2.2.2) (hc : c' = r (4 * k + 2)) (he : e' = r (4 * k + 1)) : a = (wm_f r w s d m).1 ∧ b = (wm_f r w s d m).2.1 ∧ c' = (wm_f r w s d m).2.2.1 ∧ e' = (wm_f r w s d m).2.2.2 := by
  subst hm; rw [wm_2y h0 ⟨h.1, by rw [← H.2.2.2]; exact h.2⟩]; exact ⟨H.1, H.2.1, hc, he⟩
end WM
/-- the rush of the reference: points, luck, who was asked, wishes, states, who got it, how many; lu, de: luck then, who is dead -/
def rl_f (de wi as : Nat → Int) : Nat → Int := fun o => if as o = 0 ∧ de o = 0 ∧ wi (4 * (200 + o) + 3) ≠ 0 then 1 else 0
theorem rl_n {de wi as : Nat → Int} {o : Nat} (h : ¬ (as o = 0 ∧ de o = 0 ∧ wi (4 * (200 + o) + 3) ≠ 0)) : rl_f de wi as o = 0 := if_neg h
theorem rl_y {de wi as : Nat → Int} {o : Nat} (h : as o = 0 ∧ de o = 0 ∧ wi (4 * (200 + o) + 3) ≠ 0) : rl_f de wi as o = 1 := if_pos h
theorem fi_in {li lu : Nat → Int} {z : Int} : ∀ {n : Nat}, z = fi_f li lu n → z = -1 ∨ (0 ≤ z ∧ z < (n : Int) ∧ li z.toNat ≠ 0) := by
  intro n
  induction n generalizing z with
  | zero => intro h; exact Or.inl h
  | succ n ih =>
    intro h
    have h : z = (if li n ≠ 0 ∧ (fi_f li lu n = -1 ∨ lu n < lu (fi_f li lu n).toNat) then (n : Int) else fi_f li lu n) := h
    by_cases c : li n ≠ 0 ∧ (fi_f li lu n = -1 ∨ lu n < lu (fi_f li lu n).toNat)
    · rw [if_pos c] at h
      refine Or.inr ⟨by omega, by omega, ?_⟩
      rw [h, Int.toNat_natCast]; exact c.1
    · rw [if_neg c] at h
      rcases ih h with q | q
      · exact Or.inl q
      · exact Or.inr ⟨q.1, by omega, q.2.2⟩
theorem rl_in {de wi as lu : Nat → Int} {z : Int} {n : Nat} (h : z = fi_f (rl_f de wi as) lu n) : z = -1 ∨ as z.toNat = 0 := by
  rcases fi_in h with q | q
  · exact Or.inl q
  · refine Or.inr ?_
    by_cases c : as z.toNat = 0
    · exact c
    · exact absurd (rl_n (fun d => c d.1)) q.2.2
def rb_f (s wo fl we tw si wi : Nat → Int) (P : Int) (q : Nat) : Nat → Int
  | 0 => -1
  | n + 1 => if s n = 2 ∧ mm_b wi q (tw (fl n).toNat) (si (fl n).toNat) (we n) ≠ 0 ∧ wo n ≤ P ∧ (rb_f s wo fl we tw si wi P q n = -1 ∨ wo (rb_f s wo fl we tw si wi P q n).toNat < wo n) then (n : Int) else rb_f s wo fl we tw si wi P q n
theorem rb_y {s wo fl we tw si wi : Nat → Int} {P b y : Int} {q n m : Nat} (hb : b = rb_f s wo fl we tw si wi P q n) (h : s n = 2 ∧ mm_b wi q (tw (fl n).toNat) (si (fl n).toNat) (we n) ≠ 0 ∧ wo n ≤ P ∧ (b = -1 ∨ wo b.toNat < wo n)) (hm : m = n + 1) (hy : y = (n : Int)) : y = rb_f s wo fl we tw si wi P q m := by
  subst hm hy hb; show _ = (if _ then _ else _); rw [if_pos h]
theorem rb_no {s wo fl we tw si wi : Nat → Int} {P b : Int} {q n m : Nat} (hb : b = rb_f s wo fl we tw si wi P q n) (h : ¬ (s n = 2 ∧ mm_b wi q (tw (fl n).toNat) (si (fl n).toNat) (we n) ≠ 0 ∧ wo n ≤ P ∧ (b = -1 ∨ wo b.toNat < wo n))) (hm : m = n + 1) : b = rb_f s wo fl we tw si wi P q m := by
  subst hm hb; show _ = (if _ then _ else _); rw [if_neg h]
def rm_f (wo fl we tw si de lu : Nat → Int) (G N : Nat) : Nat → ru_S → ru_S
  | 0, x => x
  | t + 1, x =>
    if fi_f (rl_f de x.2.2.2.1 x.2.2.1) lu N = -1 then x
    else if rb_f x.2.2.2.2.1 wo fl we tw si x.2.2.2.1 (x.1 (fi_f (rl_f de x.2.2.2.1 x.2.2.1) lu N).toNat) (200 + (fi_f (rl_f de x.2.2.2.1 x.2.2.1) lu N).toNat) G = -1 then rm_f wo fl we tw si de lu G N t (x.1, x.2.1, pz_up x.2.2.1 (fi_f (rl_f de x.2.2.2.1 x.2.2.1) lu N).toNat 1, x.2.2.2)
    else rm_f wo fl we tw si de lu G N t
      (pz_up x.1 (fi_f (rl_f de x.2.2.2.1 x.2.2.1) lu N).toNat (ws (x.1 (fi_f (rl_f de x.2.2.2.1 x.2.2.1) lu N).toNat) (wo (rb_f x.2.2.2.2.1 wo fl we tw si x.2.2.2.1 (x.1 (fi_f (rl_f de x.2.2.2.1 x.2.2.1) lu N).toNat) (200 + (fi_f (rl_f de x.2.2.2.1 x.2.2.1) lu N).toNat) G).toNat)),
       pz_up x.2.1 (fi_f (rl_f de x.2.2.2.1 x.2.2.1) lu N).toNat (wa (x.2.1 (fi_f (rl_f de x.2.2.2.1 x.2.2.1) lu N).toNat) (wo (rb_f x.2.2.2.2.1 wo fl we tw si x.2.2.2.1 (x.1 (fi_f (rl_f de x.2.2.2.1 x.2.2.1) lu N).toNat) (200 + (fi_f (rl_f de x.2.2.2.1 x.2.2.1) lu N).toNat) G).toNat)),
       pz_up x.2.2.1 (fi_f (rl_f de x.2.2.2.1 x.2.2.1) lu N).toNat 1,
       pz_up x.2.2.2.1 (4 * (200 + (fi_f (rl_f de x.2.2.2.1 x.2.2.1) lu N).toNat) + 3) 0,
       pz_up x.2.2.2.2.1 (rb_f x.2.2.2.2.1 wo fl we tw si x.2.2.2.1 (x.1 (fi_f (rl_f de x.2.2.2.1 x.2.2.1) lu N).toNat) (200 + (fi_f (rl_f de x.2.2.2.1 x.2.2.1) lu N).toNat) G).toNat 3,
       pz_up x.2.2.2.2.2.1 (rb_f x.2.2.2.2.1 wo fl we tw si x.2.2.2.1 (x.1 (fi_f (rl_f de x.2.2.2.1 x.2.2.1) lu N).toNat) (200 + (fi_f (rl_f de x.2.2.2.1 x.2.2.1) lu N).toNat) G).toNat (fi_f (rl_f de x.2.2.2.1 x.2.2.1) lu N),
       x.2.2.2.2.2.2 + 1)
section RM
variable {wo fl we tw si de lu p l i w s b p' l' i' w' s' b' : Nat → Int} {G N t t' : Nat} {c c' o k : Int}
theorem rm_no (h : fi_f (rl_f de w i) lu N = -1) : rm_f wo fl we tw si de lu G N t (p, l, i, w, s, b, c) = (p, l, i, w, s, b, c) := by
  cases t with
  | zero => rfl
  | succ t => show (if _ then _ else _) = _; rw [if_pos h]
theorem rm_1 (ht : t' = t + 1) (ho : o = fi_f (rl_f de w i) lu N) (h0 : 0 ≤ o) (hk : rb_f s wo fl we tw si w (p o.toNat) (200 + o.toNat) G = -1) (e1 : p' = p) (e2 : l' = l) (e3 : i' = pz_up i o.toNat 1) (e4 : w' = w) (e5 : s' = s) (e6 : b' = b) (e7 : c' = c) : rm_f wo fl we tw si de lu G N t (p', l', i', w', s', b', c') = rm_f wo fl we tw si de lu G N t' (p, l, i, w, s, b, c) := by
  subst e1 e2 e3 e4 e5 e6 e7 ht ho
  show _ = (if _ then _ else _)
  rw [if_neg (by show ¬ fi_f (rl_f de w' i) lu N = -1; omega)]
  show _ = (if _ then _ else _)
  rw [if_pos hk]
theorem rm_2 (ht : t' = t + 1) (ho : o = fi_f (rl_f de w i) lu N) (h0 : 0 ≤ o) (hk : k = rb_f s wo fl we tw si w (p o.toNat) (200 + o.toNat) G) (h1 : 0 ≤ k) (e1 : p' = pz_up p o.toNat (ws (p o.toNat) (wo k.toNat))) (e2 : l' = pz_up l o.toNat (wa (l o.toNat) (wo k.toNat))) (e3 : i' = pz_up i o.toNat 1) (e4 : w' = pz_up w (4 * (200 + o.toNat) + 3) 0) (e5 : s' = pz_up s k.toNat 3) (e6 : b' = pz_up b k.toNat o) (e7 : c' = c + 1) : rm_f wo fl we tw si de lu G N t (p', l', i', w', s', b', c') = rm_f wo fl we tw si de lu G N t' (p, l, i, w, s, b, c) := by
  subst e1 e2 e3 e4 e5 e6 e7 ht ho hk
  show _ = (if _ then _ else _)
  rw [if_neg (by show ¬ fi_f (rl_f de w i) lu N = -1; omega)]
  show _ = (if _ then _ else _)
  rw [if_neg (by show ¬ rb_f s wo fl we tw si w (p (fi_f (rl_f de w i) lu N).toNat) (200 + (fi_f (rl_f de w i) lu N).toNat) G = -1; omega)]
end RM
/-- luck as a rush begins -/
def lk_f (r l : Nat → Int) (n : Nat) : Nat → Int := fun i => if i < n then l i else r i
theorem lk_0 {r l : Nat → Int} {n : Nat} (h : n = 0) : r = lk_f r l n := by funext j; unfold lk_f; rw [if_neg (by omega)]
theorem lk_s {r q l : Nat → Int} {n m : Nat} {z : Int} (hz : z = l n) (hm : m = n + 1) (hr : q = lk_f r l n) : pz_up q n z = lk_f r l m := by
  subst hm hz hr
  funext j
  by_cases e : j = n
  · subst e; rw [pz_up_s]; unfold lk_f; rw [if_pos (by omega)]
  · rw [pz_up_n e]; unfold lk_f
    by_cases h : j < n
    · rw [if_pos h, if_pos (by omega)]
    · rw [if_neg h, if_neg (by omega)]
