/-! ===== what the methods do, as functions of rows ===== -/
def mx0 (z : Int) : Int := if 0 < z then z else 0
section EX2
variable {p s w ow bq wo r li lu fl we tw si ye e c : Nat → Int} {k n o m : Nat} {z y v l a b f : Int}
/-- a gift that is ended by shutting: points, states -/
def es_p (p s ow bq wo : Nat → Int) (k : Nat) : Nat → Int :=
  if s k = 1 ∨ s k = 3 then (if bq k < 0 then p else pz_up p (bq k).toNat (wa (p (bq k).toNat) (wo k)))
  else if s k = 2 then pz_up p (ow k).toNat (mx0 (ws (p (ow k).toNat) (wo k))) else p
def es_s (s : Nat → Int) (k : Nat) : Nat → Int := pz_up s k (if s k = 1 ∨ s k = 3 then 5 else 4)
theorem es_1 (h : s k = 1 ∨ s k = 3) (hb : bq k < 0) : p = es_p p s ow bq wo k := by unfold es_p; rw [if_pos h, if_pos hb]
theorem es_2 (h : s k = 1 ∨ s k = 3) (hb : 0 ≤ bq k) (hz : z = wa (p (bq k).toNat) (wo k)) : pz_up p (bq k).toNat z = es_p p s ow bq wo k := by unfold es_p; rw [if_pos h, if_neg (by omega), hz]
theorem es_3 (h : ¬ (s k = 1 ∨ s k = 3)) (h2 : s k = 2) (hz : z = mx0 (ws (p (ow k).toNat) (wo k))) : pz_up p (ow k).toNat z = es_p p s ow bq wo k := by unfold es_p; rw [if_neg h, if_pos h2, hz]
theorem es_4 (h : ¬ (s k = 1 ∨ s k = 3)) (h2 : ¬ s k = 2) : p = es_p p s ow bq wo k := by unfold es_p; rw [if_neg h, if_neg h2]
theorem es_5 (h : s k = 1 ∨ s k = 3) (hz : z = 5) : pz_up s k z = es_s s k := by unfold es_s; rw [if_pos h, hz]
theorem es_6 (h : ¬ (s k = 1 ∨ s k = 3)) (hz : z = 4) : pz_up s k z = es_s s k := by unfold es_s; rw [if_neg h, hz]
/-- shutting, gift by gift: points, states, how many -/
def sh_f (ow bq wo fl we ye : Nat → Int) (f a b y : Int) (p s : Nat → Int) : Nat → (Nat → Int) × (Nat → Int) × Int
  | 0 => (p, s, 0)
  | k + 1 =>
    if fl k = f ∧ a ≤ we k ∧ we k ≤ b ∧ ye k = y ∧ 0 ≤ (sh_f ow bq wo fl we ye f a b y p s k).2.1 k ∧ (sh_f ow bq wo fl we ye f a b y p s k).2.1 k ≤ 3 then (es_p (sh_f ow bq wo fl we ye f a b y p s k).1 (sh_f ow bq wo fl we ye f a b y p s k).2.1 ow bq wo k, es_s (sh_f ow bq wo fl we ye f a b y p s k).2.1 k, (sh_f ow bq wo fl we ye f a b y p s k).2.2 + 1)
    else sh_f ow bq wo fl we ye f a b y p s k
theorem sh_y (h : fl k = f ∧ a ≤ we k ∧ we k ≤ b ∧ ye k = y ∧ 0 ≤ (sh_f ow bq wo fl we ye f a b y p s k).2.1 k ∧ (sh_f ow bq wo fl we ye f a b y p s k).2.1 k ≤ 3) : sh_f ow bq wo fl we ye f a b y p s (k + 1) = (es_p (sh_f ow bq wo fl we ye f a b y p s k).1 (sh_f ow bq wo fl we ye f a b y p s k).2.1 ow bq wo k, es_s (sh_f ow bq wo fl we ye f a b y p s k).2.1 k, (sh_f ow bq wo fl we ye f a b y p s k).2.2 + 1) := by
  show (if _ then _ else _) = _
  rw [if_pos h]
theorem sh_n (h : ¬ (fl k = f ∧ a ≤ we k ∧ we k ≤ b ∧ ye k = y ∧ 0 ≤ (sh_f ow bq wo fl we ye f a b y p s k).2.1 k ∧ (sh_f ow bq wo fl we ye f a b y p s k).2.1 k ≤ 3)) : sh_f ow bq wo fl we ye f a b y p s (k + 1) = sh_f ow bq wo fl we ye f a b y p s k := by
  show (if _ then _ else _) = _
  rw [if_neg h]
/-- weeks go: gifts that wait or are banked are past -/
def eu_f (s w : Nat → Int) (l : Int) (n : Nat) : Nat → Int := fun j => if j < n ∧ (s j = 0 ∨ s j = 2) ∧ w j ≤ l then 5 else s j
theorem eu_0 (h : n = 0) : s = eu_f s w l n := by
  funext j; unfold eu_f; rw [if_neg (by omega)]
theorem eu_at : eu_f s w l n n = s n := by unfold eu_f; rw [if_neg (by omega)]
theorem eu_s (h : s n = 0 ∨ s n = 2) (hw : w n ≤ l) (hz : z = 5) (hm : m = n + 1) (hr : r = eu_f s w l n) : pz_up r n z = eu_f s w l m := by
  subst hm hz hr
  funext j
  by_cases e : j = n
  · subst e; rw [pz_up_s]; unfold eu_f; rw [if_pos ⟨by omega, h, hw⟩]
  · rw [pz_up_n e]; unfold eu_f
    by_cases q : j < n ∧ (s j = 0 ∨ s j = 2) ∧ w j ≤ l
    · rw [if_pos q, if_pos ⟨by omega, q.2⟩]
    · rw [if_neg q, if_neg (fun q' => q ⟨by omega, q'.2⟩)]
theorem eu_n (h : ¬ ((s n = 0 ∨ s n = 2) ∧ w n ≤ l)) (hm : m = n + 1) (hr : r = eu_f s w l n) : r = eu_f s w l m := by
  subst hm hr
  funext j
  unfold eu_f
  by_cases q : j < n ∧ (s j = 0 ∨ s j = 2) ∧ w j ≤ l
  · rw [if_pos q, if_pos ⟨by omega, q.2⟩]
  · rw [if_neg q]
    by_cases e : j = n
    · subst e; rw [if_neg (fun q' => h q'.2)]
    · rw [if_neg (fun q' => q ⟨by omega, q'.2⟩)]
/-- one dies: the gifts that wait are back -/
def dy_f (s ow : Nat → Int) (o : Int) (n : Nat) : Nat → Int := fun j => if j < n ∧ ow j = o ∧ s j = 0 then 4 else s j
theorem dy_0 {o : Int} (h : n = 0) : s = dy_f s ow o n := by
  funext j; unfold dy_f; rw [if_neg (by omega)]
theorem dy_at {o : Int} : dy_f s ow o n n = s n := by unfold dy_f; rw [if_neg (by omega)]
theorem dy_s {o : Int} (h : ow n = o) (hw : s n = 0) (hz : z = 4) (hm : m = n + 1) (hr : r = dy_f s ow o n) : pz_up r n z = dy_f s ow o m := by
  subst hm hz hr
  funext j
  by_cases e : j = n
  · subst e; rw [pz_up_s]; unfold dy_f; rw [if_pos ⟨by omega, h, hw⟩]
  · rw [pz_up_n e]; unfold dy_f
    by_cases q : j < n ∧ ow j = o ∧ s j = 0
    · rw [if_pos q, if_pos ⟨by omega, q.2⟩]
    · rw [if_neg q, if_neg (fun q' => q ⟨by omega, q'.2⟩)]
theorem dy_n {o : Int} (h : ¬ (ow n = o ∧ s n = 0)) (hm : m = n + 1) (hr : r = dy_f s ow o n) : r = dy_f s ow o m := by
  subst hm hr
  funext j
  unfold dy_f
  by_cases q : j < n ∧ ow j = o ∧ s j = 0
  · rw [if_pos q, if_pos ⟨by omega, q.2⟩]
  · rw [if_neg q]
    by_cases e : j = n
    · subst e; rw [if_neg (fun q' => h q'.2)]
    · rw [if_neg (fun q' => q ⟨by omega, q'.2⟩)]
/-- weeks of one owner pass to another -/
def pr_f (r : Nat → Int) (a b : Int) (n : Nat) : Nat → Int := fun k => if k < n ∧ r k = a then b else r k
theorem pr_0 (h : n = 0) : r = pr_f r a b n := by
  funext j; unfold pr_f; rw [if_neg (by omega)]
theorem pr_at : pr_f r a b n n = r n := by unfold pr_f; rw [if_neg (by omega)]
theorem pr_s {q : Nat → Int} (h : r n = a) (hz : z = b) (hk : k = n) (hm : m = n + 1) (hr : q = pr_f r a b n) : pz_up q k z = pr_f r a b m := by
  subst hk hm hz hr
  funext j
  by_cases e : j = k
  · subst e; rw [pz_up_s]; unfold pr_f; rw [if_pos ⟨by omega, h⟩]
  · rw [pz_up_n e]; unfold pr_f
    by_cases q : j < k ∧ r j = a
    · rw [if_pos q, if_pos ⟨by omega, q.2⟩]
    · rw [if_neg q, if_neg (fun q' => q ⟨by omega, q'.2⟩)]
theorem pr_n {q : Nat → Int} (h : ¬ r n = a) (hm : m = n + 1) (hr : q = pr_f r a b n) : q = pr_f r a b m := by
  subst hm hr
  funext j
  unfold pr_f
  by_cases q : j < n ∧ r j = a
  · rw [if_pos q, if_pos ⟨by omega, q.2⟩]
  · rw [if_neg q]
    by_cases e : j = n
    · subst e; rw [if_neg (fun q' => h q'.2)]
    · rw [if_neg (fun q' => q ⟨by omega, q'.2⟩)]
/-- a row written in two pieces -/
theorem fz_add : ∀ {n : Nat}, fz (fz r o v m) (o + m) v n = fz r o v (m + n) := by
  intro n
  induction n with
  | zero => rfl
  | succ n ih => show pz_up (fz (fz r o v m) (o + m) v n) (o + m + n) v = pz_up (fz r o v (m + n)) (o + (m + n)) v; rw [ih, Nat.add_assoc]
theorem fz_blk {q : Nat → Int} (hk : k = n + 1) (h : q = fz r 0 v (53 * n)) : fz q (53 * n) v 53 = fz r 0 v (53 * k) := by
  subst hk h
  have := fz_add (r := r) (o := 0) (v := v) (m := 53 * n) (n := 53)
  rw [Nat.zero_add] at this
  rw [this, show 53 * n + 53 = 53 * (n + 1) by omega]
/-- what early adds: the greatest number told below n -/
def ea_f (r : Nat → Int) (o : Nat) : Nat → Int
  | 0 => 0
  | k + 1 => if r (o + k) = -1 then ea_f r o k else r (o + k)
def ea_n (z : Int) : Nat := ((if z < 52 then z else 52) + 1).toNat
theorem ea_s (h : r (o + k) = -1) : ea_f r o (k + 1) = ea_f r o k := if_pos h
theorem ea_t (h : ¬ r (o + k) = -1) : ea_f r o (k + 1) = r (o + k) := if_neg h
/-- what a week is worth -/
def wo_f (s z e : Nat → Int) (o : Nat) (a b c : Int) : Int := if 1 ≤ a ∧ a ≤ 4 ∧ 0 ≤ b ∧ b ≤ 52 then wa (wa (s (o + b.toNat)) (z (o + a.toNat))) (ea_f e o (ea_n c)) else 0
/-- season, size, early as they are told -/
def sn_m (a b : Int) : Nat := ((if b < 52 then b else 52) + 1 - mx0 a).toNat
def sn_f (r : Nat → Int) (o : Nat) (a b v : Int) : Nat → Int := fz r (o + (mx0 a).toNat) v (sn_m a b)
def sz_f (r : Nat → Int) (o : Nat) (a v : Int) : Nat → Int := if 1 ≤ a ∧ a ≤ 4 then pz_up r (o + a.toNat) v else r
def se_f (r : Nat → Int) (o : Nat) (a v : Int) : Nat → Int := if 0 ≤ a ∧ a ≤ 52 then pz_up r (o + a.toNat) v else r
/-- all points -/
def sp_f (r : Nat → Int) : Nat → Int
  | 0 => 0
  | n + 1 => wa (sp_f r n) (r n)
/-- who is first in line -/
def fi_f (li lu : Nat → Int) : Nat → Int
  | 0 => -1
  | n + 1 => if li n ≠ 0 ∧ (fi_f li lu n = -1 ∨ lu n < lu (fi_f li lu n).toNat) then (n : Int) else fi_f li lu n
theorem fi_y (hz : z = fi_f li lu n) (h : li n ≠ 0 ∧ (z = -1 ∨ lu n < lu z.toNat)) (hm : m = n + 1) (hy : y = (n : Int)) : y = fi_f li lu m := by
  subst hm hy hz; show _ = (if _ then _ else _); rw [if_pos h]
theorem fi_no (hz : z = fi_f li lu n) (h : ¬ (li n ≠ 0 ∧ (z = -1 ∨ lu n < lu z.toNat))) (hm : m = n + 1) : z = fi_f li lu m := by
  subst hm hz; show _ = (if _ then _ else _); rw [if_neg h]
/-- the best banked gift that one may have -/
def bb_f (s wo fl we tw si : Nat → Int) (P z : Int) : Nat → Int
  | 0 => -1
  | n + 1 => if s n = 2 ∧ wo n ≤ P ∧ mz_b z (tw (fl n).toNat) (si (fl n).toNat) (we n) ≠ 0 ∧ (bb_f s wo fl we tw si P z n = -1 ∨ wo (bb_f s wo fl we tw si P z n).toNat < wo n) then (n : Int) else bb_f s wo fl we tw si P z n
theorem bb_y {P b : Int} (hb : b = bb_f s wo fl we tw si P z n) (h : s n = 2 ∧ wo n ≤ P ∧ mz_b z (tw (fl n).toNat) (si (fl n).toNat) (we n) ≠ 0 ∧ (b = -1 ∨ wo b.toNat < wo n)) (hm : m = n + 1) (hy : y = (n : Int)) : y = bb_f s wo fl we tw si P z m := by
  subst hm hy hb; show _ = (if _ then _ else _); rw [if_pos h]
theorem bb_no {P b : Int} (hb : b = bb_f s wo fl we tw si P z n) (h : ¬ (s n = 2 ∧ wo n ≤ P ∧ mz_b z (tw (fl n).toNat) (si (fl n).toNat) (we n) ≠ 0 ∧ (b = -1 ∨ wo b.toNat < wo n))) (hm : m = n + 1) : b = bb_f s wo fl we tw si P z m := by
  subst hm hb; show _ = (if _ then _ else _); rw [if_neg h]
/-- the latest gift of a week of a flat in a year -/
def ga_f (fl we ye : Nat → Int) (f w y : Int) : Nat → Int
  | 0 => -1
  | n + 1 => if ye n = y ∧ fl n = f ∧ we n = w then (n : Int) else ga_f fl we ye f w y n
theorem ga_y {w : Int} (h : ye n = y ∧ fl n = f ∧ we n = w) (hm : m = n + 1) (hv : v = (n : Int)) : v = ga_f fl we ye f w y m := by
  subst hm hv; show _ = (if _ then _ else _); rw [if_pos h]
theorem ga_no {w : Int} (hz : z = ga_f fl we ye f w y n) (h : ¬ (ye n = y ∧ fl n = f ∧ we n = w)) (hm : m = n + 1) : z = ga_f fl we ye f w y m := by
  subst hm hz; show _ = (if _ then _ else _); rw [if_neg h]
/-- each owner's number of weeks is right -/
def OW (r c : Nat → Int) : Prop := ∀ o : Nat, o < 10 → c o = (cnt 318 r (o : Int) : Int)
theorem cnt_up {j : Nat} (hj : j < n) : (cnt n (pz_up r j z) v : Int) = cnt n r v - (if r j = v then 1 else 0) + (if z = v then 1 else 0) := by
  have h := fb_ct_upd (fun k => decide (r k = v)) (decide (z = v)) (i := j) (n := n) hj
  have e : (fun k => if k = j then decide (z = v) else decide (r k = v)) = (fun k => decide (pz_up r j z k = v)) := by
    funext k; unfold pz_up; split <;> rfl
  simp only [e, decide_eq_true_eq] at h
  show ((fb_ct (fun k => decide (pz_up r j z k = v)) n : Nat) : Int) = ((fb_ct (fun k => decide (r k = v)) n : Nat) : Int) - _ + _
  by_cases h1 : r j = v
  · by_cases h2 : z = v
    · simp only [h1, h2, if_true] at h ⊢; omega
    · simp only [h1, h2, if_true, if_false] at h ⊢; omega
  · by_cases h2 : z = v
    · simp only [h1, h2, if_true, if_false] at h ⊢; omega
    · simp only [h1, h2, if_false] at h ⊢; omega
theorem wa_in (h : -2147483648 ≤ a + b ∧ a + b ≤ 2147483647) : wa a b = a + b := by unfold wa; exact Int.bmod_eq_of_le (by omega) (by omega)
theorem ws_in (h : -2147483648 ≤ a - b ∧ a - b ≤ 2147483647) : ws a b = a - b := by unfold ws; exact Int.bmod_eq_of_le (by omega) (by omega)
theorem OW_pass (h : OW r c) (hk : k < 318) (hr : -1 ≤ r k) (hz : -1 ≤ z) : OW (pz_up r k z) (pa_w c (r k) z) := by
  intro o ho
  rw [cnt_up hk]
  have hc := h o ho
  have hl := cnt_le 318 r (o : Int)
  have hp : r k = (o : Int) → 1 ≤ cnt 318 r (o : Int) := fun e => by
    unfold cnt
    exact fb_ct_pos.mpr ⟨k, hk, decide_eq_true e⟩
  -- what is taken away
  have h1 : pa_m c (r k) o = c o - (if r k = (o : Int) then 1 else 0) := by
    unfold pa_m
    by_cases e1 : r k = -1
    · rw [if_pos e1, if_neg (by omega)]; omega
    · rw [if_neg e1]
      by_cases e2 : r k = (o : Int)
      · have := hp e2
        rw [if_pos e2, e2, show ((o : Int)).toNat = o by omega, pz_up_s, ws_in (by omega)]
      · rw [if_neg e2, pz_up_n (by omega)]; omega
  unfold pa_w pa_p
  by_cases e1 : z = -1
  · rw [if_pos e1, h1, if_neg (show ¬ z = (o : Int) by omega)]; omega
  · rw [if_neg e1]
    by_cases e2 : z = (o : Int)
    · rw [if_pos e2, e2, show ((o : Int)).toNat = o by omega, pz_up_s, h1]
      by_cases e3 : r k = (o : Int)
      · have := hp e3
        rw [if_pos e3, wa_in (by omega)]; omega
      · rw [if_neg e3, wa_in (by omega)]; omega
    · rw [if_neg e2, pz_up_n (by omega), h1]; omega
/-- whether a week of a flat is given in: its gift is out -/
def gi_o (ga st : Nat → Int) (i : Nat) : Prop := 0 ≤ ga i ∧ 0 ≤ st (ga i).toNat ∧ st (ga i).toNat ≤ 3
/-- a place, a living owner -/
def pl_c (fc f w : Int) : Prop := 0 ≤ f ∧ f < fc ∧ 0 ≤ w ∧ w ≤ 52
def al_c (oc : Int) (de : Nat → Int) (o : Int) : Prop := 0 ≤ o ∧ o < oc ∧ de o.toNat = 0
end EX2
theorem prc {r : Nat → Int} {a a' b b' : Int} {n : Nat} (ha : a = a') (hb : b = b') : pr_f r a b n = pr_f r a' b' n := by rw [ha, hb]
theorem pz_upc2 {r : Nat → Int} {i i' j j' : Nat} {y y' z z' : Int} (hi : i = i') (hy : y = y') (hj : j = j') (hz : z = z') : pz_up (pz_up r i y) j z = pz_up (pz_up r i' y') j' z' := by rw [hi, hy, hj, hz]
theorem cnt_fz0 {r : Nat → Int} {n : Nat} : cnt n (fz r 0 0 n) 0 = n := by
  unfold cnt
  refine fb_ct_all.mpr (fun k hk => decide_eq_true ?_)
  rw [fz_at, if_pos ⟨Nat.zero_le _, by omega⟩]
