/-! ===== sums that wrap, rows written in order ===== -/
def wa (a b : Int) : Int := (a + b).bmod 4294967296
def ws (a b : Int) : Int := (a - b).bmod 4294967296
theorem ty_wa {x y z : Int32} (h : z = x + y) : z.toInt = wa x.toInt y.toInt := by rw [h]; exact Int32.toInt_add x y
theorem ty_ws {x y z : Int32} (h : z = x - y) : z.toInt = ws x.toInt y.toInt := by rw [h]; exact Int32.toInt_sub x y
theorem pz_up_s {r : Nat → Int} {j : Nat} {z : Int} : pz_up r j z j = z := by unfold pz_up; rw [if_pos rfl]
theorem pz_up_n {r : Nat → Int} {i j : Nat} {z : Int} (h : i ≠ j) : pz_up r j z i = r i := by unfold pz_up; rw [if_neg h]
theorem pz_up_up {r : Nat → Int} {j : Nat} {y z : Int} : pz_up (pz_up r j y) j z = pz_up r j z := by
  funext i
  by_cases e : i = j
  · rw [e, pz_up_s, pz_up_s]
  · rw [pz_up_n e, pz_up_n e, pz_up_n e]
theorem pz_up_id {r : Nat → Int} {j : Nat} {z : Int} (h : r j = z) : pz_up r j z = r := by
  funext i
  by_cases e : i = j
  · rw [e, pz_up_s, h]
  · rw [pz_up_n e]
/-- v in the n places from o on -/
def fz (r : Nat → Int) (o : Nat) (v : Int) : Nat → (Nat → Int)
  | 0 => r
  | n + 1 => pz_up (fz r o v n) (o + n) v
theorem fz_s {r R : Nat → Int} {o n m j : Nat} {v z : Int} (h : R = fz r o v n) (hm : m = n + 1) (hj : j = o + n) (hz : z = v) : pz_up R j z = fz r o v m := by
  subst hm hj hz; rw [h]; rfl
theorem fz_0 {r : Nat → Int} {o n : Nat} {v : Int} (h : n = 0) : r = fz r o v n := by subst h; rfl
theorem fz_at {r : Nat → Int} {o : Nat} {v : Int} : ∀ {n i : Nat}, fz r o v n i = if o ≤ i ∧ i < o + n then v else r i := by
  intro n
  induction n with
  | zero => intro i; rw [if_neg (by omega)]; rfl
  | succ n ih =>
    intro i
    show pz_up (fz r o v n) (o + n) v i = _
    by_cases e : i = o + n
    · rw [e, pz_up_s, if_pos (by omega)]
    · rw [pz_up_n e, ih]
      by_cases q : o ≤ i ∧ i < o + n
      · rw [if_pos q, if_pos (by omega)]
      · rw [if_neg q, if_neg (by omega)]
/-! ===== wishes ===== -/
/-- whether a wish (a number, -1 none) is met: 1 or 0 -/
def mz_b (z t s w : Int) : Int := if 0 ≤ z ∧ (wz_t z.toNat = -1 ∨ wz_t z.toNat = t) ∧ wz_f z.toNat ≤ w ∧ w ≤ wz_o z.toNat ∧ wz_s z.toNat ≤ s then 1 else 0
theorem mz_01 (z t s w : Int) : mz_b z t s w = 0 ∨ mz_b z t s w = 1 := by unfold mz_b; split <;> omega
/-! ===== who owns how many weeks ===== -/
def pa_m (r : Nat → Int) (b : Int) : Nat → Int := if b = -1 then r else pz_up r b.toNat (ws (r b.toNat) 1)
def pa_p (r : Nat → Int) (n : Int) : Nat → Int := if n = -1 then r else pz_up r n.toNat (wa (r n.toNat) 1)
def pa_w (r : Nat → Int) (b n : Int) : Nat → Int := pa_p (pa_m r b) n
theorem pa_1 {r : Nat → Int} {b n : Int} (hb : b = -1) (hn : n = -1) : r = pa_w r b n := by unfold pa_w pa_p pa_m; rw [if_pos hn, if_pos hb]
theorem pa_2 {r : Nat → Int} {b n y : Int} (hb : b = -1) (hn : 0 ≤ n) (hy : y = wa (r n.toNat) 1) : pz_up r n.toNat y = pa_w r b n := by unfold pa_w pa_p pa_m; rw [if_neg (by omega), if_pos hb, hy]
theorem pa_3 {r : Nat → Int} {b n x : Int} (hb : 0 ≤ b) (hn : n = -1) (hx : x = ws (r b.toNat) 1) : pz_up r b.toNat x = pa_w r b n := by unfold pa_w pa_p pa_m; rw [if_pos hn, if_neg (by omega), hx]
theorem pa_4 {r : Nat → Int} {b n x y : Int} (hb : 0 ≤ b) (hn : 0 ≤ n) (hx : x = ws (r b.toNat) 1) (hy : y = wa (pz_up r b.toNat x n.toNat) 1) : pz_up (pz_up r b.toNat x) n.toNat y = pa_w r b n := by
  unfold pa_w pa_p pa_m; rw [if_neg (by omega), if_neg (by omega), hy, hx]
/-! ===== a whole row of the ghost written anew ===== -/
def gr (g : gh) (c : Nat) (R : Nat → Int) : gh := fun c' => if c' = c then R else g c'
theorem gr_s {g : gh} {c : Nat} {R : Nat → Int} : gr g c R c = R := by unfold gr; rw [if_pos rfl]
theorem gr_c {g : gh} {c c' j : Nat} {R : Nat → Int} (h : c' ≠ c) : gr g c R c' j = g c' j := by unfold gr; rw [if_neg h]
theorem ty_gr {dC : Nat → ClassId} {dI : Nat → Nat → Nat} {dA : Nat → ClassId} {Γ : ty_G} {g : gh} {sz c : Nat} {R : Nat → Int} {X : va_W} {H : Heap} (h : ty_ok (dC, dI) vwCl Γ (TP dA Γ g) sz X H) (hf : ∀ b j, dpt (Γ b) c j = true → R j = g c j) : ty_ok (dC, dI) vwCl Γ (TP dA Γ (gr g c R)) sz X H :=
  ⟨h.1, fun a ha => by
    obtain ⟨h1, x, h2, h3⟩ := h.2.1 a ha
    refine ⟨h1, x, h2, TP_cong (fun c' j hd => ?_) h3⟩
    by_cases e : c' = c
    · subst e; rw [gr_s]; exact hf a j hd
    · exact gr_c e, h.2.2⟩
theorem ty_gb {dC : Nat → ClassId} {dI : Nat → Nat → Nat} {dA : Nat → ClassId} {Γ : ty_G} {g : gh} {sz c k ii : Nat} {v : Int} {X : va_W} {H : Heap} (hc : ∀ t j, dpt t c j = (t.1 == k && t.2 == j / 53)) (h : ty_ok (dC, dI) vwCl Γ (TP dA Γ g) sz X H) (hf : ∀ b, Γ b ≠ (k, ii)) : ty_ok (dC, dI) vwCl Γ (TP dA Γ (gr g c (fz (g c) (53 * ii) v 53))) sz X H := by
  refine ty_gr h (fun b j hd => ?_)
  rw [hc, Bool.and_eq_true, beq_iff_eq, beq_iff_eq] at hd
  rw [fz_at, if_neg (fun q => hf b (Prod.ext hd.1 (by rw [hd.2]; show j / 53 = ii; omega)))]
theorem pz_upc {r : Nat → Int} {i j : Nat} {y z : Int} (hi : i = j) (hz : y = z) : pz_up r i y = pz_up r j z := by rw [hi, hz]
