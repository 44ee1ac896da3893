/-! ===== the reference's choice of rings: who gets whom so far ===== -/
/-- members below k have chosen (-1: none), from k on not yet; nobody is got twice; who is got, and has chosen, gets -/
def CH (g : gh) (n k : Nat) : Prop := (∀ i : Nat, i < k → -1 ≤ g 138 i ∧ g 138 i < (n : Int)) ∧ (∀ i : Nat, k ≤ i → i < n → g 138 i = -2) ∧ (∀ i j : Nat, i < k → j < k → g 138 i = g 138 j → 0 ≤ g 138 i → i = j) ∧ (∀ i : Nat, i < k → 0 ≤ g 138 i → g 140 (g 138 i).toNat = 1) ∧ (∀ j : Nat, j < n → g 140 j = 1 → (∃ i : Nat, i < k ∧ g 138 i = (j : Int)) ∧ (j < k → 0 ≤ g 138 j))
theorem CH_get {g u : gh} {n k J : Nat} (h : CH g n k) (hk : k < n) (hJ : J < n) (hJk : J ≠ k) (hj : g 140 J ≠ 1) (hc : k < J ∨ g 138 J ≠ -1) (h1 : u 138 k = (J : Int)) (h2 : ∀ i : Nat, i ≠ k → u 138 i = g 138 i) (h3 : u 140 J = 1) (h4 : ∀ i : Nat, i ≠ J → u 140 i = g 140 i) : CH u n (k + 1) := by
  obtain ⟨a, b, c, d, e⟩ := h
  refine ⟨fun i hi => ?_, fun i hi hn => ?_, fun i j hi hj' hij h0 => ?_, fun i hi h0 => ?_, fun j hjn hg => ⟨?_, fun hlt => ?_⟩⟩
  · by_cases e1 : i = k
    · subst e1; rw [h1]; omega
    · rw [h2 i e1]; exact a i (by omega)
  · rw [h2 i (by omega)]; exact b i (by omega) hn
  · have key : ∀ q : Nat, q < k → g 138 q = (J : Int) → False := fun q hq eq => by
      have := d q hq (by omega)
      rw [eq] at this
      exact hj (by simpa using this)
    by_cases e1 : i = k <;> by_cases e2 : j = k
    · rw [e1, e2]
    · subst e1; rw [h1, h2 j e2] at hij; exact (key j (by omega) hij.symm).elim
    · subst e2; rw [h1, h2 i e1] at hij; exact (key i (by omega) hij).elim
    · rw [h2 i e1, h2 j e2] at hij; rw [h2 i e1] at h0; exact c i j (by omega) (by omega) hij h0
  · by_cases e1 : i = k
    · subst e1; rw [h1, Int.toNat_natCast]; exact h3
    · rw [h2 i e1] at h0 ⊢
      by_cases e2 : (g 138 i).toNat = J
      · rw [e2]; exact h3
      · rw [h4 _ e2]; exact d i (by omega) h0
  · by_cases e1 : j = J
    · subst e1; exact ⟨k, by omega, h1⟩
    · rw [h4 j e1] at hg
      obtain ⟨⟨i, hi, hv⟩, -⟩ := e j hjn hg
      exact ⟨i, by omega, by rw [h2 i (by omega)]; exact hv⟩
  · by_cases e1 : j = k
    · subst e1; rw [h1]; omega
    · rw [h2 j e1]
      by_cases e2 : j = J
      · subst e2
        have := a j (by omega)
        omega
      · rw [h4 j e2] at hg
        exact (e j hjn hg).2 (by omega)
theorem CH_none {g u : gh} {n k : Nat} (h : CH g n k) (hk : k < n) (hj : g 140 k ≠ 1) (h1 : u 138 k = -1) (h2 : ∀ i : Nat, i ≠ k → u 138 i = g 138 i) (h4 : ∀ i : Nat, u 140 i = g 140 i) : CH u n (k + 1) := by
  obtain ⟨a, b, c, d, e⟩ := h
  refine ⟨fun i hi => ?_, fun i hi hn => ?_, fun i j hi hj' hij h0 => ?_, fun i hi h0 => ?_, fun j hjn hg => ⟨?_, fun hlt => ?_⟩⟩
  · by_cases e1 : i = k
    · subst e1; rw [h1]; omega
    · rw [h2 i e1]; exact a i (by omega)
  · rw [h2 i (by omega)]; exact b i (by omega) hn
  · by_cases e1 : i = k
    · subst e1; rw [h1] at h0; omega
    · by_cases e2 : j = k
      · subst e2; rw [hij, h1] at h0; omega
      · rw [h2 i e1, h2 j e2] at hij; rw [h2 i e1] at h0; exact c i j (by omega) (by omega) hij h0
  · by_cases e1 : i = k
    · subst e1; rw [h1] at h0; omega
    · rw [h2 i e1] at h0 ⊢; rw [h4]; exact d i (by omega) h0
  · rw [h4 j] at hg
    obtain ⟨⟨i, hi, hv⟩, -⟩ := e j hjn hg
    exact ⟨i, by omega, by rw [h2 i (by omega)]; exact hv⟩
  · rw [h4 j] at hg
    by_cases e1 : j = k
    · subst e1; exact absurd hg hj
    · rw [h2 j e1]; exact (e j hjn hg).2 (by omega)
theorem CH_0 {g : gh} {n : Nat} (h : ∀ i : Nat, i < n → g 138 i = -2 ∧ g 140 i = 0) : CH g n 0 :=
  ⟨fun i hi => absurd hi (by omega), fun i _ hn => (h i hn).1, fun i j hi => absurd hi (by omega), fun i hi => absurd hi (by omega), fun j hj hg => by rw [(h j hj).2] at hg; exact absurd hg (by decide)⟩
/-- the best so far: who gets is got -/
def BG (g : gh) (n : Nat) : Prop := 0 ≤ g 141 0 → ∀ k : Nat, k < n → 0 ≤ g 139 k → ∃ m : Nat, m < n ∧ g 139 m = (k : Int)
theorem BG_cg {g u : gh} {n : Nat} (h1 : u 141 0 = g 141 0) (h2 : ∀ i, u 139 i = g 139 i) (h : BG g n) : BG u n := by
  unfold BG at h ⊢
  rw [h1, show u 139 = g 139 from funext h2]; exact h
theorem BG_leaf {g u : gh} {n : Nat} (h : CH g n n) (h1 : ∀ i : Nat, i < n → u 139 i = g 138 i) : BG u n := by
  obtain ⟨a, b, c, d, e⟩ := h
  intro _ y hy h0
  rw [h1 y hy] at h0
  let f : Nat → Nat := fun i => if 0 ≤ g 138 i then (g 138 i).toNat else i
  have hf : ∀ i, i < n → f i < n := fun i hi => by
    have := a i hi
    show (if 0 ≤ g 138 i then (g 138 i).toNat else i) < n
    split <;> omega
  have im : ∀ i, i < n → 0 ≤ g 138 i → 0 ≤ g 138 (g 138 i).toNat := fun i hi h => by
    have := a i hi
    exact (e (g 138 i).toNat (by omega) (d i hi h)).2 (by omega)
  have inj : ∀ i j, i < j → j < n → f i ≠ f j := fun i j hij hj heq => by
    have heq : (if 0 ≤ g 138 i then (g 138 i).toNat else i) = (if 0 ≤ g 138 j then (g 138 j).toNat else j) := heq
    by_cases p1 : 0 ≤ g 138 i <;> by_cases p2 : 0 ≤ g 138 j
    · rw [if_pos p1, if_pos p2] at heq
      have := c i j (by omega) hj (by omega) p1
      omega
    · rw [if_pos p1, if_neg p2] at heq
      have := im i (by omega) p1
      rw [heq] at this
      exact p2 this
    · rw [if_neg p1, if_pos p2] at heq
      have := im j hj p2
      rw [← heq] at this
      exact p1 this
    · rw [if_neg p1, if_neg p2] at heq
      omega
  obtain ⟨i, hi, hv⟩ := fb_onto hf inj hy
  have hv : (if 0 ≤ g 138 i then (g 138 i).toNat else i) = y := hv
  by_cases p1 : 0 ≤ g 138 i
  · rw [if_pos p1] at hv
    exact ⟨i, hi, by rw [h1 i hi]; omega⟩
  · rw [if_neg p1] at hv
    subst hv
    exact absurd h0 p1
/-- a walk from one to the one it gets: none is met twice -/
def VS (f : Nat → Int) (W : Nat) (fr a n : Int) : Prop := ∃ vis : Nat → Bool, (∀ x, vis x = true → x < W) ∧ ((fb_ct vis 9 : Nat) : Int) + 1 = n ∧ (∀ x : Nat, vis x = true → ∃ y : Nat, y < W ∧ ((y : Int) = fr ∨ vis y = true) ∧ f y = (x : Int)) ∧ (0 ≤ a → ∃ y : Nat, y < W ∧ ((y : Int) = fr ∨ vis y = true) ∧ f y = a) ∧ (0 ≤ a → vis a.toNat = false)
theorem VS_le {f : Nat → Int} {W : Nat} {fr a n : Int} (h : VS f W fr a n) : 1 ≤ n ∧ n ≤ 10 := by
  obtain ⟨vis, -, h2, -⟩ := h
  have := fb_ct_le vis 9
  omega
theorem VS_0 {f : Nat → Int} {W : Nat} {fr a n : Int} (h0 : 0 ≤ fr) (hW : fr < (W : Int)) (ha : a = f fr.toNat) (hn : n = 1) : VS f W fr a n :=
  ⟨fun _ => false, fun x h => absurd h Bool.false_ne_true, (by subst hn; rfl), fun x h => absurd h Bool.false_ne_true, fun _ => ⟨fr.toNat, by omega, Or.inl (by omega), ha.symm⟩, fun _ => rfl⟩
theorem VS_step {f : Nat → Int} {W : Nat} {fr a n b n2 : Int} (h : VS f W fr a n) (hW : W ≤ 9) (inj : ∀ i j : Nat, i < W → j < W → f i = f j → 0 ≤ f i → i = j) (h0 : 0 ≤ a) (ha : a < (W : Int)) (hne : a ≠ fr) (hb : b = f a.toNat) (hn : n2 = n + 1) : VS f W fr b n2 := by
  obtain ⟨vis, h1, h2, h3, h4, h5⟩ := h
  have hv := h5 h0
  obtain ⟨y0, hy0, hy1, hy2⟩ := h4 h0
  refine ⟨fun k => if k = a.toNat then true else vis k, fun x hx => ?_, ?_, fun x hx => ?_, fun hb0 => ⟨a.toNat, by omega, Or.inr (by simp), hb.symm⟩, fun hb0 => ?_⟩
  · by_cases e : x = a.toNat
    · omega
    · simp only [e, if_false] at hx; exact h1 x hx
  · have := fb_ct_upd vis true (i := a.toNat) (n := 9) (by omega)
    rw [hv, if_neg (by decide), if_pos rfl] at this
    omega
  · by_cases e : x = a.toNat
    · refine ⟨y0, hy0, ?_, by rw [hy2]; omega⟩
      rcases hy1 with q | q
      · exact Or.inl q
      · exact Or.inr (by by_cases e2 : y0 = a.toNat <;> simp [e2, q])
    · simp only [e, if_false] at hx
      obtain ⟨y, q1, q2, q3⟩ := h3 x hx
      refine ⟨y, q1, ?_, q3⟩
      rcases q2 with q | q
      · exact Or.inl q
      · exact Or.inr (by by_cases e2 : y = a.toNat <;> simp [e2, q])
  · by_cases e : b.toNat = a.toNat
    · exfalso
      have eb : b = a := by omega
      have := inj y0 a.toNat hy0 (by omega) (by rw [hy2, ← hb, eb]) (by omega)
      subst this
      rcases hy1 with q | q
      · exact hne (by omega)
      · rw [hv] at q; cases q
    · simp only [e, if_false]
      refine Bool.eq_false_iff.mpr (fun hvb => ?_)
      obtain ⟨y, q1, q2, q3⟩ := h3 b.toNat hvb
      have := inj y a.toNat q1 (by omega) (by rw [q3, ← hb]; omega) (by rw [q3]; omega)
      subst this
      rcases q2 with q | q
      · exact hne (by omega)
      · rw [hv] at q; cases q
/-- a walk back, from one to the one that gets it -/
def VB (f : Nat → Int) (W : Nat) (k i n : Int) : Prop := ∃ vis : Nat → Bool, (∀ x, vis x = true → x < W) ∧ ((fb_ct vis 9 : Nat) : Int) = n ∧ vis i.toNat = false ∧ (∀ x : Nat, (x = i.toNat ∨ vis x = true) → (x : Int) ≠ k → ∃ z : Nat, vis z = true ∧ f x = (z : Int))
theorem VB_le {f : Nat → Int} {W : Nat} {k i n : Int} (h : VB f W k i n) : 0 ≤ n ∧ n ≤ 9 := by
  obtain ⟨vis, -, h2, -⟩ := h
  have := fb_ct_le vis 9
  omega
theorem VB_0 {f : Nat → Int} {W : Nat} {k i n : Int} (h0 : 0 ≤ k) (hi : i = k) (hn : n = 0) : VB f W k i n :=
  ⟨fun _ => false, fun x h => absurd h Bool.false_ne_true, (by subst hn; rfl), rfl, fun x hx hne => hx.elim (fun q => absurd (show (x : Int) = k by omega) hne) (fun q => absurd q Bool.false_ne_true)⟩
theorem VB_step {f : Nat → Int} {W : Nat} {k i n b n2 : Int} (h : VB f W k i n) (hW : W ≤ 9) (h0 : 0 ≤ i) (hi : i < (W : Int)) (hb0 : 0 ≤ b) (hf : f b.toNat = i) (hbk : b ≠ k) (hn : n2 = n + 1) : VB f W k b n2 := by
  obtain ⟨vis, h1, h2, h3, h4⟩ := h
  refine ⟨fun q => if q = i.toNat then true else vis q, fun x hx => ?_, ?_, ?_, fun x hx hne => ?_⟩
  · by_cases e : x = i.toNat
    · omega
    · simp only [e, if_false] at hx; exact h1 x hx
  · have := fb_ct_upd vis true (i := i.toNat) (n := 9) (by omega)
    rw [h3, if_neg (by decide), if_pos rfl] at this
    omega
  · refine Bool.eq_false_iff.mpr (fun hv => ?_)
    have hv2 : b.toNat = i.toNat ∨ vis b.toNat = true := by
      by_cases e : b.toNat = i.toNat
      · exact Or.inl e
      · simp only [e, if_false] at hv; exact Or.inr hv
    obtain ⟨z, q1, q2⟩ := h4 b.toNat hv2 (by omega)
    rw [hf] at q2
    rw [q2, Int.toNat_natCast, q1] at h3
    cases h3
  · rcases hx with q | q
    · exact ⟨i.toNat, by simp, by rw [q, hf]; omega⟩
    · have hx2 : x = i.toNat ∨ vis x = true := by
        by_cases e : x = i.toNat
        · exact Or.inl e
        · simp only [e, if_false] at q; exact Or.inr q
      obtain ⟨z, q1, q2⟩ := h4 x hx2 hne
      exact ⟨z, by by_cases e2 : z = i.toNat <;> simp [e2, q1], q2⟩
theorem CH_inj {g : gh} {n k : Nat} (h : CH g n k) : ∀ i j : Nat, i < n → j < n → g 138 i = g 138 j → 0 ≤ g 138 i → i = j := fun i j hi hj hij h0 => by
  have hk : ∀ q : Nat, q < n → 0 ≤ g 138 q → q < k := fun q hq hq0 => by
    refine Nat.not_le.mp (fun hle => ?_)
    have := h.2.1 q hle hq
    omega
  exact h.2.2.1 i j (hk i hi h0) (hk j hj (by omega)) hij h0
theorem CH_lt {g : gh} {n k : Nat} (h : CH g n k) (i : Nat) (hi : i < n) : g 138 i < (n : Int) := by
  by_cases e : i < k
  · exact (h.1 i e).2
  · have := h.2.1 i (by omega) hi
    omega
/-- the swap, done up to k -/
def RI (g : gh) (k : Int) : Prop := (∀ m : Nat, (m : Int) < k → 0 ≤ g 139 m → 0 ≤ g 134 (g 136 (g 139 m).toNat).toNat) ∧ (∀ j : Nat, g 132 j = 1 ∨ g 132 j = 3 → 0 ≤ g 134 j ∨ ∃ m : Nat, (m : Int) < g 137 0 ∧ 0 ≤ g 139 m ∧ (g 136 (g 139 m).toNat).toNat = j) ∧ cnt (g 126 0).toNat (g 132) 0 ≤ 9
theorem RI_0 {g : gh} {k : Int} (hk : k = 0) (h : IJ g) : RI g k := ⟨fun m hm => absurd hm (by omega), fun j hj => Or.inl (h.1 j hj), h.2⟩
theorem RI_end {g : gh} {k : Int} (hk : g 137 0 ≤ k) (h : RI g k) : IJ g := ⟨fun j hj => by
  rcases h.2.1 j hj with q | ⟨m, q1, q2, q3⟩
  · exact q
  · rw [← q3]; exact h.1 m (by omega) q2, h.2.2⟩
theorem RI_skip {g : gh} {k k2 : Int} (h0 : 0 ≤ k) (hk : k2 = k + 1) (hn : g 139 k.toNat < 0) (h : RI g k) : RI g k2 := ⟨fun m hm hg => by
  by_cases e : m = k.toNat
  · subst e; omega
  · exact h.1 m (by omega) hg, h.2⟩
theorem RI_step {g u : gh} {k k2 : Int} {w it : Nat} {z : Int} (h0 : 0 ≤ k) (hk : k2 = k + 1) (hkW : k < g 137 0) (hg : ∀ q : Nat, (q : Int) < g 137 0 → 0 ≤ g 139 q → ∃ m : Nat, (m : Int) < g 137 0 ∧ g 139 m = (q : Int)) (hb : 0 ≤ g 139 k.toNat) (hw : w = (g 136 k.toNat).toNat) (hit : it = (g 136 (g 139 k.toNat).toNat).toNat) (hz : 0 ≤ z) (h : RI g k)
    (u126 : u 126 0 = g 126 0) (u136 : ∀ j, u 136 j = g 136 j) (u137 : u 137 0 = g 137 0) (u139 : ∀ j, u 139 j = g 139 j) (u132 : ∀ j, u 132 j = gs g 132 w 1 132 j) (u134 : ∀ j, u 134 j = gs g 134 it z 134 j) : RI u k2 := by
  have ge : ∀ j : Nat, 0 ≤ g 134 j → 0 ≤ u 134 j := fun j hj => by
    rw [u134]
    by_cases e : j = it
    · subst e; rw [gs_self]; exact hz
    · rw [gs_j _ _ _ _ e]; exact hj
  refine ⟨fun m hm hg0 => ?_, fun j hj => ?_, ?_⟩
  · rw [u139 m] at hg0 ⊢
    rw [u136]
    by_cases e : m = k.toNat
    · subst e; rw [← hit, u134, gs_self]; exact hz
    · exact ge _ (h.1 m (by omega) hg0)
  · rw [u132] at hj
    by_cases e : j = w
    · subst e
      obtain ⟨m, q1, q2⟩ := hg k.toNat (by omega) hb
      refine Or.inr ⟨m, by rw [u137]; exact q1, by rw [u139, q2]; omega, ?_⟩
      rw [u139, u136, q2, Int.toNat_natCast, hw]
    · rw [gs_j _ _ _ _ e] at hj
      rcases h.2.1 j hj with q | ⟨m, q1, q2, q3⟩
      · exact Or.inl (ge j q)
      · exact Or.inr ⟨m, by rw [u137]; exact q1, by rw [u139]; exact q2, by rw [u139, u136]; exact q3⟩
  · rw [u126, show u 132 = gs g 132 w 1 132 from funext u132]
    exact Nat.le_trans (cnt_dn g (by decide)) h.2.2
theorem cnt_mono {m n : Nat} (h : m ≤ n) (f : Nat → Int) (v : Int) : cnt m f v ≤ cnt n f v := fb_ct_mono _ h
