/-! ===== typed heaps: what every cell that the law's run has made must be, by a table of types; no cell is followed by hand ===== -/
abbrev ty_N : Type := Nat × Nat
abbrev ty_G : Type := Nat → ty_N
abbrev ty_A (sz : Nat) : Nat → Prop := fun q => sz ≤ q
/-- an object of class ci with N fields, field k as F k says -/
def ty_O (ci N : Nat) (F : Nat → Value → Prop) (x : va_E) : Prop := ∃ fs : List Value, x = .inr (ci, fs) ∧ fs.length = N ∧ ∀ k, k < N → F k (vp_V fs k)
/-- an array of ints (or booleans, bytes), as P says -/
def ty_I (cA : ClassId) (n : Nat) (P : (Nat → Int32) → Prop) (x : va_E) : Prop := ∃ f : Nat → Int32, x = .inl (cA, n, .inl f) ∧ P f
def ty_J (cA : ClassId) (n : Nat) (x : va_E) : Prop := ∃ f : Nat → Int64, x = .inl (cA, n, .inr (.inl f))
/-- an array of references -/
def ty_R (cA : ClassId) (n : Nat) (P : (Nat → Option Nat) → Prop) (x : va_E) : Prop := ∃ f : Nat → Option Nat, x = .inl (cA, n, .inr (.inr (.inr (.inr f)))) ∧ P f
/-- cells that are not typed yet: what they hold, exactly -/
def ty_X (D : va_G) (cl : List vw_C) (Γ : ty_G) (sz : Nat) (X : va_W) (H : Heap) : Prop := (X.map (·.1)).Nodup ∧ ∀ x ∈ X, va_at D cl x H ∧ (Γ x.1).1 = 0 ∧ sz ≤ x.1
/-- the heap holds what the typing says, all of it from sz on, and the cells X -/
def ty_ok (D : va_G) (cl : List vw_C) (Γ : ty_G) (T : ty_N → va_E → Prop) (sz : Nat) (X : va_W) (H : Heap) : Prop := sz ≤ H.size ∧ (∀ a, (Γ a).1 ≠ 0 → sz ≤ a ∧ ∃ x, va_at D cl (a, x) H ∧ T (Γ a) x) ∧ ty_X D cl Γ sz X H
theorem ty_one {D : va_G} {cl : List vw_C} {q : Nat × va_E} {H : Heap} (h : va_at D cl q H) : va_P D cl [q] H := by
  intro k r hk
  cases k with
  | zero => rw [List.getElem?_cons_zero] at hk; cases hk; exact h
  | succ k => simp at hk
theorem ty_X.kept {D : va_G} {cl : List vw_C} {Γ : ty_G} {sz : Nat} {X : va_W} {H H1 : Heap} (h : ty_X D cl Γ sz X H) (oq : ∀ q, (Γ q).1 = 0 → q < H.size → H1[q]? = H[q]?) : ty_X D cl Γ sz X H1 :=
  ⟨h.1, fun x hx => ⟨(h.2 x hx).1.kept (oq _ (h.2 x hx).2.1 (h.2 x hx).1.lt), (h.2 x hx).2⟩⟩
theorem ty_set {D : va_G} {cl : List vw_C} {Γ : ty_G} {T T' : ty_N → va_E → Prop} {sz a : Nat} {X : va_W} {x : va_E} {H H1 : Heap} (h : ty_ok D cl Γ T sz X H) (ha : (Γ a).1 ≠ 0) (hz : H1.size = H.size) (oq : ∀ q, q ≠ a → H1[q]? = H[q]?) (hx : va_at D cl (a, x) H1) (hO : ∀ b y, b ≠ a → (Γ b).1 ≠ 0 → T (Γ b) y → T' (Γ b) y) (hT : T' (Γ a) x) : ty_ok D cl Γ T' sz X H1 := by
  refine ⟨by rw [hz]; exact h.1, fun b hb => ?_, h.2.2.kept (fun q hq _ => oq q (fun e => ha (by rw [← e]; exact hq)))⟩
  obtain ⟨h1, y, h2, h3⟩ := h.2.1 b hb
  by_cases e : b = a
  · subst e; exact ⟨h1, x, hx, hT⟩
  · exact ⟨h1, y, h2.kept (oq b e), hO b y e hb h3⟩
theorem ty_lt {D : va_G} {cl : List vw_C} {Γ : ty_G} {T : ty_N → va_E → Prop} {sz a : Nat} {X : va_W} {H : Heap} (h : ty_ok D cl Γ T sz X H) (ha : (Γ a).1 ≠ 0) : a < H.size := by
  obtain ⟨-, y, h2, -⟩ := h.2.1 a ha
  exact h2.lt
theorem ty_new0 {D : va_G} {cl : List vw_C} {Γ : ty_G} {T : ty_N → va_E → Prop} {sz : Nat} {X : va_W} {H : Heap} (h : ty_ok D cl Γ T sz X H) : (Γ H.size).1 = 0 := by
  by_cases e : (Γ H.size).1 = 0
  · exact e
  · exact absurd (ty_lt h e) (Nat.lt_irrefl _)
/-- a heap that has only grown -/
theorem ty_grow {D : va_G} {cl : List vw_C} {Γ : ty_G} {T : ty_N → va_E → Prop} {sz : Nat} {X : va_W} {H H1 : Heap} (h : ty_ok D cl Γ T sz X H) (hz : H.size ≤ H1.size) (oq : ∀ q, q < H.size → H1[q]? = H[q]?) : ty_ok D cl Γ T sz X H1 := by
  refine ⟨Nat.le_trans h.1 hz, fun b hb => ?_, h.2.2.kept (fun q _ hq => oq q hq)⟩
  have hl := ty_lt h hb
  obtain ⟨h1, y, h2, h3⟩ := h.2.1 b hb
  exact ⟨h1, y, h2.kept (oq b hl), h3⟩
/-- a new cell -/
theorem ty_push {D : va_G} {cl : List vw_C} {Γ : ty_G} {T : ty_N → va_E → Prop} {sz q : Nat} {X : va_W} {x : va_E} {H H1 : Heap} (h : ty_ok D cl Γ T sz X H) (hq : q = H.size) (hz : H.size ≤ H1.size) (oq : ∀ q, q < H.size → H1[q]? = H[q]?) (hx : va_at D cl (q, x) H1) : ty_ok D cl Γ T sz ((q, x) :: X) H1 := by
  subst hq
  have h1 := ty_grow h hz oq
  refine ⟨h1.1, h1.2.1, ?_, fun y hy => ?_⟩
  · rw [List.map_cons, List.nodup_cons]
    refine ⟨fun hm => ?_, h.2.2.1⟩
    obtain ⟨y, hy, e⟩ := List.mem_map.mp hm
    have := (h.2.2.2 y hy).1.lt
    rw [e] at this
    exact Nat.lt_irrefl _ this
  · rcases List.mem_cons.mp hy with e | hy
    · subst e; exact ⟨hx, ty_new0 h, h.1⟩
    · exact h1.2.2.2 y hy
/-- the newest cell that was not typed comes under the typing -/
theorem ty_adopt {D : va_G} {cl : List vw_C} {Γ : ty_G} {T T' : ty_N → va_E → Prop} {sz a : Nat} {X : va_W} {t : ty_N} {x : va_E} {H : Heap} (h : ty_ok D cl Γ T sz ((a, x) :: X) H) (hO : ∀ b y, b ≠ a → (Γ b).1 ≠ 0 → T (Γ b) y → T' (Γ b) y) (hT : T' t x) : ty_ok D cl (va_up Γ a t) T' sz X H := by
  obtain ⟨hx, h0, hs⟩ := h.2.2.2 (a, x) List.mem_cons_self
  have hn := h.2.2.1
  rw [List.map_cons, List.nodup_cons] at hn
  refine ⟨h.1, fun b hb => ?_, hn.2, fun y hy => ?_⟩
  · by_cases e : b = a
    · subst e
      rw [va_up_self]
      exact ⟨hs, x, hx, hT⟩
    · rw [va_up_ne _ _ e] at hb ⊢
      obtain ⟨h1, y, h2, h3⟩ := h.2.1 b hb
      exact ⟨h1, y, h2, hO b y e hb h3⟩
  · have hne : y.1 ≠ a := fun e => hn.1 (by rw [← e]; exact List.mem_map.mpr ⟨y, hy, rfl⟩)
    rw [va_up_ne _ _ hne]
    exact h.2.2.2 y (List.mem_cons_of_mem _ hy)
/-- the newest cell that was not typed is written -/
theorem ty_rset {D : va_G} {cl : List vw_C} {Γ : ty_G} {T : ty_N → va_E → Prop} {sz a : Nat} {X : va_W} {x x' : va_E} {H H1 : Heap} (h : ty_ok D cl Γ T sz ((a, x) :: X) H) (hz : H1.size = H.size) (oq : ∀ q, q ≠ a → H1[q]? = H[q]?) (hx : va_at D cl (a, x') H1) : ty_ok D cl Γ T sz ((a, x') :: X) H1 := by
  obtain ⟨-, h0, hs⟩ := h.2.2.2 (a, x) List.mem_cons_self
  have hn := h.2.2.1
  rw [List.map_cons, List.nodup_cons] at hn
  refine ⟨by rw [hz]; exact h.1, fun b hb => ?_, by rw [List.map_cons, List.nodup_cons]; exact hn, fun y hy => ?_⟩
  · obtain ⟨h1, y, h2, h3⟩ := h.2.1 b hb
    exact ⟨h1, y, h2.kept (oq b (fun e => hb (by rw [e]; exact h0))), h3⟩
  · rcases List.mem_cons.mp hy with e | hy
    · subst e; exact ⟨hx, h0, hs⟩
    · have hne : y.1 ≠ a := fun e => hn.1 (by rw [← e]; exact List.mem_map.mpr ⟨y, hy, rfl⟩)
      obtain ⟨q1, q2⟩ := h.2.2.2 y (List.mem_cons_of_mem _ hy)
      exact ⟨q1.kept (oq _ hne), q2⟩
theorem ty_put_S {sz : Nat} {H0 H H1 : Heap} {locs : List Loc} {a k : Nat} (h : va_S (ty_A sz) H0 H locs) (z : H1.size = H.size) (oq : ∀ q : Nat, q ≠ a → H1[q]? = H[q]?) (ha : sz ≤ a) : va_S (ty_A sz) H0 H1 (locs ++ [⟨a, k⟩]) := h.put z oq ha
section TYR
variable {p : Program} {l : Launch} {e : Env} {R : Room} {s : State} {m : MethodId} {args : Array Value} {below : List Frame} {meth : Method} {c : Code} {H : Heap} {locs : List Loc} {cells slots : Nat} {Q : State → Prop}
variable {cc : ByteArray} {pc : Nat} {ls : Array Slot} {rest : List Value} {D : va_G} {cl : List vw_C} {a : Nat} {tys : List (ClassId × FieldType)} {H0 : Heap} {sz : Nat} {X : va_W} {Γ : ty_G} {T T' : ty_N → va_E → Prop}
theorem ty_get (hexec : p.tables.exec = Jvm.exec) (hb : c.code = cc) {own ref C : String} {Tb : u_T} {N ci index : Nat} {Ts : List Cond} (hts : ∀ w ∈ Ts, w.before args s = true) (hin : ∀ w ∈ u_ws C Tb N, w ∈ Ts) (hown : s.vm.findClass own = some m.cls) (hK : va_K D cl tys s) (hG : ty_ok D cl Γ T sz X H) (h0 : (Γ a).1 ≠ 0) {F : Nat → Value → Prop} (hT : ∀ x, T (Γ a) x → ty_O ci N F x) (hc : cl[ci]? = some (C, Tb, N)) (k : Nat) (hk : k < N) (hlink : (Cond.fieldLink own index ref (Tb k).2.1 (Tb k).2.2.1).before args s = true) (hsame : ∀ x, s.fieldFound? (Tb k).1 (Tb k).2.1 (Tb k).2.2.1 = some x → s.fieldFound? ref (Tb k).2.1 (Tb k).2.2.1 = some x) (hdg : decode cc pc = .ok (.getfield index, 3))
    (kk : ∀ v, F k v → W p l e R s m args below meth c H locs cells slots Q (F0 m (pc + 3) ls (v :: rest))) : W p l e R s m args below meth c H locs cells slots Q (F0 m pc ls (.ref a :: rest)) := by
  obtain ⟨-, x, h2, h3⟩ := hG.2.1 a h0
  obtain ⟨fs, rfl, hl, hF⟩ := hT x h3
  exact va_get hexec hb hts hin hown hK (ty_one h2) 0 rfl hc k hk hlink hsame (v := vp_V fs k) (by simp [vp_V, hl, hk]) hdg (kk _ (hF k hk))
theorem ty_getN (hexec : p.tables.exec = Jvm.exec) (hb : c.code = cc) {own ref C host : String} {Tb : u_T} {N ci index : Nat} {Ts : List Cond} (hts : ∀ w ∈ Ts, w.before args s = true) (hin : ∀ w ∈ u_ws C Tb N, w ∈ Ts) (hown : s.vm.findClass own = some m.cls) (hK : va_K D cl tys s) (hG : ty_ok D cl Γ T sz X H) (h0 : (Γ a).1 ≠ 0) {F : Nat → Value → Prop} (hT : ∀ x, T (Γ a) x → ty_O ci N F x) (hc : cl[ci]? = some (C, Tb, N)) (k : Nat) (hk : k < N) (hlink : (Cond.fieldLinkNest own index ref (Tb k).2.1 (Tb k).2.2.1 host).before args s = true) (hsame : ∀ x, s.fieldFound? (Tb k).1 (Tb k).2.1 (Tb k).2.2.1 = some x → s.fieldFound? ref (Tb k).2.1 (Tb k).2.2.1 = some x) (hdg : decode cc pc = .ok (.getfield index, 3))
    (kk : ∀ v, F k v → W p l e R s m args below meth c H locs cells slots Q (F0 m (pc + 3) ls (v :: rest))) : W p l e R s m args below meth c H locs cells slots Q (F0 m pc ls (.ref a :: rest)) := by
  obtain ⟨-, x, h2, h3⟩ := hG.2.1 a h0
  obtain ⟨fs, rfl, hl, hF⟩ := hT x h3
  exact va_getN hexec hb hts hin hown hK (ty_one h2) 0 rfl hc k hk hlink hsame (v := vp_V fs k) (by simp [vp_V, hl, hk]) hdg (kk _ (hF k hk))
/-- what a store into field k leaves of an object -/
theorem ty_Oset {ci N k : Nat} {F F' : Nat → Value → Prop} {fs : List Value} {v : Value} (hl : fs.length = N) (hk : k < N) (hF : ∀ j, j < N → F j (vp_V fs j)) (hK : ∀ j, j < N → j ≠ k → ∀ v, F j v → F' j v) (hv : F' k v) : ty_O ci N F' (.inr (ci, fs.set k v)) := by
  refine ⟨_, rfl, by simp [hl], fun j hj => ?_⟩
  by_cases e : j = k
  · subst e
    simp only [vp_V, List.getD_eq_getElem?_getD]
    rw [List.getElem?_set_self (by omega)]
    exact hv
  · simp only [vp_V, List.getD_eq_getElem?_getD]
    rw [List.getElem?_set_ne (Ne.symm e)]
    have := hF j hj
    simp only [vp_V, List.getD_eq_getElem?_getD] at this
    exact hK j hj e _ this
theorem ty_putG (hexec : p.tables.exec = Jvm.exec) (hb : c.code = cc) {own ref C : String} {Tb : u_T} {N ci index : Nat} {Ts : List Cond} (hts : ∀ w ∈ Ts, w.before args s = true) (hin : ∀ w ∈ u_ws C Tb N, w ∈ Ts) (ty0 : Nat → FieldType) (hty : ∀ k, k < N → parseFieldDescriptor (Tb k).2.2.1 = some (ty0 k)) (hnm : ∀ a, a < N → ∀ b, b < N → a ≠ b → (Tb a).2.1 ≠ (Tb b).2.1) (hown : s.vm.findClass own = some m.cls) (hK : va_K D cl tys s) (hG : ty_ok D cl Γ T sz X H) (hS0 : va_S (ty_A sz) H0 H locs) (h0 : (Γ a).1 ≠ 0) {F F' : Nat → Value → Prop} (hT : ∀ x, T (Γ a) x → ty_O ci N F x) (hT' : ∀ x, ty_O ci N F' x → T' (Γ a) x) (hc : cl[ci]? = some (C, Tb, N)) (k : Nat) (hk : k < N) (hlink : (Cond.fieldLink own index ref (Tb k).2.1 (Tb k).2.2.1).before args s = true) (hsame : ∀ x, s.fieldFound? (Tb k).1 (Tb k).2.1 (Tb k).2.2.1 = some x → s.fieldFound? ref (Tb k).2.1 (Tb k).2.2.1 = some x) (hfin : (Tb k).2.2.2 = false) {ty : FieldType} {v : Value} (hd : parseFieldDescriptor (Tb k).2.2.1 = some ty) (hn : narrow ty v = v) (hfit : fits ty v = true)
    (hFF : ∀ j, j < N → j ≠ k → ∀ v, F j v → F' j v) (hv : F' k v) (hO : ∀ b y, b ≠ a → (Γ b).1 ≠ 0 → T (Γ b) y → T' (Γ b) y)
    (hdg : decode cc pc = .ok (.putfield index, 3)) (kk : ∀ (H1 : Heap) (locs1 : List Loc), ty_ok D cl Γ T' sz X H1 → va_S (ty_A sz) H0 H1 locs1 → W p l e R s m args below meth c H1 locs1 cells slots Q (F0 m (pc + 3) ls rest)) : W p l e R s m args below meth c H locs cells slots Q (F0 m pc ls (v :: .ref a :: rest)) := by
  obtain ⟨hsa, x, h2, h3⟩ := hG.2.1 a h0
  obtain ⟨fs, rfl, hl, hF⟩ := hT x h3
  have hap := va_apart (own := own) hts hin ty0 hty hnm hK hc
  obtain ⟨r, h1, cell, q1, q2, q3, q4⟩ := h2
  have hr : r = (C, Tb, N) := Option.some.inj (h1.symm.trans hc)
  subst hr
  obtain ⟨hS, hfc, kC, hkC, hkind⟩ := hK.1 ci _ hc
  obtain ⟨cf, kf, fi, f, hi, hsl⟩ := hS k hk
  have hlay := hts _ (hin _ (u_in_lay hk))
  unfold u_lay at hlay
  rw [if_neg (by rw [hfin]; decide)] at hlay
  have hst := (u_facts hfc hkC (u_lays hts hin hk) hi).1
  have h6 := u_store hfc hkC hkind hlay hi hd hn hfit
  refine W.putK hexec hb (f := f) ⟨hown, hlink, ⟨_, _, _, hsame _ hi⟩, hst⟩ (by rw [q2]; exact h6) q1 q3 (by rw [hsl]; exact k2_hasslot (q4 k hk)) rfl rfl hdg fun H' e1 e2 e3 => ?_
  rw [hsl] at e1 ⊢
  refine kk H' _ (ty_set hG h0 e2 e3 (x := .inr (ci, fs.set k v)) ⟨_, hc, t_OB.to (V := updV (vp_V fs) k v) ⟨_, e1, q2, q3, t_set q4 hap hk v⟩ (fun j _ => vp_updV_set (by omega) v j)⟩ hO ?_) (ty_put_S hS0 e2 e3 hsa)
  exact hT' _ (ty_Oset hl hk hF hFF hv)
theorem ty_putGN (hexec : p.tables.exec = Jvm.exec) (hb : c.code = cc) {own ref C host : String} {Tb : u_T} {N ci index : Nat} {Ts : List Cond} (hts : ∀ w ∈ Ts, w.before args s = true) (hin : ∀ w ∈ u_ws C Tb N, w ∈ Ts) (ty0 : Nat → FieldType) (hty : ∀ k, k < N → parseFieldDescriptor (Tb k).2.2.1 = some (ty0 k)) (hnm : ∀ a, a < N → ∀ b, b < N → a ≠ b → (Tb a).2.1 ≠ (Tb b).2.1) (hown : s.vm.findClass own = some m.cls) (hK : va_K D cl tys s) (hG : ty_ok D cl Γ T sz X H) (hS0 : va_S (ty_A sz) H0 H locs) (h0 : (Γ a).1 ≠ 0) {F F' : Nat → Value → Prop} (hT : ∀ x, T (Γ a) x → ty_O ci N F x) (hT' : ∀ x, ty_O ci N F' x → T' (Γ a) x) (hc : cl[ci]? = some (C, Tb, N)) (k : Nat) (hk : k < N) (hlink : (Cond.fieldLinkNest own index ref (Tb k).2.1 (Tb k).2.2.1 host).before args s = true) (hsame : ∀ x, s.fieldFound? (Tb k).1 (Tb k).2.1 (Tb k).2.2.1 = some x → s.fieldFound? ref (Tb k).2.1 (Tb k).2.2.1 = some x) (hfin : (Tb k).2.2.2 = false) {ty : FieldType} {v : Value} (hd : parseFieldDescriptor (Tb k).2.2.1 = some ty) (hn : narrow ty v = v) (hfit : fits ty v = true)
    (hFF : ∀ j, j < N → j ≠ k → ∀ v, F j v → F' j v) (hv : F' k v) (hO : ∀ b y, b ≠ a → (Γ b).1 ≠ 0 → T (Γ b) y → T' (Γ b) y)
    (hdg : decode cc pc = .ok (.putfield index, 3)) (kk : ∀ (H1 : Heap) (locs1 : List Loc), ty_ok D cl Γ T' sz X H1 → va_S (ty_A sz) H0 H1 locs1 → W p l e R s m args below meth c H1 locs1 cells slots Q (F0 m (pc + 3) ls rest)) : W p l e R s m args below meth c H locs cells slots Q (F0 m pc ls (v :: .ref a :: rest)) := by
  obtain ⟨hsa, x, h2, h3⟩ := hG.2.1 a h0
  obtain ⟨fs, rfl, hl, hF⟩ := hT x h3
  have hap := va_apart (own := own) hts hin ty0 hty hnm hK hc
  obtain ⟨r, h1, cell, q1, q2, q3, q4⟩ := h2
  have hr : r = (C, Tb, N) := Option.some.inj (h1.symm.trans hc)
  subst hr
  obtain ⟨hS, hfc, kC, hkC, hkind⟩ := hK.1 ci _ hc
  obtain ⟨cf, kf, fi, f, hi, hsl⟩ := hS k hk
  have hlay := hts _ (hin _ (u_in_lay hk))
  unfold u_lay at hlay
  rw [if_neg (by rw [hfin]; decide)] at hlay
  have hst := (u_facts hfc hkC (u_lays hts hin hk) hi).1
  have h6 := u_store hfc hkC hkind hlay hi hd hn hfit
  refine va_WputK hexec hb (f := f) hown hlink (hsame _ hi) hst (by rw [q2]; exact h6) q1 q3 (by rw [hsl]; exact k2_hasslot (q4 k hk)) rfl rfl hdg fun H' e1 e2 e3 => ?_
  rw [hsl] at e1 ⊢
  refine kk H' _ (ty_set hG h0 e2 e3 (x := .inr (ci, fs.set k v)) ⟨_, hc, t_OB.to (V := updV (vp_V fs) k v) ⟨_, e1, q2, q3, t_set q4 hap hk v⟩ (fun j _ => vp_updV_set (by omega) v j)⟩ hO ?_) (ty_put_S hS0 e2 e3 hsa)
  exact hT' _ (ty_Oset hl hk hF hFF hv)
end TYR
