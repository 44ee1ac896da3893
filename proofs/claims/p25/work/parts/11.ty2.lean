section TYA
variable {p : Program} {l : Launch} {e : Env} {R : Room} {s : State} {m : MethodId} {args : Array Value} {below : List Frame} {meth : Method} {c : Code} {H : Heap} {locs : List Loc} {cells slots : Nat} {Q : State → Prop}
variable {cc : ByteArray} {pc : Nat} {ls : Array Slot} {rest : List Value} {D : va_G} {cl : List vw_C} {a : Nat} {tys : List (ClassId × FieldType)} {H0 : Heap} {sz : Nat} {X : va_W} {Γ : ty_G} {T T' : ty_N → va_E → Prop} {cA : ClassId} {n : Nat}
theorem ty_ix {i : Int32} {n : Nat} (h : 0 ≤ i.toInt ∧ i.toInt < n) : vp_in i n := vp_in_iff.mpr h
theorem ty_ixn {i : Int32} (h : 0 ≤ i.toInt) : (i.toNatClampNeg : Int) = i.toInt := by
  show ((i.toInt.toNat : Nat) : Int) = i.toInt
  omega
theorem ty_iald (hexec : p.tables.exec = Jvm.exec) (hb : c.code = cc) (hK : va_K D cl tys s) (hG : ty_ok D cl Γ T sz X H) (h0 : (Γ a).1 ≠ 0) {P : (Nat → Int32) → Prop} (hT : ∀ x, T (Γ a) x → ty_I cA n P x) (t0 : Nat) (ht : tys[t0]? = some (cA, .int)) {i : Int32} (hin : 0 ≤ i.toInt ∧ i.toInt < n) (hdg : decode cc pc = .ok (.iaload, 1))
    (kk : ∀ (j : Nat) (f : Nat → Int32), (j : Int) = i.toInt → j < n → P f → W p l e R s m args below meth c H locs cells slots Q (F0 m (pc + 1) ls (.int (f j) :: rest))) : W p l e R s m args below meth c H locs cells slots Q (F0 m pc ls (.int i :: .ref a :: rest)) := by
  obtain ⟨-, x, h2, h3⟩ := hG.2.1 a h0
  obtain ⟨f, rfl, hF⟩ := hT x h3
  have hj : i.toNatClampNeg < n := by have := ty_ixn hin.1; omega
  exact va_iald hexec hb hK (ty_one h2) 0 t0 rfl ht (ty_ix hin) hdg (kk _ f (ty_ixn hin.1) hj hF)
theorem ty_zald (hexec : p.tables.exec = Jvm.exec) (hb : c.code = cc) (hK : va_K D cl tys s) (hG : ty_ok D cl Γ T sz X H) (h0 : (Γ a).1 ≠ 0) {P : (Nat → Int32) → Prop} (hT : ∀ x, T (Γ a) x → ty_I cA n P x) (t0 : Nat) (ht : tys[t0]? = some (cA, .boolean)) {i : Int32} (hin : 0 ≤ i.toInt ∧ i.toInt < n) (hdg : decode cc pc = .ok (.baload, 1))
    (kk : ∀ (j : Nat) (f : Nat → Int32), (j : Int) = i.toInt → j < n → P f → W p l e R s m args below meth c H locs cells slots Q (F0 m (pc + 1) ls (.int (f j) :: rest))) : W p l e R s m args below meth c H locs cells slots Q (F0 m pc ls (.int i :: .ref a :: rest)) := by
  obtain ⟨-, x, h2, h3⟩ := hG.2.1 a h0
  obtain ⟨f, rfl, hF⟩ := hT x h3
  have hj : i.toNatClampNeg < n := by have := ty_ixn hin.1; omega
  exact va_zald hexec hb hK (ty_one h2) 0 t0 rfl ht (ty_ix hin) hdg (kk _ f (ty_ixn hin.1) hj hF)
theorem ty_bald (hexec : p.tables.exec = Jvm.exec) (hb : c.code = cc) (hK : va_K D cl tys s) (hG : ty_ok D cl Γ T sz X H) (h0 : (Γ a).1 ≠ 0) {P : (Nat → Int32) → Prop} (hT : ∀ x, T (Γ a) x → ty_I cA n P x) (t0 : Nat) (ht : tys[t0]? = some (cA, .byte)) {i : Int32} (hin : 0 ≤ i.toInt ∧ i.toInt < n) (hdg : decode cc pc = .ok (.baload, 1))
    (kk : ∀ (j : Nat) (f : Nat → Int32), (j : Int) = i.toInt → j < n → P f → W p l e R s m args below meth c H locs cells slots Q (F0 m (pc + 1) ls (.int (f j) :: rest))) : W p l e R s m args below meth c H locs cells slots Q (F0 m pc ls (.int i :: .ref a :: rest)) := by
  obtain ⟨-, x, h2, h3⟩ := hG.2.1 a h0
  obtain ⟨f, rfl, hF⟩ := hT x h3
  have hj : i.toNatClampNeg < n := by have := ty_ixn hin.1; omega
  exact va_bald hexec hb hK (ty_one h2) 0 t0 rfl ht (ty_ix hin) hdg (kk _ f (ty_ixn hin.1) hj hF)
theorem ty_aald (hexec : p.tables.exec = Jvm.exec) (hb : c.code = cc) (hK : va_K D cl tys s) (hG : ty_ok D cl Γ T sz X H) (h0 : (Γ a).1 ≠ 0) {C : String} {P : (Nat → Option Nat) → Prop} (hT : ∀ x, T (Γ a) x → ty_R cA n P x) (t0 : Nat) (ht : tys[t0]? = some (cA, .object C)) {i : Int32} (hin : 0 ≤ i.toInt ∧ i.toInt < n) (hdg : decode cc pc = .ok (.aaload, 1))
    (kk : ∀ (j : Nat) (f : Nat → Option Nat), (j : Int) = i.toInt → j < n → P f → W p l e R s m args below meth c H locs cells slots Q (F0 m (pc + 1) ls (va_rf (f j) :: rest))) : W p l e R s m args below meth c H locs cells slots Q (F0 m pc ls (.int i :: .ref a :: rest)) := by
  obtain ⟨-, x, h2, h3⟩ := hG.2.1 a h0
  obtain ⟨f, rfl, hF⟩ := hT x h3
  have hj : i.toNatClampNeg < n := by have := ty_ixn hin.1; omega
  exact va_aldq hexec hb hK (ty_one h2) 0 t0 rfl ht (ty_ix hin) hdg (kk _ f (ty_ixn hin.1) hj hF)
theorem ty_iast (hexec : p.tables.exec = Jvm.exec) (hb : c.code = cc) (hK : va_K D cl tys s) (hG : ty_ok D cl Γ T sz X H) (hS0 : va_S (ty_A sz) H0 H locs) (h0 : (Γ a).1 ≠ 0) {P P' : (Nat → Int32) → Prop} (hT : ∀ x, T (Γ a) x → ty_I cA n P x) (hT' : ∀ x, ty_I cA n P' x → T' (Γ a) x) (t0 : Nat) (ht : tys[t0]? = some (cA, .int)) {i x : Int32} (hin : 0 ≤ i.toInt ∧ i.toInt < n) (hP : ∀ (j : Nat) (f : Nat → Int32), (j : Int) = i.toInt → j < n → P f → P' (upd f j x)) (hO : ∀ b y, b ≠ a → (Γ b).1 ≠ 0 → T (Γ b) y → T' (Γ b) y) (hdg : decode cc pc = .ok (.iastore, 1))
    (kk : ∀ (H1 : Heap) (locs1 : List Loc), ty_ok D cl Γ T' sz X H1 → va_S (ty_A sz) H0 H1 locs1 → W p l e R s m args below meth c H1 locs1 cells slots Q (F0 m (pc + 1) ls rest)) : W p l e R s m args below meth c H locs cells slots Q (F0 m pc ls (.int x :: .int i :: .ref a :: rest)) := by
  obtain ⟨hsa, y, h2, h3⟩ := hG.2.1 a h0
  obtain ⟨f, rfl, hF⟩ := hT y h3
  have hi := ty_ixn hin.1
  refine W.iast hexec hb h2 ((hK.2 t0 _ ht).1 n (fun j => .int (f j))) (fun q => by cases q) (by show ¬ (i < 0 ∨ (arrV _ _ _).slots.size ≤ _); rw [arrV_size]; exact ty_ix hin) rfl rfl hdg fun H1 e z oq => ?_
  refine kk H1 _ (ty_set hG h0 z oq (x := .inl (cA, n, .inl (upd f i.toNatClampNeg x))) ?_ hO (hT' _ ⟨_, rfl, hP _ f hi (by omega) hF⟩)) (ty_put_S hS0 z oq hsa)
  show H1[a]? = some (vp_cell _ _)
  rw [e, vp_cell_i, vp_cell_i, arrV_store]
  congr 2
  funext q
  by_cases hq : q = i.toNatClampNeg
  · subst hq
    first
    | (simp [updV, upd]; done)
    | (simp [updV, upd, vp_nar]; done)
    | (simp [updV, upd, vp_nar]; rfl)
  · simp [updV, upd, hq]
theorem ty_zast (hexec : p.tables.exec = Jvm.exec) (hb : c.code = cc) (hK : va_K D cl tys s) (hG : ty_ok D cl Γ T sz X H) (hS0 : va_S (ty_A sz) H0 H locs) (h0 : (Γ a).1 ≠ 0) {P P' : (Nat → Int32) → Prop} (hT : ∀ x, T (Γ a) x → ty_I cA n P x) (hT' : ∀ x, ty_I cA n P' x → T' (Γ a) x) (t0 : Nat) (ht : tys[t0]? = some (cA, .boolean)) {i x : Int32} (hin : 0 ≤ i.toInt ∧ i.toInt < n) (hP : ∀ (j : Nat) (f : Nat → Int32), (j : Int) = i.toInt → j < n → P f → P' (upd f j (vp_nar .boolean x))) (hO : ∀ b y, b ≠ a → (Γ b).1 ≠ 0 → T (Γ b) y → T' (Γ b) y) (hdg : decode cc pc = .ok (.bastore, 1))
    (kk : ∀ (H1 : Heap) (locs1 : List Loc), ty_ok D cl Γ T' sz X H1 → va_S (ty_A sz) H0 H1 locs1 → W p l e R s m args below meth c H1 locs1 cells slots Q (F0 m (pc + 1) ls rest)) : W p l e R s m args below meth c H locs cells slots Q (F0 m pc ls (.int x :: .int i :: .ref a :: rest)) := by
  obtain ⟨hsa, y, h2, h3⟩ := hG.2.1 a h0
  obtain ⟨f, rfl, hF⟩ := hT y h3
  have hi := ty_ixn hin.1
  refine W.zast hexec hb h2 ((hK.2 t0 _ ht).1 n (fun j => .int (f j))) (fun q => by cases q) (by show ¬ (i < 0 ∨ (arrV _ _ _).slots.size ≤ _); rw [arrV_size]; exact ty_ix hin) rfl rfl hdg fun H1 e z oq => ?_
  refine kk H1 _ (ty_set hG h0 z oq (x := .inl (cA, n, .inl (upd f i.toNatClampNeg (vp_nar .boolean x)))) ?_ hO (hT' _ ⟨_, rfl, hP _ f hi (by omega) hF⟩)) (ty_put_S hS0 z oq hsa)
  show H1[a]? = some (vp_cell _ _)
  rw [e, vp_cell_i, vp_cell_i, arrV_store]
  congr 2
  funext q
  by_cases hq : q = i.toNatClampNeg
  · subst hq
    first
    | (simp [updV, upd]; done)
    | (simp [updV, upd, vp_nar]; done)
    | (simp [updV, upd, vp_nar]; rfl)
  · simp [updV, upd, hq]
theorem ty_bast (hexec : p.tables.exec = Jvm.exec) (hb : c.code = cc) (hK : va_K D cl tys s) (hG : ty_ok D cl Γ T sz X H) (hS0 : va_S (ty_A sz) H0 H locs) (h0 : (Γ a).1 ≠ 0) {P P' : (Nat → Int32) → Prop} (hT : ∀ x, T (Γ a) x → ty_I cA n P x) (hT' : ∀ x, ty_I cA n P' x → T' (Γ a) x) (t0 : Nat) (ht : tys[t0]? = some (cA, .byte)) {i x : Int32} (hin : 0 ≤ i.toInt ∧ i.toInt < n) (hP : ∀ (j : Nat) (f : Nat → Int32), (j : Int) = i.toInt → j < n → P f → P' (upd f j (vp_nar .byte x))) (hO : ∀ b y, b ≠ a → (Γ b).1 ≠ 0 → T (Γ b) y → T' (Γ b) y) (hdg : decode cc pc = .ok (.bastore, 1))
    (kk : ∀ (H1 : Heap) (locs1 : List Loc), ty_ok D cl Γ T' sz X H1 → va_S (ty_A sz) H0 H1 locs1 → W p l e R s m args below meth c H1 locs1 cells slots Q (F0 m (pc + 1) ls rest)) : W p l e R s m args below meth c H locs cells slots Q (F0 m pc ls (.int x :: .int i :: .ref a :: rest)) := by
  obtain ⟨hsa, y, h2, h3⟩ := hG.2.1 a h0
  obtain ⟨f, rfl, hF⟩ := hT y h3
  have hi := ty_ixn hin.1
  refine W.bast hexec hb h2 ((hK.2 t0 _ ht).1 n (fun j => .int (f j))) (fun q => by cases q) (by show ¬ (i < 0 ∨ (arrV _ _ _).slots.size ≤ _); rw [arrV_size]; exact ty_ix hin) rfl rfl hdg fun H1 e z oq => ?_
  refine kk H1 _ (ty_set hG h0 z oq (x := .inl (cA, n, .inl (upd f i.toNatClampNeg (vp_nar .byte x)))) ?_ hO (hT' _ ⟨_, rfl, hP _ f hi (by omega) hF⟩)) (ty_put_S hS0 z oq hsa)
  show H1[a]? = some (vp_cell _ _)
  rw [e, vp_cell_i, vp_cell_i, arrV_store]
  congr 2
  funext q
  by_cases hq : q = i.toNatClampNeg
  · subst hq
    first
    | (simp [updV, upd]; done)
    | (simp [updV, upd, vp_nar]; done)
    | (simp [updV, upd, vp_nar]; rfl)
  · simp [updV, upd, hq]
/-- null into an array of references -/
theorem ty_aastN (hexec : p.tables.exec = Jvm.exec) (hb : c.code = cc) (hK : va_K D cl tys s) (hG : ty_ok D cl Γ T sz X H) (hS0 : va_S (ty_A sz) H0 H locs) (h0 : (Γ a).1 ≠ 0) {C : String} {P P' : (Nat → Option Nat) → Prop} (hT : ∀ x, T (Γ a) x → ty_R cA n P x) (hT' : ∀ x, ty_R cA n P' x → T' (Γ a) x) (t0 : Nat) (ht : tys[t0]? = some (cA, .object C)) {i : Int32} (hin : 0 ≤ i.toInt ∧ i.toInt < n) (hP : ∀ (j : Nat) (f : Nat → Option Nat), (j : Int) = i.toInt → j < n → P f → P' (va_up f j none)) (hO : ∀ b y, b ≠ a → (Γ b).1 ≠ 0 → T (Γ b) y → T' (Γ b) y) (hdg : decode cc pc = .ok (.aastore, 1))
    (kk : ∀ (H1 : Heap) (locs1 : List Loc), ty_ok D cl Γ T' sz X H1 → va_S (ty_A sz) H0 H1 locs1 → W p l e R s m args below meth c H1 locs1 cells slots Q (F0 m (pc + 1) ls rest)) : W p l e R s m args below meth c H locs cells slots Q (F0 m pc ls (.null :: .int i :: .ref a :: rest)) := by
  obtain ⟨hsa, y, h2, h3⟩ := hG.2.1 a h0
  obtain ⟨f, rfl, hF⟩ := hT y h3
  have hi := ty_ixn hin.1
  refine va_WaastN (C := C) hexec hb h2 ((hK.2 t0 _ ht).1 n (fun j => va_rf (f j))) (fun h => by cases h) (by show ¬ (i < 0 ∨ (arrV _ _ _).slots.size ≤ _); rw [arrV_size]; exact ty_ix hin) rfl rfl hdg fun H1 e z oq => ?_
  refine kk H1 _ (ty_set hG h0 z oq (x := .inl (cA, n, .inr (.inr (.inr (.inr (va_up f i.toNatClampNeg none)))))) ?_ hO (hT' _ ⟨_, rfl, hP _ f hi (by omega) hF⟩)) (ty_put_S hS0 z oq hsa)
  show H1[a]? = some (vp_cell _ _)
  rw [e, vp_cell_q, vp_cell_q, arrV_store]
  congr 2
  funext q
  by_cases hq : q = i.toNatClampNeg
  · subst hq; simp [updV, va_up, va_rf]
  · simp [updV, va_up, hq]
/-- an object of class number ci into an array of references of that class -/
theorem ty_aastS (hexec : p.tables.exec = Jvm.exec) (hb : c.code = cc) (hK : va_K D cl tys s) (hG : ty_ok D cl Γ T sz X H) (hS0 : va_S (ty_A sz) H0 H locs) (h0 : (Γ a).1 ≠ 0) {r : vw_C} {ci v : Nat} {vs : List Value} {P P' : (Nat → Option Nat) → Prop} (hT : ∀ x, T (Γ a) x → ty_R cA n P x) (hT' : ∀ x, ty_R cA n P' x → T' (Γ a) x) (t0 : Nat) (ht : tys[t0]? = some (cA, .object r.1)) (hvA : va_at D cl (v, .inr (ci, vs)) H) (hc : cl[ci]? = some r) {i : Int32} (hin : 0 ≤ i.toInt ∧ i.toInt < n) (hP : ∀ (j : Nat) (f : Nat → Option Nat), (j : Int) = i.toInt → j < n → P f → P' (va_up f j (some v))) (hO : ∀ b y, b ≠ a → (Γ b).1 ≠ 0 → T (Γ b) y → T' (Γ b) y) (hdg : decode cc pc = .ok (.aastore, 1))
    (kk : ∀ (H1 : Heap) (locs1 : List Loc), ty_ok D cl Γ T' sz X H1 → va_S (ty_A sz) H0 H1 locs1 → (∀ q, q ≠ a → H1[q]? = H[q]?) → W p l e R s m args below meth c H1 locs1 cells slots Q (F0 m (pc + 1) ls rest)) : W p l e R s m args below meth c H locs cells slots Q (F0 m pc ls (.ref v :: .int i :: .ref a :: rest)) := by
  obtain ⟨hsa, y, h2, h3⟩ := hG.2.1 a h0
  obtain ⟨f, rfl, hF⟩ := hT y h3
  have hi := ty_ixn hin.1
  have hlt : i.toNatClampNeg < n := by omega
  have hn0 : ¬ i < 0 := fun q => ty_ix hin (Or.inl q)
  obtain ⟨r', hr', cellV, g1, g2, g3, -⟩ := hvA
  have hcls := (hK.1 ci r hc).2
  obtain ⟨kA, comp, k1, k2, k3, -⟩ := (hK.2 t0 _ ht).2
  have hcomp : comp = D.1 ci := Option.some.inj (k3.symm.trans hcls.1)
  subst hcomp
  obtain ⟨kC, hkC, -⟩ := hcls.2
  refine W.aast hexec hb h2 (fun q h => by cases h) (fun h => by cases h) k1 k2 rfl hkC ⟨hn0, by show _ < (arrV _ _ _).slots.size; rw [arrV_size]; exact hlt⟩ g1 (fun q h => by rw [g3] at h; cases h) (by rw [g2]; exact hkC) (by rw [g2]; exact va_assign hcls) rfl rfl hdg fun H1 e z oq => ?_
  refine kk H1 _ (ty_set hG h0 z oq (x := .inl (cA, n, .inr (.inr (.inr (.inr (va_up f i.toNatClampNeg (some v))))))) ?_ hO (hT' _ ⟨_, rfl, hP _ f hi (by omega) hF⟩)) (ty_put_S hS0 z oq hsa) oq
  show H1[a]? = some (vp_cell _ _)
  rw [e, vp_cell_q, vp_cell_q, arrV_store]
  congr 2
  funext q
  by_cases hq : q = i.toNatClampNeg
  · subst hq; simp [updV, va_up, va_rf]
  · simp [updV, va_up, hq]
theorem ty_alen (hexec : p.tables.exec = Jvm.exec) (hb : c.code = cc) (hK : va_K D cl tys s) (hG : ty_ok D cl Γ T sz X H) (h0 : (Γ a).1 ≠ 0) {P : (Nat → Int32) → Prop} (hT : ∀ x, T (Γ a) x → ty_I cA n P x) (t0 : Nat) {ty : FieldType} (ht : tys[t0]? = some (cA, ty)) (hn : n < 2147483648) (hdg : decode cc pc = .ok (.arraylength, 1))
    (kk : ∀ v : Int32, v.toInt = n → W p l e R s m args below meth c H locs cells slots Q (F0 m (pc + 1) ls (.int v :: rest))) : W p l e R s m args below meth c H locs cells slots Q (F0 m pc ls (.ref a :: rest)) := by
  obtain ⟨-, x, h2, h3⟩ := hG.2.1 a h0
  obtain ⟨f, rfl, hF⟩ := hT x h3
  exact va_alen hexec hb hK (ty_one h2) 0 t0 rfl ht rfl hdg (kk _ (nI_toInt (n := n) hn))
end TYA
