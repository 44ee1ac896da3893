theorem lw_ix {i x x2 : Int32} {k L : Nat} (h : x.toInt = (k : Int)) (h2 : x2 = i + x) (h0 : 0 ≤ i.toInt ∧ i.toInt ≤ 3072) (hL : i.toInt + 6 ≤ (L : Int)) (hN : L ≤ 3072) (hk : k ≤ 5) : x2.toInt = i.toInt + (k : Int) ∧ (0 ≤ x2.toInt ∧ x2.toInt < (L : Int)) := by
  have h3 := ty_add h2 (by omega) (by omega)
  omega
theorem lw_xs {xs : Nat → Int32} {i x2 : Int32} {k : Nat} (h : x2.toInt = i.toInt + (k : Int)) (h0 : 0 ≤ i.toInt) : xs x2.toNatClampNeg = xs (i.toInt.toNat + k) := by
  have := ty_ixn (i := x2) (by omega)
  rw [show x2.toNatClampNeg = i.toInt.toNat + k by omega]
theorem or2 {A B A2 B2 : Prop} (h1 : A → B) (h2 : A2 → B2) (h : A ∨ A2) : (A ∧ B) ∨ (A2 ∧ B2) := h.elim (fun q => Or.inl ⟨q, h1 q⟩) (fun q => Or.inr ⟨q, h2 q⟩)
theorem al_s4 {d x1 x2 x3 : Cond} (h : d ∈ AL) (h1 : x1 ∈ AL) (h2 : x2 ∈ AL) (h3 : x3 ∈ AL) : GoodIn AL ([x1, x2, x3] ++ (d :: AL)) := fun w hw => (fun q => al_A q w List.mem_cons_self) ((List.mem_append.mp hw).elim (fun k => by simp only [List.mem_cons, List.not_mem_nil, or_false] at k; rcases k with e | e | e <;> (rw [e]; assumption)) (fun k => (List.mem_cons.mp k).elim (fun e => e ▸ h) id))
/-- a fact put away, so that arithmetic leaves it alone -/
def HD (P : Prop) : Prop := P
theorem HD.mk {P : Prop} (h : P) : HD P := h
theorem HD.v {P : Prop} (h : HD P) : P := h
theorem Bd_in {Γ : ty_G} {L : List ty_N} {g : gh} (h : tyIn Γ L) (hL : (L.all (fun q => !([2, 3, 4, 13, 14, 15].contains q.1))) = true) : Bd Γ g := fun b => by
  have hb : ∀ k, k ∈ [2, 3, 4, 13, 14, 15] → (Γ b).1 ≠ k := fun k hk e => by
    have h0 : (Γ b).1 ≠ 0 := fun q => by rw [← e, q] at hk; exact absurd hk (by decide)
    have h1 := List.all_eq_true.mp hL _ (h b h0)
    rw [e] at h1
    simp only [List.mem_cons, List.not_mem_nil, or_false] at hk
    rcases hk with rfl | rfl | rfl | rfl | rfl | rfl <;> exact absurd h1 (by decide)
  refine ⟨fun q => ?_, fun q => absurd q (hb 3 (by decide)), fun q => absurd q (hb 4 (by decide))⟩
  rcases q with q | q | q | q
  · exact absurd q (hb 2 (by decide))
  · exact absurd q (hb 13 (by decide))
  · exact absurd q (hb 14 (by decide))
  · exact absurd q (hb 15 (by decide))
theorem Bd_e {Γ : ty_G} {g u : gh} (h : Bd Γ g) (h1 : u 33 = g 33) (h2 : u 34 = g 34) (h3 : u 35 = g 35) : Bd Γ u := h.mono (Int.le_of_eq (by rw [h1])) (Int.le_of_eq (by rw [h2])) (Int.le_of_eq (by rw [h3]))
theorem IJ_e {g u : gh} (h : IJ g) (h1 : u 126 = g 126) (h2 : u 132 = g 132) (h3 : u 134 = g 134) : IJ u := IJ_cg (congrFun h1 0) (fun j => congrFun h2 j) (fun j => congrFun h3 j) h
theorem RL_1 {g : gh} (h : RLA g) : g 1 0 = g 33 0 ∧ 0 ≤ g 1 0 ∧ g 1 0 ≤ 6 := by have h := h.1; unfold RC at h; omega
theorem RL_2 {g : gh} (h : RLA g) : g 2 0 = g 34 0 ∧ 0 ≤ g 2 0 ∧ g 2 0 ≤ 10 := by have h := h.1; unfold RC at h; omega
theorem RL_3 {g : gh} (h : RLA g) : g 3 0 = g 35 0 ∧ 0 ≤ g 3 0 ∧ g 3 0 ≤ 200 := by have h := h.1; unfold RC at h; omega
theorem RL_5 {g : gh} (h : RLA g) : 0 ≤ g 5 0 ∧ g 5 0 ≤ 52 := by have h := h.1; unfold RC at h; omega
theorem RL_6 {g : gh} (h : RLA g) : 0 ≤ g 6 0 ∧ g 6 0 ≤ 300 := by have h := h.1; unfold RC at h; omega
theorem RL_4 {g : gh} {i : Int} (h : RLA g) (h1 : g 4 0 ≤ i) (h2 : i ≤ 3072) : 0 ≤ g 4 0 ∧ g 4 0 ≤ 100000 := by have h := h.1; unfold RC at h; omega
theorem RL_N {g : gh} (h : RLA g) : g 6 0 = ((g 6 0).toNat : Int) := (Int.toNat_of_nonneg (RL_6 h).1).symm
theorem RL_ow {g : gh} (h : RLA g) : OW (g 43) (g 53) := h.2.2.1.2.2.2.2.2.2.2
theorem RL_64 {g : gh} (h : RLA g) : ∀ i : Nat, i < (g 3 0).toNat → 0 ≤ g 64 i ∧ g 64 i ≤ 29997 := fun i hi => by
  obtain ⟨-, -, -, -, -, -, -, a, b, -⟩ := h.2.2.2.1.2.2.2.2.2.2.2.2 i hi
  exact ⟨a, b⟩
theorem RL_86 {g : gh} (h : RLA g) : g 86 0 = 0 := h.2.2.2.2.2.2.2.1
theorem RL_cn {g : gh} (h : RLA g) (hj : IJ g) : cnt (g 3 0).toNat (g 65) 0 ≤ 9 := by
  have h3 : g 126 0 = g 3 0 := h.1.2.2.1
  have h65 : g 65 = g 132 := h.2.2.2.1.2.2.2.2.2.1
  rw [← h3, h65]; exact hj.2
theorem RM_101 {g u : gh} (h : RLA g) (e : u 101 = g 101) : 0 ≤ u 101 0 ∧ u 101 0 ≤ 6 := by rw [e]; have h := h.1; unfold RC at h; omega
theorem RM_104 {g u : gh} (h : RLA g) (e : u 104 = g 104) : 0 ≤ u 104 0 ∧ u 104 0 ≤ 10 := by rw [e]; have h := h.1; unfold RC at h; omega
theorem RM_126 {g u : gh} (h : RLA g) (e : u 126 = g 126) : 0 ≤ u 126 0 ∧ u 126 0 ≤ 200 := by rw [e]; have h := h.1; unfold RC at h; omega
theorem RM_112 {g u : gh} (h : RLA g) (e : u 112 = g 112) : 0 ≤ u 112 0 ∧ u 112 0 ≤ 52 := by rw [e]; have h := h.1; unfold RC at h; omega
theorem RM_114 {g u : gh} (h : RLA g) (e : u 114 = g 114) : 0 ≤ u 114 0 ∧ u 114 0 ≤ 300 := by rw [e]; have h := h.1; unfold RC at h; omega
theorem RM_122 {g u : gh} (h : RLA g) (e : u 122 = g 122) : 0 ≤ u 122 0 ∧ u 122 0 ≤ 30 := by rw [e]; have h := h.1; unfold RC at h; omega
theorem RM_111 {g u : gh} {i : Int} (h : RLA g) (h1 : g 4 0 ≤ i) (h2 : i ≤ 3072) (e : u 111 = g 111) : 0 ≤ u 111 0 ∧ u 111 0 ≤ 100000 := by rw [e]; have h := h.1; unfold RC at h; omega
theorem RM_N {g u : gh} (h : RLA g) (e : u 114 = g 114) : u 114 0 = ((g 6 0).toNat : Int) := by rw [e, show g 114 0 = g 6 0 from h.1.2.2.2.2.2.1]; exact RL_N h
theorem RM_T {g u : gh} (h : RLA g) (e : u 113 = g 113) : pz_t u = g 19 := by
  show (fun j => u 113 j % 256) = g 19
  rw [e]; exact h.2.2.2.2.2.2.2.2
theorem RM_131 {g u : gh} (h : RLA g) (e1 : u 126 = g 126) (e2 : u 131 = g 131) : ∀ i : Nat, i < (u 126 0).toNat → 0 ≤ u 131 i ∧ u 131 i ≤ 29997 := by
  have h3 : g 126 0 = g 3 0 := h.1.2.2.1
  have h64 : g 64 = g 131 := h.2.2.2.1.2.2.2.2.1
  rw [e1, e2, h3, ← h64]; exact RL_64 h
theorem RL_100 {g u : gh} (h : RLA g) (e : ∀ c, c ∉ ([100] : List Nat) → u c = g c) : RLA u := by
  have k : ∀ l : List Nat, (l.all (fun c => c != 100)) = true → ∀ c, c ∈ l → u c = g c := fun l hl c hc => e c (fun q => by
    have h1 := List.all_eq_true.mp hl c hc
    simp only [List.mem_cons, List.not_mem_nil, or_false] at q
    rw [q] at h1; exact absurd h1 (by decide))
  exact ⟨RC_cg h.1 (k _ (by decide)), RO_cg h.2.1 (k _ (by decide)), RF_cg h.2.2.1 (k _ (by decide)), RG_cg h.2.2.2.1 (k _ (by decide)), RT_cg h.2.2.2.2.1 (k _ (by decide)), RW_cg h.2.2.2.2.2.1 (k _ (by decide)), RR_cg h.2.2.2.2.2.2.1 (k _ (by decide)), RS_cg h.2.2.2.2.2.2.2 (k _ (by decide))⟩
/-- the loop's goal, n steps left -/
def LJ (p : Program) (l : Launch) (e : Env) (s : State) (m : MethodId) (below : List Frame) (meth : Method) (c : Code) (b : Nat) (dC : Nat → ClassId) (dI : Nat → Nat → Nat) (dA : Nat → ClassId) (sz : Nat) (X : va_W) (q1 q13 q29 : Nat) (n : Nat) : Prop := ∀ (i : Int32) (Γ : ty_G) (g : gh) (kc ks : Nat) (H : Heap) (locs : List Loc) (ls : Array Slot), (3073 - i.toInt : Int) < n → 0 ≤ i.toInt ∧ i.toInt ≤ 3072 → g 4 0 ≤ i.toInt → RLA g → IJ g → Bd Γ g → Un Γ → ty Γ q1 1 → ty Γ q13 30 → ty Γ q29 25 → kc ≤ 300 + i.toInt.toNat → ks ≤ 30000 + 28 * i.toInt.toNat → ty_ok (dC, dI) vwCl Γ (TP dA Γ g) sz X H → va_S (ty_A sz) s.heap H locs → lv_has ls 7 [(4, .int i), (3, .ref q29), (2, .ref q13), (1, .ref q1), (0, .ref b)] → W p l e room_1 s m #[Value.ref b] below meth c H locs kc ks (lw_Z below #[Value.ref b] s) (F0 m 23 ls [])
