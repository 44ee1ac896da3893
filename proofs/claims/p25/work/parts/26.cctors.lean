set_option maxHeartbeats 4000000 in
set_option maxRecDepth 100000 in
/-- java/util/Arrays.fill:  -/
theorem k_fill_16 (l : Launch) (dC : Nat → ClassId) (dI : Nat → Nat → Nat) (dA : Nat → ClassId) (sz : Nat) (X : va_W) (Γ : ty_G) (hU : Un Γ) (g : gh) (h0 ii : Nat) (t_h0 : Γ h0 = (16, ii)) (p1 : Int32) : Met l yJ7_fill_53178 (.code yJ7_fill_53178 cJ7_fill_53178 4 (Option.none : Option Jvm.ClassFile.FieldType) :: AL) ({ frames := 0, cells := 0, slots := 0, locals := 0 }) (PCx dC dI dA sz X Γ g [.ref h0, .int p1]) (va_Qv (fun (u : gh) => (∀ c j : Nat, c ≠ 80 → u c j = g c j) ∧ (u 80 = fz (g 80) (64 * ii) p1.toInt 53)) (okb dC dI dA sz X Γ) (ty_A sz)) 0 0 (ty_A sz) := by
  refine Met.ofW (cc := cJ7_fill_53178) (maxL := 4) (ret := (Option.none : Option Jvm.ClassFile.FieldType)) (by decide) rfl ?_
  intro p e s m args below meth c s₁ B hml hv
  obtain ⟨rfl, hG, hE⟩ := hv
  have hx := B.exec
  have hb := B.bytes
  have hr := B.returns
  have hts := atoms_spec B.pre
  have hA : ∀ w ∈ AL, w.before _ s = true := fun w h => hts w (List.mem_cons_of_mem _ h)
  have hown : s.vm.findClass RJ7 = some m.cls := findClass_of_methodNamed B.named
  have hlocks := B.notSynchronized
  have hS : va_S (ty_A sz) s.heap s.heap [] := va_S.rf
  have hl := lv_entry ([.ref h0, .int p1]) (n := 4) (Nat.le_of_ble_eq_true rfl)
  rw [lg_entry_eq]
  generalize (lg_sl ([.ref h0, .int p1]) ++ List.replicate (4 - (lg_sl ([.ref h0, .int p1])).length) Slot.unset).toArray = ls at hl ⊢
  have hl : lv_has ls 4 [(0, .ref h0), (1, .int p1)] := hl
  refine ty_iconst hx hb (0) dJ7_fill_53178_0 (by decide) (fun x1 h2 => ?_)
  refine lv_istore_n (lv' := [(2, .int x1), (0, .ref h0), (1, .int p1)]) hx hb dJ7_fill_53178_1 rfl hl (by decide) rfl (fun ls hl => ?_)
  refine lv_aload_n hx hb dJ7_fill_53178_2 rfl (lv_at hl 1 rfl) ?_
  refine alen_16 hx hb hE hG t_h0 dJ7_fill_53178_3 (fun x3 h4 => ?_)
  refine lv_istore_n (lv' := [(3, .int x3), (2, .int x1), (0, .ref h0), (1, .int p1)]) hx hb dJ7_fill_53178_4 rfl hl (by decide) rfl (fun ls hl => ?_)
  have L_5 : ∀ (n : Nat) (k : Int32) (g5 : gh) (H : Heap) (locs : List Loc) (ls : Array Slot), (53 - k.toInt : Int) < n → 0 ≤ k.toInt ∧ k.toInt ≤ 53 → (∀ c j : Nat, c ≠ 80 → g5 c j = g c j) → (g5 80 = fz (g 80) (64 * ii) p1.toInt k.toInt.toNat) → ty_ok (dC, dI) vwCl Γ (TP dA Γ g5) sz X H → va_S (ty_A sz) s.heap H locs → lv_has ls 4 [(3, .int x3), (2, .int k), (0, .ref h0), (1, .int p1)] → W p l e (headSpec (.code yJ7_fill_53178 cJ7_fill_53178 4 (Option.none : Option Jvm.ClassFile.FieldType) :: AL) ({ frames := 0, cells := 0, slots := 0, locals := 0 })).room s m ([.ref h0, .int p1] : List Value).toArray below meth c H locs 0 0 (MQ below (va_Qv (fun (u : gh) => (∀ c j : Nat, c ≠ 80 → u c j = g c j) ∧ (u 80 = fz (g 80) (64 * ii) p1.toInt 53)) (okb dC dI dA sz X Γ) (ty_A sz)) ([.ref h0, .int p1] : List Value).toArray s 0 0 (ty_A sz)) (F0 m 5 ls []) := by
    intro n
    induction n with
    | zero => intro k g5 H locs ls hm hi0 hf6 hq0 hG hS hl; exfalso; omega
    | succ n ih_5 =>
      intro k g5 H locs ls hm hi0 hf6 hq0 hG hS hl
      refine lv_iload_n hx hb dJ7_fill_53178_5 rfl (lv_at hl 1 rfl) ?_
      refine lv_iload_n hx hb dJ7_fill_53178_6 rfl (lv_at hl 0 rfl) ?_
      refine ty_icmp_ge (tgt := 20) hx hb dJ7_fill_53178_7 (by decide) (fun c7 => ?_) (fun c7 => ?_)
      · skip
        exact W.vret hx hb hr (fun t ht hW => ⟨⟨g5, rfl, ⟨(fun c j h80 => by rw [hf6 c j h80]), (by rw [hq0]; rw [show k.toInt.toNat = 53 by omega])⟩, ok1 ht hG⟩, hS.F ht⟩) hS.2.2 dJ7_fill_53178_20
      · skip
        refine lv_aload_n hx hb dJ7_fill_53178_10 rfl (lv_at hl 2 rfl) ?_
        refine lv_iload_n hx hb dJ7_fill_53178_11 rfl (lv_at hl 1 rfl) ?_
        refine lv_iload_n hx hb dJ7_fill_53178_12 rfl (lv_at hl 3 rfl) ?_
        refine ast_16 hx hb hE hG hS hU t_h0 (by omega) dJ7_fill_53178_13 (fun H locs hG hS => ?_)
        obtain ⟨x8, h9⟩ : ∃ y : Int32, y = k + Int32.ofInt (1) := ⟨_, rfl⟩
        try have h10 : x8.toInt = k.toInt + (1) := ty_inc h9 (by decide) (by omega) (by omega)
        refine lv_iinc (v := x8) (lv' := [(2, .int x8), (3, .int x3), (0, .ref h0), (1, .int p1)]) hx hb dJ7_fill_53178_14 hl (k := 1) rfl h9.symm (by decide) rfl (fun ls hl => ?_)
        refine lv_goto (tgt := 5) hx hb dJ7_fill_53178_17 (by decide) ?_
        exact ih_5 x8 (gs g5 80 (64 * ii + k.toInt.toNat) p1.toInt) _ _ ls (by omega) (by omega) (fun c j h80 => by rw [gs_c _ _ _ _ h80, hf6 c j h80]) (by rw [pz_gs]; exact fz_s hq0 (by omega) rfl rfl) hG hS (lv_sub hl [1, 0, 2, 3] rfl)
  exact L_5 ((53 - x1.toInt) + 1).toNat x1 g _ _ ls (by omega) (by omega) (fun c j _ => rfl) (fz_0 (by omega)) hG hS (lv_sub hl [0, 1, 2, 3] rfl)

set_option maxHeartbeats 4000000 in
set_option maxRecDepth 100000 in
/-- java/util/Arrays.fill:  -/
theorem k_fill_17 (l : Launch) (dC : Nat → ClassId) (dI : Nat → Nat → Nat) (dA : Nat → ClassId) (sz : Nat) (X : va_W) (Γ : ty_G) (hU : Un Γ) (g : gh) (h0 ii : Nat) (t_h0 : Γ h0 = (17, ii)) (p1 : Int32) : Met l yJ7_fill_53178 (.code yJ7_fill_53178 cJ7_fill_53178 4 (Option.none : Option Jvm.ClassFile.FieldType) :: AL) ({ frames := 0, cells := 0, slots := 0, locals := 0 }) (PCx dC dI dA sz X Γ g [.ref h0, .int p1]) (va_Qv (fun (u : gh) => (∀ c j : Nat, c ≠ 81 → u c j = g c j) ∧ (u 81 = fz (g 81) (64 * ii) p1.toInt 5)) (okb dC dI dA sz X Γ) (ty_A sz)) 0 0 (ty_A sz) := by
  refine Met.ofW (cc := cJ7_fill_53178) (maxL := 4) (ret := (Option.none : Option Jvm.ClassFile.FieldType)) (by decide) rfl ?_
  intro p e s m args below meth c s₁ B hml hv
  obtain ⟨rfl, hG, hE⟩ := hv
  have hx := B.exec
  have hb := B.bytes
  have hr := B.returns
  have hts := atoms_spec B.pre
  have hA : ∀ w ∈ AL, w.before _ s = true := fun w h => hts w (List.mem_cons_of_mem _ h)
  have hown : s.vm.findClass RJ7 = some m.cls := findClass_of_methodNamed B.named
  have hlocks := B.notSynchronized
  have hS : va_S (ty_A sz) s.heap s.heap [] := va_S.rf
  have hl := lv_entry ([.ref h0, .int p1]) (n := 4) (Nat.le_of_ble_eq_true rfl)
  rw [lg_entry_eq]
  generalize (lg_sl ([.ref h0, .int p1]) ++ List.replicate (4 - (lg_sl ([.ref h0, .int p1])).length) Slot.unset).toArray = ls at hl ⊢
  have hl : lv_has ls 4 [(0, .ref h0), (1, .int p1)] := hl
  refine ty_iconst hx hb (0) dJ7_fill_53178_0 (by decide) (fun x1 h2 => ?_)
  refine lv_istore_n (lv' := [(2, .int x1), (0, .ref h0), (1, .int p1)]) hx hb dJ7_fill_53178_1 rfl hl (by decide) rfl (fun ls hl => ?_)
  refine lv_aload_n hx hb dJ7_fill_53178_2 rfl (lv_at hl 1 rfl) ?_
  refine alen_17 hx hb hE hG t_h0 dJ7_fill_53178_3 (fun x3 h4 => ?_)
  refine lv_istore_n (lv' := [(3, .int x3), (2, .int x1), (0, .ref h0), (1, .int p1)]) hx hb dJ7_fill_53178_4 rfl hl (by decide) rfl (fun ls hl => ?_)
  have L_5 : ∀ (n : Nat) (k : Int32) (g5 : gh) (H : Heap) (locs : List Loc) (ls : Array Slot), (5 - k.toInt : Int) < n → 0 ≤ k.toInt ∧ k.toInt ≤ 5 → (∀ c j : Nat, c ≠ 81 → g5 c j = g c j) → (g5 81 = fz (g 81) (64 * ii) p1.toInt k.toInt.toNat) → ty_ok (dC, dI) vwCl Γ (TP dA Γ g5) sz X H → va_S (ty_A sz) s.heap H locs → lv_has ls 4 [(3, .int x3), (2, .int k), (0, .ref h0), (1, .int p1)] → W p l e (headSpec (.code yJ7_fill_53178 cJ7_fill_53178 4 (Option.none : Option Jvm.ClassFile.FieldType) :: AL) ({ frames := 0, cells := 0, slots := 0, locals := 0 })).room s m ([.ref h0, .int p1] : List Value).toArray below meth c H locs 0 0 (MQ below (va_Qv (fun (u : gh) => (∀ c j : Nat, c ≠ 81 → u c j = g c j) ∧ (u 81 = fz (g 81) (64 * ii) p1.toInt 5)) (okb dC dI dA sz X Γ) (ty_A sz)) ([.ref h0, .int p1] : List Value).toArray s 0 0 (ty_A sz)) (F0 m 5 ls []) := by
    intro n
    induction n with
    | zero => intro k g5 H locs ls hm hi0 hf6 hq0 hG hS hl; exfalso; omega
    | succ n ih_5 =>
      intro k g5 H locs ls hm hi0 hf6 hq0 hG hS hl
      refine lv_iload_n hx hb dJ7_fill_53178_5 rfl (lv_at hl 1 rfl) ?_
      refine lv_iload_n hx hb dJ7_fill_53178_6 rfl (lv_at hl 0 rfl) ?_
      refine ty_icmp_ge (tgt := 20) hx hb dJ7_fill_53178_7 (by decide) (fun c7 => ?_) (fun c7 => ?_)
      · skip
        exact W.vret hx hb hr (fun t ht hW => ⟨⟨g5, rfl, ⟨(fun c j h81 => by rw [hf6 c j h81]), (by rw [hq0]; rw [show k.toInt.toNat = 5 by omega])⟩, ok1 ht hG⟩, hS.F ht⟩) hS.2.2 dJ7_fill_53178_20
      · skip
        refine lv_aload_n hx hb dJ7_fill_53178_10 rfl (lv_at hl 2 rfl) ?_
        refine lv_iload_n hx hb dJ7_fill_53178_11 rfl (lv_at hl 1 rfl) ?_
        refine lv_iload_n hx hb dJ7_fill_53178_12 rfl (lv_at hl 3 rfl) ?_
        refine ast_17 hx hb hE hG hS hU t_h0 (by omega) dJ7_fill_53178_13 (fun H locs hG hS => ?_)
        obtain ⟨x8, h9⟩ : ∃ y : Int32, y = k + Int32.ofInt (1) := ⟨_, rfl⟩
        try have h10 : x8.toInt = k.toInt + (1) := ty_inc h9 (by decide) (by omega) (by omega)
        refine lv_iinc (v := x8) (lv' := [(2, .int x8), (3, .int x3), (0, .ref h0), (1, .int p1)]) hx hb dJ7_fill_53178_14 hl (k := 1) rfl h9.symm (by decide) rfl (fun ls hl => ?_)
        refine lv_goto (tgt := 5) hx hb dJ7_fill_53178_17 (by decide) ?_
        exact ih_5 x8 (gs g5 81 (64 * ii + k.toInt.toNat) p1.toInt) _ _ ls (by omega) (by omega) (fun c j h81 => by rw [gs_c _ _ _ _ h81, hf6 c j h81]) (by rw [pz_gs]; exact fz_s hq0 (by omega) rfl rfl) hG hS (lv_sub hl [1, 0, 2, 3] rfl)
  exact L_5 ((5 - x1.toInt) + 1).toNat x1 g _ _ ls (by omega) (by omega) (fun c j _ => rfl) (fz_0 (by omega)) hG hS (lv_sub hl [0, 1, 2, 3] rfl)

set_option maxHeartbeats 4000000 in
set_option maxRecDepth 100000 in
/-- java/util/Arrays.fill:  -/
theorem k_fill_26 (l : Launch) (dC : Nat → ClassId) (dI : Nat → Nat → Nat) (dA : Nat → ClassId) (sz : Nat) (X : va_W) (Γ : ty_G) (hU : Un Γ) (g : gh) (h0 ii : Nat) (t_h0 : Γ h0 = (26, ii)) (p1 : Int32) : Met l yJ7_fill_53178 (.code yJ7_fill_53178 cJ7_fill_53178 4 (Option.none : Option Jvm.ClassFile.FieldType) :: AL) ({ frames := 0, cells := 0, slots := 0, locals := 0 }) (PCx dC dI dA sz X Γ g [.ref h0, .int p1]) (va_Qv (fun (u : gh) => (∀ c j : Nat, c ≠ 82 → u c j = g c j) ∧ (u 82 = fz (g 82) (64 * ii) p1.toInt 53)) (okb dC dI dA sz X Γ) (ty_A sz)) 0 0 (ty_A sz) := by
  refine Met.ofW (cc := cJ7_fill_53178) (maxL := 4) (ret := (Option.none : Option Jvm.ClassFile.FieldType)) (by decide) rfl ?_
  intro p e s m args below meth c s₁ B hml hv
  obtain ⟨rfl, hG, hE⟩ := hv
  have hx := B.exec
  have hb := B.bytes
  have hr := B.returns
  have hts := atoms_spec B.pre
  have hA : ∀ w ∈ AL, w.before _ s = true := fun w h => hts w (List.mem_cons_of_mem _ h)
  have hown : s.vm.findClass RJ7 = some m.cls := findClass_of_methodNamed B.named
  have hlocks := B.notSynchronized
  have hS : va_S (ty_A sz) s.heap s.heap [] := va_S.rf
  have hl := lv_entry ([.ref h0, .int p1]) (n := 4) (Nat.le_of_ble_eq_true rfl)
  rw [lg_entry_eq]
  generalize (lg_sl ([.ref h0, .int p1]) ++ List.replicate (4 - (lg_sl ([.ref h0, .int p1])).length) Slot.unset).toArray = ls at hl ⊢
  have hl : lv_has ls 4 [(0, .ref h0), (1, .int p1)] := hl
  refine ty_iconst hx hb (0) dJ7_fill_53178_0 (by decide) (fun x1 h2 => ?_)
  refine lv_istore_n (lv' := [(2, .int x1), (0, .ref h0), (1, .int p1)]) hx hb dJ7_fill_53178_1 rfl hl (by decide) rfl (fun ls hl => ?_)
  refine lv_aload_n hx hb dJ7_fill_53178_2 rfl (lv_at hl 1 rfl) ?_
  refine alen_26 hx hb hE hG t_h0 dJ7_fill_53178_3 (fun x3 h4 => ?_)
  refine lv_istore_n (lv' := [(3, .int x3), (2, .int x1), (0, .ref h0), (1, .int p1)]) hx hb dJ7_fill_53178_4 rfl hl (by decide) rfl (fun ls hl => ?_)
  have L_5 : ∀ (n : Nat) (k : Int32) (g5 : gh) (H : Heap) (locs : List Loc) (ls : Array Slot), (53 - k.toInt : Int) < n → 0 ≤ k.toInt ∧ k.toInt ≤ 53 → (∀ c j : Nat, c ≠ 82 → g5 c j = g c j) → (g5 82 = fz (g 82) (64 * ii) p1.toInt k.toInt.toNat) → ty_ok (dC, dI) vwCl Γ (TP dA Γ g5) sz X H → va_S (ty_A sz) s.heap H locs → lv_has ls 4 [(3, .int x3), (2, .int k), (0, .ref h0), (1, .int p1)] → W p l e (headSpec (.code yJ7_fill_53178 cJ7_fill_53178 4 (Option.none : Option Jvm.ClassFile.FieldType) :: AL) ({ frames := 0, cells := 0, slots := 0, locals := 0 })).room s m ([.ref h0, .int p1] : List Value).toArray below meth c H locs 0 0 (MQ below (va_Qv (fun (u : gh) => (∀ c j : Nat, c ≠ 82 → u c j = g c j) ∧ (u 82 = fz (g 82) (64 * ii) p1.toInt 53)) (okb dC dI dA sz X Γ) (ty_A sz)) ([.ref h0, .int p1] : List Value).toArray s 0 0 (ty_A sz)) (F0 m 5 ls []) := by
    intro n
    induction n with
    | zero => intro k g5 H locs ls hm hi0 hf6 hq0 hG hS hl; exfalso; omega
    | succ n ih_5 =>
      intro k g5 H locs ls hm hi0 hf6 hq0 hG hS hl
      refine lv_iload_n hx hb dJ7_fill_53178_5 rfl (lv_at hl 1 rfl) ?_
      refine lv_iload_n hx hb dJ7_fill_53178_6 rfl (lv_at hl 0 rfl) ?_
      refine ty_icmp_ge (tgt := 20) hx hb dJ7_fill_53178_7 (by decide) (fun c7 => ?_) (fun c7 => ?_)
      · skip
        exact W.vret hx hb hr (fun t ht hW => ⟨⟨g5, rfl, ⟨(fun c j h82 => by rw [hf6 c j h82]), (by rw [hq0]; rw [show k.toInt.toNat = 53 by omega])⟩, ok1 ht hG⟩, hS.F ht⟩) hS.2.2 dJ7_fill_53178_20
      · skip
        refine lv_aload_n hx hb dJ7_fill_53178_10 rfl (lv_at hl 2 rfl) ?_
        refine lv_iload_n hx hb dJ7_fill_53178_11 rfl (lv_at hl 1 rfl) ?_
        refine lv_iload_n hx hb dJ7_fill_53178_12 rfl (lv_at hl 3 rfl) ?_
        refine ast_26 hx hb hE hG hS hU t_h0 (by omega) dJ7_fill_53178_13 (fun H locs hG hS => ?_)
        obtain ⟨x8, h9⟩ : ∃ y : Int32, y = k + Int32.ofInt (1) := ⟨_, rfl⟩
        try have h10 : x8.toInt = k.toInt + (1) := ty_inc h9 (by decide) (by omega) (by omega)
        refine lv_iinc (v := x8) (lv' := [(2, .int x8), (3, .int x3), (0, .ref h0), (1, .int p1)]) hx hb dJ7_fill_53178_14 hl (k := 1) rfl h9.symm (by decide) rfl (fun ls hl => ?_)
        refine lv_goto (tgt := 5) hx hb dJ7_fill_53178_17 (by decide) ?_
        exact ih_5 x8 (gs g5 82 (64 * ii + k.toInt.toNat) p1.toInt) _ _ ls (by omega) (by omega) (fun c j h82 => by rw [gs_c _ _ _ _ h82, hf6 c j h82]) (by rw [pz_gs]; exact fz_s hq0 (by omega) rfl rfl) hG hS (lv_sub hl [1, 0, 2, 3] rfl)
  exact L_5 ((53 - x1.toInt) + 1).toNat x1 g _ _ ls (by omega) (by omega) (fun c j _ => rfl) (fz_0 (by omega)) hG hS (lv_sub hl [0, 1, 2, 3] rfl)

set_option maxHeartbeats 4000000 in
set_option maxRecDepth 100000 in
/-- WeekBank$Rules.<init>:  -/
theorem k_X6_init (l : Launch) (dC : Nat → ClassId) (dI : Nat → Nat → Nat) (dA : Nat → ClassId) (sz : Nat) (X : va_W) (Γ : ty_G) (hU : Un Γ) (g : gh) (h0 : Nat) (ii : Nat) (L : List ty_N) (hL : tyIn Γ L) (hm : ∀ t ∈ ([(6, ii), (16, ii), (17, ii), (26, ii)] : List ty_N), t ∉ L) (zg : ∀ c j : Nat, 80 ≤ c ∧ c ≤ 82 → g c (64 * ii + j) = 0) (z1 : g 10 ii = 0 ∧ g 11 ii = 0) : Met l yX6_init (.code yX6_init cX6_init 1 (Option.none : Option Jvm.ClassFile.FieldType) :: AL) ({ frames := 1, cells := 3, slots := 111, locals := 23 }) (PCx dC dI dA sz ((h0, .inr (6, dv_X6)) :: X) Γ g [.ref h0]) (va_Qv (fun (u : (ty_G × gh)) => ext Γ u.1 ∧ Un u.1 ∧ tyIn u.1 ((6, ii) :: ((26, ii) :: ((17, ii) :: ((16, ii) :: L)))) ∧ u.1 h0 = (6, ii) ∧ (∀ c j : Nat, c ≠ 82 → u.2 c j = g c j) ∧ (u.2 82 = fz (g 82) (64 * ii) (-1) 53)) (okB dC dI dA sz X) (ty_A sz)) 3 111 (ty_A sz) := by
  refine Met.ofW (cc := cX6_init) (maxL := 1) (ret := (Option.none : Option Jvm.ClassFile.FieldType)) (by decide) rfl ?_
  intro p e s m args below meth c s₁ B hml hv
  obtain ⟨rfl, hG, hE⟩ := hv
  have hx := B.exec
  have hb := B.bytes
  have hr := B.returns
  have hts := atoms_spec B.pre
  have hA : ∀ w ∈ AL, w.before _ s = true := fun w h => hts w (List.mem_cons_of_mem _ h)
  have hown : s.vm.findClass RX6 = some m.cls := findClass_of_methodNamed B.named
  have hlocks := B.notSynchronized
  have hin : meth.name = "<init>" := (name_of_methodNamed B.named B.method).1
  have hS : va_S (ty_A sz) s.heap s.heap [] := va_S.rf
  have hl := lv_entry ([.ref h0]) (n := 1) (Nat.le_of_ble_eq_true rfl)
  rw [lg_entry_eq]
  generalize (lg_sl ([.ref h0]) ++ List.replicate (1 - (lg_sl ([.ref h0])).length) Slot.unset).toArray = ls at hl ⊢
  have hl : lv_has ls 1 [(0, .ref h0)] := hl
  refine lv_aload_n hx hb dX6_init_0 rfl (lv_at hl 0 rfl) ?_
  refine W.objInit hx hb hown (hA _ wd_1_76) (hA _ wd_1_28) (hA _ wd_1_29) rfl (by rw [hml]; exact hl.1) rfl dX6_init_1 (Nat.le_of_ble_eq_true rfl) (Nat.le_of_ble_eq_true rfl) ?_
  refine W.eq (g2 := F0 m 4 ls []) rfl ?_
  refine lv_aload_n hx hb dX6_init_4 rfl (lv_at hl 0 rfl) ?_
  refine ty_bipush hx hb (53) dX6_init_5 (by decide) (fun x1 h2 => ?_)
  refine new_I hx hb hA hE hG hS wd_1_70 (N := 53) (by omega) (by decide) (Nat.le_of_ble_eq_true rfl) (Nat.le_of_ble_eq_true rfl) (16, ii) (fun Γ' => by rw [TP_16 rfl]; exact ⟨_, rfl, fun j hj => (zg 80 _ (by decide)).symm⟩) dX6_init_7 (fun q3 H z_q3 s_q3 e_q3 hG hS => ?_)
  obtain ⟨Γ4, eΓ4⟩ : ∃ z, z = va_up Γ q3 (16, ii) := ⟨_, rfl⟩
  rw [← eΓ4] at hG
  have hx5 : ext Γ Γ4 := by rw [eΓ4]; exact ext.up z_q3
  have hU : Un Γ4 := by rw [eΓ4]; exact Un.up hU hL (by show (16 : Nat) ≠ 0; decide) (fun h => absurd (show sg 16 = true from h) (by decide)) (fun _ => (hm (16, ii) (by simp)))
  have hL6 : tyIn Γ4 ((16, ii) :: L) := by rw [eΓ4]; exact hL.up
  have hX7 : ext Γ Γ4 := ext.trans ext.rf hx5
  have t_q3 : Γ4 q3 = (16, ii) := by rw [eΓ4, va_up_self]
  clear z_q3 s_q3 e_q3
  refine rw_X6 hx hb hA hE hG hS hown hin rfl 0 (by decide) wd_1_80 rfl (ty := .array .int) (tyX6_ok 0 (by decide)) rfl rfl (Nat.le_of_ble_eq_true rfl) dX6_init_9 (fun H locs hG hS => ?_)
  replace hG : ty_ok (dC, dI) vwCl Γ4 (TP dA Γ4 g) sz ((h0, .inr (6, [.ref q3, .null, .null, .int 0, .int 0])) :: X) H := hG
  refine lv_aload_n hx hb dX6_init_12 rfl (lv_at hl 0 rfl) ?_
  refine ty_iconst hx hb (5) dX6_init_13 (by decide) (fun x8 h9 => ?_)
  refine new_I hx hb hA hE hG hS wd_1_70 (N := 5) (by omega) (by decide) (Nat.le_of_ble_eq_true rfl) (Nat.le_of_ble_eq_true rfl) (17, ii) (fun Γ' => by rw [TP_17 rfl]; exact ⟨_, rfl, fun j hj => (zg 81 _ (by decide)).symm⟩) dX6_init_14 (fun q10 H z_q10 s_q10 e_q10 hG hS => ?_)
  obtain ⟨Γ11, eΓ11⟩ : ∃ z, z = va_up Γ4 q10 (17, ii) := ⟨_, rfl⟩
  rw [← eΓ11] at hG
  have hx12 : ext Γ4 Γ11 := by rw [eΓ11]; exact ext.up z_q10
  have hU : Un Γ11 := by rw [eΓ11]; exact Un.up hU hL6 (by show (17 : Nat) ≠ 0; decide) (fun h => absurd (show sg 17 = true from h) (by decide)) (fun _ => (nmem (by show (17 : Nat) ≠ 16; decide) (hm (17, ii) (by simp))))
  have hL13 : tyIn Γ11 ((17, ii) :: ((16, ii) :: L)) := by rw [eΓ11]; exact hL6.up
  have hX14 : ext Γ Γ11 := ext.trans hX7 hx12
  replace t_q3 : Γ11 q3 = (16, ii) := hx12.two t_q3 (by show (16 : Nat) ≠ 0; decide)
  have t_q10 : Γ11 q10 = (17, ii) := by rw [eΓ11, va_up_self]
  clear z_q10 s_q10 e_q10
  refine rw_X6 hx hb hA hE hG hS hown hin rfl 1 (by decide) wd_1_81 rfl (ty := .array .int) (tyX6_ok 1 (by decide)) rfl rfl (Nat.le_of_ble_eq_true rfl) dX6_init_16 (fun H locs hG hS => ?_)
  replace hG : ty_ok (dC, dI) vwCl Γ11 (TP dA Γ11 g) sz ((h0, .inr (6, [.ref q3, .ref q10, .null, .int 0, .int 0])) :: X) H := hG
  refine lv_aload_n hx hb dX6_init_19 rfl (lv_at hl 0 rfl) ?_
  refine ty_bipush hx hb (53) dX6_init_20 (by decide) (fun x15 h16 => ?_)
  refine new_I hx hb hA hE hG hS wd_1_70 (N := 53) (by omega) (by decide) (Nat.le_of_ble_eq_true rfl) (Nat.le_of_ble_eq_true rfl) (26, ii) (fun Γ' => by rw [TP_26 rfl]; exact ⟨_, rfl, fun j hj => (zg 82 _ (by decide)).symm⟩) dX6_init_22 (fun q17 H z_q17 s_q17 e_q17 hG hS => ?_)
  obtain ⟨Γ18, eΓ18⟩ : ∃ z, z = va_up Γ11 q17 (26, ii) := ⟨_, rfl⟩
  rw [← eΓ18] at hG
  have hx19 : ext Γ11 Γ18 := by rw [eΓ18]; exact ext.up z_q17
  have hU : Un Γ18 := by rw [eΓ18]; exact Un.up hU hL13 (by show (26 : Nat) ≠ 0; decide) (fun h => absurd (show sg 26 = true from h) (by decide)) (fun _ => (nmem (by show (26 : Nat) ≠ 17; decide) (nmem (by show (26 : Nat) ≠ 16; decide) (hm (26, ii) (by simp)))))
  have hL20 : tyIn Γ18 ((26, ii) :: ((17, ii) :: ((16, ii) :: L))) := by rw [eΓ18]; exact hL13.up
  have hX21 : ext Γ Γ18 := ext.trans hX14 hx19
  replace t_q3 : Γ18 q3 = (16, ii) := hx19.two t_q3 (by show (16 : Nat) ≠ 0; decide)
  replace t_q10 : Γ18 q10 = (17, ii) := hx19.two t_q10 (by show (17 : Nat) ≠ 0; decide)
  have t_q17 : Γ18 q17 = (26, ii) := by rw [eΓ18, va_up_self]
  clear z_q17 s_q17 e_q17
  refine rw_X6 hx hb hA hE hG hS hown hin rfl 2 (by decide) wd_1_82 rfl (ty := .array .int) (tyX6_ok 2 (by decide)) rfl rfl (Nat.le_of_ble_eq_true rfl) dX6_init_24 (fun H locs hG hS => ?_)
  replace hG : ty_ok (dC, dI) vwCl Γ18 (TP dA Γ18 g) sz ((h0, .inr (6, [.ref q3, .ref q10, .ref q17, .int 0, .int 0])) :: X) H := hG
  refine lv_aload_n hx hb dX6_init_27 rfl (lv_at hl 0 rfl) ?_
  refine ty_iconst hx hb (0) dX6_init_28 (by decide) (fun x22 h23 => ?_)
  refine rw_X6 hx hb hA hE hG hS hown hin rfl 3 (by decide) wd_1_83 rfl (ty := .boolean) (tyX6_ok 3 (by decide)) (ty_nb (by omega)).1 (ty_nb (by omega)).2.1 (Nat.le_of_ble_eq_true rfl) dX6_init_29 (fun H locs hG hS => ?_)
  replace hG : ty_ok (dC, dI) vwCl Γ18 (TP dA Γ18 g) sz ((h0, .inr (6, [.ref q3, .ref q10, .ref q17, .int x22, .int 0])) :: X) H := hG
  refine lv_aload_n hx hb dX6_init_32 rfl (lv_at hl 0 rfl) ?_
  refine ty_iconst hx hb (0) dX6_init_33 (by decide) (fun x24 h25 => ?_)
  refine rw_X6 hx hb hA hE hG hS hown hin rfl 4 (by decide) wd_1_86 rfl (ty := .int) (tyX6_ok 4 (by decide)) rfl rfl (Nat.le_of_ble_eq_true rfl) dX6_init_34 (fun H locs hG hS => ?_)
  replace hG : ty_ok (dC, dI) vwCl Γ18 (TP dA Γ18 g) sz ((h0, .inr (6, [.ref q3, .ref q10, .ref q17, .int x22, .int x24])) :: X) H := hG
  refine lv_aload_n hx hb dX6_init_37 rfl (lv_at hl 0 rfl) ?_
  refine rg_X6 hx hb hA hE hG hown 2 (by decide) wd_1_82 rfl (.ref q17) rfl dX6_init_38 ?_
  refine ty_iconst hx hb (-1) dX6_init_41 (by decide) (fun x26 h27 => ?_)
  refine cV (va_runS (As := [.ref q17, .int x26]) (rest := []) ⟨hx, hb, hml, hown, hA⟩ (k_fill_26 l dC dI dA sz ((h0, .inr (6, [.ref q3, .ref q10, .ref q17, .int x22, .int x24])) :: X) Γ18 hU g q17 ii t_q17 x26   ) ⟨callB_of 2 hA (al_A wd_1_79) rfl rfl rfl (hA _ wd_1_4) (hA _ wd_1_77) (by decide +kernel) ⟨Nat.le_of_ble_eq_true rfl, Nat.le_of_ble_eq_true rfl⟩, hA _ wd_1_78⟩ ⟨bl, fun U hU9 hW9 => ⟨rfl, by rw [hU9]; exact hG, hE.go hS hU9 hW9⟩⟩ rfl rfl hl.1 rfl (lv_room (Nat.le_of_ble_eq_true rfl)) dX6_init_42 ⟨Nat.le_of_ble_eq_true rfl, Nat.le_of_ble_eq_true rfl⟩) hS (fun u28 H locs w29 hG hS => ?_)
  obtain ⟨hf31, hq30⟩ := w29
  have z_own : ty Γ18 h0 0 := (hG.2.2.2 _ List.mem_cons_self).2.1
  have hx32 : ext Γ18 (va_up Γ18 h0 (6, ii)) := ext.up z_own
  have hk33 : u28 11 ii = g 11 ii := hf31 11 ii (by decide)
  have hk34 : u28 10 ii = g 10 ii := hf31 10 ii (by decide)
  have hG := tp_adopt (t := (6, ii)) hG (by rw [TP_6 rfl]; exact ⟨_, rfl, rfl, fun k hk => match k, hk with
        | 0, _ => ⟨_, rfl, hx32.two t_q3 (by show (16 : Nat) ≠ 0; decide)⟩
        | 1, _ => ⟨_, rfl, hx32.two t_q10 (by show (17 : Nat) ≠ 0; decide)⟩
        | 2, _ => ⟨_, rfl, hx32.two t_q17 (by show (26 : Nat) ≠ 0; decide)⟩
        | 3, _ => ⟨_, rfl, by show _ = u28 11 ii; omega, by first | exact Or.inl rfl | omega⟩
        | 4, _ => ⟨_, rfl, by show _ = u28 10 ii; omega⟩
      ⟩)
  obtain ⟨Γ35, eΓ35⟩ : ∃ z, z = va_up Γ18 h0 (6, ii) := ⟨_, rfl⟩
  rw [← eΓ35] at hG
  have hx36 : ext Γ18 Γ35 := by rw [eΓ35]; exact ext.up z_own
  have hU : Un Γ35 := by rw [eΓ35]; exact Un.up hU hL20 (by show (6 : Nat) ≠ 0; decide) (fun h => absurd (show sg 6 = true from h) (by decide)) (fun _ => (nmem (by show (6 : Nat) ≠ 26; decide) (nmem (by show (6 : Nat) ≠ 17; decide) (nmem (by show (6 : Nat) ≠ 16; decide) (hm (6, ii) (by simp))))))
  have hL37 : tyIn Γ35 ((6, ii) :: ((26, ii) :: ((17, ii) :: ((16, ii) :: L)))) := by rw [eΓ35]; exact hL20.up
  have hX38 : ext Γ Γ35 := ext.trans hX21 hx36
  replace t_q3 : Γ35 q3 = (16, ii) := hx36.two t_q3 (by show (16 : Nat) ≠ 0; decide)
  replace t_q10 : Γ35 q10 = (17, ii) := hx36.two t_q10 (by show (17 : Nat) ≠ 0; decide)
  replace t_q17 : Γ35 q17 = (26, ii) := hx36.two t_q17 (by show (26 : Nat) ≠ 0; decide)
  have t_h0 : Γ35 h0 = (6, ii) := by rw [eΓ35, va_up_self]
  clear z_own
  refine W.widen (k := 3) (n := 111) (by omega) (by omega) ?_
  exact W.vret hx hb hr (fun t ht hW => ⟨⟨(Γ35, u28), rfl, ⟨hX38, hU, hL37, t_h0, (fun c j h82 => by (try dsimp only); rw [hf31 c j h82]), (show u28 82 = fz (g 82) (64 * ii) (-1) 53 from (by rw [hq30] <;> first | rfl | (congr 1; done) | (congr 1; omega)))⟩, ok2 ht hG⟩, hS.F ht⟩) hS.2.2 dX6_init_45

set_option maxHeartbeats 4000000 in
set_option maxRecDepth 100000 in
/-- WeekBank$Reader.<init>:  -/
theorem k_X4_init (l : Launch) (dC : Nat → ClassId) (dI : Nat → Nat → Nat) (dA : Nat → ClassId) (sz : Nat) (X : va_W) (Γ : ty_G) (hU : Un Γ) (g : gh) (h0 : Nat) (L : List ty_N) (hL : tyIn Γ L) (hn : ∀ t ∈ ([7, 18] : List Nat), t ∉ L.map Prod.fst) (zg : ∀ c j : Nat, c = 19 → g c j = 0) (z1 : g 6 0 = 0 ∧ g 9 0 = 0 ∧ g 14 0 = -1 ∧ g 16 0 = 0 ∧ g 15 0 = 0 ∧ g 17 0 = 0 ∧ g 18 0 = 0) : Met l yX4_init (.code yX4_init cX4_init 1 (Option.none : Option Jvm.ClassFile.FieldType) :: AL) ({ frames := 1, cells := 1, slots := 300, locals := 12 }) (PCx dC dI dA sz ((h0, .inr (4, dv_X4)) :: X) Γ g [.ref h0]) (va_Qv (fun (u : (ty_G × gh)) => ext Γ u.1 ∧ Un u.1 ∧ tyIn u.1 ((7, 0) :: ((18, 0) :: L)) ∧ (u.1 h0).1 = 7 ∧ u.2 = g) (okB dC dI dA sz X) (ty_A sz)) 1 300 (ty_A sz) := by
  refine Met.ofW (cc := cX4_init) (maxL := 1) (ret := (Option.none : Option Jvm.ClassFile.FieldType)) (by decide) rfl ?_
  intro p e s m args below meth c s₁ B hml hv
  obtain ⟨rfl, hG, hE⟩ := hv
  have hx := B.exec
  have hb := B.bytes
  have hr := B.returns
  have hts := atoms_spec B.pre
  have hA : ∀ w ∈ AL, w.before _ s = true := fun w h => hts w (List.mem_cons_of_mem _ h)
  have hown : s.vm.findClass RX4 = some m.cls := findClass_of_methodNamed B.named
  have hlocks := B.notSynchronized
  have hin : meth.name = "<init>" := (name_of_methodNamed B.named B.method).1
  have hS : va_S (ty_A sz) s.heap s.heap [] := va_S.rf
  have hl := lv_entry ([.ref h0]) (n := 1) (Nat.le_of_ble_eq_true rfl)
  rw [lg_entry_eq]
  generalize (lg_sl ([.ref h0]) ++ List.replicate (1 - (lg_sl ([.ref h0])).length) Slot.unset).toArray = ls at hl ⊢
  have hl : lv_has ls 1 [(0, .ref h0)] := hl
  refine lv_aload_n hx hb dX4_init_0 rfl (lv_at hl 0 rfl) ?_
  refine W.objInit hx hb hown (hA _ wd_1_41) (hA _ wd_1_28) (hA _ wd_1_29) rfl (by rw [hml]; exact hl.1) rfl dX4_init_1 (Nat.le_of_ble_eq_true rfl) (Nat.le_of_ble_eq_true rfl) ?_
  refine W.eq (g2 := F0 m 4 ls []) rfl ?_
  refine lv_aload_n hx hb dX4_init_4 rfl (lv_at hl 0 rfl) ?_
  refine ty_sipush hx hb (300) dX4_init_5 (by decide) (fun x1 h2 => ?_)
  refine new_I hx hb hA hE hG hS wd_1_70 (N := 300) (by omega) (by decide) (Nat.le_of_ble_eq_true rfl) (Nat.le_of_ble_eq_true rfl) (18, 0) (fun Γ' => by rw [TP_18 rfl]; exact ⟨_, rfl, fun j hj => (by exact (zg 19 _ (by decide)).symm)⟩) dX4_init_8 (fun q3 H z_q3 s_q3 e_q3 hG hS => ?_)
  obtain ⟨Γ4, eΓ4⟩ : ∃ z, z = va_up Γ q3 (18, 0) := ⟨_, rfl⟩
  rw [← eΓ4] at hG
  have hx5 : ext Γ Γ4 := by rw [eΓ4]; exact ext.up z_q3
  have hU : Un Γ4 := by rw [eΓ4]; exact Un.up hU hL (by show (18 : Nat) ≠ 0; decide) (fun _ => (hn 18 (by decide))) (fun h => absurd (show sg2 18 = true from h) (by decide))
  have hL6 : tyIn Γ4 ((18, 0) :: L) := by rw [eΓ4]; exact hL.up
  have hX7 : ext Γ Γ4 := ext.trans ext.rf hx5
  have t_q3 : ty Γ4 q3 18 := by rw [eΓ4]; unfold ty; rw [va_up_self]
  clear z_q3 s_q3 e_q3
  refine rw_X4 hx hb hA hE hG hS hown hin rfl 0 (by decide) wd_1_42 rfl (ty := .array .int) (tyX4_ok 0 (by decide)) rfl rfl (Nat.le_of_ble_eq_true rfl) dX4_init_10 (fun H locs hG hS => ?_)
  replace hG : ty_ok (dC, dI) vwCl Γ4 (TP dA Γ4 g) sz ((h0, .inr (4, [.ref q3, .int 0, .int 0, .int 0, .int 0, .int 0, .int 0, .int 0])) :: X) H := hG
  refine lv_aload_n hx hb dX4_init_13 rfl (lv_at hl 0 rfl) ?_
  refine ty_iconst hx hb (0) dX4_init_14 (by decide) (fun x8 h9 => ?_)
  refine rw_X4 hx hb hA hE hG hS hown hin rfl 1 (by decide) wd_1_43 rfl (ty := .int) (tyX4_ok 1 (by decide)) rfl rfl (Nat.le_of_ble_eq_true rfl) dX4_init_15 (fun H locs hG hS => ?_)
  replace hG : ty_ok (dC, dI) vwCl Γ4 (TP dA Γ4 g) sz ((h0, .inr (4, [.ref q3, .int x8, .int 0, .int 0, .int 0, .int 0, .int 0, .int 0])) :: X) H := hG
  refine lv_aload_n hx hb dX4_init_18 rfl (lv_at hl 0 rfl) ?_
  refine ty_iconst hx hb (0) dX4_init_19 (by decide) (fun x10 h11 => ?_)
  refine rw_X4 hx hb hA hE hG hS hown hin rfl 2 (by decide) wd_1_45 rfl (ty := .int) (tyX4_ok 2 (by decide)) rfl rfl (Nat.le_of_ble_eq_true rfl) dX4_init_20 (fun H locs hG hS => ?_)
  replace hG : ty_ok (dC, dI) vwCl Γ4 (TP dA Γ4 g) sz ((h0, .inr (4, [.ref q3, .int x8, .int x10, .int 0, .int 0, .int 0, .int 0, .int 0])) :: X) H := hG
  refine lv_aload_n hx hb dX4_init_23 rfl (lv_at hl 0 rfl) ?_
  refine ty_iconst hx hb (-1) dX4_init_24 (by decide) (fun x12 h13 => ?_)
  refine rw_X4 hx hb hA hE hG hS hown hin rfl 3 (by decide) wd_1_47 rfl (ty := .int) (tyX4_ok 3 (by decide)) rfl rfl (Nat.le_of_ble_eq_true rfl) dX4_init_25 (fun H locs hG hS => ?_)
  replace hG : ty_ok (dC, dI) vwCl Γ4 (TP dA Γ4 g) sz ((h0, .inr (4, [.ref q3, .int x8, .int x10, .int x12, .int 0, .int 0, .int 0, .int 0])) :: X) H := hG
  refine lv_aload_n hx hb dX4_init_28 rfl (lv_at hl 0 rfl) ?_
  refine ty_iconst hx hb (0) dX4_init_29 (by decide) (fun x14 h15 => ?_)
  refine rw_X4 hx hb hA hE hG hS hown hin rfl 4 (by decide) wd_1_49 rfl (ty := .int) (tyX4_ok 4 (by decide)) rfl rfl (Nat.le_of_ble_eq_true rfl) dX4_init_30 (fun H locs hG hS => ?_)
  replace hG : ty_ok (dC, dI) vwCl Γ4 (TP dA Γ4 g) sz ((h0, .inr (4, [.ref q3, .int x8, .int x10, .int x12, .int x14, .int 0, .int 0, .int 0])) :: X) H := hG
  refine lv_aload_n hx hb dX4_init_33 rfl (lv_at hl 0 rfl) ?_
  refine ty_iconst hx hb (0) dX4_init_34 (by decide) (fun x16 h17 => ?_)
  refine rw_X4 hx hb hA hE hG hS hown hin rfl 5 (by decide) wd_1_50 rfl (ty := .int) (tyX4_ok 5 (by decide)) rfl rfl (Nat.le_of_ble_eq_true rfl) dX4_init_35 (fun H locs hG hS => ?_)
  replace hG : ty_ok (dC, dI) vwCl Γ4 (TP dA Γ4 g) sz ((h0, .inr (4, [.ref q3, .int x8, .int x10, .int x12, .int x14, .int x16, .int 0, .int 0])) :: X) H := hG
  refine lv_aload_n hx hb dX4_init_38 rfl (lv_at hl 0 rfl) ?_
  refine ty_iconst hx hb (0) dX4_init_39 (by decide) (fun x18 h19 => ?_)
  refine rw_X4 hx hb hA hE hG hS hown hin rfl 6 (by decide) wd_1_51 rfl (ty := .int) (tyX4_ok 6 (by decide)) rfl rfl (Nat.le_of_ble_eq_true rfl) dX4_init_40 (fun H locs hG hS => ?_)
  replace hG : ty_ok (dC, dI) vwCl Γ4 (TP dA Γ4 g) sz ((h0, .inr (4, [.ref q3, .int x8, .int x10, .int x12, .int x14, .int x16, .int x18, .int 0])) :: X) H := hG
  refine lv_aload_n hx hb dX4_init_43 rfl (lv_at hl 0 rfl) ?_
  refine ty_iconst hx hb (0) dX4_init_44 (by decide) (fun x20 h21 => ?_)
  refine rw_X4 hx hb hA hE hG hS hown hin rfl 7 (by decide) wd_1_52 rfl (ty := .int) (tyX4_ok 7 (by decide)) rfl rfl (Nat.le_of_ble_eq_true rfl) dX4_init_45 (fun H locs hG hS => ?_)
  replace hG : ty_ok (dC, dI) vwCl Γ4 (TP dA Γ4 g) sz ((h0, .inr (4, [.ref q3, .int x8, .int x10, .int x12, .int x14, .int x16, .int x18, .int x20])) :: X) H := hG
  have z_own : ty Γ4 h0 0 := (hG.2.2.2 _ List.mem_cons_self).2.1
  have hx22 : ext Γ4 (va_up Γ4 h0 (7, 0)) := ext.up z_own
  have hG := tp_adopt (t := (7, 0)) hG (by rw [TP_7 rfl]; exact ⟨_, rfl, rfl, fun k hk => match k, hk with
        | 0, _ => ⟨_, rfl, hx22.one t_q3 (by decide)⟩
        | 1, _ => ⟨_, rfl, by omega⟩
        | 2, _ => ⟨_, rfl, by omega⟩
        | 3, _ => ⟨_, rfl, by omega⟩
        | 4, _ => ⟨_, rfl, by omega⟩
        | 5, _ => ⟨_, rfl, by omega⟩
        | 6, _ => ⟨_, rfl, by omega⟩
        | 7, _ => ⟨_, rfl, by omega⟩
      ⟩)
  obtain ⟨Γ23, eΓ23⟩ : ∃ z, z = va_up Γ4 h0 (7, 0) := ⟨_, rfl⟩
  rw [← eΓ23] at hG
  have hx24 : ext Γ4 Γ23 := by rw [eΓ23]; exact ext.up z_own
  have hU : Un Γ23 := by rw [eΓ23]; exact Un.up hU hL6 (by show (7 : Nat) ≠ 0; decide) (fun _ => (nmap (by show (7 : Nat) ≠ 18; decide) (hn 7 (by decide)))) (fun h => absurd (show sg2 7 = true from h) (by decide))
  have hL25 : tyIn Γ23 ((7, 0) :: ((18, 0) :: L)) := by rw [eΓ23]; exact hL6.up
  have hX26 : ext Γ Γ23 := ext.trans hX7 hx24
  replace t_q3 : ty Γ23 q3 18 := hx24.one t_q3 (by decide)
  have t_h0 : ty Γ23 h0 7 := by rw [eΓ23]; unfold ty; rw [va_up_self]
  clear z_own
  refine W.widen (k := 1) (n := 300) (by omega) (by omega) ?_
  exact W.vret hx hb hr (fun t ht hW => ⟨⟨(Γ23, g), rfl, ⟨hX26, hU, hL25, t_h0, rfl⟩, ok2 ht hG⟩, hS.F ht⟩) hS.2.2 dX4_init_48

set_option maxHeartbeats 4000000 in
set_option maxRecDepth 100000 in
/-- WeekBank$RingSearch.<init>:  -/
theorem k_X5_init (l : Launch) (dC : Nat → ClassId) (dI : Nat → Nat → Nat) (dA : Nat → ClassId) (sz : Nat) (X : va_W) (Γ : ty_G) (hU : Un Γ) (g : gh) (h0 : Nat) (L : List ty_N) (hL : tyIn Γ L) (hn : ∀ t ∈ ([8, 19, 20, 21, 22, 27] : List Nat), t ∉ L.map Prod.fst) (zg : ∀ c j : Nat, 83 ≤ c ∧ c ≤ 86 → g c j = 0) (z46 : ∀ j : Nat, g 46 j = -1) (z1 : g 7 0 = 0 ∧ g 8 0 = 0) : Met l yX5_init (.code yX5_init cX5_init 1 (Option.none : Option Jvm.ClassFile.FieldType) :: AL) ({ frames := 1, cells := 5, slots := 5650, locals := 12 }) (PCx dC dI dA sz ((h0, .inr (5, dv_X5)) :: X) Γ g [.ref h0]) (va_Qv (fun (u : (ty_G × gh)) => ext Γ u.1 ∧ Un u.1 ∧ tyIn u.1 ((8, 0) :: ((27, 0) :: ((22, 0) :: ((21, 0) :: ((20, 0) :: ((19, 0) :: L)))))) ∧ (u.1 h0).1 = 8 ∧ u.2 = g) (okB dC dI dA sz X) (ty_A sz)) 5 5650 (ty_A sz) := by
  refine Met.ofW (cc := cX5_init) (maxL := 1) (ret := (Option.none : Option Jvm.ClassFile.FieldType)) (by decide) rfl ?_
  intro p e s m args below meth c s₁ B hml hv
  obtain ⟨rfl, hG, hE⟩ := hv
  have hx := B.exec
  have hb := B.bytes
  have hr := B.returns
  have hts := atoms_spec B.pre
  have hA : ∀ w ∈ AL, w.before _ s = true := fun w h => hts w (List.mem_cons_of_mem _ h)
  have hown : s.vm.findClass RX5 = some m.cls := findClass_of_methodNamed B.named
  have hlocks := B.notSynchronized
  have hin : meth.name = "<init>" := (name_of_methodNamed B.named B.method).1
  have hS : va_S (ty_A sz) s.heap s.heap [] := va_S.rf
  have hl := lv_entry ([.ref h0]) (n := 1) (Nat.le_of_ble_eq_true rfl)
  rw [lg_entry_eq]
  generalize (lg_sl ([.ref h0]) ++ List.replicate (1 - (lg_sl ([.ref h0])).length) Slot.unset).toArray = ls at hl ⊢
  have hl : lv_has ls 1 [(0, .ref h0)] := hl
  refine lv_aload_n hx hb dX5_init_0 rfl (lv_at hl 0 rfl) ?_
  refine W.objInit hx hb hown (hA _ wd_1_105) (hA _ wd_1_28) (hA _ wd_1_29) rfl (by rw [hml]; exact hl.1) rfl dX5_init_1 (Nat.le_of_ble_eq_true rfl) (Nat.le_of_ble_eq_true rfl) ?_
  refine W.eq (g2 := F0 m 4 ls []) rfl ?_
  refine lv_aload_n hx hb dX5_init_4 rfl (lv_at hl 0 rfl) ?_
  refine ty_bipush hx hb (9) dX5_init_5 (by decide) (fun x1 h2 => ?_)
  refine new_R6 hx hb hA hE hG hS hown wd_1_106 (N := 9) (by omega) (by decide) (Nat.le_of_ble_eq_true rfl) (Nat.le_of_ble_eq_true rfl) (19, 0) (fun Γ' => by rw [TP_19 rfl]; exact ⟨_, rfl, fun j hj => ⟨fun _ => (by exact z46 _), fun b h => (by cases h)⟩⟩) dX5_init_7 (fun q3 H (z_q3 : ty Γ q3 0) s_q3 e_q3 hG hS => ?_)
  obtain ⟨Γ4, eΓ4⟩ : ∃ z, z = va_up Γ q3 (19, 0) := ⟨_, rfl⟩
  rw [← eΓ4] at hG
  have hx5 : ext Γ Γ4 := by rw [eΓ4]; exact ext.up z_q3
  have hU : Un Γ4 := by rw [eΓ4]; exact Un.up hU hL (by show (19 : Nat) ≠ 0; decide) (fun _ => (hn 19 (by decide))) (fun h => absurd (show sg2 19 = true from h) (by decide))
  have hL6 : tyIn Γ4 ((19, 0) :: L) := by rw [eΓ4]; exact hL.up
  have hX7 : ext Γ Γ4 := ext.trans ext.rf hx5
  have t_q3 : ty Γ4 q3 19 := by rw [eΓ4]; unfold ty; rw [va_up_self]
  clear z_q3 s_q3 e_q3
  refine rw_X5 hx hb hA hE hG hS hown hin rfl 0 (by decide) wd_1_107 rfl (ty := .array (.object "WeekBank$Gift")) (tyX5_ok 0 (by decide)) rfl rfl (Nat.le_of_ble_eq_true rfl) dX5_init_10 (fun H locs hG hS => ?_)
  replace hG : ty_ok (dC, dI) vwCl Γ4 (TP dA Γ4 g) sz ((h0, .inr (5, [.ref q3, .int 0, .null, .null, .null, .null, .int 0])) :: X) H := hG
  refine lv_aload_n hx hb dX5_init_13 rfl (lv_at hl 0 rfl) ?_
  refine ty_iconst hx hb (0) dX5_init_14 (by decide) (fun x8 h9 => ?_)
  refine rw_X5 hx hb hA hE hG hS hown hin rfl 1 (by decide) wd_1_108 rfl (ty := .int) (tyX5_ok 1 (by decide)) rfl rfl (Nat.le_of_ble_eq_true rfl) dX5_init_15 (fun H locs hG hS => ?_)
  replace hG : ty_ok (dC, dI) vwCl Γ4 (TP dA Γ4 g) sz ((h0, .inr (5, [.ref q3, .int x8, .null, .null, .null, .null, .int 0])) :: X) H := hG
  refine lv_aload_n hx hb dX5_init_18 rfl (lv_at hl 0 rfl) ?_
  refine ty_bipush hx hb (9) dX5_init_19 (by decide) (fun x10 h11 => ?_)
  refine new_I hx hb hA hE hG hS wd_1_70 (N := 9) (by omega) (by decide) (Nat.le_of_ble_eq_true rfl) (Nat.le_of_ble_eq_true rfl) (20, 0) (fun Γ' => by rw [TP_20 rfl]; exact ⟨_, rfl, fun j hj => (by exact (zg 83 _ (by decide)).symm)⟩) dX5_init_21 (fun q12 H z_q12 s_q12 e_q12 hG hS => ?_)
  obtain ⟨Γ13, eΓ13⟩ : ∃ z, z = va_up Γ4 q12 (20, 0) := ⟨_, rfl⟩
  rw [← eΓ13] at hG
  have hx14 : ext Γ4 Γ13 := by rw [eΓ13]; exact ext.up z_q12
  have hU : Un Γ13 := by rw [eΓ13]; exact Un.up hU hL6 (by show (20 : Nat) ≠ 0; decide) (fun _ => (nmap (by show (20 : Nat) ≠ 19; decide) (hn 20 (by decide)))) (fun h => absurd (show sg2 20 = true from h) (by decide))
  have hL15 : tyIn Γ13 ((20, 0) :: ((19, 0) :: L)) := by rw [eΓ13]; exact hL6.up
  have hX16 : ext Γ Γ13 := ext.trans hX7 hx14
  replace t_q3 : ty Γ13 q3 19 := hx14.one t_q3 (by decide)
  have t_q12 : ty Γ13 q12 20 := by rw [eΓ13]; unfold ty; rw [va_up_self]
  clear z_q12 s_q12 e_q12
  refine rw_X5 hx hb hA hE hG hS hown hin rfl 2 (by decide) wd_1_109 rfl (ty := .array .int) (tyX5_ok 2 (by decide)) rfl rfl (Nat.le_of_ble_eq_true rfl) dX5_init_23 (fun H locs hG hS => ?_)
  replace hG : ty_ok (dC, dI) vwCl Γ13 (TP dA Γ13 g) sz ((h0, .inr (5, [.ref q3, .int x8, .ref q12, .null, .null, .null, .int 0])) :: X) H := hG
  refine lv_aload_n hx hb dX5_init_26 rfl (lv_at hl 0 rfl) ?_
  refine ty_sipush hx hb (4608) dX5_init_27 (by decide) (fun x17 h18 => ?_)
  refine new_I hx hb hA hE hG hS wd_1_70 (N := 4608) (by omega) (by decide) (Nat.le_of_ble_eq_true rfl) (Nat.le_of_ble_eq_true rfl) (21, 0) (fun Γ' => by rw [TP_21 rfl]; exact ⟨_, rfl, fun j hj => (by exact (zg 84 _ (by decide)).symm)⟩) dX5_init_30 (fun q19 H z_q19 s_q19 e_q19 hG hS => ?_)
  obtain ⟨Γ20, eΓ20⟩ : ∃ z, z = va_up Γ13 q19 (21, 0) := ⟨_, rfl⟩
  rw [← eΓ20] at hG
  have hx21 : ext Γ13 Γ20 := by rw [eΓ20]; exact ext.up z_q19
  have hU : Un Γ20 := by rw [eΓ20]; exact Un.up hU hL15 (by show (21 : Nat) ≠ 0; decide) (fun _ => (nmap (by show (21 : Nat) ≠ 20; decide) (nmap (by show (21 : Nat) ≠ 19; decide) (hn 21 (by decide))))) (fun h => absurd (show sg2 21 = true from h) (by decide))
  have hL22 : tyIn Γ20 ((21, 0) :: ((20, 0) :: ((19, 0) :: L))) := by rw [eΓ20]; exact hL15.up
  have hX23 : ext Γ Γ20 := ext.trans hX16 hx21
  replace t_q3 : ty Γ20 q3 19 := hx21.one t_q3 (by decide)
  replace t_q12 : ty Γ20 q12 20 := hx21.one t_q12 (by decide)
  have t_q19 : ty Γ20 q19 21 := by rw [eΓ20]; unfold ty; rw [va_up_self]
  clear z_q19 s_q19 e_q19
  refine rw_X5 hx hb hA hE hG hS hown hin rfl 3 (by decide) wd_1_110 rfl (ty := .array .int) (tyX5_ok 3 (by decide)) rfl rfl (Nat.le_of_ble_eq_true rfl) dX5_init_32 (fun H locs hG hS => ?_)
  replace hG : ty_ok (dC, dI) vwCl Γ20 (TP dA Γ20 g) sz ((h0, .inr (5, [.ref q3, .int x8, .ref q12, .ref q19, .null, .null, .int 0])) :: X) H := hG
  refine lv_aload_n hx hb dX5_init_35 rfl (lv_at hl 0 rfl) ?_
  refine ty_sipush hx hb (512) dX5_init_36 (by decide) (fun x24 h25 => ?_)
  refine new_I hx hb hA hE hG hS wd_1_70 (N := 512) (by omega) (by decide) (Nat.le_of_ble_eq_true rfl) (Nat.le_of_ble_eq_true rfl) (22, 0) (fun Γ' => by rw [TP_22 rfl]; exact ⟨_, rfl, fun j hj => (by exact (zg 85 _ (by decide)).symm)⟩) dX5_init_39 (fun q26 H z_q26 s_q26 e_q26 hG hS => ?_)
  obtain ⟨Γ27, eΓ27⟩ : ∃ z, z = va_up Γ20 q26 (22, 0) := ⟨_, rfl⟩
  rw [← eΓ27] at hG
  have hx28 : ext Γ20 Γ27 := by rw [eΓ27]; exact ext.up z_q26
  have hU : Un Γ27 := by rw [eΓ27]; exact Un.up hU hL22 (by show (22 : Nat) ≠ 0; decide) (fun _ => (nmap (by show (22 : Nat) ≠ 21; decide) (nmap (by show (22 : Nat) ≠ 20; decide) (nmap (by show (22 : Nat) ≠ 19; decide) (hn 22 (by decide)))))) (fun h => absurd (show sg2 22 = true from h) (by decide))
  have hL29 : tyIn Γ27 ((22, 0) :: ((21, 0) :: ((20, 0) :: ((19, 0) :: L)))) := by rw [eΓ27]; exact hL22.up
  have hX30 : ext Γ Γ27 := ext.trans hX23 hx28
  replace t_q3 : ty Γ27 q3 19 := hx28.one t_q3 (by decide)
  replace t_q12 : ty Γ27 q12 20 := hx28.one t_q12 (by decide)
  replace t_q19 : ty Γ27 q19 21 := hx28.one t_q19 (by decide)
  have t_q26 : ty Γ27 q26 22 := by rw [eΓ27]; unfold ty; rw [va_up_self]
  clear z_q26 s_q26 e_q26
  refine rw_X5 hx hb hA hE hG hS hown hin rfl 4 (by decide) wd_1_111 rfl (ty := .array .int) (tyX5_ok 4 (by decide)) rfl rfl (Nat.le_of_ble_eq_true rfl) dX5_init_41 (fun H locs hG hS => ?_)
  replace hG : ty_ok (dC, dI) vwCl Γ27 (TP dA Γ27 g) sz ((h0, .inr (5, [.ref q3, .int x8, .ref q12, .ref q19, .ref q26, .null, .int 0])) :: X) H := hG
  refine lv_aload_n hx hb dX5_init_44 rfl (lv_at hl 0 rfl) ?_
  refine ty_sipush hx hb (512) dX5_init_45 (by decide) (fun x31 h32 => ?_)
  refine new_I hx hb hA hE hG hS wd_1_70 (N := 512) (by omega) (by decide) (Nat.le_of_ble_eq_true rfl) (Nat.le_of_ble_eq_true rfl) (27, 0) (fun Γ' => by rw [TP_27 rfl]; exact ⟨_, rfl, fun j hj => (by exact (zg 86 _ (by decide)).symm)⟩) dX5_init_48 (fun q33 H z_q33 s_q33 e_q33 hG hS => ?_)
  obtain ⟨Γ34, eΓ34⟩ : ∃ z, z = va_up Γ27 q33 (27, 0) := ⟨_, rfl⟩
  rw [← eΓ34] at hG
  have hx35 : ext Γ27 Γ34 := by rw [eΓ34]; exact ext.up z_q33
  have hU : Un Γ34 := by rw [eΓ34]; exact Un.up hU hL29 (by show (27 : Nat) ≠ 0; decide) (fun _ => (nmap (by show (27 : Nat) ≠ 22; decide) (nmap (by show (27 : Nat) ≠ 21; decide) (nmap (by show (27 : Nat) ≠ 20; decide) (nmap (by show (27 : Nat) ≠ 19; decide) (hn 27 (by decide))))))) (fun h => absurd (show sg2 27 = true from h) (by decide))
  have hL36 : tyIn Γ34 ((27, 0) :: ((22, 0) :: ((21, 0) :: ((20, 0) :: ((19, 0) :: L))))) := by rw [eΓ34]; exact hL29.up
  have hX37 : ext Γ Γ34 := ext.trans hX30 hx35
  replace t_q3 : ty Γ34 q3 19 := hx35.one t_q3 (by decide)
  replace t_q12 : ty Γ34 q12 20 := hx35.one t_q12 (by decide)
  replace t_q19 : ty Γ34 q19 21 := hx35.one t_q19 (by decide)
  replace t_q26 : ty Γ34 q26 22 := hx35.one t_q26 (by decide)
  have t_q33 : ty Γ34 q33 27 := by rw [eΓ34]; unfold ty; rw [va_up_self]
  clear z_q33 s_q33 e_q33
  refine rw_X5 hx hb hA hE hG hS hown hin rfl 5 (by decide) wd_1_112 rfl (ty := .array .int) (tyX5_ok 5 (by decide)) rfl rfl (Nat.le_of_ble_eq_true rfl) dX5_init_50 (fun H locs hG hS => ?_)
  replace hG : ty_ok (dC, dI) vwCl Γ34 (TP dA Γ34 g) sz ((h0, .inr (5, [.ref q3, .int x8, .ref q12, .ref q19, .ref q26, .ref q33, .int 0])) :: X) H := hG
  refine lv_aload_n hx hb dX5_init_53 rfl (lv_at hl 0 rfl) ?_
  refine ty_iconst hx hb (0) dX5_init_54 (by decide) (fun x38 h39 => ?_)
  refine rw_X5 hx hb hA hE hG hS hown hin rfl 6 (by decide) wd_1_113 rfl (ty := .int) (tyX5_ok 6 (by decide)) rfl rfl (Nat.le_of_ble_eq_true rfl) dX5_init_55 (fun H locs hG hS => ?_)
  replace hG : ty_ok (dC, dI) vwCl Γ34 (TP dA Γ34 g) sz ((h0, .inr (5, [.ref q3, .int x8, .ref q12, .ref q19, .ref q26, .ref q33, .int x38])) :: X) H := hG
  have z_own : ty Γ34 h0 0 := (hG.2.2.2 _ List.mem_cons_self).2.1
  have hx40 : ext Γ34 (va_up Γ34 h0 (8, 0)) := ext.up z_own
  have hG := tp_adopt (t := (8, 0)) hG (by rw [TP_8 rfl]; exact ⟨_, rfl, rfl, fun k hk => match k, hk with
        | 0, _ => ⟨_, rfl, hx40.one t_q3 (by decide)⟩
        | 1, _ => ⟨_, rfl, by omega⟩
        | 2, _ => ⟨_, rfl, hx40.one t_q12 (by decide)⟩
        | 3, _ => ⟨_, rfl, hx40.one t_q19 (by decide)⟩
        | 4, _ => ⟨_, rfl, hx40.one t_q26 (by decide)⟩
        | 5, _ => ⟨_, rfl, hx40.one t_q33 (by decide)⟩
        | 6, _ => ⟨_, rfl, by omega⟩
      ⟩)
  obtain ⟨Γ41, eΓ41⟩ : ∃ z, z = va_up Γ34 h0 (8, 0) := ⟨_, rfl⟩
  rw [← eΓ41] at hG
  have hx42 : ext Γ34 Γ41 := by rw [eΓ41]; exact ext.up z_own
  have hU : Un Γ41 := by rw [eΓ41]; exact Un.up hU hL36 (by show (8 : Nat) ≠ 0; decide) (fun _ => (nmap (by show (8 : Nat) ≠ 27; decide) (nmap (by show (8 : Nat) ≠ 22; decide) (nmap (by show (8 : Nat) ≠ 21; decide) (nmap (by show (8 : Nat) ≠ 20; decide) (nmap (by show (8 : Nat) ≠ 19; decide) (hn 8 (by decide)))))))) (fun h => absurd (show sg2 8 = true from h) (by decide))
  have hL43 : tyIn Γ41 ((8, 0) :: ((27, 0) :: ((22, 0) :: ((21, 0) :: ((20, 0) :: ((19, 0) :: L)))))) := by rw [eΓ41]; exact hL36.up
  have hX44 : ext Γ Γ41 := ext.trans hX37 hx42
  replace t_q3 : ty Γ41 q3 19 := hx42.one t_q3 (by decide)
  replace t_q12 : ty Γ41 q12 20 := hx42.one t_q12 (by decide)
  replace t_q19 : ty Γ41 q19 21 := hx42.one t_q19 (by decide)
  replace t_q26 : ty Γ41 q26 22 := hx42.one t_q26 (by decide)
  replace t_q33 : ty Γ41 q33 27 := hx42.one t_q33 (by decide)
  have t_h0 : ty Γ41 h0 8 := by rw [eΓ41]; unfold ty; rw [va_up_self]
  clear z_own
  refine W.widen (k := 5) (n := 5650) (by omega) (by omega) ?_
  exact W.vret hx hb hr (fun t ht hW => ⟨⟨(Γ41, g), rfl, ⟨hX44, hU, hL43, t_h0, rfl⟩, ok2 ht hG⟩, hS.F ht⟩) hS.2.2 dX5_init_58

set_option maxHeartbeats 4000000 in
set_option maxRecDepth 100000 in
/-- WeekBank$FeeRounds.<init>:  -/
theorem k_X0_init (l : Launch) (dC : Nat → ClassId) (dI : Nat → Nat → Nat) (dA : Nat → ClassId) (sz : Nat) (X : va_W) (Γ : ty_G) (hU : Un Γ) (g : gh) (h0 : Nat) (L : List ty_N) (hL : tyIn Γ L) (hn : ∀ t ∈ ([9] : List Nat), t ∉ L.map Prod.fst) (z1 : g 30 0 = 0 ∧ g 31 0 = 0 ∧ g 32 0 = 0) : Met l yX0_init (.code yX0_init cX0_init 1 (Option.none : Option Jvm.ClassFile.FieldType) :: AL) ({ frames := 1, cells := 3, slots := 30, locals := 12 }) (PCx dC dI dA sz ((h0, .inr (0, dv_X0)) :: X) Γ g [.ref h0]) (va_Qv (fun (u : (ty_G × gh)) => ext Γ u.1 ∧ Un u.1 ∧ tyIn u.1 ((9, 0) :: ((24, 0) :: ((23, 0) :: ((23, 0) :: L)))) ∧ (u.1 h0).1 = 9 ∧ u.2 = g) (okB dC dI dA sz X) (ty_A sz)) 3 30 (ty_A sz) := by
  refine Met.ofW (cc := cX0_init) (maxL := 1) (ret := (Option.none : Option Jvm.ClassFile.FieldType)) (by decide) rfl ?_
  intro p e s m args below meth c s₁ B hml hv
  obtain ⟨rfl, hG, hE⟩ := hv
  have hx := B.exec
  have hb := B.bytes
  have hr := B.returns
  have hts := atoms_spec B.pre
  have hA : ∀ w ∈ AL, w.before _ s = true := fun w h => hts w (List.mem_cons_of_mem _ h)
  have hown : s.vm.findClass RX0 = some m.cls := findClass_of_methodNamed B.named
  have hlocks := B.notSynchronized
  have hin : meth.name = "<init>" := (name_of_methodNamed B.named B.method).1
  have hS : va_S (ty_A sz) s.heap s.heap [] := va_S.rf
  have hl := lv_entry ([.ref h0]) (n := 1) (Nat.le_of_ble_eq_true rfl)
  rw [lg_entry_eq]
  generalize (lg_sl ([.ref h0]) ++ List.replicate (1 - (lg_sl ([.ref h0])).length) Slot.unset).toArray = ls at hl ⊢
  have hl : lv_has ls 1 [(0, .ref h0)] := hl
  refine lv_aload_n hx hb dX0_init_0 rfl (lv_at hl 0 rfl) ?_
  refine W.objInit hx hb hown (hA _ wd_1_134) (hA _ wd_1_28) (hA _ wd_1_29) rfl (by rw [hml]; exact hl.1) rfl dX0_init_1 (Nat.le_of_ble_eq_true rfl) (Nat.le_of_ble_eq_true rfl) ?_
  refine W.eq (g2 := F0 m 4 ls []) rfl ?_
  refine lv_aload_n hx hb dX0_init_4 rfl (lv_at hl 0 rfl) ?_
  refine ty_bipush hx hb (10) dX0_init_5 (by decide) (fun x1 h2 => ?_)
  refine new_I hx hb hA hE hG hS wd_1_70 (N := 10) (by omega) (by decide) (Nat.le_of_ble_eq_true rfl) (Nat.le_of_ble_eq_true rfl) (23, 0) (fun Γ' => by rw [TP_23 rfl]; exact ⟨_, rfl, trivial⟩) dX0_init_7 (fun q3 H z_q3 s_q3 e_q3 hG hS => ?_)
  obtain ⟨Γ4, eΓ4⟩ : ∃ z, z = va_up Γ q3 (23, 0) := ⟨_, rfl⟩
  rw [← eΓ4] at hG
  have hx5 : ext Γ Γ4 := by rw [eΓ4]; exact ext.up z_q3
  have hU : Un Γ4 := by rw [eΓ4]; exact Un.up0 hU rfl rfl
  have hL6 : tyIn Γ4 ((23, 0) :: L) := by rw [eΓ4]; exact hL.up
  have hX7 : ext Γ Γ4 := ext.trans ext.rf hx5
  have t_q3 : ty Γ4 q3 23 := by rw [eΓ4]; unfold ty; rw [va_up_self]
  clear z_q3 s_q3 e_q3
  refine rw_X0 hx hb hA hE hG hS hown hin rfl 0 (by decide) wd_1_135 rfl (ty := .array .int) (tyX0_ok 0 (by decide)) rfl rfl (Nat.le_of_ble_eq_true rfl) dX0_init_9 (fun H locs hG hS => ?_)
  replace hG : ty_ok (dC, dI) vwCl Γ4 (TP dA Γ4 g) sz ((h0, .inr (0, [.ref q3, .null, .null, .int 0, .int 0, .int 0])) :: X) H := hG
  refine lv_aload_n hx hb dX0_init_12 rfl (lv_at hl 0 rfl) ?_
  refine ty_bipush hx hb (10) dX0_init_13 (by decide) (fun x8 h9 => ?_)
  refine new_I hx hb hA hE hG hS wd_1_70 (N := 10) (by omega) (by decide) (Nat.le_of_ble_eq_true rfl) (Nat.le_of_ble_eq_true rfl) (23, 0) (fun Γ' => by rw [TP_23 rfl]; exact ⟨_, rfl, trivial⟩) dX0_init_15 (fun q10 H z_q10 s_q10 e_q10 hG hS => ?_)
  obtain ⟨Γ11, eΓ11⟩ : ∃ z, z = va_up Γ4 q10 (23, 0) := ⟨_, rfl⟩
  rw [← eΓ11] at hG
  have hx12 : ext Γ4 Γ11 := by rw [eΓ11]; exact ext.up z_q10
  have hU : Un Γ11 := by rw [eΓ11]; exact Un.up0 hU rfl rfl
  have hL13 : tyIn Γ11 ((23, 0) :: ((23, 0) :: L)) := by rw [eΓ11]; exact hL6.up
  have hX14 : ext Γ Γ11 := ext.trans hX7 hx12
  replace t_q3 : ty Γ11 q3 23 := hx12.one t_q3 (by decide)
  have t_q10 : ty Γ11 q10 23 := by rw [eΓ11]; unfold ty; rw [va_up_self]
  clear z_q10 s_q10 e_q10
  refine rw_X0 hx hb hA hE hG hS hown hin rfl 1 (by decide) wd_1_136 rfl (ty := .array .int) (tyX0_ok 1 (by decide)) rfl rfl (Nat.le_of_ble_eq_true rfl) dX0_init_17 (fun H locs hG hS => ?_)
  replace hG : ty_ok (dC, dI) vwCl Γ11 (TP dA Γ11 g) sz ((h0, .inr (0, [.ref q3, .ref q10, .null, .int 0, .int 0, .int 0])) :: X) H := hG
  refine lv_aload_n hx hb dX0_init_20 rfl (lv_at hl 0 rfl) ?_
  refine ty_bipush hx hb (10) dX0_init_21 (by decide) (fun x15 h16 => ?_)
  refine new_Z hx hb hA hE hG hS wd_1_156 (N := 10) (by omega) (by decide) (Nat.le_of_ble_eq_true rfl) (Nat.le_of_ble_eq_true rfl) (24, 0) (fun Γ' => by rw [TP_24 rfl]; exact ⟨_, rfl, fun j hj => Or.inl rfl⟩) dX0_init_23 (fun q17 H z_q17 s_q17 e_q17 hG hS => ?_)
  obtain ⟨Γ18, eΓ18⟩ : ∃ z, z = va_up Γ11 q17 (24, 0) := ⟨_, rfl⟩
  rw [← eΓ18] at hG
  have hx19 : ext Γ11 Γ18 := by rw [eΓ18]; exact ext.up z_q17
  have hU : Un Γ18 := by rw [eΓ18]; exact Un.up0 hU rfl rfl
  have hL20 : tyIn Γ18 ((24, 0) :: ((23, 0) :: ((23, 0) :: L))) := by rw [eΓ18]; exact hL13.up
  have hX21 : ext Γ Γ18 := ext.trans hX14 hx19
  replace t_q3 : ty Γ18 q3 23 := hx19.one t_q3 (by decide)
  replace t_q10 : ty Γ18 q10 23 := hx19.one t_q10 (by decide)
  have t_q17 : ty Γ18 q17 24 := by rw [eΓ18]; unfold ty; rw [va_up_self]
  clear z_q17 s_q17 e_q17
  refine rw_X0 hx hb hA hE hG hS hown hin rfl 2 (by decide) wd_1_137 rfl (ty := .array .boolean) (tyX0_ok 2 (by decide)) rfl rfl (Nat.le_of_ble_eq_true rfl) dX0_init_25 (fun H locs hG hS => ?_)
  replace hG : ty_ok (dC, dI) vwCl Γ18 (TP dA Γ18 g) sz ((h0, .inr (0, [.ref q3, .ref q10, .ref q17, .int 0, .int 0, .int 0])) :: X) H := hG
  refine lv_aload_n hx hb dX0_init_28 rfl (lv_at hl 0 rfl) ?_
  refine ty_iconst hx hb (0) dX0_init_29 (by decide) (fun x22 h23 => ?_)
  refine rw_X0 hx hb hA hE hG hS hown hin rfl 3 (by decide) wd_1_138 rfl (ty := .int) (tyX0_ok 3 (by decide)) rfl rfl (Nat.le_of_ble_eq_true rfl) dX0_init_30 (fun H locs hG hS => ?_)
  replace hG : ty_ok (dC, dI) vwCl Γ18 (TP dA Γ18 g) sz ((h0, .inr (0, [.ref q3, .ref q10, .ref q17, .int x22, .int 0, .int 0])) :: X) H := hG
  refine lv_aload_n hx hb dX0_init_33 rfl (lv_at hl 0 rfl) ?_
  refine ty_iconst hx hb (0) dX0_init_34 (by decide) (fun x24 h25 => ?_)
  refine rw_X0 hx hb hA hE hG hS hown hin rfl 4 (by decide) wd_1_139 rfl (ty := .int) (tyX0_ok 4 (by decide)) rfl rfl (Nat.le_of_ble_eq_true rfl) dX0_init_35 (fun H locs hG hS => ?_)
  replace hG : ty_ok (dC, dI) vwCl Γ18 (TP dA Γ18 g) sz ((h0, .inr (0, [.ref q3, .ref q10, .ref q17, .int x22, .int x24, .int 0])) :: X) H := hG
  refine lv_aload_n hx hb dX0_init_38 rfl (lv_at hl 0 rfl) ?_
  refine ty_iconst hx hb (0) dX0_init_39 (by decide) (fun x26 h27 => ?_)
  refine rw_X0 hx hb hA hE hG hS hown hin rfl 5 (by decide) wd_1_141 rfl (ty := .int) (tyX0_ok 5 (by decide)) rfl rfl (Nat.le_of_ble_eq_true rfl) dX0_init_40 (fun H locs hG hS => ?_)
  replace hG : ty_ok (dC, dI) vwCl Γ18 (TP dA Γ18 g) sz ((h0, .inr (0, [.ref q3, .ref q10, .ref q17, .int x22, .int x24, .int x26])) :: X) H := hG
  have z_own : ty Γ18 h0 0 := (hG.2.2.2 _ List.mem_cons_self).2.1
  have hx28 : ext Γ18 (va_up Γ18 h0 (9, 0)) := ext.up z_own
  have hG := tp_adopt (t := (9, 0)) hG (by rw [TP_9 rfl]; exact ⟨_, rfl, rfl, fun k hk => match k, hk with
        | 0, _ => ⟨_, rfl, hx28.one t_q3 (by decide)⟩
        | 1, _ => ⟨_, rfl, hx28.one t_q10 (by decide)⟩
        | 2, _ => ⟨_, rfl, hx28.one t_q17 (by decide)⟩
        | 3, _ => ⟨_, rfl, by omega⟩
        | 4, _ => ⟨_, rfl, by omega⟩
        | 5, _ => ⟨_, rfl, by omega⟩
      ⟩)
  obtain ⟨Γ29, eΓ29⟩ : ∃ z, z = va_up Γ18 h0 (9, 0) := ⟨_, rfl⟩
  rw [← eΓ29] at hG
  have hx30 : ext Γ18 Γ29 := by rw [eΓ29]; exact ext.up z_own
  have hU : Un Γ29 := by rw [eΓ29]; exact Un.up hU hL20 (by show (9 : Nat) ≠ 0; decide) (fun _ => (nmap (by show (9 : Nat) ≠ 24; decide) (nmap (by show (9 : Nat) ≠ 23; decide) (nmap (by show (9 : Nat) ≠ 23; decide) (hn 9 (by decide)))))) (fun h => absurd (show sg2 9 = true from h) (by decide))
  have hL31 : tyIn Γ29 ((9, 0) :: ((24, 0) :: ((23, 0) :: ((23, 0) :: L)))) := by rw [eΓ29]; exact hL20.up
  have hX32 : ext Γ Γ29 := ext.trans hX21 hx30
  replace t_q3 : ty Γ29 q3 23 := hx30.one t_q3 (by decide)
  replace t_q10 : ty Γ29 q10 23 := hx30.one t_q10 (by decide)
  replace t_q17 : ty Γ29 q17 24 := hx30.one t_q17 (by decide)
  have t_h0 : ty Γ29 h0 9 := by rw [eΓ29]; unfold ty; rw [va_up_self]
  clear z_own
  refine W.widen (k := 3) (n := 30) (by omega) (by omega) ?_
  exact W.vret hx hb hr (fun t ht hW => ⟨⟨(Γ29, g), rfl, ⟨hX32, hU, hL31, t_h0, rfl⟩, ok2 ht hG⟩, hS.F ht⟩) hS.2.2 dX0_init_43
