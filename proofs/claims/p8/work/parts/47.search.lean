set_option maxHeartbeats 4000000 in
set_option maxRecDepth 100000 in
/-- java/lang/Integer.bitCount:  -/
theorem k_bitCount (l : Launch) (dC : Nat → ClassId) (dI : Nat → Nat → Nat) (dA : Nat → ClassId) (sz : Nat) (X : va_W) (Γ : ty_G) (hU : Un Γ) (g : gh) (p0 : Int32) : Met l yJ6_bitCount_0f7a4 (.code yJ6_bitCount_0f7a4 cJ6_bitCount_0f7a4 1 (Option.some Jvm.ClassFile.FieldType.int) :: AL) ({ frames := 0, cells := 0, slots := 0, locals := 0 }) (PCx dC dI dA sz X Γ g [.int p0]) (va_Qi (fun (r : Int32) (u : gh) => u = g ∧ ((0 ≤ r.toInt ∧ r.toInt ≤ 63))) (okb dC dI dA sz X Γ) (ty_A sz)) 0 0 (ty_A sz) := by
  refine Met.ofW (cc := cJ6_bitCount_0f7a4) (maxL := 1) (ret := (Option.some Jvm.ClassFile.FieldType.int)) (by decide) rfl ?_
  intro p e s m args below meth c s₁ B hml hv
  obtain ⟨rfl, hG, hE⟩ := hv
  have hx := B.exec
  have hb := B.bytes
  have hr := B.returns
  have hts := atoms_spec B.pre
  have hA : ∀ w ∈ AL, w.before _ s = true := fun w h => hts w (List.mem_cons_of_mem _ h)
  have hown : s.vm.findClass RJ6 = some m.cls := findClass_of_methodNamed B.named
  have hlocks := B.notSynchronized
  have hS : va_S (ty_A sz) s.heap s.heap [] := va_S.rf
  have hl := lv_entry ([.int p0]) (n := 1) (Nat.le_of_ble_eq_true rfl)
  rw [lg_entry_eq]
  generalize (lg_sl ([.int p0]) ++ List.replicate (1 - (lg_sl ([.int p0])).length) Slot.unset).toArray = ls at hl ⊢
  have hl : lv_has ls 1 [(0, .int p0)] := hl
  refine lv_iload_n hx hb dJ6_bitCount_0f7a4_0 rfl (lv_at hl 0 rfl) ?_
  refine lv_iload_n hx hb dJ6_bitCount_0f7a4_1 rfl (lv_at hl 0 rfl) ?_
  refine ty_iconst hx hb (1) dJ6_bitCount_0f7a4_2 (by decide) (fun x1 h2 => ?_)
  refine lv_iushr hx hb dJ6_bitCount_0f7a4_3 rfl ?_
  refine lv_topi (fun x3 h4 => ?_)
  refine ty_ldc_w hx hb (1431655765) hown (hA _ wd_3_146) dJ6_bitCount_0f7a4_4 (by decide) (fun x5 h6 => ?_)
  refine ty_iand hx hb dJ6_bitCount_0f7a4_7 (fun x7 h8 => ?_)
  have h9 := and_ler h8 (by omega)
  refine ty_isub hx hb dJ6_bitCount_0f7a4_8 (fun x10 h11 => ?_)
  try have h12 : x10.toInt = p0.toInt - x7.toInt := ty_sub h11 (by omega) (by omega)
  refine lv_istore_n (lv' := [(0, .int x10)]) hx hb dJ6_bitCount_0f7a4_9 rfl hl (by decide) rfl (fun ls hl => ?_)
  refine lv_iload_n hx hb dJ6_bitCount_0f7a4_10 rfl (lv_at hl 0 rfl) ?_
  refine ty_ldc_w hx hb (858993459) hown (hA _ wd_3_147) dJ6_bitCount_0f7a4_11 (by decide) (fun x13 h14 => ?_)
  refine ty_iand hx hb dJ6_bitCount_0f7a4_14 (fun x15 h16 => ?_)
  have h17 := and_ler h16 (by omega)
  refine lv_iload_n hx hb dJ6_bitCount_0f7a4_15 rfl (lv_at hl 0 rfl) ?_
  refine ty_iconst hx hb (2) dJ6_bitCount_0f7a4_16 (by decide) (fun x18 h19 => ?_)
  refine lv_iushr hx hb dJ6_bitCount_0f7a4_17 rfl ?_
  refine lv_topi (fun x20 h21 => ?_)
  refine ty_ldc_w hx hb (858993459) hown (hA _ wd_3_147) dJ6_bitCount_0f7a4_18 (by decide) (fun x22 h23 => ?_)
  refine ty_iand hx hb dJ6_bitCount_0f7a4_21 (fun x24 h25 => ?_)
  have h26 := and_ler h25 (by omega)
  refine ty_iadd hx hb dJ6_bitCount_0f7a4_22 (fun x27 h28 => ?_)
  try have h29 : x27.toInt = x15.toInt + x24.toInt := ty_add h28 (by omega) (by omega)
  refine lv_istore_n (lv' := [(0, .int x27)]) hx hb dJ6_bitCount_0f7a4_23 rfl hl (by decide) rfl (fun ls hl => ?_)
  refine lv_iload_n hx hb dJ6_bitCount_0f7a4_24 rfl (lv_at hl 0 rfl) ?_
  refine lv_iload_n hx hb dJ6_bitCount_0f7a4_25 rfl (lv_at hl 0 rfl) ?_
  refine ty_iconst hx hb (4) dJ6_bitCount_0f7a4_26 (by decide) (fun x30 h31 => ?_)
  refine lv_iushr hx hb dJ6_bitCount_0f7a4_27 rfl ?_
  refine lv_topi (fun x32 h33 => ?_)
  refine ty_iadd hx hb dJ6_bitCount_0f7a4_28 (fun x34 h35 => ?_)
  try have h36 : x34.toInt = x27.toInt + x32.toInt := ty_add h35 (by omega) (by omega)
  refine ty_ldc_w hx hb (252645135) hown (hA _ wd_3_148) dJ6_bitCount_0f7a4_29 (by decide) (fun x37 h38 => ?_)
  refine ty_iand hx hb dJ6_bitCount_0f7a4_32 (fun x39 h40 => ?_)
  have h41 := and_ler h40 (by omega)
  refine lv_istore_n (lv' := [(0, .int x39)]) hx hb dJ6_bitCount_0f7a4_33 rfl hl (by decide) rfl (fun ls hl => ?_)
  refine lv_iload_n hx hb dJ6_bitCount_0f7a4_34 rfl (lv_at hl 0 rfl) ?_
  refine lv_iload_n hx hb dJ6_bitCount_0f7a4_35 rfl (lv_at hl 0 rfl) ?_
  refine ty_bipush hx hb (8) dJ6_bitCount_0f7a4_36 (by decide) (fun x42 h43 => ?_)
  refine lv_iushr hx hb dJ6_bitCount_0f7a4_38 rfl ?_
  refine lv_topi (fun x44 h45 => ?_)
  refine ty_iadd hx hb dJ6_bitCount_0f7a4_39 (fun x46 h47 => ?_)
  try have h48 : x46.toInt = x39.toInt + x44.toInt := ty_add h47 (by omega) (by omega)
  refine lv_istore_n (lv' := [(0, .int x46)]) hx hb dJ6_bitCount_0f7a4_40 rfl hl (by decide) rfl (fun ls hl => ?_)
  refine lv_iload_n hx hb dJ6_bitCount_0f7a4_41 rfl (lv_at hl 0 rfl) ?_
  refine lv_iload_n hx hb dJ6_bitCount_0f7a4_42 rfl (lv_at hl 0 rfl) ?_
  refine ty_bipush hx hb (16) dJ6_bitCount_0f7a4_43 (by decide) (fun x49 h50 => ?_)
  refine lv_iushr hx hb dJ6_bitCount_0f7a4_45 rfl ?_
  refine lv_topi (fun x51 h52 => ?_)
  refine ty_iadd hx hb dJ6_bitCount_0f7a4_46 (fun x53 h54 => ?_)
  try have h55 : x53.toInt = x46.toInt + x51.toInt := ty_add h54 (by omega) (by omega)
  refine lv_istore_n (lv' := [(0, .int x53)]) hx hb dJ6_bitCount_0f7a4_47 rfl hl (by decide) rfl (fun ls hl => ?_)
  refine lv_iload_n hx hb dJ6_bitCount_0f7a4_48 rfl (lv_at hl 0 rfl) ?_
  refine ty_bipush hx hb (63) dJ6_bitCount_0f7a4_49 (by decide) (fun x56 h57 => ?_)
  refine ty_iand hx hb dJ6_bitCount_0f7a4_51 (fun x58 h59 => ?_)
  have h60 := and_ler h59 (by omega)
  exact W.iret (v := x58) hx hb hr (fun t ht hW => ⟨⟨x58, g, rfl, ⟨rfl, (by omega)⟩, ok1 ht hG⟩, hS.F ht⟩) hS.2.2 dJ6_bitCount_0f7a4_52

set_option maxHeartbeats 4000000 in
set_option maxRecDepth 100000 in
/-- WeekBank$RingSearch.clear:  -/
theorem k_X5_clear (l : Launch) (dC : Nat → ClassId) (dI : Nat → Nat → Nat) (dA : Nat → ClassId) (sz : Nat) (X : va_W) (Γ : ty_G) (hU : Un Γ) (g : gh) (h0 : Nat) (t_h0 : ty Γ h0 8) : Met l yX5_clear (.code yX5_clear cX5_clear 1 (Option.none : Option Jvm.ClassFile.FieldType) :: AL) ({ frames := 0, cells := 0, slots := 0, locals := 0 }) (PCx dC dI dA sz X Γ g [.ref h0]) (va_Qv (fun (u : gh) => (∀ c j : Nat, c ≠ 7 → c ≠ 8 → u c j = g c j) ∧ ((u 7 0 = 0) ∧ (u 8 0 = 0))) (okb dC dI dA sz X Γ) (ty_A sz)) 0 0 (ty_A sz) := by
  refine Met.ofW (cc := cX5_clear) (maxL := 1) (ret := (Option.none : Option Jvm.ClassFile.FieldType)) (by decide) rfl ?_
  intro p e s m args below meth c s₁ B hml hv
  obtain ⟨rfl, hG, hE⟩ := hv
  have hx := B.exec
  have hb := B.bytes
  have hr := B.returns
  have hts := atoms_spec B.pre
  have hA : ∀ w ∈ AL, w.before _ s = true := fun w h => hts w (List.mem_cons_of_mem _ h)
  have hown : s.vm.findClass RX5 = some m.cls := findClass_of_methodNamed B.named
  have hlocks := B.notSynchronized
  have hS : va_S (ty_A sz) s.heap s.heap [] := va_S.rf
  have hl := lv_entry ([.ref h0]) (n := 1) (Nat.le_of_ble_eq_true rfl)
  rw [lg_entry_eq]
  generalize (lg_sl ([.ref h0]) ++ List.replicate (1 - (lg_sl ([.ref h0])).length) Slot.unset).toArray = ls at hl ⊢
  have hl : lv_has ls 1 [(0, .ref h0)] := hl
  refine lv_aload_n hx hb dX5_clear_0 rfl (lv_at hl 0 rfl) ?_
  refine ty_iconst hx hb (0) dX5_clear_1 (by decide) (fun x1 h2 => ?_)
  refine put_X5_1 hx hb hA hown hE hG hS hU t_h0 wd_1_108 dX5_clear_2 (fun H locs hG hS => ?_)
  refine lv_aload_n hx hb dX5_clear_5 rfl (lv_at hl 0 rfl) ?_
  refine ty_iconst hx hb (0) dX5_clear_6 (by decide) (fun x3 h4 => ?_)
  refine put_X5_6 hx hb hA hown hE hG hS hU t_h0 wd_1_113 dX5_clear_7 (fun H locs hG hS => ?_)
  have e5 : (gs (gs g 7 0 x1.toInt) 8 0 x3.toInt) 7 0 = x1.toInt := by simp [gs]
  have e6 : (gs (gs g 7 0 x1.toInt) 8 0 x3.toInt) 8 0 = x3.toInt := by simp [gs]
  exact W.vret hx hb hr (fun t ht hW => ⟨⟨(gs (gs g 7 0 x1.toInt) 8 0 x3.toInt), rfl, ⟨(fun c j h7 h8 => by rw [gs_c _ _ _ _ h8, gs_c _ _ _ _ h7]), (by omega)⟩, ok1 ht hG⟩, hS.F ht⟩) hS.2.2 dX5_clear_10

set_option maxHeartbeats 4000000 in
set_option maxRecDepth 100000 in
/-- WeekBank$RingSearch.add:  -/
theorem k_X5_add (l : Launch) (dC : Nat → ClassId) (dI : Nat → Nat → Nat) (dA : Nat → ClassId) (sz : Nat) (X : va_W) (Γ : ty_G) (hU : Un Γ) (g : gh) (h0 : Nat) (t_h0 : ty Γ h0 8) (p1 : Nat) (t_p1 : ty Γ p1 4) (hs : 0 ≤ g 7 0 ∧ g 7 0 ≤ g 36 0 ∧ g 36 0 ≤ 9) : Met l yX5_add (.code yX5_add cX5_add 2 (Option.none : Option Jvm.ClassFile.FieldType) :: AL) ({ frames := 0, cells := 0, slots := 0, locals := 0 }) (PCx dC dI dA sz X Γ g [.ref h0, .ref p1]) (va_Qv (fun (u : gh) => (∀ c j : Nat, c ≠ 7 → c ≠ 36 → u c j = g c j) ∧ ((0 ≤ u 7 0 ∧ u 7 0 ≤ u 36 0 ∧ u 36 0 ≤ 9))) (okb dC dI dA sz X Γ) (ty_A sz)) 0 0 (ty_A sz) := by
  refine Met.ofW (cc := cX5_add) (maxL := 2) (ret := (Option.none : Option Jvm.ClassFile.FieldType)) (by decide) rfl ?_
  intro p e s m args below meth c s₁ B hml hv
  obtain ⟨rfl, hG, hE⟩ := hv
  have hx := B.exec
  have hb := B.bytes
  have hr := B.returns
  have hts := atoms_spec B.pre
  have hA : ∀ w ∈ AL, w.before _ s = true := fun w h => hts w (List.mem_cons_of_mem _ h)
  have hown : s.vm.findClass RX5 = some m.cls := findClass_of_methodNamed B.named
  have hlocks := B.notSynchronized
  have hS : va_S (ty_A sz) s.heap s.heap [] := va_S.rf
  have hl := lv_entry ([.ref h0, .ref p1]) (n := 2) (Nat.le_of_ble_eq_true rfl)
  rw [lg_entry_eq]
  generalize (lg_sl ([.ref h0, .ref p1]) ++ List.replicate (2 - (lg_sl ([.ref h0, .ref p1])).length) Slot.unset).toArray = ls at hl ⊢
  have hl : lv_has ls 2 [(0, .ref h0), (1, .ref p1)] := hl
  refine lv_aload_n hx hb dX5_add_0 rfl (lv_at hl 0 rfl) ?_
  refine get_X5_1 hx hb hA hown hE hG t_h0 wd_1_108 dX5_add_1 (fun x1 h2 => ?_)
  refine ty_bipush hx hb (9) dX5_add_4 (by decide) (fun x4 h5 => ?_)
  refine ty_icmp_ge (tgt := 29) hx hb dX5_add_6 (by decide) (fun c6 => ?_) (fun c6 => ?_)
  · skip
    exact W.vret hx hb hr (fun t ht hW => ⟨⟨g, rfl, ⟨(fun c j h7 h36 => by rfl), (by omega)⟩, ok1 ht hG⟩, hS.F ht⟩) hS.2.2 dX5_add_29
  · skip
    refine lv_aload_n hx hb dX5_add_9 rfl (lv_at hl 0 rfl) ?_
    refine get_X5_0 hx hb hA hown hE hG t_h0 wd_1_107 dX5_add_10 (fun b7 (t_b7 : ty Γ b7 19) => ?_)
    refine lv_aload_n hx hb dX5_add_13 rfl (lv_at hl 0 rfl) ?_
    refine get_X5_1 hx hb hA hown hE hG t_h0 wd_1_108 dX5_add_14 (fun x8 h9 => ?_)
    refine lv_aload_n hx hb dX5_add_17 rfl (lv_at hl 1 rfl) ?_
    refine ast_19 hx hb hE hG hS hU t_b7 t_p1 (by omega) (by omega) dX5_add_18 (fun H locs hG hS => ?_)
    refine lv_aload_n hx hb dX5_add_19 rfl (lv_at hl 0 rfl) ?_
    refine lv_dup hx hb dX5_add_20 rfl ?_
    refine get_X5_1 hx hb hA hown hE hG t_h0 wd_1_108 dX5_add_21 (fun x11 h12 => ?_)
    replace h12 : x11.toInt = g 7 0 := by rw [h12]; simp [gs]
    refine ty_iconst hx hb (1) dX5_add_24 (by decide) (fun x14 h15 => ?_)
    refine ty_iadd hx hb dX5_add_25 (fun x16 h17 => ?_)
    try have h18 : x16.toInt = x11.toInt + x14.toInt := ty_add h17 (by omega) (by omega)
    refine put_X5_1 hx hb hA hown hE hG hS hU t_h0 wd_1_108 dX5_add_26 (fun H locs hG hS => ?_)
    have e19 : (gs (gs g 36 0 (max (g 36 0) (x8.toInt + 1))) 7 0 x16.toInt) 7 0 = x16.toInt := by simp [gs]
    have e20 : (gs (gs g 36 0 (max (g 36 0) (x8.toInt + 1))) 7 0 x16.toInt) 36 0 = (max (g 36 0) (x8.toInt + 1)) := by simp [gs]
    exact W.vret hx hb hr (fun t ht hW => ⟨⟨(gs (gs g 36 0 (max (g 36 0) (x8.toInt + 1))) 7 0 x16.toInt), rfl, ⟨(fun c j h7 h36 => by rw [gs_c _ _ _ _ h7, gs_c _ _ _ _ h36]), (by omega)⟩, ok1 ht hG⟩, hS.F ht⟩) hS.2.2 dX5_add_29

set_option maxHeartbeats 4000000 in
set_option maxRecDepth 100000 in
/-- WeekBank$RingSearch.has:  -/
theorem k_X5_has (l : Launch) (dC : Nat → ClassId) (dI : Nat → Nat → Nat) (dA : Nat → ClassId) (sz : Nat) (X : va_W) (Γ : ty_G) (hU : Un Γ) (g : gh) (p0 : Int32) (p1 : Int32) : Met l yX5_has (.code yX5_has cX5_has 2 (Option.some Jvm.ClassFile.FieldType.boolean) :: AL) ({ frames := 0, cells := 0, slots := 0, locals := 0 }) (PCx dC dI dA sz X Γ g [.int p0, .int p1]) (va_Qi (fun (r : Int32) (u : gh) => u = g ∧ ((r.toInt = 0 ∨ r.toInt = 1) ∧ (0 ≤ p0.toInt ∧ p0.toInt ≤ 511 ∧ 0 ≤ p1.toInt ∧ p1.toInt ≤ 8 ∧ r.toInt = 1 → pw p1.toInt ≤ p0.toInt))) (okb dC dI dA sz X Γ) (ty_A sz)) 0 0 (ty_A sz) := by
  refine Met.ofW (cc := cX5_has) (maxL := 2) (ret := (Option.some Jvm.ClassFile.FieldType.boolean)) (by decide) rfl ?_
  intro p e s m args below meth c s₁ B hml hv
  obtain ⟨rfl, hG, hE⟩ := hv
  have hx := B.exec
  have hb := B.bytes
  have hr := B.returns
  have hts := atoms_spec B.pre
  have hA : ∀ w ∈ AL, w.before _ s = true := fun w h => hts w (List.mem_cons_of_mem _ h)
  have hown : s.vm.findClass RX5 = some m.cls := findClass_of_methodNamed B.named
  have hlocks := B.notSynchronized
  have hS : va_S (ty_A sz) s.heap s.heap [] := va_S.rf
  have hl := lv_entry ([.int p0, .int p1]) (n := 2) (Nat.le_of_ble_eq_true rfl)
  rw [lg_entry_eq]
  generalize (lg_sl ([.int p0, .int p1]) ++ List.replicate (2 - (lg_sl ([.int p0, .int p1])).length) Slot.unset).toArray = ls at hl ⊢
  have hl : lv_has ls 2 [(0, .int p0), (1, .int p1)] := hl
  refine lv_iload_n hx hb dX5_has_0 rfl (lv_at hl 0 rfl) ?_
  refine lv_iload_n hx hb dX5_has_1 rfl (lv_at hl 1 rfl) ?_
  refine lv_ishr hx hb dX5_has_2 ?_
  refine lv_topi (fun x1 h2 => ?_)
  refine ty_iconst hx hb (1) dX5_has_3 (by decide) (fun x3 h4 => ?_)
  refine ty_iand hx hb dX5_has_4 (fun x5 h6 => ?_)
  have h7 := and_ler h6 (by omega)
  refine ty_iconst hx hb (1) dX5_has_5 (by decide) (fun x8 h9 => ?_)
  refine ty_icmp_ne (tgt := 13) hx hb dX5_has_6 (by decide) (fun c10 => ?_) (fun c10 => ?_)
  · skip
    refine ty_iconst hx hb (0) dX5_has_13 (by decide) (fun x11 h12 => ?_)
    exact W.zret (v := x11) hx hb hr (ty_nb (by omega)).1 (fun t ht hW => ⟨⟨x11, g, rfl, ⟨rfl, (by first | exact ⟨by omega, fun hh => has_pw h2 h6 (by omega) (by omega) (by omega) (by omega)⟩ | exact ⟨by omega, fun hh => absurd hh (by omega)⟩)⟩, ok1 ht hG⟩, hS.F ht⟩) hS.2.2 dX5_has_14
  · skip
    refine ty_iconst hx hb (1) dX5_has_9 (by decide) (fun x13 h14 => ?_)
    refine lv_goto (tgt := 14) hx hb dX5_has_10 (by decide) ?_
    exact W.zret (v := x13) hx hb hr (ty_nb (by omega)).1 (fun t ht hW => ⟨⟨x13, g, rfl, ⟨rfl, (by first | exact ⟨by omega, fun hh => has_pw h2 h6 (by omega) (by omega) (by omega) (by omega)⟩ | exact ⟨by omega, fun hh => absurd hh (by omega)⟩)⟩, ok1 ht hG⟩, hS.F ht⟩) hS.2.2 dX5_has_14

set_option maxHeartbeats 4000000 in
set_option maxRecDepth 100000 in
/-- WeekBank$RingSearch.leastOf:  -/
theorem k_X5_leastOf (l : Launch) (dC : Nat → ClassId) (dI : Nat → Nat → Nat) (dA : Nat → ClassId) (sz : Nat) (X : va_W) (Γ : ty_G) (hU : Un Γ) (g : gh) (p0 : Int32) : Met l yX5_leastOf (.code yX5_leastOf cX5_leastOf 1 (Option.some Jvm.ClassFile.FieldType.int) :: AL) ({ frames := 1, cells := 0, slots := 0, locals := 20 }) (PCx dC dI dA sz X Γ g [.int p0]) (va_Qi (fun (r : Int32) (u : gh) => u = g ∧ ((0 ≤ r.toInt ∧ r.toInt ≤ 63))) (okb dC dI dA sz X Γ) (ty_A sz)) 0 0 (ty_A sz) := by
  refine Met.ofW (cc := cX5_leastOf) (maxL := 1) (ret := (Option.some Jvm.ClassFile.FieldType.int)) (by decide) rfl ?_
  intro p e s m args below meth c s₁ B hml hv
  obtain ⟨rfl, hG, hE⟩ := hv
  have hx := B.exec
  have hb := B.bytes
  have hr := B.returns
  have hts := atoms_spec B.pre
  have hA : ∀ w ∈ AL, w.before _ s = true := fun w h => hts w (List.mem_cons_of_mem _ h)
  have hown : s.vm.findClass RX5 = some m.cls := findClass_of_methodNamed B.named
  have hlocks := B.notSynchronized
  have hS : va_S (ty_A sz) s.heap s.heap [] := va_S.rf
  have hl := lv_entry ([.int p0]) (n := 1) (Nat.le_of_ble_eq_true rfl)
  rw [lg_entry_eq]
  generalize (lg_sl ([.int p0]) ++ List.replicate (1 - (lg_sl ([.int p0])).length) Slot.unset).toArray = ls at hl ⊢
  have hl : lv_has ls 1 [(0, .int p0)] := hl
  refine lv_iload_n hx hb dX5_leastOf_0 rfl (lv_at hl 0 rfl) ?_
  refine lv_iload_n hx hb dX5_leastOf_1 rfl (lv_at hl 0 rfl) ?_
  refine lv_ineg hx hb dX5_leastOf_2 ?_
  refine lv_topi (fun x1 h2 => ?_)
  refine ty_iand hx hb dX5_leastOf_3 (fun x3 h4 => ?_)
  refine ty_iconst hx hb (1) dX5_leastOf_4 (by decide) (fun x5 h6 => ?_)
  refine ty_isub hx hb dX5_leastOf_5 (fun x7 h8 => ?_)
  try have h9 : x7.toInt = x3.toInt - x5.toInt := ty_sub h8 (by omega) (by omega)
  refine cI (va_runS (As := [.int x7]) (rest := []) ⟨hx, hb, hml, hown, hA⟩ (k_bitCount l dC dI dA sz X Γ hU g x7   ) ⟨callB_of 1 hA (al_A wd_3_145) rfl rfl rfl (hA _ wd_1_17) (hA _ wd_3_143) (by decide +kernel) ⟨Nat.le_of_ble_eq_true rfl, Nat.le_of_ble_eq_true rfl⟩, hA _ wd_3_144⟩ ⟨bl, fun U hU9 hW9 => ⟨rfl, by rw [hU9]; exact hG, hE.go hS hU9 hW9⟩⟩ rfl rfl hl.1 rfl (lv_room (Nat.le_of_ble_eq_true rfl)) dX5_leastOf_6 ⟨Nat.zero_le _, Nat.zero_le _⟩) hS (fun x12 u10 H locs w11 hG hS => ?_)
  obtain ⟨eu13, w11⟩ := w11
  rw [eu13] at hG
  exact W.iret (v := x12) hx hb hr (fun t ht hW => ⟨⟨x12, g, rfl, ⟨rfl, (by omega)⟩, ok1 ht hG⟩, hS.F ht⟩) hS.2.2 dX5_leastOf_9

set_option maxHeartbeats 4000000 in
set_option maxRecDepth 100000 in
/-- WeekBank$RingSearch.findSuiting:  -/
theorem k_X5_findSuiting (l : Launch) (dC : Nat → ClassId) (dI : Nat → Nat → Nat) (dA : Nat → ClassId) (sz : Nat) (X : va_W) (Γ : ty_G) (hU : Un Γ) (g : gh) (h0 : Nat) (t_h0 : ty Γ h0 8) (hs : 0 ≤ g 7 0 ∧ g 7 0 ≤ g 36 0 ∧ g 36 0 ≤ 9) : Met l yX5_findSuiting (.code yX5_findSuiting cX5_findSuiting 3 (Option.none : Option Jvm.ClassFile.FieldType) :: AL) ({ frames := 1, cells := 0, slots := 0, locals := 22 }) (PCx dC dI dA sz X Γ g [.ref h0]) (va_Qv (fun (u : gh) => u = g) (okb dC dI dA sz X Γ) (ty_A sz)) 0 0 (ty_A sz) := by
  refine Met.ofW (cc := cX5_findSuiting) (maxL := 3) (ret := (Option.none : Option Jvm.ClassFile.FieldType)) (by decide) rfl ?_
  intro p e s m args below meth c s₁ B hml hv
  obtain ⟨rfl, hG, hE⟩ := hv
  have hx := B.exec
  have hb := B.bytes
  have hr := B.returns
  have hts := atoms_spec B.pre
  have hA : ∀ w ∈ AL, w.before _ s = true := fun w h => hts w (List.mem_cons_of_mem _ h)
  have hown : s.vm.findClass RX5 = some m.cls := findClass_of_methodNamed B.named
  have hlocks := B.notSynchronized
  have hS : va_S (ty_A sz) s.heap s.heap [] := va_S.rf
  have hl := lv_entry ([.ref h0]) (n := 3) (Nat.le_of_ble_eq_true rfl)
  rw [lg_entry_eq]
  generalize (lg_sl ([.ref h0]) ++ List.replicate (3 - (lg_sl ([.ref h0])).length) Slot.unset).toArray = ls at hl ⊢
  have hl : lv_has ls 3 [(0, .ref h0)] := hl
  refine ty_iconst hx hb (0) dX5_findSuiting_0 (by decide) (fun x1 h2 => ?_)
  refine lv_istore_n (lv' := [(1, .int x1), (0, .ref h0)]) hx hb dX5_findSuiting_1 rfl hl (by decide) rfl (fun ls hl => ?_)
  have L_2 : ∀ (n : Nat) (v1_2 : Int32) (H : Heap) (locs : List Loc) (ls : Array Slot), (g 7 0 - v1_2.toInt : Int) < n → 0 ≤ v1_2.toInt ∧ v1_2.toInt ≤ g 7 0 → ty_ok (dC, dI) vwCl Γ (TP dA Γ g) sz X H → va_S (ty_A sz) s.heap H locs → lv_has ls 3 [(1, .int v1_2), (0, .ref h0)] → W p l e (headSpec (.code yX5_findSuiting cX5_findSuiting 3 (Option.none : Option Jvm.ClassFile.FieldType) :: AL) ({ frames := 1, cells := 0, slots := 0, locals := 22 })).room s m ([.ref h0] : List Value).toArray below meth c H locs 0 0 (MQ below (va_Qv (fun (u : gh) => u = g) (okb dC dI dA sz X Γ) (ty_A sz)) ([.ref h0] : List Value).toArray s 0 0 (ty_A sz)) (F0 m 2 ls []) := by
    intro n
    induction n with
    | zero => intro v1_2 H locs ls hm hi0 hG hS hl; exfalso; omega
    | succ n ih_2 =>
      intro v1_2 H locs ls hm hi0 hG hS hl
      refine lv_iload_n hx hb dX5_findSuiting_2 rfl (lv_at hl 0 rfl) ?_
      refine lv_aload_n hx hb dX5_findSuiting_3 rfl (lv_at hl 1 rfl) ?_
      refine get_X5_1 hx hb hA hown hE hG t_h0 wd_1_108 dX5_findSuiting_4 (fun x4 h5 => ?_)
      refine ty_icmp_ge (tgt := 77) hx hb dX5_findSuiting_7 (by decide) (fun c7 => ?_) (fun c7 => ?_)
      · skip
        exact W.vret hx hb hr (fun t ht hW => ⟨⟨g, rfl, rfl, ok1 ht hG⟩, hS.F ht⟩) hS.2.2 dX5_findSuiting_77
      · skip
        refine lv_aload_n hx hb dX5_findSuiting_10 rfl (lv_at hl 1 rfl) ?_
        refine get_X5_2 hx hb hA hown hE hG t_h0 wd_1_109 dX5_findSuiting_11 (fun b8 (t_b8 : ty Γ b8 20) => ?_)
        refine lv_iload_n hx hb dX5_findSuiting_14 rfl (lv_at hl 0 rfl) ?_
        refine ty_iconst hx hb (0) dX5_findSuiting_15 (by decide) (fun x9 h10 => ?_)
        refine ast_20 hx hb hE hG hS t_b8 (by omega) dX5_findSuiting_16 (fun H locs hG hS => ?_)
        refine ty_iconst hx hb (0) dX5_findSuiting_17 (by decide) (fun x11 h12 => ?_)
        refine lv_istore_n (lv' := [(2, .int x11), (1, .int v1_2), (0, .ref h0)]) hx hb dX5_findSuiting_18 rfl hl (by decide) rfl (fun ls hl => ?_)
        have L_19 : ∀ (n : Nat) (v2_19 : Int32) (H : Heap) (locs : List Loc) (ls : Array Slot), (g 7 0 - v2_19.toInt : Int) < n → 0 ≤ v2_19.toInt ∧ v2_19.toInt ≤ g 7 0 → ty_ok (dC, dI) vwCl Γ (TP dA Γ g) sz X H → va_S (ty_A sz) s.heap H locs → lv_has ls 3 [(2, .int v2_19), (1, .int v1_2), (0, .ref h0)] → W p l e (headSpec (.code yX5_findSuiting cX5_findSuiting 3 (Option.none : Option Jvm.ClassFile.FieldType) :: AL) ({ frames := 1, cells := 0, slots := 0, locals := 22 })).room s m ([.ref h0] : List Value).toArray below meth c H locs 0 0 (MQ below (va_Qv (fun (u : gh) => u = g) (okb dC dI dA sz X Γ) (ty_A sz)) ([.ref h0] : List Value).toArray s 0 0 (ty_A sz)) (F0 m 19 ls []) := by
          intro n
          induction n with
          | zero => intro v2_19 H locs ls hm hi0 hG hS hl; exfalso; omega
          | succ n ih_19 =>
            intro v2_19 H locs ls hm hi0 hG hS hl
            refine lv_iload_n hx hb dX5_findSuiting_19 rfl (lv_at hl 0 rfl) ?_
            refine lv_aload_n hx hb dX5_findSuiting_20 rfl (lv_at hl 2 rfl) ?_
            refine get_X5_1 hx hb hA hown hE hG t_h0 wd_1_108 dX5_findSuiting_21 (fun x14 h15 => ?_)
            refine ty_icmp_ge (tgt := 71) hx hb dX5_findSuiting_24 (by decide) (fun c17 => ?_) (fun c17 => ?_)
            · skip
              obtain ⟨x18, h19⟩ : ∃ y : Int32, y = v1_2 + Int32.ofInt (1) := ⟨_, rfl⟩
              try have h20 : x18.toInt = v1_2.toInt + (1) := ty_inc h19 (by decide) (by omega) (by omega)
              refine lv_iinc (v := x18) (lv' := [(1, .int x18), (2, .int v2_19), (0, .ref h0)]) hx hb dX5_findSuiting_71 hl (k := 1) rfl h19.symm (by decide) rfl (fun ls hl => ?_)
              refine lv_goto (tgt := 2) hx hb dX5_findSuiting_74 (by decide) ?_
              exact ih_2 x18 _ _ ls (by omega) (by omega) hG hS (lv_sub hl [0, 2] rfl)
            · skip
              refine lv_iload_n hx hb dX5_findSuiting_27 rfl (lv_at hl 1 rfl) ?_
              refine lv_iload_n hx hb dX5_findSuiting_28 rfl (lv_at hl 0 rfl) ?_
              refine ty_icmp_eq (tgt := 65) hx hb dX5_findSuiting_29 (by decide) (fun c21 => ?_) (fun c21 => ?_)
              · skip
                obtain ⟨x22, h23⟩ : ∃ y : Int32, y = v2_19 + Int32.ofInt (1) := ⟨_, rfl⟩
                try have h24 : x22.toInt = v2_19.toInt + (1) := ty_inc h23 (by decide) (by omega) (by omega)
                refine lv_iinc (v := x22) (lv' := [(2, .int x22), (1, .int v1_2), (0, .ref h0)]) hx hb dX5_findSuiting_65 hl (k := 0) rfl h23.symm (by decide) rfl (fun ls hl => ?_)
                refine lv_goto (tgt := 19) hx hb dX5_findSuiting_68 (by decide) ?_
                exact ih_19 x22 _ _ ls (by omega) (by omega) hG hS (lv_sub hl [0, 1, 2] rfl)
              · skip
                refine lv_aload_n hx hb dX5_findSuiting_32 rfl (lv_at hl 2 rfl) ?_
                refine get_X5_0 hx hb hA hown hE hG t_h0 wd_1_107 dX5_findSuiting_33 (fun b25 (t_b25 : ty Γ b25 19) => ?_)
                refine lv_iload_n hx hb dX5_findSuiting_36 rfl (lv_at hl 0 rfl) ?_
                refine ald_19 hx hb hE hG t_b25 (by omega) dX5_findSuiting_37 (fun j27 r26 h28 t_r26 h29 => ?_)
                refine lv_aload_n hx hb dX5_findSuiting_38 rfl (lv_at hl 2 rfl) ?_
                refine get_X5_0 hx hb hA hown hE hG t_h0 wd_1_107 dX5_findSuiting_39 (fun b30 (t_b30 : ty Γ b30 19) => ?_)
                refine lv_iload_n hx hb dX5_findSuiting_42 rfl (lv_at hl 1 rfl) ?_
                refine ald_19 hx hb hE hG t_b30 (by omega) dX5_findSuiting_43 (fun j32 r31 h33 t_r31 h34 => ?_)
                obtain ⟨b35, rfl⟩ := Option.ne_none_iff_exists'.mp (h34 (by omega))
                have t_b35 : ty Γ b35 4 := t_r31 b35 rfl
                have hl : lv_has ls 3 [(2, .int v2_19), (1, .int v1_2), (0, .ref h0)] := hl
                obtain ⟨fs36, fs36a, fs36l, fs36F⟩ := pin_X2 hG t_b35
                obtain ⟨r37, e_r37, t_r37⟩ : vN Γ 5 (vp_V fs36 7) := fs36F 7 (by decide)
                refine gep_X2 hx hb hA hE fs36a hown 7 (by decide) wd_3_36 rfl (va_rf r37) (vp_at fs36l (by decide) e_r37) dX5_findSuiting_44 ?_
                obtain ⟨b38, rfl⟩ := Option.ne_none_iff_exists'.mp (h29 (by omega))
                have t_b38 : ty Γ b38 4 := t_r26 b38 rfl
                have hl : lv_has ls 3 [(2, .int v2_19), (1, .int v1_2), (0, .ref h0)] := hl
                refine cI (va_runV (C := RX2) (As := [va_rf r37]) (rest := []) ⟨hx, hb, hml, hown, hA⟩ (k_X2_meets l dC dI dA sz X Γ hU g b38 t_b38 r37 t_r37   ) ⟨callB_of 1 hA (al_A wd_3_130) rfl rfl rfl (hA _ wd_1_15) (hA _ wd_3_127) (by decide +kernel) ⟨Nat.le_of_ble_eq_true rfl, Nat.le_of_ble_eq_true rfl⟩, hA _ wd_3_128, hA _ wd_3_129⟩ ⟨bl, recv_X2 hE hG t_b38, fun U hU9 hW9 => ⟨rfl, by rw [hU9]; exact hG, hE.go hS hU9 hW9⟩⟩ rfl rfl hl.1 rfl (lv_room (Nat.le_of_ble_eq_true rfl)) dX5_findSuiting_47 ⟨Nat.zero_le _, Nat.zero_le _⟩) hS (fun x41 u39 H locs w40 hG hS => ?_)
                obtain ⟨eu42, w40⟩ := w40
                rw [eu42] at hG
                refine ty_if_eq (tgt := 65) hx hb dX5_findSuiting_50 (by decide) (fun c43 => ?_) (fun c43 => ?_)
                · skip
                  obtain ⟨x44, h45⟩ : ∃ y : Int32, y = v2_19 + Int32.ofInt (1) := ⟨_, rfl⟩
                  try have h46 : x44.toInt = v2_19.toInt + (1) := ty_inc h45 (by decide) (by omega) (by omega)
                  refine lv_iinc (v := x44) (lv' := [(2, .int x44), (1, .int v1_2), (0, .ref h0)]) hx hb dX5_findSuiting_65 hl (k := 0) rfl h45.symm (by decide) rfl (fun ls hl => ?_)
                  refine lv_goto (tgt := 19) hx hb dX5_findSuiting_68 (by decide) ?_
                  exact ih_19 x44 _ _ ls (by omega) (by omega) hG hS (lv_sub hl [0, 1, 2] rfl)
                · skip
                  refine lv_aload_n hx hb dX5_findSuiting_53 rfl (lv_at hl 2 rfl) ?_
                  refine get_X5_2 hx hb hA hown hE hG t_h0 wd_1_109 dX5_findSuiting_54 (fun b47 (t_b47 : ty Γ b47 20) => ?_)
                  refine lv_iload_n hx hb dX5_findSuiting_57 rfl (lv_at hl 1 rfl) ?_
                  refine lv_dup2_11 hx hb dX5_findSuiting_58 rfl rfl ?_
                  refine ald_20 hx hb hE hG t_b47 (by omega) dX5_findSuiting_59 (fun j49 x48 h50 => ?_)
                  refine ty_iconst hx hb (1) dX5_findSuiting_60 (by decide) (fun x52 h53 => ?_)
                  refine lv_iload_n hx hb dX5_findSuiting_61 rfl (lv_at hl 0 rfl) ?_
                  refine lv_ishl hx hb dX5_findSuiting_62 ?_
                  refine lv_topi (fun x54 h55 => ?_)
                  have h56 := shl_pw h55 (by omega) (by omega) (by omega)
                  refine ty_ior hx hb dX5_findSuiting_63 (fun x57 h58 => ?_)
                  refine ast_20 hx hb hE hG hS t_b47 (by omega) dX5_findSuiting_64 (fun H locs hG hS => ?_)
                  obtain ⟨x59, h60⟩ : ∃ y : Int32, y = v2_19 + Int32.ofInt (1) := ⟨_, rfl⟩
                  try have h61 : x59.toInt = v2_19.toInt + (1) := ty_inc h60 (by decide) (by omega) (by omega)
                  refine lv_iinc (v := x59) (lv' := [(2, .int x59), (1, .int v1_2), (0, .ref h0)]) hx hb dX5_findSuiting_65 hl (k := 0) rfl h60.symm (by decide) rfl (fun ls hl => ?_)
                  refine lv_goto (tgt := 19) hx hb dX5_findSuiting_68 (by decide) ?_
                  exact ih_19 x59 _ _ ls (by omega) (by omega) hG hS (lv_sub hl [0, 1, 2] rfl)
        exact L_19 ((g 7 0 - x11.toInt) + 1).toNat x11 _ _ ls (by omega) (by omega) hG hS (lv_sub hl [0, 1, 2] rfl)
  exact L_2 ((g 7 0 - x1.toInt) + 1).toNat x1 _ _ ls (by omega) (by omega) hG hS (lv_sub hl [0, 1] rfl)

set_option maxHeartbeats 4000000 in
set_option maxRecDepth 100000 in
/-- WeekBank$RingSearch.forgetBefore:  -/
theorem k_X5_forgetBefore (l : Launch) (dC : Nat → ClassId) (dI : Nat → Nat → Nat) (dA : Nat → ClassId) (sz : Nat) (X : va_W) (Γ : ty_G) (hU : Un Γ) (g : gh) (h0 : Nat) (t_h0 : ty Γ h0 8) (p1 : Int32) (hf : 1 ≤ p1.toInt ∧ p1.toInt ≤ 512) : Met l yX5_forgetBefore (.code yX5_forgetBefore cX5_forgetBefore 3 (Option.none : Option Jvm.ClassFile.FieldType) :: AL) ({ frames := 0, cells := 0, slots := 0, locals := 0 }) (PCx dC dI dA sz X Γ g [.ref h0, .int p1]) (va_Qv (fun (u : gh) => u = g) (okb dC dI dA sz X Γ) (ty_A sz)) 0 0 (ty_A sz) := by
  refine Met.ofW (cc := cX5_forgetBefore) (maxL := 3) (ret := (Option.none : Option Jvm.ClassFile.FieldType)) (by decide) rfl ?_
  intro p e s m args below meth c s₁ B hml hv
  obtain ⟨rfl, hG, hE⟩ := hv
  have hx := B.exec
  have hb := B.bytes
  have hr := B.returns
  have hts := atoms_spec B.pre
  have hA : ∀ w ∈ AL, w.before _ s = true := fun w h => hts w (List.mem_cons_of_mem _ h)
  have hown : s.vm.findClass RX5 = some m.cls := findClass_of_methodNamed B.named
  have hlocks := B.notSynchronized
  have hS : va_S (ty_A sz) s.heap s.heap [] := va_S.rf
  have hl := lv_entry ([.ref h0, .int p1]) (n := 3) (Nat.le_of_ble_eq_true rfl)
  rw [lg_entry_eq]
  generalize (lg_sl ([.ref h0, .int p1]) ++ List.replicate (3 - (lg_sl ([.ref h0, .int p1])).length) Slot.unset).toArray = ls at hl ⊢
  have hl : lv_has ls 3 [(0, .ref h0), (1, .int p1)] := hl
  refine ty_iconst hx hb (0) dX5_forgetBefore_0 (by decide) (fun x1 h2 => ?_)
  refine lv_istore_n (lv' := [(2, .int x1), (0, .ref h0), (1, .int p1)]) hx hb dX5_forgetBefore_1 rfl hl (by decide) rfl (fun ls hl => ?_)
  have L_2 : ∀ (n : Nat) (v2_2 : Int32) (H : Heap) (locs : List Loc) (ls : Array Slot), (9 * p1.toInt - v2_2.toInt : Int) < n → 0 ≤ v2_2.toInt ∧ v2_2.toInt ≤ 9 * p1.toInt → ty_ok (dC, dI) vwCl Γ (TP dA Γ g) sz X H → va_S (ty_A sz) s.heap H locs → lv_has ls 3 [(2, .int v2_2), (0, .ref h0), (1, .int p1)] → W p l e (headSpec (.code yX5_forgetBefore cX5_forgetBefore 3 (Option.none : Option Jvm.ClassFile.FieldType) :: AL) ({ frames := 0, cells := 0, slots := 0, locals := 0 })).room s m ([.ref h0, .int p1] : List Value).toArray below meth c H locs 0 0 (MQ below (va_Qv (fun (u : gh) => u = g) (okb dC dI dA sz X Γ) (ty_A sz)) ([.ref h0, .int p1] : List Value).toArray s 0 0 (ty_A sz)) (F0 m 2 ls []) := by
    intro n
    induction n with
    | zero => intro v2_2 H locs ls hm hi0 hG hS hl; exfalso; omega
    | succ n ih_2 =>
      intro v2_2 H locs ls hm hi0 hG hS hl
      refine lv_iload_n hx hb dX5_forgetBefore_2 rfl (lv_at hl 0 rfl) ?_
      refine lv_iload_n hx hb dX5_forgetBefore_3 rfl (lv_at hl 2 rfl) ?_
      refine ty_bipush hx hb (9) dX5_forgetBefore_4 (by decide) (fun x4 h5 => ?_)
      refine ty_imul hx hb dX5_forgetBefore_6 (fun x6 h7 => ?_)
      try have h8 : x6.toInt = p1.toInt * 9 := ty_mulr h7 (by omega) (by omega) (by omega)
      refine ty_icmp_ge (tgt := 24) hx hb dX5_forgetBefore_7 (by decide) (fun c9 => ?_) (fun c9 => ?_)
      · skip
        refine ty_iconst hx hb (0) dX5_forgetBefore_24 (by decide) (fun x10 h11 => ?_)
        refine lv_istore_n (lv' := [(2, .int x10), (0, .ref h0), (1, .int p1)]) hx hb dX5_forgetBefore_25 rfl hl (by decide) rfl (fun ls hl => ?_)
        have L_26 : ∀ (n : Nat) (v2_26 : Int32) (H : Heap) (locs : List Loc) (ls : Array Slot), (p1.toInt - v2_26.toInt : Int) < n → 0 ≤ v2_26.toInt ∧ v2_26.toInt ≤ p1.toInt → ty_ok (dC, dI) vwCl Γ (TP dA Γ g) sz X H → va_S (ty_A sz) s.heap H locs → lv_has ls 3 [(2, .int v2_26), (0, .ref h0), (1, .int p1)] → W p l e (headSpec (.code yX5_forgetBefore cX5_forgetBefore 3 (Option.none : Option Jvm.ClassFile.FieldType) :: AL) ({ frames := 0, cells := 0, slots := 0, locals := 0 })).room s m ([.ref h0, .int p1] : List Value).toArray below meth c H locs 0 0 (MQ below (va_Qv (fun (u : gh) => u = g) (okb dC dI dA sz X Γ) (ty_A sz)) ([.ref h0, .int p1] : List Value).toArray s 0 0 (ty_A sz)) (F0 m 26 ls []) := by
          intro n
          induction n with
          | zero => intro v2_26 H locs ls hm hi0 hG hS hl; exfalso; omega
          | succ n ih_26 =>
            intro v2_26 H locs ls hm hi0 hG hS hl
            refine lv_iload_n hx hb dX5_forgetBefore_26 rfl (lv_at hl 0 rfl) ?_
            refine lv_iload_n hx hb dX5_forgetBefore_27 rfl (lv_at hl 2 rfl) ?_
            refine ty_icmp_ge (tgt := 45) hx hb dX5_forgetBefore_28 (by decide) (fun c13 => ?_) (fun c13 => ?_)
            · skip
              exact W.vret hx hb hr (fun t ht hW => ⟨⟨g, rfl, rfl, ok1 ht hG⟩, hS.F ht⟩) hS.2.2 dX5_forgetBefore_45
            · skip
              refine lv_aload_n hx hb dX5_forgetBefore_31 rfl (lv_at hl 1 rfl) ?_
              refine get_X5_4 hx hb hA hown hE hG t_h0 wd_1_111 dX5_forgetBefore_32 (fun b14 (t_b14 : ty Γ b14 22) => ?_)
              refine lv_iload_n hx hb dX5_forgetBefore_35 rfl (lv_at hl 0 rfl) ?_
              refine ty_ldc hx hb (2147483647) hown (hA _ wd_3_135) dX5_forgetBefore_36 (by decide) (fun x15 h16 => ?_)
              refine ast_22 hx hb hE hG hS t_b14 (by omega) dX5_forgetBefore_38 (fun H locs hG hS => ?_)
              obtain ⟨x17, h18⟩ : ∃ y : Int32, y = v2_26 + Int32.ofInt (1) := ⟨_, rfl⟩
              try have h19 : x17.toInt = v2_26.toInt + (1) := ty_inc h18 (by decide) (by omega) (by omega)
              refine lv_iinc (v := x17) (lv' := [(2, .int x17), (0, .ref h0), (1, .int p1)]) hx hb dX5_forgetBefore_39 hl (k := 0) rfl h18.symm (by decide) rfl (fun ls hl => ?_)
              refine lv_goto (tgt := 26) hx hb dX5_forgetBefore_42 (by decide) ?_
              exact ih_26 x17 _ _ ls (by omega) (by omega) hG hS (lv_sub hl [0, 1, 2] rfl)
        exact L_26 ((p1.toInt - x10.toInt) + 1).toNat x10 _ _ ls (by omega) (by omega) hG hS (lv_sub hl [0, 1, 2] rfl)
      · skip
        refine lv_aload_n hx hb dX5_forgetBefore_10 rfl (lv_at hl 1 rfl) ?_
        refine get_X5_3 hx hb hA hown hE hG t_h0 wd_1_110 dX5_forgetBefore_11 (fun b20 (t_b20 : ty Γ b20 21) => ?_)
        refine lv_iload_n hx hb dX5_forgetBefore_14 rfl (lv_at hl 0 rfl) ?_
        refine ty_ldc hx hb (2147483647) hown (hA _ wd_3_135) dX5_forgetBefore_15 (by decide) (fun x21 h22 => ?_)
        refine ast_21 hx hb hE hG hS t_b20 (by omega) dX5_forgetBefore_17 (fun H locs hG hS => ?_)
        obtain ⟨x23, h24⟩ : ∃ y : Int32, y = v2_2 + Int32.ofInt (1) := ⟨_, rfl⟩
        try have h25 : x23.toInt = v2_2.toInt + (1) := ty_inc h24 (by decide) (by omega) (by omega)
        refine lv_iinc (v := x23) (lv' := [(2, .int x23), (0, .ref h0), (1, .int p1)]) hx hb dX5_forgetBefore_18 hl (k := 0) rfl h24.symm (by decide) rfl (fun ls hl => ?_)
        refine lv_goto (tgt := 2) hx hb dX5_forgetBefore_21 (by decide) ?_
        exact ih_2 x23 _ _ ls (by omega) (by omega) hG hS (lv_sub hl [0, 1, 2] rfl)
  exact L_2 ((9 * p1.toInt - x1.toInt) + 1).toNat x1 _ _ ls (by omega) (by omega) hG hS (lv_sub hl [0, 1, 2] rfl)

set_option maxHeartbeats 4000000 in
set_option maxRecDepth 100000 in
/-- WeekBank$RingSearch.lengthen:  -/
theorem k_X5_lengthen (l : Launch) (dC : Nat → ClassId) (dI : Nat → Nat → Nat) (dA : Nat → ClassId) (sz : Nat) (X : va_W) (Γ : ty_G) (hU : Un Γ) (g : gh) (h0 : Nat) (t_h0 : ty Γ h0 8) (p1 : Int32) (p2 : Int32) (p3 : Int32) (hs : 0 ≤ g 7 0 ∧ g 7 0 ≤ g 36 0 ∧ g 36 0 ≤ 9) (hf : 0 ≤ p1.toInt ∧ p1.toInt ≤ 511 ∧ 0 ≤ p2.toInt ∧ p2.toInt ≤ 63 ∧ 0 ≤ p3.toInt ∧ p3.toInt ≤ 8) : Met l yX5_lengthen (.code yX5_lengthen cX5_lengthen 8 (Option.none : Option Jvm.ClassFile.FieldType) :: AL) ({ frames := 1, cells := 0, slots := 0, locals := 21 }) (PCx dC dI dA sz X Γ g [.ref h0, .int p1, .int p2, .int p3]) (va_Qv (fun (u : gh) => u = g) (okb dC dI dA sz X Γ) (ty_A sz)) 0 0 (ty_A sz) := by
  refine Met.ofW (cc := cX5_lengthen) (maxL := 8) (ret := (Option.none : Option Jvm.ClassFile.FieldType)) (by decide) rfl ?_
  intro p e s m args below meth c s₁ B hml hv
  obtain ⟨rfl, hG, hE⟩ := hv
  have hx := B.exec
  have hb := B.bytes
  have hr := B.returns
  have hts := atoms_spec B.pre
  have hA : ∀ w ∈ AL, w.before _ s = true := fun w h => hts w (List.mem_cons_of_mem _ h)
  have hown : s.vm.findClass RX5 = some m.cls := findClass_of_methodNamed B.named
  have hlocks := B.notSynchronized
  have hS : va_S (ty_A sz) s.heap s.heap [] := va_S.rf
  have hES := hE.2.1.2.2.2.2.2.2
  have hl := lv_entry ([.ref h0, .int p1, .int p2, .int p3]) (n := 8) (Nat.le_of_ble_eq_true rfl)
  rw [lg_entry_eq]
  generalize (lg_sl ([.ref h0, .int p1, .int p2, .int p3]) ++ List.replicate (8 - (lg_sl ([.ref h0, .int p1, .int p2, .int p3])).length) Slot.unset).toArray = ls at hl ⊢
  have hl : lv_has ls 8 [(0, .ref h0), (1, .int p1), (2, .int p2), (3, .int p3)] := hl
  refine lv_aload_n hx hb dX5_lengthen_0 rfl (lv_at hl 0 rfl) ?_
  refine get_X5_3 hx hb hA hown hE hG t_h0 wd_1_110 dX5_lengthen_1 (fun b1 (t_b1 : ty Γ b1 21) => ?_)
  refine lv_iload_n hx hb dX5_lengthen_4 rfl (lv_at hl 1 rfl) ?_
  refine ty_bipush hx hb (9) dX5_lengthen_5 (by decide) (fun x2 h3 => ?_)
  refine ty_imul hx hb dX5_lengthen_7 (fun x4 h5 => ?_)
  try have h6 : x4.toInt = p1.toInt * 9 := ty_mulr h5 (by omega) (by omega) (by omega)
  refine lv_iload_n hx hb dX5_lengthen_8 rfl (lv_at hl 3 rfl) ?_
  refine ty_iadd hx hb dX5_lengthen_9 (fun x7 h8 => ?_)
  try have h9 : x7.toInt = x4.toInt + p3.toInt := ty_add h8 (by omega) (by omega)
  refine ald_21 hx hb hE hG t_b1 (by omega) dX5_lengthen_10 (fun j11 x10 h12 => ?_)
  refine lv_istore (lv' := [(4, .int x10), (0, .ref h0), (1, .int p1), (2, .int p2), (3, .int p3)]) hx hb dX5_lengthen_11 hl (by decide) rfl (fun ls hl => ?_)
  refine lv_aload_n hx hb dX5_lengthen_13 rfl (lv_at hl 1 rfl) ?_
  refine get_X5_2 hx hb hA hown hE hG t_h0 wd_1_109 dX5_lengthen_14 (fun b14 (t_b14 : ty Γ b14 20) => ?_)
  refine lv_iload_n hx hb dX5_lengthen_17 rfl (lv_at hl 4 rfl) ?_
  refine ald_20 hx hb hE hG t_b14 (by omega) dX5_lengthen_18 (fun j16 x15 h17 => ?_)
  refine lv_iload_n hx hb dX5_lengthen_19 rfl (lv_at hl 2 rfl) ?_
  refine ty_iconst hx hb (-1) dX5_lengthen_20 (by decide) (fun x19 h20 => ?_)
  refine ty_ixor hx hb dX5_lengthen_21 (fun x21 h22 => ?_)
  refine ty_iand hx hb dX5_lengthen_22 (fun x23 h24 => ?_)
  refine lv_istore (lv' := [(5, .int x23), (4, .int x10), (0, .ref h0), (1, .int p1), (2, .int p2), (3, .int p3)]) hx hb dX5_lengthen_23 hl (by decide) rfl (fun ls hl => ?_)
  refine lv_iload_n hx hb dX5_lengthen_25 rfl (lv_at hl 4 rfl) ?_
  refine ty_iconst hx hb (1) dX5_lengthen_26 (by decide) (fun x25 h26 => ?_)
  refine ty_iadd hx hb dX5_lengthen_27 (fun x27 h28 => ?_)
  try have h29 : x27.toInt = p2.toInt + x25.toInt := ty_add h28 (by omega) (by omega)
  refine lv_istore (lv' := [(6, .int x27), (5, .int x23), (4, .int x10), (0, .ref h0), (1, .int p1), (2, .int p2), (3, .int p3)]) hx hb dX5_lengthen_28 hl (by decide) rfl (fun ls hl => ?_)
  have L_30 : ∀ (n : Nat) (v6_30 : Int32) (H : Heap) (locs : List Loc) (ls : Array Slot), (65 - v6_30.toInt : Int) < n → 0 ≤ v6_30.toInt ∧ v6_30.toInt ≤ 64 → ty_ok (dC, dI) vwCl Γ (TP dA Γ g) sz X H → va_S (ty_A sz) s.heap H locs → lv_has ls 8 [(6, .int v6_30), (5, .int x23), (4, .int x10), (0, .ref h0), (1, .int p1), (2, .int p2), (3, .int p3)] → W p l e (headSpec (.code yX5_lengthen cX5_lengthen 8 (Option.none : Option Jvm.ClassFile.FieldType) :: AL) ({ frames := 1, cells := 0, slots := 0, locals := 21 })).room s m ([.ref h0, .int p1, .int p2, .int p3] : List Value).toArray below meth c H locs 0 0 (MQ below (va_Qv (fun (u : gh) => u = g) (okb dC dI dA sz X Γ) (ty_A sz)) ([.ref h0, .int p1, .int p2, .int p3] : List Value).toArray s 0 0 (ty_A sz)) (F0 m 30 ls []) := by
    intro n
    induction n with
    | zero => intro v6_30 H locs ls hm hi0 hG hS hl; exfalso; omega
    | succ n ih_30 =>
      intro v6_30 H locs ls hm hi0 hG hS hl
      refine lv_iload hx hb dX5_lengthen_30 (lv_at hl 0 rfl) ?_
      refine lv_aload_n hx hb dX5_lengthen_32 rfl (lv_at hl 3 rfl) ?_
      refine get_X5_1 hx hb hA hown hE hG t_h0 wd_1_108 dX5_lengthen_33 (fun x31 h32 => ?_)
      refine ty_icmp_ge (tgt := 97) hx hb dX5_lengthen_36 (by decide) (fun c34 => ?_) (fun c34 => ?_)
      · skip
        exact W.vret hx hb hr (fun t ht hW => ⟨⟨g, rfl, rfl, ok1 ht hG⟩, hS.F ht⟩) hS.2.2 dX5_lengthen_97
      · skip
        refine lv_iload hx hb dX5_lengthen_39 (lv_at hl 1 rfl) ?_
        refine lv_iload hx hb dX5_lengthen_41 (lv_at hl 0 rfl) ?_
        refine cI (va_runS (As := [.int x23, .int v6_30]) (rest := []) ⟨hx, hb, hml, hown, hA⟩ (k_X5_has l dC dI dA sz X Γ hU g x23 v6_30   ) ⟨callB_of 2 hA (al_A wd_3_151) rfl rfl rfl (hA _ wd_1_5) (hA _ wd_3_149) (by decide +kernel) ⟨Nat.le_of_ble_eq_true rfl, Nat.le_of_ble_eq_true rfl⟩, hA _ wd_3_150⟩ ⟨bl, fun U hU9 hW9 => ⟨rfl, by rw [hU9]; exact hG, hE.go hS hU9 hW9⟩⟩ rfl rfl hl.1 rfl (lv_room (Nat.le_of_ble_eq_true rfl)) dX5_lengthen_43 ⟨Nat.zero_le _, Nat.zero_le _⟩) hS (fun x37 u35 H locs w36 hG hS => ?_)
        obtain ⟨eu38, w36⟩ := w36
        rw [eu38] at hG
        refine ty_if_eq (tgt := 91) hx hb dX5_lengthen_46 (by decide) (fun c39 => ?_) (fun c39 => ?_)
        · skip
          obtain ⟨x40, h41⟩ : ∃ y : Int32, y = v6_30 + Int32.ofInt (1) := ⟨_, rfl⟩
          try have h42 : x40.toInt = v6_30.toInt + (1) := ty_inc h41 (by decide) (by omega) (by omega)
          refine lv_iinc (v := x40) (lv' := [(6, .int x40), (5, .int x23), (4, .int x10), (0, .ref h0), (1, .int p1), (2, .int p2), (3, .int p3)]) hx hb dX5_lengthen_91 hl (k := 0) rfl h41.symm (by decide) rfl (fun ls hl => ?_)
          refine lv_goto (tgt := 30) hx hb dX5_lengthen_94 (by decide) ?_
          exact ih_30 x40 _ _ ls (by omega) (by omega) hG hS (lv_sub hl [0, 1, 2, 3, 4, 5, 6] rfl)
        · skip
          refine lv_iload_n hx hb dX5_lengthen_49 rfl (lv_at hl 4 rfl) ?_
          refine ty_iconst hx hb (1) dX5_lengthen_50 (by decide) (fun x43 h44 => ?_)
          refine lv_iload hx hb dX5_lengthen_51 (lv_at hl 0 rfl) ?_
          refine lv_ishl hx hb dX5_lengthen_53 ?_
          refine lv_topi (fun x45 h46 => ?_)
          have h47 := shl_pw h46 (by omega) (by omega) (by omega)
          refine ty_ior hx hb dX5_lengthen_54 (fun x48 h49 => ?_)
          have h50 := or_lt9 h49 (by omega) (by omega)
          refine ty_bipush hx hb (9) dX5_lengthen_55 (by decide) (fun x51 h52 => ?_)
          refine ty_imul hx hb dX5_lengthen_57 (fun x53 h54 => ?_)
          try have h55 : x53.toInt = x48.toInt * 9 := ty_mulr h54 (by omega) (by omega) (by omega)
          refine lv_iload hx hb dX5_lengthen_58 (lv_at hl 0 rfl) ?_
          refine ty_iadd hx hb dX5_lengthen_60 (fun x56 h57 => ?_)
          try have h58 : x56.toInt = x53.toInt + v6_30.toInt := ty_add h57 (by omega) (by omega)
          refine lv_istore (lv' := [(7, .int x56), (6, .int v6_30), (5, .int x23), (4, .int x10), (0, .ref h0), (1, .int p1), (2, .int p2), (3, .int p3)]) hx hb dX5_lengthen_61 hl (by decide) rfl (fun ls hl => ?_)
          refine lv_aload_n hx hb dX5_lengthen_63 rfl (lv_at hl 4 rfl) ?_
          refine get_X5_3 hx hb hA hown hE hG t_h0 wd_1_110 dX5_lengthen_64 (fun b59 (t_b59 : ty Γ b59 21) => ?_)
          refine lv_iload hx hb dX5_lengthen_67 (lv_at hl 0 rfl) ?_
          refine lv_aload_n hx hb dX5_lengthen_69 rfl (lv_at hl 4 rfl) ?_
          refine get_X5_3 hx hb hA hown hE hG t_h0 wd_1_110 dX5_lengthen_70 (fun b60 (t_b60 : ty Γ b60 21) => ?_)
          refine lv_iload hx hb dX5_lengthen_73 (lv_at hl 0 rfl) ?_
          refine ald_21 hx hb hE hG t_b60 (by omega) dX5_lengthen_75 (fun j62 x61 h63 => ?_)
          refine lv_iload hx hb dX5_lengthen_76 (lv_at hl 3 rfl) ?_
          refine lv_iload hx hb dX5_lengthen_78 (lv_at hl 1 rfl) ?_
          refine va_gets hx hb hES.2.2.2.1 hS hown (hA _ wd_3_152) (fun _ h => h) dX5_lengthen_80 ?_
          refine lv_iload_n hx hb dX5_lengthen_83 rfl (lv_at hl 7 rfl) ?_
          refine va_ti hx hb hES.2.2.2.2 hS (i := p3) (ty_ix (by omega)) rfl dX5_lengthen_84 ?_
          refine lv_topi (fun x65 h66 => ?_)
          refine ty_imul hx hb dX5_lengthen_85 (fun x67 h68 => ?_)
          refine ty_iadd hx hb dX5_lengthen_86 (fun x70 h71 => ?_)
          try have h72 : x70.toInt = x10.toInt + x67.toInt := ty_add h71 (by omega) (by omega)
          refine va_mmin hx hb (hml.trans hl.1.symm) hown (hA _ wd_3_154) (hA _ wd_2_239) (hA _ wd_1_14) (hA _ wd_3_0) (Nat.le_of_ble_eq_true rfl) (Nat.le_of_ble_eq_true rfl) (Nat.zero_le _) (Nat.zero_le _) dX5_lengthen_87 ?_
          refine lv_topi (fun x73 h74 => ?_)
          have h74 : x73.toInt = if x70.toInt < x61.toInt then x70.toInt else x61.toInt := by rw [h74]; simp only [ty_lt32]; split <;> rfl
          refine ast_21 hx hb hE hG hS t_b59 (by omega) dX5_lengthen_90 (fun H locs hG hS => ?_)
          obtain ⟨x75, h76⟩ : ∃ y : Int32, y = v6_30 + Int32.ofInt (1) := ⟨_, rfl⟩
          try have h77 : x75.toInt = v6_30.toInt + (1) := ty_inc h76 (by decide) (by omega) (by omega)
          refine lv_iinc (v := x75) (lv' := [(6, .int x75), (7, .int x56), (5, .int x23), (4, .int x10), (0, .ref h0), (1, .int p1), (2, .int p2), (3, .int p3)]) hx hb dX5_lengthen_91 hl (k := 1) rfl h76.symm (by decide) rfl (fun ls hl => ?_)
          refine lv_goto (tgt := 30) hx hb dX5_lengthen_94 (by decide) ?_
          exact ih_30 x75 _ _ ls (by omega) (by omega) hG hS (lv_sub hl [0, 2, 3, 4, 5, 6, 7] rfl)
  exact L_30 ((65 - x27.toInt) + 1).toNat x27 _ _ ls (by omega) (by omega) hG hS (lv_sub hl [0, 1, 2, 3, 4, 5, 6] rfl)

set_option maxHeartbeats 4000000 in
set_option maxRecDepth 100000 in
/-- WeekBank$RingSearch.goOnFrom:  -/
theorem k_X5_goOnFrom (l : Launch) (dC : Nat → ClassId) (dI : Nat → Nat → Nat) (dA : Nat → ClassId) (sz : Nat) (X : va_W) (Γ : ty_G) (hU : Un Γ) (g : gh) (h0 : Nat) (t_h0 : ty Γ h0 8) (p1 : Int32) (p2 : Int32) (hs : 0 ≤ g 7 0 ∧ g 7 0 ≤ g 36 0 ∧ g 36 0 ≤ 9) (hf : 0 ≤ p1.toInt ∧ p1.toInt ≤ 511) : Met l yX5_goOnFrom (.code yX5_goOnFrom cX5_goOnFrom 7 (Option.none : Option Jvm.ClassFile.FieldType) :: AL) ({ frames := 2, cells := 0, slots := 0, locals := 48 }) (PCx dC dI dA sz X Γ g [.ref h0, .int p1, .int p2]) (va_Qv (fun (u : gh) => u = g) (okb dC dI dA sz X Γ) (ty_A sz)) 0 0 (ty_A sz) := by
  refine Met.ofW (cc := cX5_goOnFrom) (maxL := 7) (ret := (Option.none : Option Jvm.ClassFile.FieldType)) (by decide) rfl ?_
  intro p e s m args below meth c s₁ B hml hv
  obtain ⟨rfl, hG, hE⟩ := hv
  have hx := B.exec
  have hb := B.bytes
  have hr := B.returns
  have hts := atoms_spec B.pre
  have hA : ∀ w ∈ AL, w.before _ s = true := fun w h => hts w (List.mem_cons_of_mem _ h)
  have hown : s.vm.findClass RX5 = some m.cls := findClass_of_methodNamed B.named
  have hlocks := B.notSynchronized
  have hS : va_S (ty_A sz) s.heap s.heap [] := va_S.rf
  have hES := hE.2.1.2.2.2.2.2.2
  have hl := lv_entry ([.ref h0, .int p1, .int p2]) (n := 7) (Nat.le_of_ble_eq_true rfl)
  rw [lg_entry_eq]
  generalize (lg_sl ([.ref h0, .int p1, .int p2]) ++ List.replicate (7 - (lg_sl ([.ref h0, .int p1, .int p2])).length) Slot.unset).toArray = ls at hl ⊢
  have hl : lv_has ls 7 [(0, .ref h0), (1, .int p1), (2, .int p2)] := hl
  refine lv_iload_n hx hb dX5_goOnFrom_0 rfl (lv_at hl 1 rfl) ?_
  refine cI (va_runS (As := [.int p1]) (rest := []) ⟨hx, hb, hml, hown, hA⟩ (k_X5_leastOf l dC dI dA sz X Γ hU g p1   ) ⟨callB_of 1 hA (al_A wd_3_142) rfl rfl rfl (hA _ wd_1_5) (hA _ wd_3_140) (by decide +kernel) ⟨Nat.le_of_ble_eq_true rfl, Nat.le_of_ble_eq_true rfl⟩, hA _ wd_3_141⟩ ⟨bl, fun U hU9 hW9 => ⟨rfl, by rw [hU9]; exact hG, hE.go hS hU9 hW9⟩⟩ rfl rfl hl.1 rfl (lv_room (Nat.le_of_ble_eq_true rfl)) dX5_goOnFrom_1 ⟨Nat.zero_le _, Nat.zero_le _⟩) hS (fun x3 u1 H locs w2 hG hS => ?_)
  obtain ⟨eu4, w2⟩ := w2
  rw [eu4] at hG
  refine lv_istore_n (lv' := [(3, .int x3), (0, .ref h0), (1, .int p1), (2, .int p2)]) hx hb dX5_goOnFrom_4 rfl hl (by decide) rfl (fun ls hl => ?_)
  refine lv_iload_n hx hb dX5_goOnFrom_5 rfl (lv_at hl 2 rfl) ?_
  refine cI (va_runS (As := [.int p1]) (rest := []) ⟨hx, hb, hml, hown, hA⟩ (k_bitCount l dC dI dA sz X Γ hU g p1   ) ⟨callB_of 1 hA (al_A wd_3_145) rfl rfl rfl (hA _ wd_1_17) (hA _ wd_3_143) (by decide +kernel) ⟨Nat.le_of_ble_eq_true rfl, Nat.le_of_ble_eq_true rfl⟩, hA _ wd_3_144⟩ ⟨bl, fun U hU9 hW9 => ⟨rfl, by rw [hU9]; exact hG, hE.go hS hU9 hW9⟩⟩ rfl rfl hl.1 rfl (lv_room (Nat.le_of_ble_eq_true rfl)) dX5_goOnFrom_6 ⟨Nat.zero_le _, Nat.zero_le _⟩) hS (fun x7 u5 H locs w6 hG hS => ?_)
  obtain ⟨eu8, w6⟩ := w6
  rw [eu8] at hG
  refine lv_istore (lv' := [(4, .int x7), (3, .int x3), (0, .ref h0), (1, .int p1), (2, .int p2)]) hx hb dX5_goOnFrom_9 hl (by decide) rfl (fun ls hl => ?_)
  refine lv_iload hx hb dX5_goOnFrom_11 (lv_at hl 0 rfl) ?_
  refine lv_iload_n hx hb dX5_goOnFrom_13 rfl (lv_at hl 4 rfl) ?_
  refine ty_icmp_le (tgt := 18) hx hb dX5_goOnFrom_14 (by decide) (fun c9 => ?_) (fun c9 => ?_)
  · skip
    refine lv_iload_n hx hb dX5_goOnFrom_18 rfl (lv_at hl 1 rfl) ?_
    refine lv_istore (lv' := [(5, .int x3), (4, .int x7), (3, .int x3), (0, .ref h0), (1, .int p1), (2, .int p2)]) hx hb dX5_goOnFrom_19 hl (by decide) rfl (fun ls hl => ?_)
    have L_21 : ∀ (n : Nat) (v5_21 : Int32) (H : Heap) (locs : List Loc) (ls : Array Slot), (65 - v5_21.toInt : Int) < n → 0 ≤ v5_21.toInt ∧ v5_21.toInt ≤ 64 → ty_ok (dC, dI) vwCl Γ (TP dA Γ g) sz X H → va_S (ty_A sz) s.heap H locs → lv_has ls 7 [(5, .int v5_21), (4, .int x7), (3, .int x3), (0, .ref h0), (1, .int p1), (2, .int p2)] → W p l e (headSpec (.code yX5_goOnFrom cX5_goOnFrom 7 (Option.none : Option Jvm.ClassFile.FieldType) :: AL) ({ frames := 2, cells := 0, slots := 0, locals := 48 })).room s m ([.ref h0, .int p1, .int p2] : List Value).toArray below meth c H locs 0 0 (MQ below (va_Qv (fun (u : gh) => u = g) (okb dC dI dA sz X Γ) (ty_A sz)) ([.ref h0, .int p1, .int p2] : List Value).toArray s 0 0 (ty_A sz)) (F0 m 21 ls []) := by
      intro n
      induction n with
      | zero => intro v5_21 H locs ls hm hi0 hG hS hl; exfalso; omega
      | succ n ih_21 =>
        intro v5_21 H locs ls hm hi0 hG hS hl
        refine lv_iload hx hb dX5_goOnFrom_21 (lv_at hl 0 rfl) ?_
        refine lv_aload_n hx hb dX5_goOnFrom_23 rfl (lv_at hl 3 rfl) ?_
        refine get_X5_1 hx hb hA hown hE hG t_h0 wd_1_108 dX5_goOnFrom_24 (fun x11 h12 => ?_)
        refine ty_icmp_ge (tgt := 105) hx hb dX5_goOnFrom_27 (by decide) (fun c14 => ?_) (fun c14 => ?_)
        · skip
          exact W.vret hx hb hr (fun t ht hW => ⟨⟨g, rfl, rfl, ok1 ht hG⟩, hS.F ht⟩) hS.2.2 dX5_goOnFrom_105
        · skip
          refine lv_aload_n hx hb dX5_goOnFrom_30 rfl (lv_at hl 3 rfl) ?_
          refine get_X5_3 hx hb hA hown hE hG t_h0 wd_1_110 dX5_goOnFrom_31 (fun b15 (t_b15 : ty Γ b15 21) => ?_)
          refine lv_iload_n hx hb dX5_goOnFrom_34 rfl (lv_at hl 4 rfl) ?_
          refine ty_bipush hx hb (9) dX5_goOnFrom_35 (by decide) (fun x16 h17 => ?_)
          refine ty_imul hx hb dX5_goOnFrom_37 (fun x18 h19 => ?_)
          try have h20 : x18.toInt = p1.toInt * 9 := ty_mulr h19 (by omega) (by omega) (by omega)
          refine lv_iload hx hb dX5_goOnFrom_38 (lv_at hl 0 rfl) ?_
          refine ty_iadd hx hb dX5_goOnFrom_40 (fun x21 h22 => ?_)
          try have h23 : x21.toInt = x18.toInt + v5_21.toInt := ty_add h22 (by omega) (by omega)
          refine ald_21 hx hb hE hG t_b15 (by omega) dX5_goOnFrom_41 (fun j25 x24 h26 => ?_)
          refine lv_istore (lv' := [(6, .int x24), (5, .int v5_21), (4, .int x7), (3, .int x3), (0, .ref h0), (1, .int p1), (2, .int p2)]) hx hb dX5_goOnFrom_42 hl (by decide) rfl (fun ls hl => ?_)
          refine lv_iload hx hb dX5_goOnFrom_44 (lv_at hl 0 rfl) ?_
          refine ty_ldc hx hb (2147483647) hown (hA _ wd_3_135) dX5_goOnFrom_46 (by decide) (fun x28 h29 => ?_)
          refine ty_icmp_eq (tgt := 99) hx hb dX5_goOnFrom_48 (by decide) (fun c30 => ?_) (fun c30 => ?_)
          · skip
            obtain ⟨x31, h32⟩ : ∃ y : Int32, y = v5_21 + Int32.ofInt (1) := ⟨_, rfl⟩
            try have h33 : x31.toInt = v5_21.toInt + (1) := ty_inc h32 (by decide) (by omega) (by omega)
            refine lv_iinc (v := x31) (lv' := [(5, .int x31), (6, .int x24), (4, .int x7), (3, .int x3), (0, .ref h0), (1, .int p1), (2, .int p2)]) hx hb dX5_goOnFrom_99 hl (k := 1) rfl h32.symm (by decide) rfl (fun ls hl => ?_)
            refine lv_goto (tgt := 21) hx hb dX5_goOnFrom_102 (by decide) ?_
            exact ih_21 x31 _ _ ls (by omega) (by omega) hG hS (lv_sub hl [0, 2, 3, 4, 5, 6] rfl)
          · skip
            refine lv_aload_n hx hb dX5_goOnFrom_51 rfl (lv_at hl 4 rfl) ?_
            refine get_X5_2 hx hb hA hown hE hG t_h0 wd_1_109 dX5_goOnFrom_52 (fun b34 (t_b34 : ty Γ b34 20) => ?_)
            refine lv_iload hx hb dX5_goOnFrom_55 (lv_at hl 1 rfl) ?_
            refine ald_20 hx hb hE hG t_b34 (by omega) dX5_goOnFrom_57 (fun j36 x35 h37 => ?_)
            refine lv_iload_n hx hb dX5_goOnFrom_58 rfl (lv_at hl 3 rfl) ?_
            refine cI (va_runS (As := [.int x35, .int x3]) (rest := []) ⟨hx, hb, hml, hown, hA⟩ (k_X5_has l dC dI dA sz X Γ hU g x35 x3   ) ⟨callB_of 2 hA (al_A wd_3_151) rfl rfl rfl (hA _ wd_1_5) (hA _ wd_3_149) (by decide +kernel) ⟨Nat.le_of_ble_eq_true rfl, Nat.le_of_ble_eq_true rfl⟩, hA _ wd_3_150⟩ ⟨bl, fun U hU9 hW9 => ⟨rfl, by rw [hU9]; exact hG, hE.go hS hU9 hW9⟩⟩ rfl rfl hl.1 rfl (lv_room (Nat.le_of_ble_eq_true rfl)) dX5_goOnFrom_59 ⟨Nat.zero_le _, Nat.zero_le _⟩) hS (fun x41 u39 H locs w40 hG hS => ?_)
            obtain ⟨eu42, w40⟩ := w40
            rw [eu42] at hG
            refine ty_if_eq (tgt := 91) hx hb dX5_goOnFrom_62 (by decide) (fun c43 => ?_) (fun c43 => ?_)
            · skip
              refine lv_aload_n hx hb dX5_goOnFrom_91 rfl (lv_at hl 4 rfl) ?_
              refine lv_iload_n hx hb dX5_goOnFrom_92 rfl (lv_at hl 5 rfl) ?_
              refine lv_iload_n hx hb dX5_goOnFrom_93 rfl (lv_at hl 3 rfl) ?_
              refine lv_iload hx hb dX5_goOnFrom_94 (lv_at hl 1 rfl) ?_
              refine cV (va_runV (C := RX5) (As := [.int p1, .int x3, .int v5_21]) (rest := []) ⟨hx, hb, hml, hown, hA⟩ (k_X5_lengthen l dC dI dA sz X Γ hU g h0 t_h0 p1 x3 v5_21   (by omega) (by omega)) ⟨callB_of 3 hA (al_A wd_3_158) rfl rfl rfl (hA _ wd_1_5) (hA _ wd_3_155) (by decide +kernel) ⟨Nat.le_of_ble_eq_true rfl, Nat.le_of_ble_eq_true rfl⟩, hA _ wd_3_157, hA _ ws_22⟩ ⟨bl, recv_X5 hE hG t_h0, fun U hU9 hW9 => ⟨rfl, by rw [hU9]; exact hG, hE.go hS hU9 hW9⟩⟩ rfl rfl hl.1 rfl (lv_room (Nat.le_of_ble_eq_true rfl)) dX5_goOnFrom_96 ⟨Nat.zero_le _, Nat.zero_le _⟩) hS (fun u44 H locs w45 hG hS => ?_)
              have eu46 := w45
              rw [eu46] at hG
              obtain ⟨x47, h48⟩ : ∃ y : Int32, y = v5_21 + Int32.ofInt (1) := ⟨_, rfl⟩
              try have h49 : x47.toInt = v5_21.toInt + (1) := ty_inc h48 (by decide) (by omega) (by omega)
              refine lv_iinc (v := x47) (lv' := [(5, .int x47), (6, .int x24), (4, .int x7), (3, .int x3), (0, .ref h0), (1, .int p1), (2, .int p2)]) hx hb dX5_goOnFrom_99 hl (k := 1) rfl h48.symm (by decide) rfl (fun ls hl => ?_)
              refine lv_goto (tgt := 21) hx hb dX5_goOnFrom_102 (by decide) ?_
              exact ih_21 x47 _ _ ls (by omega) (by omega) hG hS (lv_sub hl [0, 2, 3, 4, 5, 6] rfl)
            · skip
              refine lv_aload_n hx hb dX5_goOnFrom_65 rfl (lv_at hl 4 rfl) ?_
              refine get_X5_4 hx hb hA hown hE hG t_h0 wd_1_111 dX5_goOnFrom_66 (fun b50 (t_b50 : ty Γ b50 22) => ?_)
              refine lv_iload_n hx hb dX5_goOnFrom_69 rfl (lv_at hl 5 rfl) ?_
              refine lv_aload_n hx hb dX5_goOnFrom_70 rfl (lv_at hl 4 rfl) ?_
              refine get_X5_4 hx hb hA hown hE hG t_h0 wd_1_111 dX5_goOnFrom_71 (fun b51 (t_b51 : ty Γ b51 22) => ?_)
              refine lv_iload_n hx hb dX5_goOnFrom_74 rfl (lv_at hl 5 rfl) ?_
              refine ald_22 hx hb hE hG t_b51 (by omega) dX5_goOnFrom_75 (fun j53 x52 h54 => ?_)
              refine lv_iload hx hb dX5_goOnFrom_76 (lv_at hl 0 rfl) ?_
              refine lv_iload_n hx hb dX5_goOnFrom_78 rfl (lv_at hl 3 rfl) ?_
              refine va_gets hx hb hES.2.2.2.1 hS hown (hA _ wd_3_152) (fun _ h => h) dX5_goOnFrom_79 ?_
              refine lv_iload hx hb dX5_goOnFrom_82 (lv_at hl 1 rfl) ?_
              refine va_ti hx hb hES.2.2.2.2 hS (i := v5_21) (ty_ix (by omega)) rfl dX5_goOnFrom_84 ?_
              refine lv_topi (fun x56 h57 => ?_)
              refine ty_imul hx hb dX5_goOnFrom_85 (fun x58 h59 => ?_)
              refine ty_iadd hx hb dX5_goOnFrom_86 (fun x61 h62 => ?_)
              try have h63 : x61.toInt = x24.toInt + x58.toInt := ty_add h62 (by omega) (by omega)
              refine va_mmin hx hb (hml.trans hl.1.symm) hown (hA _ wd_3_154) (hA _ wd_2_239) (hA _ wd_1_14) (hA _ wd_3_0) (Nat.le_of_ble_eq_true rfl) (Nat.le_of_ble_eq_true rfl) (Nat.zero_le _) (Nat.zero_le _) dX5_goOnFrom_87 ?_
              refine lv_topi (fun x64 h65 => ?_)
              have h65 : x64.toInt = if x61.toInt < x52.toInt then x61.toInt else x52.toInt := by rw [h65]; simp only [ty_lt32]; split <;> rfl
              refine ast_22 hx hb hE hG hS t_b50 (by omega) dX5_goOnFrom_90 (fun H locs hG hS => ?_)
              refine lv_aload_n hx hb dX5_goOnFrom_91 rfl (lv_at hl 4 rfl) ?_
              refine lv_iload_n hx hb dX5_goOnFrom_92 rfl (lv_at hl 5 rfl) ?_
              refine lv_iload_n hx hb dX5_goOnFrom_93 rfl (lv_at hl 3 rfl) ?_
              refine lv_iload hx hb dX5_goOnFrom_94 (lv_at hl 1 rfl) ?_
              refine cV (va_runV (C := RX5) (As := [.int p1, .int x3, .int v5_21]) (rest := []) ⟨hx, hb, hml, hown, hA⟩ (k_X5_lengthen l dC dI dA sz X Γ hU g h0 t_h0 p1 x3 v5_21   (by omega) (by omega)) ⟨callB_of 3 hA (al_A wd_3_158) rfl rfl rfl (hA _ wd_1_5) (hA _ wd_3_155) (by decide +kernel) ⟨Nat.le_of_ble_eq_true rfl, Nat.le_of_ble_eq_true rfl⟩, hA _ wd_3_157, hA _ ws_22⟩ ⟨bl, recv_X5 hE hG t_h0, fun U hU9 hW9 => ⟨rfl, by rw [hU9]; exact hG, hE.go hS hU9 hW9⟩⟩ rfl rfl hl.1 rfl (lv_room (Nat.le_of_ble_eq_true rfl)) dX5_goOnFrom_96 ⟨Nat.zero_le _, Nat.zero_le _⟩) hS (fun u66 H locs w67 hG hS => ?_)
              have eu68 := w67
              rw [eu68] at hG
              obtain ⟨x69, h70⟩ : ∃ y : Int32, y = v5_21 + Int32.ofInt (1) := ⟨_, rfl⟩
              try have h71 : x69.toInt = v5_21.toInt + (1) := ty_inc h70 (by decide) (by omega) (by omega)
              refine lv_iinc (v := x69) (lv' := [(5, .int x69), (6, .int x24), (4, .int x7), (3, .int x3), (0, .ref h0), (1, .int p1), (2, .int p2)]) hx hb dX5_goOnFrom_99 hl (k := 1) rfl h70.symm (by decide) rfl (fun ls hl => ?_)
              refine lv_goto (tgt := 21) hx hb dX5_goOnFrom_102 (by decide) ?_
              exact ih_21 x69 _ _ ls (by omega) (by omega) hG hS (lv_sub hl [0, 2, 3, 4, 5, 6] rfl)
    exact L_21 ((65 - x3.toInt) + 1).toNat x3 _ _ ls (by omega) (by omega) hG hS (lv_sub hl [0, 1, 2, 3, 4, 5] rfl)
  · skip
    exact W.vret hx hb hr (fun t ht hW => ⟨⟨g, rfl, rfl, ok1 ht hG⟩, hS.F ht⟩) hS.2.2 dX5_goOnFrom_17

set_option maxHeartbeats 4000000 in
set_option maxRecDepth 100000 in
/-- WeekBank$RingSearch.firstWay:  -/
theorem k_X5_firstWay (l : Launch) (dC : Nat → ClassId) (dI : Nat → Nat → Nat) (dA : Nat → ClassId) (sz : Nat) (X : va_W) (Γ : ty_G) (hU : Un Γ) (g : gh) (h0 : Nat) (t_h0 : ty Γ h0 8) (p1 : Int32) (hf : 1 ≤ p1.toInt ∧ p1.toInt ≤ 511) : Met l yX5_firstWay (.code yX5_firstWay cX5_firstWay 6 (Option.some Jvm.ClassFile.FieldType.int) :: AL) ({ frames := 1, cells := 0, slots := 0, locals := 13 }) (PCx dC dI dA sz X Γ g [.ref h0, .int p1]) (va_Qi (fun (r : Int32) (u : gh) => u = g) (okb dC dI dA sz X Γ) (ty_A sz)) 0 0 (ty_A sz) := by
  refine Met.ofW (cc := cX5_firstWay) (maxL := 6) (ret := (Option.some Jvm.ClassFile.FieldType.int)) (by decide) rfl ?_
  intro p e s m args below meth c s₁ B hml hv
  obtain ⟨rfl, hG, hE⟩ := hv
  have hx := B.exec
  have hb := B.bytes
  have hr := B.returns
  have hts := atoms_spec B.pre
  have hA : ∀ w ∈ AL, w.before _ s = true := fun w h => hts w (List.mem_cons_of_mem _ h)
  have hown : s.vm.findClass RX5 = some m.cls := findClass_of_methodNamed B.named
  have hlocks := B.notSynchronized
  have hS : va_S (ty_A sz) s.heap s.heap [] := va_S.rf
  have hl := lv_entry ([.ref h0, .int p1]) (n := 6) (Nat.le_of_ble_eq_true rfl)
  rw [lg_entry_eq]
  generalize (lg_sl ([.ref h0, .int p1]) ++ List.replicate (6 - (lg_sl ([.ref h0, .int p1])).length) Slot.unset).toArray = ls at hl ⊢
  have hl : lv_has ls 6 [(0, .ref h0), (1, .int p1)] := hl
  refine lv_iload_n hx hb dX5_firstWay_0 rfl (lv_at hl 1 rfl) ?_
  refine lv_iload_n hx hb dX5_firstWay_1 rfl (lv_at hl 1 rfl) ?_
  refine ty_iconst hx hb (1) dX5_firstWay_2 (by decide) (fun x1 h2 => ?_)
  refine ty_isub hx hb dX5_firstWay_3 (fun x3 h4 => ?_)
  try have h5 : x3.toInt = p1.toInt - x1.toInt := ty_sub h4 (by omega) (by omega)
  refine ty_iand hx hb dX5_firstWay_4 (fun x6 h7 => ?_)
  have h8 := and_lel h7 (by omega)
  have h9 := and_ler h7 (by omega)
  refine lv_istore_n (lv' := [(2, .int x6), (0, .ref h0), (1, .int p1)]) hx hb dX5_firstWay_5 rfl hl (by decide) rfl (fun ls hl => ?_)
  refine lv_aload_n hx hb dX5_firstWay_6 rfl (lv_at hl 1 rfl) ?_
  refine get_X5_4 hx hb hA hown hE hG t_h0 wd_1_111 dX5_firstWay_7 (fun b10 (t_b10 : ty Γ b10 22) => ?_)
  refine lv_iload_n hx hb dX5_firstWay_10 rfl (lv_at hl 2 rfl) ?_
  refine ald_22 hx hb hE hG t_b10 (by omega) dX5_firstWay_11 (fun j12 x11 h13 => ?_)
  refine lv_istore_n (lv' := [(3, .int x11), (2, .int x6), (0, .ref h0), (1, .int p1)]) hx hb dX5_firstWay_12 rfl hl (by decide) rfl (fun ls hl => ?_)
  refine lv_iload_n hx hb dX5_firstWay_13 rfl (lv_at hl 1 rfl) ?_
  refine lv_istore (lv' := [(4, .int x6), (3, .int x11), (2, .int x6), (0, .ref h0), (1, .int p1)]) hx hb dX5_firstWay_14 hl (by decide) rfl (fun ls hl => ?_)
  have L_16 : ∀ (n : Nat) (v4_16 : Int32) (v3_16 : Int32) (H : Heap) (locs : List Loc) (ls : Array Slot), (v4_16.toInt : Int) < n → 0 ≤ v4_16.toInt ∧ v4_16.toInt ≤ 511 → ty_ok (dC, dI) vwCl Γ (TP dA Γ g) sz X H → va_S (ty_A sz) s.heap H locs → lv_has ls 6 [(4, .int v4_16), (3, .int v3_16), (2, .int x6), (0, .ref h0), (1, .int p1)] → W p l e (headSpec (.code yX5_firstWay cX5_firstWay 6 (Option.some Jvm.ClassFile.FieldType.int) :: AL) ({ frames := 1, cells := 0, slots := 0, locals := 13 })).room s m ([.ref h0, .int p1] : List Value).toArray below meth c H locs 0 0 (MQ below (va_Qi (fun (r : Int32) (u : gh) => u = g) (okb dC dI dA sz X Γ) (ty_A sz)) ([.ref h0, .int p1] : List Value).toArray s 0 0 (ty_A sz)) (F0 m 16 ls []) := by
    intro n
    induction n with
    | zero => intro v4_16 v3_16 H locs ls hm hi0 hG hS hl; exfalso; omega
    | succ n ih_16 =>
      intro v4_16 v3_16 H locs ls hm hi0 hG hS hl
      refine lv_iload hx hb dX5_firstWay_16 (lv_at hl 0 rfl) ?_
      refine ty_if_le (tgt := 79) hx hb dX5_firstWay_18 (by decide) (fun c16 => ?_) (fun c16 => ?_)
      · skip
        refine lv_iload_n hx hb dX5_firstWay_79 rfl (lv_at hl 1 rfl) ?_
        exact W.iret (v := v3_16) hx hb hr (fun t ht hW => ⟨⟨v3_16, g, rfl, rfl, ok1 ht hG⟩, hS.F ht⟩) hS.2.2 dX5_firstWay_80
      · skip
        refine lv_aload_n hx hb dX5_firstWay_21 rfl (lv_at hl 3 rfl) ?_
        refine get_X5_4 hx hb hA hown hE hG t_h0 wd_1_111 dX5_firstWay_22 (fun b17 (t_b17 : ty Γ b17 22) => ?_)
        refine lv_iload_n hx hb dX5_firstWay_25 rfl (lv_at hl 4 rfl) ?_
        refine lv_iload hx hb dX5_firstWay_26 (lv_at hl 0 rfl) ?_
        refine ty_iconst hx hb (-1) dX5_firstWay_28 (by decide) (fun x18 h19 => ?_)
        refine ty_ixor hx hb dX5_firstWay_29 (fun x20 h21 => ?_)
        refine ty_iand hx hb dX5_firstWay_30 (fun x22 h23 => ?_)
        have h24 := and_lel h23 (by omega)
        refine ald_22 hx hb hE hG t_b17 (by omega) dX5_firstWay_31 (fun j26 x25 h27 => ?_)
        refine lv_istore (lv' := [(5, .int x25), (4, .int v4_16), (3, .int v3_16), (2, .int x6), (0, .ref h0), (1, .int p1)]) hx hb dX5_firstWay_32 hl (by decide) rfl (fun ls hl => ?_)
        refine lv_iload hx hb dX5_firstWay_34 (lv_at hl 0 rfl) ?_
        refine ty_ldc hx hb (2147483647) hown (hA _ wd_3_135) dX5_firstWay_36 (by decide) (fun x29 h30 => ?_)
        refine ty_icmp_eq (tgt := 68) hx hb dX5_firstWay_38 (by decide) (fun c31 => ?_) (fun c31 => ?_)
        · skip
          refine lv_iload hx hb dX5_firstWay_68 (lv_at hl 1 rfl) ?_
          refine ty_iconst hx hb (1) dX5_firstWay_70 (by decide) (fun x32 h33 => ?_)
          refine ty_isub hx hb dX5_firstWay_71 (fun x34 h35 => ?_)
          try have h36 : x34.toInt = v4_16.toInt - x32.toInt := ty_sub h35 (by omega) (by omega)
          refine lv_iload_n hx hb dX5_firstWay_72 rfl (lv_at hl 3 rfl) ?_
          refine ty_iand hx hb dX5_firstWay_73 (fun x37 h38 => ?_)
          have h39 := and_lel h38 (by omega)
          have h40 := and_ler h38 (by omega)
          refine lv_istore (lv' := [(4, .int x37), (5, .int x25), (3, .int v3_16), (2, .int x6), (0, .ref h0), (1, .int p1)]) hx hb dX5_firstWay_74 hl (by decide) rfl (fun ls hl => ?_)
          refine lv_goto (tgt := 16) hx hb dX5_firstWay_76 (by decide) ?_
          exact ih_16 x37 v3_16 _ _ ls (by omega) (by omega) hG hS (lv_sub hl [0, 2, 3, 4, 5] rfl)
        · skip
          refine lv_aload_n hx hb dX5_firstWay_41 rfl (lv_at hl 4 rfl) ?_
          refine get_X5_5 hx hb hA hown hE hG t_h0 wd_1_112 dX5_firstWay_42 (fun b41 (t_b41 : ty Γ b41 22) => ?_)
          refine lv_iload hx hb dX5_firstWay_45 (lv_at hl 1 rfl) ?_
          refine ald_22 hx hb hE hG t_b41 (by omega) dX5_firstWay_47 (fun j43 x42 h44 => ?_)
          refine ty_ldc hx hb (2147483647) hown (hA _ wd_3_135) dX5_firstWay_48 (by decide) (fun x46 h47 => ?_)
          refine ty_icmp_eq (tgt := 68) hx hb dX5_firstWay_50 (by decide) (fun c48 => ?_) (fun c48 => ?_)
          · skip
            refine lv_iload hx hb dX5_firstWay_68 (lv_at hl 1 rfl) ?_
            refine ty_iconst hx hb (1) dX5_firstWay_70 (by decide) (fun x49 h50 => ?_)
            refine ty_isub hx hb dX5_firstWay_71 (fun x51 h52 => ?_)
            try have h53 : x51.toInt = v4_16.toInt - x49.toInt := ty_sub h52 (by omega) (by omega)
            refine lv_iload_n hx hb dX5_firstWay_72 rfl (lv_at hl 3 rfl) ?_
            refine ty_iand hx hb dX5_firstWay_73 (fun x54 h55 => ?_)
            have h56 := and_lel h55 (by omega)
            have h57 := and_ler h55 (by omega)
            refine lv_istore (lv' := [(4, .int x54), (5, .int x25), (3, .int v3_16), (2, .int x6), (0, .ref h0), (1, .int p1)]) hx hb dX5_firstWay_74 hl (by decide) rfl (fun ls hl => ?_)
            refine lv_goto (tgt := 16) hx hb dX5_firstWay_76 (by decide) ?_
            exact ih_16 x54 v3_16 _ _ ls (by omega) (by omega) hG hS (lv_sub hl [0, 2, 3, 4, 5] rfl)
          · skip
            refine lv_iload_n hx hb dX5_firstWay_53 rfl (lv_at hl 2 rfl) ?_
            refine lv_iload hx hb dX5_firstWay_54 (lv_at hl 0 rfl) ?_
            refine lv_aload_n hx hb dX5_firstWay_56 rfl (lv_at hl 4 rfl) ?_
            refine get_X5_5 hx hb hA hown hE hG t_h0 wd_1_112 dX5_firstWay_57 (fun b58 (t_b58 : ty Γ b58 22) => ?_)
            refine lv_iload hx hb dX5_firstWay_60 (lv_at hl 1 rfl) ?_
            refine ald_22 hx hb hE hG t_b58 (by omega) dX5_firstWay_62 (fun j60 x59 h61 => ?_)
            refine ty_iadd hx hb dX5_firstWay_63 (fun x63 h64 => ?_)
            try have h65 : x63.toInt = x25.toInt + x59.toInt := ty_add h64 (by omega) (by omega)
            refine va_mmin hx hb (hml.trans hl.1.symm) hown (hA _ wd_3_154) (hA _ wd_2_239) (hA _ wd_1_14) (hA _ wd_3_0) (Nat.le_of_ble_eq_true rfl) (Nat.le_of_ble_eq_true rfl) (Nat.zero_le _) (Nat.zero_le _) dX5_firstWay_64 ?_
            refine lv_topi (fun x66 h67 => ?_)
            have h67 : x66.toInt = if x63.toInt < v3_16.toInt then x63.toInt else v3_16.toInt := by rw [h67]; simp only [ty_lt32]; split <;> rfl
            refine lv_istore_n (lv' := [(3, .int x66), (5, .int x25), (4, .int v4_16), (2, .int x6), (0, .ref h0), (1, .int p1)]) hx hb dX5_firstWay_67 rfl hl (by decide) rfl (fun ls hl => ?_)
            refine lv_iload hx hb dX5_firstWay_68 (lv_at hl 2 rfl) ?_
            refine ty_iconst hx hb (1) dX5_firstWay_70 (by decide) (fun x68 h69 => ?_)
            refine ty_isub hx hb dX5_firstWay_71 (fun x70 h71 => ?_)
            try have h72 : x70.toInt = v4_16.toInt - x68.toInt := ty_sub h71 (by omega) (by omega)
            refine lv_iload_n hx hb dX5_firstWay_72 rfl (lv_at hl 3 rfl) ?_
            refine ty_iand hx hb dX5_firstWay_73 (fun x73 h74 => ?_)
            have h75 := and_lel h74 (by omega)
            have h76 := and_ler h74 (by omega)
            refine lv_istore (lv' := [(4, .int x73), (3, .int x66), (5, .int x25), (2, .int x6), (0, .ref h0), (1, .int p1)]) hx hb dX5_firstWay_74 hl (by decide) rfl (fun ls hl => ?_)
            refine lv_goto (tgt := 16) hx hb dX5_firstWay_76 (by decide) ?_
            exact ih_16 x73 x66 _ _ ls (by omega) (by omega) hG hS (lv_sub hl [0, 1, 3, 4, 5] rfl)
  exact L_16 ((x6.toInt) + 1).toNat x6 x11 _ _ ls (by omega) (by omega) hG hS (lv_sub hl [0, 1, 2, 3, 4] rfl)

set_option maxHeartbeats 4000000 in
set_option maxRecDepth 100000 in
/-- WeekBank$RingSearch.sumWorth:  -/
theorem k_X5_sumWorth (l : Launch) (dC : Nat → ClassId) (dI : Nat → Nat → Nat) (dA : Nat → ClassId) (sz : Nat) (X : va_W) (Γ : ty_G) (hU : Un Γ) (g : gh) (h0 : Nat) (t_h0 : ty Γ h0 8) (p1 : Int32) (hs : 0 ≤ g 7 0 ∧ g 7 0 ≤ g 36 0 ∧ g 36 0 ≤ 9) : Met l yX5_sumWorth (.code yX5_sumWorth cX5_sumWorth 4 (Option.some Jvm.ClassFile.FieldType.int) :: AL) ({ frames := 1, cells := 0, slots := 0, locals := 21 }) (PCx dC dI dA sz X Γ g [.ref h0, .int p1]) (va_Qi (fun (r : Int32) (u : gh) => u = g) (okb dC dI dA sz X Γ) (ty_A sz)) 0 0 (ty_A sz) := by
  refine Met.ofW (cc := cX5_sumWorth) (maxL := 4) (ret := (Option.some Jvm.ClassFile.FieldType.int)) (by decide) rfl ?_
  intro p e s m args below meth c s₁ B hml hv
  obtain ⟨rfl, hG, hE⟩ := hv
  have hx := B.exec
  have hb := B.bytes
  have hr := B.returns
  have hts := atoms_spec B.pre
  have hA : ∀ w ∈ AL, w.before _ s = true := fun w h => hts w (List.mem_cons_of_mem _ h)
  have hown : s.vm.findClass RX5 = some m.cls := findClass_of_methodNamed B.named
  have hlocks := B.notSynchronized
  have hS : va_S (ty_A sz) s.heap s.heap [] := va_S.rf
  have hl := lv_entry ([.ref h0, .int p1]) (n := 4) (Nat.le_of_ble_eq_true rfl)
  rw [lg_entry_eq]
  generalize (lg_sl ([.ref h0, .int p1]) ++ List.replicate (4 - (lg_sl ([.ref h0, .int p1])).length) Slot.unset).toArray = ls at hl ⊢
  have hl : lv_has ls 4 [(0, .ref h0), (1, .int p1)] := hl
  refine ty_iconst hx hb (0) dX5_sumWorth_0 (by decide) (fun x1 h2 => ?_)
  refine lv_istore_n (lv' := [(2, .int x1), (0, .ref h0), (1, .int p1)]) hx hb dX5_sumWorth_1 rfl hl (by decide) rfl (fun ls hl => ?_)
  refine ty_iconst hx hb (0) dX5_sumWorth_2 (by decide) (fun x3 h4 => ?_)
  refine lv_istore_n (lv' := [(3, .int x3), (2, .int x1), (0, .ref h0), (1, .int p1)]) hx hb dX5_sumWorth_3 rfl hl (by decide) rfl (fun ls hl => ?_)
  have L_4 : ∀ (n : Nat) (v3_4 : Int32) (v2_4 : Int32) (H : Heap) (locs : List Loc) (ls : Array Slot), (g 7 0 - v3_4.toInt : Int) < n → 0 ≤ v3_4.toInt ∧ v3_4.toInt ≤ g 7 0 → ty_ok (dC, dI) vwCl Γ (TP dA Γ g) sz X H → va_S (ty_A sz) s.heap H locs → lv_has ls 4 [(3, .int v3_4), (2, .int v2_4), (0, .ref h0), (1, .int p1)] → W p l e (headSpec (.code yX5_sumWorth cX5_sumWorth 4 (Option.some Jvm.ClassFile.FieldType.int) :: AL) ({ frames := 1, cells := 0, slots := 0, locals := 21 })).room s m ([.ref h0, .int p1] : List Value).toArray below meth c H locs 0 0 (MQ below (va_Qi (fun (r : Int32) (u : gh) => u = g) (okb dC dI dA sz X Γ) (ty_A sz)) ([.ref h0, .int p1] : List Value).toArray s 0 0 (ty_A sz)) (F0 m 4 ls []) := by
    intro n
    induction n with
    | zero => intro v3_4 v2_4 H locs ls hm hi0 hG hS hl; exfalso; omega
    | succ n ih_4 =>
      intro v3_4 v2_4 H locs ls hm hi0 hG hS hl
      refine lv_iload_n hx hb dX5_sumWorth_4 rfl (lv_at hl 0 rfl) ?_
      refine lv_aload_n hx hb dX5_sumWorth_5 rfl (lv_at hl 2 rfl) ?_
      refine get_X5_1 hx hb hA hown hE hG t_h0 wd_1_108 dX5_sumWorth_6 (fun x6 h7 => ?_)
      refine ty_icmp_ge (tgt := 38) hx hb dX5_sumWorth_9 (by decide) (fun c9 => ?_) (fun c9 => ?_)
      · skip
        refine lv_iload_n hx hb dX5_sumWorth_38 rfl (lv_at hl 1 rfl) ?_
        exact W.iret (v := v2_4) hx hb hr (fun t ht hW => ⟨⟨v2_4, g, rfl, rfl, ok1 ht hG⟩, hS.F ht⟩) hS.2.2 dX5_sumWorth_39
      · skip
        refine lv_iload_n hx hb dX5_sumWorth_12 rfl (lv_at hl 3 rfl) ?_
        refine lv_iload_n hx hb dX5_sumWorth_13 rfl (lv_at hl 0 rfl) ?_
        refine cI (va_runS (As := [.int p1, .int v3_4]) (rest := []) ⟨hx, hb, hml, hown, hA⟩ (k_X5_has l dC dI dA sz X Γ hU g p1 v3_4   ) ⟨callB_of 2 hA (al_A wd_3_151) rfl rfl rfl (hA _ wd_1_5) (hA _ wd_3_149) (by decide +kernel) ⟨Nat.le_of_ble_eq_true rfl, Nat.le_of_ble_eq_true rfl⟩, hA _ wd_3_150⟩ ⟨bl, fun U hU9 hW9 => ⟨rfl, by rw [hU9]; exact hG, hE.go hS hU9 hW9⟩⟩ rfl rfl hl.1 rfl (lv_room (Nat.le_of_ble_eq_true rfl)) dX5_sumWorth_14 ⟨Nat.zero_le _, Nat.zero_le _⟩) hS (fun x12 u10 H locs w11 hG hS => ?_)
        obtain ⟨eu13, w11⟩ := w11
        rw [eu13] at hG
        refine ty_if_eq (tgt := 32) hx hb dX5_sumWorth_17 (by decide) (fun c14 => ?_) (fun c14 => ?_)
        · skip
          obtain ⟨x15, h16⟩ : ∃ y : Int32, y = v3_4 + Int32.ofInt (1) := ⟨_, rfl⟩
          try have h17 : x15.toInt = v3_4.toInt + (1) := ty_inc h16 (by decide) (by omega) (by omega)
          refine lv_iinc (v := x15) (lv' := [(3, .int x15), (2, .int v2_4), (0, .ref h0), (1, .int p1)]) hx hb dX5_sumWorth_32 hl (k := 0) rfl h16.symm (by decide) rfl (fun ls hl => ?_)
          refine lv_goto (tgt := 4) hx hb dX5_sumWorth_35 (by decide) ?_
          exact ih_4 x15 v2_4 _ _ ls (by omega) (by omega) hG hS (lv_sub hl [0, 1, 2, 3] rfl)
        · skip
          refine lv_iload_n hx hb dX5_sumWorth_20 rfl (lv_at hl 1 rfl) ?_
          refine lv_aload_n hx hb dX5_sumWorth_21 rfl (lv_at hl 2 rfl) ?_
          refine get_X5_0 hx hb hA hown hE hG t_h0 wd_1_107 dX5_sumWorth_22 (fun b18 (t_b18 : ty Γ b18 19) => ?_)
          refine lv_iload_n hx hb dX5_sumWorth_25 rfl (lv_at hl 0 rfl) ?_
          refine ald_19 hx hb hE hG t_b18 (by omega) dX5_sumWorth_26 (fun j20 r19 h21 t_r19 h22 => ?_)
          obtain ⟨b23, rfl⟩ := Option.ne_none_iff_exists'.mp (h22 (by omega))
          have t_b23 : ty Γ b23 4 := t_r19 b23 rfl
          have hl : lv_has ls 4 [(3, .int v3_4), (2, .int v2_4), (0, .ref h0), (1, .int p1)] := hl
          refine get_X2_5 hx hb hA hown hE hG t_b23 wd_3_31 dX5_sumWorth_27 (fun x24 => ?_)
          refine ty_iadd hx hb dX5_sumWorth_30 (fun x25 h26 => ?_)
          refine lv_istore_n (lv' := [(2, .int x25), (3, .int v3_4), (0, .ref h0), (1, .int p1)]) hx hb dX5_sumWorth_31 rfl hl (by decide) rfl (fun ls hl => ?_)
          obtain ⟨x28, h29⟩ : ∃ y : Int32, y = v3_4 + Int32.ofInt (1) := ⟨_, rfl⟩
          try have h30 : x28.toInt = v3_4.toInt + (1) := ty_inc h29 (by decide) (by omega) (by omega)
          refine lv_iinc (v := x28) (lv' := [(3, .int x28), (2, .int x25), (0, .ref h0), (1, .int p1)]) hx hb dX5_sumWorth_32 hl (k := 1) rfl h29.symm (by decide) rfl (fun ls hl => ?_)
          refine lv_goto (tgt := 4) hx hb dX5_sumWorth_35 (by decide) ?_
          exact ih_4 x28 x25 _ _ ls (by omega) (by omega) hG hS (lv_sub hl [0, 1, 2, 3] rfl)
  exact L_4 ((g 7 0 - x3.toInt) + 1).toNat x3 x1 _ _ ls (by omega) (by omega) hG hS (lv_sub hl [0, 1, 2, 3] rfl)

set_option maxHeartbeats 4000000 in
set_option maxRecDepth 100000 in
/-- WeekBank$RingSearch.wholeWay:  -/
theorem k_X5_wholeWay (l : Launch) (dC : Nat → ClassId) (dI : Nat → Nat → Nat) (dA : Nat → ClassId) (sz : Nat) (X : va_W) (Γ : ty_G) (hU : Un Γ) (g : gh) (h0 : Nat) (t_h0 : ty Γ h0 8) (p1 : Int32) (hs : 0 ≤ g 7 0 ∧ g 7 0 ≤ g 36 0 ∧ g 36 0 ≤ 9) (hf : 0 ≤ p1.toInt ∧ p1.toInt ≤ 511) : Met l yX5_wholeWay (.code yX5_wholeWay cX5_wholeWay 4 (Option.some Jvm.ClassFile.FieldType.int) :: AL) ({ frames := 1, cells := 0, slots := 0, locals := 21 }) (PCx dC dI dA sz X Γ g [.ref h0, .int p1]) (va_Qi (fun (r : Int32) (u : gh) => u = g) (okb dC dI dA sz X Γ) (ty_A sz)) 0 0 (ty_A sz) := by
  refine Met.ofW (cc := cX5_wholeWay) (maxL := 4) (ret := (Option.some Jvm.ClassFile.FieldType.int)) (by decide) rfl ?_
  intro p e s m args below meth c s₁ B hml hv
  obtain ⟨rfl, hG, hE⟩ := hv
  have hx := B.exec
  have hb := B.bytes
  have hr := B.returns
  have hts := atoms_spec B.pre
  have hA : ∀ w ∈ AL, w.before _ s = true := fun w h => hts w (List.mem_cons_of_mem _ h)
  have hown : s.vm.findClass RX5 = some m.cls := findClass_of_methodNamed B.named
  have hlocks := B.notSynchronized
  have hS : va_S (ty_A sz) s.heap s.heap [] := va_S.rf
  have hES := hE.2.1.2.2.2.2.2.2
  have hl := lv_entry ([.ref h0, .int p1]) (n := 4) (Nat.le_of_ble_eq_true rfl)
  rw [lg_entry_eq]
  generalize (lg_sl ([.ref h0, .int p1]) ++ List.replicate (4 - (lg_sl ([.ref h0, .int p1])).length) Slot.unset).toArray = ls at hl ⊢
  have hl : lv_has ls 4 [(0, .ref h0), (1, .int p1)] := hl
  refine lv_aload_n hx hb dX5_wholeWay_0 rfl (lv_at hl 0 rfl) ?_
  refine get_X5_5 hx hb hA hown hE hG t_h0 wd_1_112 dX5_wholeWay_1 (fun b1 (t_b1 : ty Γ b1 22) => ?_)
  refine lv_iload_n hx hb dX5_wholeWay_4 rfl (lv_at hl 1 rfl) ?_
  refine ald_22 hx hb hE hG t_b1 (by omega) dX5_wholeWay_5 (fun j3 x2 h4 => ?_)
  refine lv_istore_n (lv' := [(2, .int x2), (0, .ref h0), (1, .int p1)]) hx hb dX5_wholeWay_6 rfl hl (by decide) rfl (fun ls hl => ?_)
  refine ty_iconst hx hb (0) dX5_wholeWay_7 (by decide) (fun x6 h7 => ?_)
  refine lv_istore_n (lv' := [(3, .int x6), (2, .int x2), (0, .ref h0), (1, .int p1)]) hx hb dX5_wholeWay_8 rfl hl (by decide) rfl (fun ls hl => ?_)
  have L_9 : ∀ (n : Nat) (v3_9 : Int32) (v2_9 : Int32) (H : Heap) (locs : List Loc) (ls : Array Slot), (g 7 0 - v3_9.toInt : Int) < n → 0 ≤ v3_9.toInt ∧ v3_9.toInt ≤ g 7 0 → ty_ok (dC, dI) vwCl Γ (TP dA Γ g) sz X H → va_S (ty_A sz) s.heap H locs → lv_has ls 4 [(3, .int v3_9), (2, .int v2_9), (0, .ref h0), (1, .int p1)] → W p l e (headSpec (.code yX5_wholeWay cX5_wholeWay 4 (Option.some Jvm.ClassFile.FieldType.int) :: AL) ({ frames := 1, cells := 0, slots := 0, locals := 21 })).room s m ([.ref h0, .int p1] : List Value).toArray below meth c H locs 0 0 (MQ below (va_Qi (fun (r : Int32) (u : gh) => u = g) (okb dC dI dA sz X Γ) (ty_A sz)) ([.ref h0, .int p1] : List Value).toArray s 0 0 (ty_A sz)) (F0 m 9 ls []) := by
    intro n
    induction n with
    | zero => intro v3_9 v2_9 H locs ls hm hi0 hG hS hl; exfalso; omega
    | succ n ih_9 =>
      intro v3_9 v2_9 H locs ls hm hi0 hG hS hl
      refine lv_iload_n hx hb dX5_wholeWay_9 rfl (lv_at hl 0 rfl) ?_
      refine lv_aload_n hx hb dX5_wholeWay_10 rfl (lv_at hl 2 rfl) ?_
      refine get_X5_1 hx hb hA hown hE hG t_h0 wd_1_108 dX5_wholeWay_11 (fun x9 h10 => ?_)
      refine ty_icmp_ge (tgt := 42) hx hb dX5_wholeWay_14 (by decide) (fun c12 => ?_) (fun c12 => ?_)
      · skip
        refine lv_iload_n hx hb dX5_wholeWay_42 rfl (lv_at hl 1 rfl) ?_
        exact W.iret (v := v2_9) hx hb hr (fun t ht hW => ⟨⟨v2_9, g, rfl, rfl, ok1 ht hG⟩, hS.F ht⟩) hS.2.2 dX5_wholeWay_43
      · skip
        refine lv_iload_n hx hb dX5_wholeWay_17 rfl (lv_at hl 3 rfl) ?_
        refine lv_iload_n hx hb dX5_wholeWay_18 rfl (lv_at hl 0 rfl) ?_
        refine cI (va_runS (As := [.int p1, .int v3_9]) (rest := []) ⟨hx, hb, hml, hown, hA⟩ (k_X5_has l dC dI dA sz X Γ hU g p1 v3_9   ) ⟨callB_of 2 hA (al_A wd_3_151) rfl rfl rfl (hA _ wd_1_5) (hA _ wd_3_149) (by decide +kernel) ⟨Nat.le_of_ble_eq_true rfl, Nat.le_of_ble_eq_true rfl⟩, hA _ wd_3_150⟩ ⟨bl, fun U hU9 hW9 => ⟨rfl, by rw [hU9]; exact hG, hE.go hS hU9 hW9⟩⟩ rfl rfl hl.1 rfl (lv_room (Nat.le_of_ble_eq_true rfl)) dX5_wholeWay_19 ⟨Nat.zero_le _, Nat.zero_le _⟩) hS (fun x15 u13 H locs w14 hG hS => ?_)
        obtain ⟨eu16, w14⟩ := w14
        rw [eu16] at hG
        refine ty_if_ne (tgt := 36) hx hb dX5_wholeWay_22 (by decide) (fun c17 => ?_) (fun c17 => ?_)
        · skip
          obtain ⟨x18, h19⟩ : ∃ y : Int32, y = v3_9 + Int32.ofInt (1) := ⟨_, rfl⟩
          try have h20 : x18.toInt = v3_9.toInt + (1) := ty_inc h19 (by decide) (by omega) (by omega)
          refine lv_iinc (v := x18) (lv' := [(3, .int x18), (2, .int v2_9), (0, .ref h0), (1, .int p1)]) hx hb dX5_wholeWay_36 hl (k := 0) rfl h19.symm (by decide) rfl (fun ls hl => ?_)
          refine lv_goto (tgt := 9) hx hb dX5_wholeWay_39 (by decide) ?_
          exact ih_9 x18 v2_9 _ _ ls (by omega) (by omega) hG hS (lv_sub hl [0, 1, 2, 3] rfl)
        · skip
          refine lv_iload_n hx hb dX5_wholeWay_25 rfl (lv_at hl 1 rfl) ?_
          refine ty_bipush hx hb (9) dX5_wholeWay_26 (by decide) (fun x21 h22 => ?_)
          refine va_gets hx hb hES.2.2.2.1 hS hown (hA _ wd_3_152) (fun _ h => h) dX5_wholeWay_28 ?_
          refine lv_iload_n hx hb dX5_wholeWay_31 rfl (lv_at hl 0 rfl) ?_
          refine va_ti hx hb hES.2.2.2.2 hS (i := v3_9) (ty_ix (by omega)) rfl dX5_wholeWay_32 ?_
          refine lv_topi (fun x23 h24 => ?_)
          refine ty_imul hx hb dX5_wholeWay_33 (fun x25 h26 => ?_)
          try have h27 : x25.toInt = 9 * x23.toInt := ty_mull h26 (by omega) (by omega) (by omega)
          refine ty_iadd hx hb dX5_wholeWay_34 (fun x28 h29 => ?_)
          try have h30 : x28.toInt = v2_9.toInt + x25.toInt := ty_add h29 (by omega) (by omega)
          refine lv_istore_n (lv' := [(2, .int x28), (3, .int v3_9), (0, .ref h0), (1, .int p1)]) hx hb dX5_wholeWay_35 rfl hl (by decide) rfl (fun ls hl => ?_)
          obtain ⟨x31, h32⟩ : ∃ y : Int32, y = v3_9 + Int32.ofInt (1) := ⟨_, rfl⟩
          try have h33 : x31.toInt = v3_9.toInt + (1) := ty_inc h32 (by decide) (by omega) (by omega)
          refine lv_iinc (v := x31) (lv' := [(3, .int x31), (2, .int x28), (0, .ref h0), (1, .int p1)]) hx hb dX5_wholeWay_36 hl (k := 1) rfl h32.symm (by decide) rfl (fun ls hl => ?_)
          refine lv_goto (tgt := 9) hx hb dX5_wholeWay_39 (by decide) ?_
          exact ih_9 x31 x28 _ _ ls (by omega) (by omega) hG hS (lv_sub hl [0, 1, 2, 3] rfl)
  exact L_9 ((g 7 0 - x6.toInt) + 1).toNat x6 x2 _ _ ls (by omega) (by omega) hG hS (lv_sub hl [0, 1, 2, 3] rfl)

set_option maxHeartbeats 4000000 in
set_option maxRecDepth 100000 in
/-- WeekBank$RingSearch.isBetter:  -/
theorem k_X5_isBetter (l : Launch) (dC : Nat → ClassId) (dI : Nat → Nat → Nat) (dA : Nat → ClassId) (sz : Nat) (X : va_W) (Γ : ty_G) (hU : Un Γ) (g : gh) (h0 : Nat) (t_h0 : ty Γ h0 8) (p1 : Int32) (hs : 0 ≤ g 7 0 ∧ g 7 0 ≤ g 36 0 ∧ g 36 0 ≤ 9) (hb8 : 0 ≤ g 8 0 ∧ g 8 0 ≤ 511) (hf : 0 ≤ p1.toInt ∧ p1.toInt ≤ 511) : Met l yX5_isBetter (.code yX5_isBetter cX5_isBetter 4 (Option.some Jvm.ClassFile.FieldType.boolean) :: AL) ({ frames := 2, cells := 0, slots := 0, locals := 44 }) (PCx dC dI dA sz X Γ g [.ref h0, .int p1]) (va_Qi (fun (r : Int32) (u : gh) => u = g ∧ ((r.toInt = 0 ∨ r.toInt = 1))) (okb dC dI dA sz X Γ) (ty_A sz)) 0 0 (ty_A sz) := by
  refine Met.ofW (cc := cX5_isBetter) (maxL := 4) (ret := (Option.some Jvm.ClassFile.FieldType.boolean)) (by decide) rfl ?_
  intro p e s m args below meth c s₁ B hml hv
  obtain ⟨rfl, hG, hE⟩ := hv
  have hx := B.exec
  have hb := B.bytes
  have hr := B.returns
  have hts := atoms_spec B.pre
  have hA : ∀ w ∈ AL, w.before _ s = true := fun w h => hts w (List.mem_cons_of_mem _ h)
  have hown : s.vm.findClass RX5 = some m.cls := findClass_of_methodNamed B.named
  have hlocks := B.notSynchronized
  have hS : va_S (ty_A sz) s.heap s.heap [] := va_S.rf
  have hl := lv_entry ([.ref h0, .int p1]) (n := 4) (Nat.le_of_ble_eq_true rfl)
  rw [lg_entry_eq]
  generalize (lg_sl ([.ref h0, .int p1]) ++ List.replicate (4 - (lg_sl ([.ref h0, .int p1])).length) Slot.unset).toArray = ls at hl ⊢
  have hl : lv_has ls 4 [(0, .ref h0), (1, .int p1)] := hl
  refine lv_iload_n hx hb dX5_isBetter_0 rfl (lv_at hl 1 rfl) ?_
  refine cI (va_runS (As := [.int p1]) (rest := []) ⟨hx, hb, hml, hown, hA⟩ (k_bitCount l dC dI dA sz X Γ hU g p1   ) ⟨callB_of 1 hA (al_A wd_3_145) rfl rfl rfl (hA _ wd_1_17) (hA _ wd_3_143) (by decide +kernel) ⟨Nat.le_of_ble_eq_true rfl, Nat.le_of_ble_eq_true rfl⟩, hA _ wd_3_144⟩ ⟨bl, fun U hU9 hW9 => ⟨rfl, by rw [hU9]; exact hG, hE.go hS hU9 hW9⟩⟩ rfl rfl hl.1 rfl (lv_room (Nat.le_of_ble_eq_true rfl)) dX5_isBetter_1 ⟨Nat.zero_le _, Nat.zero_le _⟩) hS (fun x3 u1 H locs w2 hG hS => ?_)
  obtain ⟨eu4, w2⟩ := w2
  rw [eu4] at hG
  refine lv_aload_n hx hb dX5_isBetter_4 rfl (lv_at hl 0 rfl) ?_
  refine get_X5_6 hx hb hA hown hE hG t_h0 wd_1_113 dX5_isBetter_5 (fun x5 h6 => ?_)
  refine cI (va_runS (As := [.int x5]) (rest := [.int x3]) ⟨hx, hb, hml, hown, hA⟩ (k_bitCount l dC dI dA sz X Γ hU g x5   ) ⟨callB_of 1 hA (al_A wd_3_145) rfl rfl rfl (hA _ wd_1_17) (hA _ wd_3_143) (by decide +kernel) ⟨Nat.le_of_ble_eq_true rfl, Nat.le_of_ble_eq_true rfl⟩, hA _ wd_3_144⟩ ⟨bl, fun U hU9 hW9 => ⟨rfl, by rw [hU9]; exact hG, hE.go hS hU9 hW9⟩⟩ rfl rfl hl.1 rfl (lv_room (Nat.le_of_ble_eq_true rfl)) dX5_isBetter_8 ⟨Nat.zero_le _, Nat.zero_le _⟩) hS (fun x10 u8 H locs w9 hG hS => ?_)
  obtain ⟨eu11, w9⟩ := w9
  rw [eu11] at hG
  refine ty_isub hx hb dX5_isBetter_11 (fun x12 h13 => ?_)
  try have h14 : x12.toInt = x3.toInt - x10.toInt := ty_sub h13 (by omega) (by omega)
  refine lv_istore_n (lv' := [(2, .int x12), (0, .ref h0), (1, .int p1)]) hx hb dX5_isBetter_12 rfl hl (by decide) rfl (fun ls hl => ?_)
  refine lv_iload_n hx hb dX5_isBetter_13 rfl (lv_at hl 0 rfl) ?_
  refine ty_if_eq (tgt := 27) hx hb dX5_isBetter_14 (by decide) (fun c15 => ?_) (fun c15 => ?_)
  · skip
    refine lv_aload_n hx hb dX5_isBetter_27 rfl (lv_at hl 1 rfl) ?_
    refine lv_iload_n hx hb dX5_isBetter_28 rfl (lv_at hl 2 rfl) ?_
    refine cI (va_runV (C := RX5) (As := [.int p1]) (rest := []) ⟨hx, hb, hml, hown, hA⟩ (k_X5_sumWorth l dC dI dA sz X Γ hU g h0 t_h0 p1   (by omega)) ⟨callB_of 1 hA (al_A wd_3_170) rfl rfl rfl (hA _ wd_1_5) (hA _ wd_3_167) (by decide +kernel) ⟨Nat.le_of_ble_eq_true rfl, Nat.le_of_ble_eq_true rfl⟩, hA _ wd_3_169, hA _ ws_25⟩ ⟨bl, recv_X5 hE hG t_h0, fun U hU9 hW9 => ⟨rfl, by rw [hU9]; exact hG, hE.go hS hU9 hW9⟩⟩ rfl rfl hl.1 rfl (lv_room (Nat.le_of_ble_eq_true rfl)) dX5_isBetter_29 ⟨Nat.zero_le _, Nat.zero_le _⟩) hS (fun x18 u16 H locs w17 hG hS => ?_)
    have eu19 := w17
    rw [eu19] at hG
    refine lv_aload_n hx hb dX5_isBetter_32 rfl (lv_at hl 1 rfl) ?_
    refine lv_aload_n hx hb dX5_isBetter_33 rfl (lv_at hl 1 rfl) ?_
    refine get_X5_6 hx hb hA hown hE hG t_h0 wd_1_113 dX5_isBetter_34 (fun x20 h21 => ?_)
    refine cI (va_runV (C := RX5) (As := [.int x20]) (rest := [.int x18]) ⟨hx, hb, hml, hown, hA⟩ (k_X5_sumWorth l dC dI dA sz X Γ hU g h0 t_h0 x20   (by omega)) ⟨callB_of 1 hA (al_A wd_3_170) rfl rfl rfl (hA _ wd_1_5) (hA _ wd_3_167) (by decide +kernel) ⟨Nat.le_of_ble_eq_true rfl, Nat.le_of_ble_eq_true rfl⟩, hA _ wd_3_169, hA _ ws_25⟩ ⟨bl, recv_X5 hE hG t_h0, fun U hU9 hW9 => ⟨rfl, by rw [hU9]; exact hG, hE.go hS hU9 hW9⟩⟩ rfl rfl hl.1 rfl (lv_room (Nat.le_of_ble_eq_true rfl)) dX5_isBetter_37 ⟨Nat.zero_le _, Nat.zero_le _⟩) hS (fun x25 u23 H locs w24 hG hS => ?_)
    have eu26 := w24
    rw [eu26] at hG
    refine ty_isub hx hb dX5_isBetter_40 (fun x27 h28 => ?_)
    try have h29 : x27.toInt = x18.toInt - x25.toInt := ty_sub h28 (by omega) (by omega)
    refine lv_istore_n (lv' := [(3, .int x27), (2, .int x12), (0, .ref h0), (1, .int p1)]) hx hb dX5_isBetter_41 rfl hl (by decide) rfl (fun ls hl => ?_)
    refine lv_iload_n hx hb dX5_isBetter_42 rfl (lv_at hl 0 rfl) ?_
    refine ty_if_eq (tgt := 56) hx hb dX5_isBetter_43 (by decide) (fun c30 => ?_) (fun c30 => ?_)
    · skip
      refine lv_aload_n hx hb dX5_isBetter_56 rfl (lv_at hl 2 rfl) ?_
      refine lv_iload_n hx hb dX5_isBetter_57 rfl (lv_at hl 3 rfl) ?_
      refine cI (va_runV (C := RX5) (As := [.int p1]) (rest := []) ⟨hx, hb, hml, hown, hA⟩ (k_X5_wholeWay l dC dI dA sz X Γ hU g h0 t_h0 p1   (by omega) (by omega)) ⟨callB_of 1 hA (al_A wd_3_174) rfl rfl rfl (hA _ wd_1_5) (hA _ wd_3_171) (by decide +kernel) ⟨Nat.le_of_ble_eq_true rfl, Nat.le_of_ble_eq_true rfl⟩, hA _ wd_3_173, hA _ ws_26⟩ ⟨bl, recv_X5 hE hG t_h0, fun U hU9 hW9 => ⟨rfl, by rw [hU9]; exact hG, hE.go hS hU9 hW9⟩⟩ rfl rfl hl.1 rfl (lv_room (Nat.le_of_ble_eq_true rfl)) dX5_isBetter_58 ⟨Nat.zero_le _, Nat.zero_le _⟩) hS (fun x33 u31 H locs w32 hG hS => ?_)
      have eu34 := w32
      rw [eu34] at hG
      refine lv_aload_n hx hb dX5_isBetter_61 rfl (lv_at hl 2 rfl) ?_
      refine lv_aload_n hx hb dX5_isBetter_62 rfl (lv_at hl 2 rfl) ?_
      refine get_X5_6 hx hb hA hown hE hG t_h0 wd_1_113 dX5_isBetter_63 (fun x35 h36 => ?_)
      refine cI (va_runV (C := RX5) (As := [.int x35]) (rest := [.int x33]) ⟨hx, hb, hml, hown, hA⟩ (k_X5_wholeWay l dC dI dA sz X Γ hU g h0 t_h0 x35   (by omega) (by omega)) ⟨callB_of 1 hA (al_A wd_3_174) rfl rfl rfl (hA _ wd_1_5) (hA _ wd_3_171) (by decide +kernel) ⟨Nat.le_of_ble_eq_true rfl, Nat.le_of_ble_eq_true rfl⟩, hA _ wd_3_173, hA _ ws_26⟩ ⟨bl, recv_X5 hE hG t_h0, fun U hU9 hW9 => ⟨rfl, by rw [hU9]; exact hG, hE.go hS hU9 hW9⟩⟩ rfl rfl hl.1 rfl (lv_room (Nat.le_of_ble_eq_true rfl)) dX5_isBetter_66 ⟨Nat.zero_le _, Nat.zero_le _⟩) hS (fun x40 u38 H locs w39 hG hS => ?_)
      have eu41 := w39
      rw [eu41] at hG
      refine ty_icmp_ge (tgt := 76) hx hb dX5_isBetter_69 (by decide) (fun c42 => ?_) (fun c42 => ?_)
      · skip
        refine ty_iconst hx hb (0) dX5_isBetter_76 (by decide) (fun x43 h44 => ?_)
        exact W.zret (v := x43) hx hb hr (ty_nb (by omega)).1 (fun t ht hW => ⟨⟨x43, g, rfl, ⟨rfl, (by omega)⟩, ok1 ht hG⟩, hS.F ht⟩) hS.2.2 dX5_isBetter_77
      · skip
        refine ty_iconst hx hb (1) dX5_isBetter_72 (by decide) (fun x45 h46 => ?_)
        refine lv_goto (tgt := 77) hx hb dX5_isBetter_73 (by decide) ?_
        exact W.zret (v := x45) hx hb hr (ty_nb (by omega)).1 (fun t ht hW => ⟨⟨x45, g, rfl, ⟨rfl, (by omega)⟩, ok1 ht hG⟩, hS.F ht⟩) hS.2.2 dX5_isBetter_77
    · skip
      refine lv_iload_n hx hb dX5_isBetter_46 rfl (lv_at hl 0 rfl) ?_
      refine ty_if_le (tgt := 54) hx hb dX5_isBetter_47 (by decide) (fun c47 => ?_) (fun c47 => ?_)
      · skip
        refine ty_iconst hx hb (0) dX5_isBetter_54 (by decide) (fun x48 h49 => ?_)
        exact W.zret (v := x48) hx hb hr (ty_nb (by omega)).1 (fun t ht hW => ⟨⟨x48, g, rfl, ⟨rfl, (by omega)⟩, ok1 ht hG⟩, hS.F ht⟩) hS.2.2 dX5_isBetter_55
      · skip
        refine ty_iconst hx hb (1) dX5_isBetter_50 (by decide) (fun x50 h51 => ?_)
        refine lv_goto (tgt := 55) hx hb dX5_isBetter_51 (by decide) ?_
        exact W.zret (v := x50) hx hb hr (ty_nb (by omega)).1 (fun t ht hW => ⟨⟨x50, g, rfl, ⟨rfl, (by omega)⟩, ok1 ht hG⟩, hS.F ht⟩) hS.2.2 dX5_isBetter_55
  · skip
    refine lv_iload_n hx hb dX5_isBetter_17 rfl (lv_at hl 0 rfl) ?_
    refine ty_if_le (tgt := 25) hx hb dX5_isBetter_18 (by decide) (fun c52 => ?_) (fun c52 => ?_)
    · skip
      refine ty_iconst hx hb (0) dX5_isBetter_25 (by decide) (fun x53 h54 => ?_)
      exact W.zret (v := x53) hx hb hr (ty_nb (by omega)).1 (fun t ht hW => ⟨⟨x53, g, rfl, ⟨rfl, (by omega)⟩, ok1 ht hG⟩, hS.F ht⟩) hS.2.2 dX5_isBetter_26
    · skip
      refine ty_iconst hx hb (1) dX5_isBetter_21 (by decide) (fun x55 h56 => ?_)
      refine lv_goto (tgt := 26) hx hb dX5_isBetter_22 (by decide) ?_
      exact W.zret (v := x55) hx hb hr (ty_nb (by omega)).1 (fun t ht hW => ⟨⟨x55, g, rfl, ⟨rfl, (by omega)⟩, ok1 ht hG⟩, hS.F ht⟩) hS.2.2 dX5_isBetter_26

set_option maxHeartbeats 4000000 in
set_option maxRecDepth 100000 in
/-- WeekBank$RingSearch.findBest:  -/
theorem k_X5_findBest (l : Launch) (dC : Nat → ClassId) (dI : Nat → Nat → Nat) (dA : Nat → ClassId) (sz : Nat) (X : va_W) (Γ : ty_G) (hU : Un Γ) (g : gh) (h0 : Nat) (t_h0 : ty Γ h0 8) (p1 : Int32) (hs : 0 ≤ g 7 0 ∧ g 7 0 ≤ g 36 0 ∧ g 36 0 ≤ 9) (hb8 : 0 ≤ g 8 0 ∧ g 8 0 < pw (g 7 0)) : Met l yX5_findBest (.code yX5_findBest cX5_findBest 4 (Option.none : Option Jvm.ClassFile.FieldType) :: AL) ({ frames := 3, cells := 0, slots := 0, locals := 74 }) (PCx dC dI dA sz X Γ g [.ref h0, .int p1]) (va_Qv (fun (u : gh) => (∀ c j : Nat, c ≠ 8 → u c j = g c j) ∧ ((0 ≤ u 8 0 ∧ u 8 0 < pw (g 7 0)))) (okb dC dI dA sz X Γ) (ty_A sz)) 0 0 (ty_A sz) := by
  refine Met.ofW (cc := cX5_findBest) (maxL := 4) (ret := (Option.none : Option Jvm.ClassFile.FieldType)) (by decide) rfl ?_
  intro p e s m args below meth c s₁ B hml hv
  obtain ⟨rfl, hG, hE⟩ := hv
  have hx := B.exec
  have hb := B.bytes
  have hr := B.returns
  have hts := atoms_spec B.pre
  have hA : ∀ w ∈ AL, w.before _ s = true := fun w h => hts w (List.mem_cons_of_mem _ h)
  have hown : s.vm.findClass RX5 = some m.cls := findClass_of_methodNamed B.named
  have hlocks := B.notSynchronized
  have hS : va_S (ty_A sz) s.heap s.heap [] := va_S.rf
  have hp9 := pw_le9 (show g 7 0 ≤ 9 by omega)
  have hl := lv_entry ([.ref h0, .int p1]) (n := 4) (Nat.le_of_ble_eq_true rfl)
  rw [lg_entry_eq]
  generalize (lg_sl ([.ref h0, .int p1]) ++ List.replicate (4 - (lg_sl ([.ref h0, .int p1])).length) Slot.unset).toArray = ls at hl ⊢
  have hl : lv_has ls 4 [(0, .ref h0), (1, .int p1)] := hl
  refine ty_iconst hx hb (1) dX5_findBest_0 (by decide) (fun x1 h2 => ?_)
  refine lv_aload_n hx hb dX5_findBest_1 rfl (lv_at hl 0 rfl) ?_
  refine get_X5_1 hx hb hA hown hE hG t_h0 wd_1_108 dX5_findBest_2 (fun x3 h4 => ?_)
  have hpw9 : pw x3.toInt = pw (g 7 0) := by rw [show x3.toInt = g 7 0 by omega]
  refine lv_ishl hx hb dX5_findBest_5 ?_
  refine lv_topi (fun x6 h7 => ?_)
  have h8 := shl_pw h7 (by omega) (by omega) (by omega)
  refine lv_istore_n (lv' := [(2, .int x6), (0, .ref h0), (1, .int p1)]) hx hb dX5_findBest_6 rfl hl (by decide) rfl (fun ls hl => ?_)
  refine lv_aload_n hx hb dX5_findBest_7 rfl (lv_at hl 1 rfl) ?_
  refine cV (va_runV (C := RX5) (As := []) (rest := []) ⟨hx, hb, hml, hown, hA⟩ (k_X5_findSuiting l dC dI dA sz X Γ hU g h0 t_h0   (by omega)) ⟨callB_of 0 hA (al_A wd_3_126) rfl rfl rfl (hA _ wd_1_5) (hA _ wd_3_123) (by decide +kernel) ⟨Nat.le_of_ble_eq_true rfl, Nat.le_of_ble_eq_true rfl⟩, hA _ wd_3_125, hA _ ws_19⟩ ⟨bl, recv_X5 hE hG t_h0, fun U hU9 hW9 => ⟨rfl, by rw [hU9]; exact hG, hE.go hS hU9 hW9⟩⟩ rfl rfl hl.1 rfl (lv_room (Nat.le_of_ble_eq_true rfl)) dX5_findBest_8 ⟨Nat.zero_le _, Nat.zero_le _⟩) hS (fun u9 H locs w10 hG hS => ?_)
  have eu11 := w10
  rw [eu11] at hG
  refine lv_aload_n hx hb dX5_findBest_11 rfl (lv_at hl 1 rfl) ?_
  refine lv_iload_n hx hb dX5_findBest_12 rfl (lv_at hl 0 rfl) ?_
  refine cV (va_runV (C := RX5) (As := [.int x6]) (rest := []) ⟨hx, hb, hml, hown, hA⟩ (k_X5_forgetBefore l dC dI dA sz X Γ hU g h0 t_h0 x6   (by omega)) ⟨callB_of 1 hA (al_A wd_3_134) rfl rfl rfl (hA _ wd_1_5) (hA _ wd_3_131) (by decide +kernel) ⟨Nat.le_of_ble_eq_true rfl, Nat.le_of_ble_eq_true rfl⟩, hA _ wd_3_133, hA _ ws_20⟩ ⟨bl, recv_X5 hE hG t_h0, fun U hU9 hW9 => ⟨rfl, by rw [hU9]; exact hG, hE.go hS hU9 hW9⟩⟩ rfl rfl hl.1 rfl (lv_room (Nat.le_of_ble_eq_true rfl)) dX5_findBest_13 ⟨Nat.zero_le _, Nat.zero_le _⟩) hS (fun u12 H locs w13 hG hS => ?_)
  have eu14 := w13
  rw [eu14] at hG
  refine ty_iconst hx hb (0) dX5_findBest_16 (by decide) (fun x15 h16 => ?_)
  refine lv_istore_n (lv' := [(3, .int x15), (2, .int x6), (0, .ref h0), (1, .int p1)]) hx hb dX5_findBest_17 rfl hl (by decide) rfl (fun ls hl => ?_)
  have L_18 : ∀ (n : Nat) (v3_18 : Int32) (H : Heap) (locs : List Loc) (ls : Array Slot), (g 7 0 - v3_18.toInt : Int) < n → 0 ≤ v3_18.toInt ∧ v3_18.toInt ≤ g 7 0 → ty_ok (dC, dI) vwCl Γ (TP dA Γ g) sz X H → va_S (ty_A sz) s.heap H locs → lv_has ls 4 [(3, .int v3_18), (2, .int x6), (0, .ref h0), (1, .int p1)] → W p l e (headSpec (.code yX5_findBest cX5_findBest 4 (Option.none : Option Jvm.ClassFile.FieldType) :: AL) ({ frames := 3, cells := 0, slots := 0, locals := 74 })).room s m ([.ref h0, .int p1] : List Value).toArray below meth c H locs 0 0 (MQ below (va_Qv (fun (u : gh) => (∀ c j : Nat, c ≠ 8 → u c j = g c j) ∧ ((0 ≤ u 8 0 ∧ u 8 0 < pw (g 7 0)))) (okb dC dI dA sz X Γ) (ty_A sz)) ([.ref h0, .int p1] : List Value).toArray s 0 0 (ty_A sz)) (F0 m 18 ls []) := by
    intro n
    induction n with
    | zero => intro v3_18 H locs ls hm hi0 hG hS hl; exfalso; omega
    | succ n ih_18 =>
      intro v3_18 H locs ls hm hi0 hG hS hl
      refine lv_iload_n hx hb dX5_findBest_18 rfl (lv_at hl 0 rfl) ?_
      refine lv_aload_n hx hb dX5_findBest_19 rfl (lv_at hl 2 rfl) ?_
      refine get_X5_1 hx hb hA hown hE hG t_h0 wd_1_108 dX5_findBest_20 (fun x18 h19 => ?_)
      refine ty_icmp_ge (tgt := 46) hx hb dX5_findBest_23 (by decide) (fun c21 => ?_) (fun c21 => ?_)
      · skip
        refine ty_iconst hx hb (1) dX5_findBest_46 (by decide) (fun x22 h23 => ?_)
        refine lv_istore_n (lv' := [(3, .int x22), (2, .int x6), (0, .ref h0), (1, .int p1)]) hx hb dX5_findBest_47 rfl hl (by decide) rfl (fun ls hl => ?_)
        have L_48 : ∀ (n : Nat) (v3_48 : Int32) (H : Heap) (locs : List Loc) (ls : Array Slot), (513 - v3_48.toInt : Int) < n → 1 ≤ v3_48.toInt ∧ v3_48.toInt ≤ 512 → ty_ok (dC, dI) vwCl Γ (TP dA Γ g) sz X H → va_S (ty_A sz) s.heap H locs → lv_has ls 4 [(3, .int v3_48), (2, .int x6), (0, .ref h0), (1, .int p1)] → W p l e (headSpec (.code yX5_findBest cX5_findBest 4 (Option.none : Option Jvm.ClassFile.FieldType) :: AL) ({ frames := 3, cells := 0, slots := 0, locals := 74 })).room s m ([.ref h0, .int p1] : List Value).toArray below meth c H locs 0 0 (MQ below (va_Qv (fun (u : gh) => (∀ c j : Nat, c ≠ 8 → u c j = g c j) ∧ ((0 ≤ u 8 0 ∧ u 8 0 < pw (g 7 0)))) (okb dC dI dA sz X Γ) (ty_A sz)) ([.ref h0, .int p1] : List Value).toArray s 0 0 (ty_A sz)) (F0 m 48 ls []) := by
          intro n
          induction n with
          | zero => intro v3_48 H locs ls hm hi0 hG hS hl; exfalso; omega
          | succ n ih_48 =>
            intro v3_48 H locs ls hm hi0 hG hS hl
            refine lv_iload_n hx hb dX5_findBest_48 rfl (lv_at hl 0 rfl) ?_
            refine lv_iload_n hx hb dX5_findBest_49 rfl (lv_at hl 1 rfl) ?_
            refine ty_icmp_ge (tgt := 65) hx hb dX5_findBest_50 (by decide) (fun c25 => ?_) (fun c25 => ?_)
            · skip
              refine ty_iconst hx hb (1) dX5_findBest_65 (by decide) (fun x26 h27 => ?_)
              refine lv_istore_n (lv' := [(3, .int x26), (2, .int x6), (0, .ref h0), (1, .int p1)]) hx hb dX5_findBest_66 rfl hl (by decide) rfl (fun ls hl => ?_)
              have L_67 : ∀ (n : Nat) (v3_67 : Int32) (g28 : gh) (H : Heap) (locs : List Loc) (ls : Array Slot), (513 - v3_67.toInt : Int) < n → 1 ≤ v3_67.toInt ∧ v3_67.toInt ≤ 512 → 0 ≤ g28 8 0 ∧ g28 8 0 < pw (g 7 0) → (∀ c j : Nat, c ≠ 8 → g28 c j = g c j) → ty_ok (dC, dI) vwCl Γ (TP dA Γ g28) sz X H → va_S (ty_A sz) s.heap H locs → lv_has ls 4 [(3, .int v3_67), (2, .int x6), (0, .ref h0), (1, .int p1)] → W p l e (headSpec (.code yX5_findBest cX5_findBest 4 (Option.none : Option Jvm.ClassFile.FieldType) :: AL) ({ frames := 3, cells := 0, slots := 0, locals := 74 })).room s m ([.ref h0, .int p1] : List Value).toArray below meth c H locs 0 0 (MQ below (va_Qv (fun (u : gh) => (∀ c j : Nat, c ≠ 8 → u c j = g c j) ∧ ((0 ≤ u 8 0 ∧ u 8 0 < pw (g 7 0)))) (okb dC dI dA sz X Γ) (ty_A sz)) ([.ref h0, .int p1] : List Value).toArray s 0 0 (ty_A sz)) (F0 m 67 ls []) := by
                intro n
                induction n with
                | zero => intro v3_67 g28 H locs ls hm hi0 hi1 hf29 hG hS hl; exfalso; omega
                | succ n ih_67 =>
                  intro v3_67 g28 H locs ls hm hi0 hi1 hf29 hG hS hl
                  refine lv_iload_n hx hb dX5_findBest_67 rfl (lv_at hl 0 rfl) ?_
                  refine lv_iload_n hx hb dX5_findBest_68 rfl (lv_at hl 1 rfl) ?_
                  refine ty_icmp_ge (tgt := 113) hx hb dX5_findBest_69 (by decide) (fun c30 => ?_) (fun c30 => ?_)
                  · skip
                    exact W.vret hx hb hr (fun t ht hW => ⟨⟨g28, rfl, ⟨(fun c j h8 => by rw [hf29 c j h8]), (by omega)⟩, ok1 ht hG⟩, hS.F ht⟩) hS.2.2 dX5_findBest_113
                  · skip
                    refine lv_aload_n hx hb dX5_findBest_72 rfl (lv_at hl 2 rfl) ?_
                    refine get_X5_5 hx hb hA hown hE hG t_h0 wd_1_112 dX5_findBest_73 (fun b31 (t_b31 : ty Γ b31 22) => ?_)
                    refine lv_iload_n hx hb dX5_findBest_76 rfl (lv_at hl 0 rfl) ?_
                    refine lv_aload_n hx hb dX5_findBest_77 rfl (lv_at hl 2 rfl) ?_
                    refine lv_iload_n hx hb dX5_findBest_78 rfl (lv_at hl 0 rfl) ?_
                    refine cI (va_runV (C := RX5) (As := [.int v3_67]) (rest := [.int v3_67, .ref b31]) ⟨hx, hb, hml, hown, hA⟩ (k_X5_firstWay l dC dI dA sz X Γ hU g28 h0 t_h0 v3_67   (by omega)) ⟨callB_of 1 hA (al_A wd_3_162) rfl rfl rfl (hA _ wd_1_5) (hA _ wd_3_159) (by decide +kernel) ⟨Nat.le_of_ble_eq_true rfl, Nat.le_of_ble_eq_true rfl⟩, hA _ wd_3_161, hA _ ws_23⟩ ⟨bl, recv_X5 hE hG t_h0, fun U hU9 hW9 => ⟨rfl, by rw [hU9]; exact hG, hE.go hS hU9 hW9⟩⟩ rfl rfl hl.1 rfl (lv_room (Nat.le_of_ble_eq_true rfl)) dX5_findBest_79 ⟨Nat.zero_le _, Nat.zero_le _⟩) hS (fun x34 u32 H locs w33 hG hS => ?_)
                    have eu35 := w33
                    rw [eu35] at hG
                    refine ast_22 hx hb hE hG hS t_b31 (by omega) dX5_findBest_82 (fun H locs hG hS => ?_)
                    refine lv_aload_n hx hb dX5_findBest_83 rfl (lv_at hl 2 rfl) ?_
                    refine get_X5_5 hx hb hA hown hE hG t_h0 wd_1_112 dX5_findBest_84 (fun b36 (t_b36 : ty Γ b36 22) => ?_)
                    refine lv_iload_n hx hb dX5_findBest_87 rfl (lv_at hl 0 rfl) ?_
                    refine ald_22 hx hb hE hG t_b36 (by omega) dX5_findBest_88 (fun j38 x37 h39 => ?_)
                    refine ty_ldc hx hb (2147483647) hown (hA _ wd_3_135) dX5_findBest_89 (by decide) (fun x41 h42 => ?_)
                    refine ty_icmp_eq (tgt := 107) hx hb dX5_findBest_91 (by decide) (fun c43 => ?_) (fun c43 => ?_)
                    · skip
                      obtain ⟨x44, h45⟩ : ∃ y : Int32, y = v3_67 + Int32.ofInt (1) := ⟨_, rfl⟩
                      try have h46 : x44.toInt = v3_67.toInt + (1) := ty_inc h45 (by decide) (by omega) (by omega)
                      refine lv_iinc (v := x44) (lv' := [(3, .int x44), (2, .int x6), (0, .ref h0), (1, .int p1)]) hx hb dX5_findBest_107 hl (k := 0) rfl h45.symm (by decide) rfl (fun ls hl => ?_)
                      refine lv_goto (tgt := 67) hx hb dX5_findBest_110 (by decide) ?_
                      exact ih_67 x44 g28 _ _ ls (by omega) (by omega) (by omega) (fun c j h8 => by rw [hf29 c j h8]) hG hS (lv_sub hl [0, 1, 2, 3] rfl)
                    · skip
                      refine lv_aload_n hx hb dX5_findBest_94 rfl (lv_at hl 2 rfl) ?_
                      refine lv_iload_n hx hb dX5_findBest_95 rfl (lv_at hl 0 rfl) ?_
                      have hk47 : g28 7 0 = g 7 0 := hf29 7 0 (by decide)
                      have hk48 : g28 36 0 = g 36 0 := hf29 36 0 (by decide)
                      refine cI (va_runV (C := RX5) (As := [.int v3_67]) (rest := []) ⟨hx, hb, hml, hown, hA⟩ (k_X5_isBetter l dC dI dA sz X Γ hU g28 h0 t_h0 v3_67   (by omega) (by omega) (by omega)) ⟨callB_of 1 hA (al_A wd_3_166) rfl rfl rfl (hA _ wd_1_5) (hA _ wd_3_163) (by decide +kernel) ⟨Nat.le_of_ble_eq_true rfl, Nat.le_of_ble_eq_true rfl⟩, hA _ wd_3_165, hA _ ws_24⟩ ⟨bl, recv_X5 hE hG t_h0, fun U hU9 hW9 => ⟨rfl, by rw [hU9]; exact hG, hE.go hS hU9 hW9⟩⟩ rfl rfl hl.1 rfl (lv_room (Nat.le_of_ble_eq_true rfl)) dX5_findBest_96 ⟨Nat.zero_le _, Nat.zero_le _⟩) hS (fun x51 u49 H locs w50 hG hS => ?_)
                      obtain ⟨eu52, w50⟩ := w50
                      rw [eu52] at hG
                      refine ty_if_eq (tgt := 107) hx hb dX5_findBest_99 (by decide) (fun c53 => ?_) (fun c53 => ?_)
                      · skip
                        obtain ⟨x54, h55⟩ : ∃ y : Int32, y = v3_67 + Int32.ofInt (1) := ⟨_, rfl⟩
                        try have h56 : x54.toInt = v3_67.toInt + (1) := ty_inc h55 (by decide) (by omega) (by omega)
                        refine lv_iinc (v := x54) (lv' := [(3, .int x54), (2, .int x6), (0, .ref h0), (1, .int p1)]) hx hb dX5_findBest_107 hl (k := 0) rfl h55.symm (by decide) rfl (fun ls hl => ?_)
                        refine lv_goto (tgt := 67) hx hb dX5_findBest_110 (by decide) ?_
                        exact ih_67 x54 g28 _ _ ls (by omega) (by omega) (by omega) (fun c j h8 => by rw [hf29 c j h8]) hG hS (lv_sub hl [0, 1, 2, 3] rfl)
                      · skip
                        refine lv_aload_n hx hb dX5_findBest_102 rfl (lv_at hl 2 rfl) ?_
                        refine lv_iload_n hx hb dX5_findBest_103 rfl (lv_at hl 0 rfl) ?_
                        refine put_X5_6 hx hb hA hown hE hG hS hU t_h0 wd_1_113 dX5_findBest_104 (fun H locs hG hS => ?_)
                        obtain ⟨x57, h58⟩ : ∃ y : Int32, y = v3_67 + Int32.ofInt (1) := ⟨_, rfl⟩
                        try have h59 : x57.toInt = v3_67.toInt + (1) := ty_inc h58 (by decide) (by omega) (by omega)
                        refine lv_iinc (v := x57) (lv' := [(3, .int x57), (2, .int x6), (0, .ref h0), (1, .int p1)]) hx hb dX5_findBest_107 hl (k := 0) rfl h58.symm (by decide) rfl (fun ls hl => ?_)
                        refine lv_goto (tgt := 67) hx hb dX5_findBest_110 (by decide) ?_
                        have e60 : (gs g28 8 0 v3_67.toInt) 8 0 = v3_67.toInt := by simp [gs]
                        exact ih_67 x57 (gs g28 8 0 v3_67.toInt) _ _ ls (by omega) (by omega) (by omega) (fun c j h8 => by rw [gs_c _ _ _ _ h8, hf29 c j h8]) hG hS (lv_sub hl [0, 1, 2, 3] rfl)
              exact L_67 ((513 - x26.toInt) + 1).toNat x26 g _ _ ls (by omega) (by omega) (by omega) (fun c j _ => rfl) hG hS (lv_sub hl [0, 1, 2, 3] rfl)
            · skip
              refine lv_aload_n hx hb dX5_findBest_53 rfl (lv_at hl 2 rfl) ?_
              refine lv_iload_n hx hb dX5_findBest_54 rfl (lv_at hl 0 rfl) ?_
              refine lv_iload_n hx hb dX5_findBest_55 rfl (lv_at hl 3 rfl) ?_
              refine cV (va_runV (C := RX5) (As := [.int v3_48, .int p1]) (rest := []) ⟨hx, hb, hml, hown, hA⟩ (k_X5_goOnFrom l dC dI dA sz X Γ hU g h0 t_h0 v3_48 p1   (by omega) (by omega)) ⟨callB_of 2 hA (al_A wd_3_139) rfl rfl rfl (hA _ wd_1_5) (hA _ wd_3_136) (by decide +kernel) ⟨Nat.le_of_ble_eq_true rfl, Nat.le_of_ble_eq_true rfl⟩, hA _ wd_3_138, hA _ ws_21⟩ ⟨bl, recv_X5 hE hG t_h0, fun U hU9 hW9 => ⟨rfl, by rw [hU9]; exact hG, hE.go hS hU9 hW9⟩⟩ rfl rfl hl.1 rfl (lv_room (Nat.le_of_ble_eq_true rfl)) dX5_findBest_56 ⟨Nat.zero_le _, Nat.zero_le _⟩) hS (fun u61 H locs w62 hG hS => ?_)
              have eu63 := w62
              rw [eu63] at hG
              obtain ⟨x64, h65⟩ : ∃ y : Int32, y = v3_48 + Int32.ofInt (1) := ⟨_, rfl⟩
              try have h66 : x64.toInt = v3_48.toInt + (1) := ty_inc h65 (by decide) (by omega) (by omega)
              refine lv_iinc (v := x64) (lv' := [(3, .int x64), (2, .int x6), (0, .ref h0), (1, .int p1)]) hx hb dX5_findBest_59 hl (k := 0) rfl h65.symm (by decide) rfl (fun ls hl => ?_)
              refine lv_goto (tgt := 48) hx hb dX5_findBest_62 (by decide) ?_
              exact ih_48 x64 _ _ ls (by omega) (by omega) hG hS (lv_sub hl [0, 1, 2, 3] rfl)
        exact L_48 ((513 - x22.toInt) + 1).toNat x22 _ _ ls (by omega) (by omega) hG hS (lv_sub hl [0, 1, 2, 3] rfl)
      · skip
        refine lv_aload_n hx hb dX5_findBest_26 rfl (lv_at hl 2 rfl) ?_
        refine get_X5_3 hx hb hA hown hE hG t_h0 wd_1_110 dX5_findBest_27 (fun b67 (t_b67 : ty Γ b67 21) => ?_)
        refine ty_iconst hx hb (1) dX5_findBest_30 (by decide) (fun x68 h69 => ?_)
        refine lv_iload_n hx hb dX5_findBest_31 rfl (lv_at hl 0 rfl) ?_
        refine lv_ishl hx hb dX5_findBest_32 ?_
        refine lv_topi (fun x70 h71 => ?_)
        have h72 := shl_pw h71 (by omega) (by omega) (by omega)
        refine ty_bipush hx hb (9) dX5_findBest_33 (by decide) (fun x73 h74 => ?_)
        refine ty_imul hx hb dX5_findBest_35 (fun x75 h76 => ?_)
        try have h77 : x75.toInt = x70.toInt * 9 := ty_mulr h76 (by omega) (by omega) (by omega)
        refine lv_iload_n hx hb dX5_findBest_36 rfl (lv_at hl 0 rfl) ?_
        refine ty_iadd hx hb dX5_findBest_37 (fun x78 h79 => ?_)
        try have h80 : x78.toInt = x75.toInt + v3_18.toInt := ty_add h79 (by omega) (by omega)
        refine ty_iconst hx hb (0) dX5_findBest_38 (by decide) (fun x81 h82 => ?_)
        refine ast_21 hx hb hE hG hS t_b67 (by omega) dX5_findBest_39 (fun H locs hG hS => ?_)
        obtain ⟨x83, h84⟩ : ∃ y : Int32, y = v3_18 + Int32.ofInt (1) := ⟨_, rfl⟩
        try have h85 : x83.toInt = v3_18.toInt + (1) := ty_inc h84 (by decide) (by omega) (by omega)
        refine lv_iinc (v := x83) (lv' := [(3, .int x83), (2, .int x6), (0, .ref h0), (1, .int p1)]) hx hb dX5_findBest_40 hl (k := 0) rfl h84.symm (by decide) rfl (fun ls hl => ?_)
        refine lv_goto (tgt := 18) hx hb dX5_findBest_43 (by decide) ?_
        exact ih_18 x83 _ _ ls (by omega) (by omega) hG hS (lv_sub hl [0, 1, 2, 3] rfl)
  exact L_18 ((g 7 0 - x15.toInt) + 1).toNat x15 _ _ ls (by omega) (by omega) hG hS (lv_sub hl [0, 1, 2, 3] rfl)

set_option maxHeartbeats 4000000 in
set_option maxRecDepth 100000 in
/-- WeekBank$RingSearch.swap:  -/
theorem k_X5_swap (l : Launch) (dC : Nat → ClassId) (dI : Nat → Nat → Nat) (dA : Nat → ClassId) (sz : Nat) (X : va_W) (Γ : ty_G) (hU : Un Γ) (g : gh) (h0 : Nat) (t_h0 : ty Γ h0 8) (p1 : Nat) (t_p1 : ty Γ p1 4) (p2 : Int32) (hs : 0 ≤ g 7 0 ∧ g 7 0 ≤ g 36 0 ∧ g 36 0 ≤ 9) : Met l yX5_swap (.code yX5_swap cX5_swap 3 (Option.none : Option Jvm.ClassFile.FieldType) :: AL) ({ frames := 0, cells := 0, slots := 0, locals := 0 }) (PCx dC dI dA sz X Γ g [.ref h0, .ref p1, .int p2]) (va_Qv (fun (u : gh) => u = g) (okb dC dI dA sz X Γ) (ty_A sz)) 0 0 (ty_A sz) := by
  refine Met.ofW (cc := cX5_swap) (maxL := 3) (ret := (Option.none : Option Jvm.ClassFile.FieldType)) (by decide) rfl ?_
  intro p e s m args below meth c s₁ B hml hv
  obtain ⟨rfl, hG, hE⟩ := hv
  have hx := B.exec
  have hb := B.bytes
  have hr := B.returns
  have hts := atoms_spec B.pre
  have hA : ∀ w ∈ AL, w.before _ s = true := fun w h => hts w (List.mem_cons_of_mem _ h)
  have hown : s.vm.findClass RX5 = some m.cls := findClass_of_methodNamed B.named
  have hlocks := B.notSynchronized
  have hS : va_S (ty_A sz) s.heap s.heap [] := va_S.rf
  have hl := lv_entry ([.ref h0, .ref p1, .int p2]) (n := 3) (Nat.le_of_ble_eq_true rfl)
  rw [lg_entry_eq]
  generalize (lg_sl ([.ref h0, .ref p1, .int p2]) ++ List.replicate (3 - (lg_sl ([.ref h0, .ref p1, .int p2])).length) Slot.unset).toArray = ls at hl ⊢
  have hl : lv_has ls 3 [(0, .ref h0), (1, .ref p1), (2, .int p2)] := hl
  refine lv_iload_n hx hb dX5_swap_0 rfl (lv_at hl 2 rfl) ?_
  refine ty_if_lt (tgt := 40) hx hb dX5_swap_1 (by decide) (fun c1 => ?_) (fun c1 => ?_)
  · skip
    exact W.vret hx hb hr (fun t ht hW => ⟨⟨g, rfl, rfl, ok1 ht hG⟩, hS.F ht⟩) hS.2.2 dX5_swap_40
  · skip
    refine lv_iload_n hx hb dX5_swap_4 rfl (lv_at hl 2 rfl) ?_
    refine lv_aload_n hx hb dX5_swap_5 rfl (lv_at hl 0 rfl) ?_
    refine get_X5_1 hx hb hA hown hE hG t_h0 wd_1_108 dX5_swap_6 (fun x2 h3 => ?_)
    refine ty_icmp_ge (tgt := 40) hx hb dX5_swap_9 (by decide) (fun c5 => ?_) (fun c5 => ?_)
    · skip
      exact W.vret hx hb hr (fun t ht hW => ⟨⟨g, rfl, rfl, ok1 ht hG⟩, hS.F ht⟩) hS.2.2 dX5_swap_40
    · skip
      refine lv_aload_n hx hb dX5_swap_12 rfl (lv_at hl 1 rfl) ?_
      refine ty_iconst hx hb (1) dX5_swap_13 (by decide) (fun x6 h7 => ?_)
      refine put_X2_6 hx hb hA hown hE hG hS t_p1 wd_3_33 dX5_swap_14 (fun H locs hG hS => ?_)
      refine lv_aload_n hx hb dX5_swap_17 rfl (lv_at hl 1 rfl) ?_
      refine lv_aload_n hx hb dX5_swap_18 rfl (lv_at hl 0 rfl) ?_
      refine get_X5_0 hx hb hA hown hE hG t_h0 wd_1_107 dX5_swap_19 (fun b8 (t_b8 : ty Γ b8 19) => ?_)
      refine lv_iload_n hx hb dX5_swap_22 rfl (lv_at hl 2 rfl) ?_
      refine ald_19 hx hb hE hG t_b8 (by omega) dX5_swap_23 (fun j10 r9 h11 t_r9 h12 => ?_)
      refine put_X2_8 hx hb hA hown hE hG hS t_p1 wd_3_39 t_r9 dX5_swap_24 (fun H locs hG hS => ?_)
      refine lv_aload_n hx hb dX5_swap_27 rfl (lv_at hl 0 rfl) ?_
      refine get_X5_0 hx hb hA hown hE hG t_h0 wd_1_107 dX5_swap_28 (fun b13 (t_b13 : ty Γ b13 19) => ?_)
      refine lv_iload_n hx hb dX5_swap_31 rfl (lv_at hl 2 rfl) ?_
      refine ald_19 hx hb hE hG t_b13 (by omega) dX5_swap_32 (fun j15 r14 h16 t_r14 h17 => ?_)
      refine lv_aload_n hx hb dX5_swap_33 rfl (lv_at hl 1 rfl) ?_
      refine get_X2_1 hx hb hA hown hE hG t_p1 wd_3_21 dX5_swap_34 (fun b18 (t_b18 : ty Γ b18 3) => ?_)
      obtain ⟨b19, rfl⟩ := Option.ne_none_iff_exists'.mp (h17 (by omega))
      have t_b19 : ty Γ b19 4 := t_r14 b19 rfl
      have hl : lv_has ls 3 [(0, .ref h0), (1, .ref p1), (2, .int p2)] := hl
      refine put_X2_9 (r := some b18) hx hb hA hown hE hG hS t_b19 wd_3_42 (fun _ h => by cases h; exact t_b18) dX5_swap_37 (fun H locs hG hS => ?_)
      exact W.vret hx hb hr (fun t ht hW => ⟨⟨g, rfl, rfl, ok1 ht hG⟩, hS.F ht⟩) hS.2.2 dX5_swap_40

set_option maxHeartbeats 4000000 in
set_option maxRecDepth 100000 in
/-- WeekBank$RingSearch.swapBest:  -/
theorem k_X5_swapBest (l : Launch) (dC : Nat → ClassId) (dI : Nat → Nat → Nat) (dA : Nat → ClassId) (sz : Nat) (X : va_W) (Γ : ty_G) (hU : Un Γ) (g : gh) (h0 : Nat) (t_h0 : ty Γ h0 8) (hs : 0 ≤ g 7 0 ∧ g 7 0 ≤ g 36 0 ∧ g 36 0 ≤ 9) (hb8 : 0 ≤ g 8 0 ∧ g 8 0 < pw (g 7 0)) : Met l yX5_swapBest (.code yX5_swapBest cX5_swapBest 3 (Option.some Jvm.ClassFile.FieldType.int) :: AL) ({ frames := 1, cells := 0, slots := 0, locals := 22 }) (PCx dC dI dA sz X Γ g [.ref h0]) (va_Qi (fun (r : Int32) (u : gh) => u = g) (okb dC dI dA sz X Γ) (ty_A sz)) 0 0 (ty_A sz) := by
  refine Met.ofW (cc := cX5_swapBest) (maxL := 3) (ret := (Option.some Jvm.ClassFile.FieldType.int)) (by decide) rfl ?_
  intro p e s m args below meth c s₁ B hml hv
  obtain ⟨rfl, hG, hE⟩ := hv
  have hx := B.exec
  have hb := B.bytes
  have hr := B.returns
  have hts := atoms_spec B.pre
  have hA : ∀ w ∈ AL, w.before _ s = true := fun w h => hts w (List.mem_cons_of_mem _ h)
  have hown : s.vm.findClass RX5 = some m.cls := findClass_of_methodNamed B.named
  have hlocks := B.notSynchronized
  have hS : va_S (ty_A sz) s.heap s.heap [] := va_S.rf
  have hp9 := pw_le9 (show g 7 0 ≤ 9 by omega)
  have hl := lv_entry ([.ref h0]) (n := 3) (Nat.le_of_ble_eq_true rfl)
  rw [lg_entry_eq]
  generalize (lg_sl ([.ref h0]) ++ List.replicate (3 - (lg_sl ([.ref h0])).length) Slot.unset).toArray = ls at hl ⊢
  have hl : lv_has ls 3 [(0, .ref h0)] := hl
  refine lv_aload_n hx hb dX5_swapBest_0 rfl (lv_at hl 0 rfl) ?_
  refine get_X5_5 hx hb hA hown hE hG t_h0 wd_1_112 dX5_swapBest_1 (fun b1 (t_b1 : ty Γ b1 22) => ?_)
  refine lv_aload_n hx hb dX5_swapBest_4 rfl (lv_at hl 0 rfl) ?_
  refine get_X5_6 hx hb hA hown hE hG t_h0 wd_1_113 dX5_swapBest_5 (fun x2 h3 => ?_)
  refine ald_22 hx hb hE hG t_b1 (by omega) dX5_swapBest_8 (fun j6 x5 h7 => ?_)
  refine lv_istore_n (lv' := [(1, .int x5), (0, .ref h0)]) hx hb dX5_swapBest_9 rfl hl (by decide) rfl (fun ls hl => ?_)
  refine ty_bipush hx hb (8) dX5_swapBest_10 (by decide) (fun x9 h10 => ?_)
  refine lv_istore_n (lv' := [(2, .int x9), (1, .int x5), (0, .ref h0)]) hx hb dX5_swapBest_12 rfl hl (by decide) rfl (fun ls hl => ?_)
  have L_13 : ∀ (n : Nat) (v2_13 : Int32) (v1_13 : Int32) (H : Heap) (locs : List Loc) (ls : Array Slot), (v2_13.toInt + 1 : Int) < n → -1 ≤ v2_13.toInt ∧ v2_13.toInt ≤ 8 → ty_ok (dC, dI) vwCl Γ (TP dA Γ g) sz X H → va_S (ty_A sz) s.heap H locs → lv_has ls 3 [(2, .int v2_13), (1, .int v1_13), (0, .ref h0)] → W p l e (headSpec (.code yX5_swapBest cX5_swapBest 3 (Option.some Jvm.ClassFile.FieldType.int) :: AL) ({ frames := 1, cells := 0, slots := 0, locals := 22 })).room s m ([.ref h0] : List Value).toArray below meth c H locs 0 0 (MQ below (va_Qi (fun (r : Int32) (u : gh) => u = g) (okb dC dI dA sz X Γ) (ty_A sz)) ([.ref h0] : List Value).toArray s 0 0 (ty_A sz)) (F0 m 13 ls []) := by
    intro n
    induction n with
    | zero => intro v2_13 v1_13 H locs ls hm hi0 hG hS hl; exfalso; omega
    | succ n ih_13 =>
      intro v2_13 v1_13 H locs ls hm hi0 hG hS hl
      refine lv_iload_n hx hb dX5_swapBest_13 rfl (lv_at hl 0 rfl) ?_
      refine ty_if_lt (tgt := 53) hx hb dX5_swapBest_14 (by decide) (fun c12 => ?_) (fun c12 => ?_)
      · skip
        refine lv_aload_n hx hb dX5_swapBest_53 rfl (lv_at hl 2 rfl) ?_
        refine get_X5_6 hx hb hA hown hE hG t_h0 wd_1_113 dX5_swapBest_54 (fun x13 h14 => ?_)
        refine cI (va_runS (As := [.int x13]) (rest := []) ⟨hx, hb, hml, hown, hA⟩ (k_bitCount l dC dI dA sz X Γ hU g x13   ) ⟨callB_of 1 hA (al_A wd_3_145) rfl rfl rfl (hA _ wd_1_17) (hA _ wd_3_143) (by decide +kernel) ⟨Nat.le_of_ble_eq_true rfl, Nat.le_of_ble_eq_true rfl⟩, hA _ wd_3_144⟩ ⟨bl, fun U hU9 hW9 => ⟨rfl, by rw [hU9]; exact hG, hE.go hS hU9 hW9⟩⟩ rfl rfl hl.1 rfl (lv_room (Nat.le_of_ble_eq_true rfl)) dX5_swapBest_57 ⟨Nat.zero_le _, Nat.zero_le _⟩) hS (fun x18 u16 H locs w17 hG hS => ?_)
        obtain ⟨eu19, w17⟩ := w17
        rw [eu19] at hG
        exact W.iret (v := x18) hx hb hr (fun t ht hW => ⟨⟨x18, g, rfl, rfl, ok1 ht hG⟩, hS.F ht⟩) hS.2.2 dX5_swapBest_60
      · skip
        refine lv_aload_n hx hb dX5_swapBest_17 rfl (lv_at hl 2 rfl) ?_
        refine get_X5_6 hx hb hA hown hE hG t_h0 wd_1_113 dX5_swapBest_18 (fun x20 h21 => ?_)
        refine lv_iload_n hx hb dX5_swapBest_21 rfl (lv_at hl 0 rfl) ?_
        refine cI (va_runS (As := [.int x20, .int v2_13]) (rest := []) ⟨hx, hb, hml, hown, hA⟩ (k_X5_has l dC dI dA sz X Γ hU g x20 v2_13   ) ⟨callB_of 2 hA (al_A wd_3_151) rfl rfl rfl (hA _ wd_1_5) (hA _ wd_3_149) (by decide +kernel) ⟨Nat.le_of_ble_eq_true rfl, Nat.le_of_ble_eq_true rfl⟩, hA _ wd_3_150⟩ ⟨bl, fun U hU9 hW9 => ⟨rfl, by rw [hU9]; exact hG, hE.go hS hU9 hW9⟩⟩ rfl rfl hl.1 rfl (lv_room (Nat.le_of_ble_eq_true rfl)) dX5_swapBest_22 ⟨Nat.zero_le _, Nat.zero_le _⟩) hS (fun x25 u23 H locs w24 hG hS => ?_)
        obtain ⟨eu26, w24⟩ := w24
        rw [eu26] at hG
        refine ty_if_eq (tgt := 42) hx hb dX5_swapBest_25 (by decide) (fun c27 => ?_) (fun c27 => ?_)
        · skip
          refine lv_iload_n hx hb dX5_swapBest_42 rfl (lv_at hl 1 rfl) ?_
          refine ty_bipush hx hb (10) dX5_swapBest_43 (by decide) (fun x28 h29 => ?_)
          refine lv_idiv hx hb dX5_swapBest_45 (fun h0 => by have := ty_c0.mp h0; omega) ?_
          refine lv_topi (fun x30 h31 => ?_)
          refine lv_istore_n (lv' := [(1, .int x30), (2, .int v2_13), (0, .ref h0)]) hx hb dX5_swapBest_46 rfl hl (by decide) rfl (fun ls hl => ?_)
          obtain ⟨x32, h33⟩ : ∃ y : Int32, y = v2_13 + Int32.ofInt (-1) := ⟨_, rfl⟩
          try have h34 : x32.toInt = v2_13.toInt + (-1) := ty_inc h33 (by decide) (by omega) (by omega)
          refine lv_iinc (v := x32) (lv' := [(2, .int x32), (1, .int x30), (0, .ref h0)]) hx hb dX5_swapBest_47 hl (k := 1) rfl h33.symm (by decide) rfl (fun ls hl => ?_)
          refine lv_goto (tgt := 13) hx hb dX5_swapBest_50 (by decide) ?_
          exact ih_13 x32 x30 _ _ ls (by omega) (by omega) hG hS (lv_sub hl [0, 1, 2] rfl)
        · skip
          refine lv_aload_n hx hb dX5_swapBest_28 rfl (lv_at hl 2 rfl) ?_
          refine lv_aload_n hx hb dX5_swapBest_29 rfl (lv_at hl 2 rfl) ?_
          refine get_X5_0 hx hb hA hown hE hG t_h0 wd_1_107 dX5_swapBest_30 (fun b35 (t_b35 : ty Γ b35 19) => ?_)
          refine lv_iload_n hx hb dX5_swapBest_33 rfl (lv_at hl 0 rfl) ?_
          have hlt9 : v2_13.toInt < g 7 0 := pw_lt (by omega) (by omega)
          refine ald_19 hx hb hE hG t_b35 (by omega) dX5_swapBest_34 (fun j37 r36 h38 t_r36 h39 => ?_)
          refine lv_iload_n hx hb dX5_swapBest_35 rfl (lv_at hl 1 rfl) ?_
          refine ty_bipush hx hb (10) dX5_swapBest_36 (by decide) (fun x40 h41 => ?_)
          refine lv_irem hx hb dX5_swapBest_38 (fun h0 => by have := ty_c0.mp h0; omega) ?_
          refine lv_topi (fun x42 h43 => ?_)
          obtain ⟨b44, rfl⟩ := Option.ne_none_iff_exists'.mp (h39 (by omega))
          have t_b44 : ty Γ b44 4 := t_r36 b44 rfl
          have hl : lv_has ls 3 [(2, .int v2_13), (1, .int v1_13), (0, .ref h0)] := hl
          refine cV (va_runV (C := RX5) (As := [.ref b44, .int x42]) (rest := []) ⟨hx, hb, hml, hown, hA⟩ (k_X5_swap l dC dI dA sz X Γ hU g h0 t_h0 b44 t_b44 x42   (by omega)) ⟨callB_of 2 hA (al_A wd_3_182) rfl rfl rfl (hA _ wd_1_5) (hA _ wd_3_179) (by decide +kernel) ⟨Nat.le_of_ble_eq_true rfl, Nat.le_of_ble_eq_true rfl⟩, hA _ wd_3_181, hA _ ws_27⟩ ⟨bl, recv_X5 hE hG t_h0, fun U hU9 hW9 => ⟨rfl, by rw [hU9]; exact hG, hE.go hS hU9 hW9⟩⟩ rfl rfl hl.1 rfl (lv_room (Nat.le_of_ble_eq_true rfl)) dX5_swapBest_39 ⟨Nat.zero_le _, Nat.zero_le _⟩) hS (fun u45 H locs w46 hG hS => ?_)
          have eu47 := w46
          rw [eu47] at hG
          refine lv_iload_n hx hb dX5_swapBest_42 rfl (lv_at hl 1 rfl) ?_
          refine ty_bipush hx hb (10) dX5_swapBest_43 (by decide) (fun x48 h49 => ?_)
          refine lv_idiv hx hb dX5_swapBest_45 (fun h0 => by have := ty_c0.mp h0; omega) ?_
          refine lv_topi (fun x50 h51 => ?_)
          refine lv_istore_n (lv' := [(1, .int x50), (2, .int v2_13), (0, .ref h0)]) hx hb dX5_swapBest_46 rfl hl (by decide) rfl (fun ls hl => ?_)
          obtain ⟨x52, h53⟩ : ∃ y : Int32, y = v2_13 + Int32.ofInt (-1) := ⟨_, rfl⟩
          try have h54 : x52.toInt = v2_13.toInt + (-1) := ty_inc h53 (by decide) (by omega) (by omega)
          refine lv_iinc (v := x52) (lv' := [(2, .int x52), (1, .int x50), (0, .ref h0)]) hx hb dX5_swapBest_47 hl (k := 1) rfl h53.symm (by decide) rfl (fun ls hl => ?_)
          refine lv_goto (tgt := 13) hx hb dX5_swapBest_50 (by decide) ?_
          exact ih_13 x52 x50 _ _ ls (by omega) (by omega) hG hS (lv_sub hl [0, 1, 2] rfl)
  exact L_13 ((x9.toInt + 1) + 1).toNat x9 x5 _ _ ls (by omega) (by omega) hG hS (lv_sub hl [0, 1, 2] rfl)

set_option maxHeartbeats 4000000 in
set_option maxRecDepth 100000 in
/-- WeekBank.rings:  -/
theorem k_X8_rings (l : Launch) (dC : Nat → ClassId) (dI : Nat → Nat → Nat) (dA : Nat → ClassId) (sz : Nat) (X : va_W) (Γ : ty_G) (hU : Un Γ) (g : gh) (h0 : Nat) (t_h0 : ty Γ h0 1) (p1 : Int32) (g3 : g 3 0 = g 35 0 ∧ 0 ≤ g 3 0 ∧ g 3 0 ≤ 200) (hs : 0 ≤ g 7 0 ∧ g 7 0 ≤ g 36 0 ∧ g 36 0 ≤ 9) : Met l yX8_rings (.code yX8_rings cX8_rings 3 (Option.some Jvm.ClassFile.FieldType.int) :: AL) ({ frames := 4, cells := 0, slots := 0, locals := 97 }) (PCx dC dI dA sz X Γ g [.ref h0, .int p1]) (va_Qi (fun (r : Int32) (u : gh) => (∀ c j : Nat, c ≠ 7 → c ≠ 8 → c ≠ 36 → u c j = g c j) ∧ ((0 ≤ u 7 0 ∧ u 7 0 ≤ u 36 0 ∧ u 36 0 ≤ 9))) (okb dC dI dA sz X Γ) (ty_A sz)) 0 0 (ty_A sz) := by
  refine Met.ofW (cc := cX8_rings) (maxL := 3) (ret := (Option.some Jvm.ClassFile.FieldType.int)) (by decide) rfl ?_
  intro p e s m args below meth c s₁ B hml hv
  obtain ⟨rfl, hG, hE⟩ := hv
  have hx := B.exec
  have hb := B.bytes
  have hr := B.returns
  have hts := atoms_spec B.pre
  have hA : ∀ w ∈ AL, w.before _ s = true := fun w h => hts w (List.mem_cons_of_mem _ h)
  have hown : s.vm.findClass RX8 = some m.cls := findClass_of_methodNamed B.named
  have hlocks := B.notSynchronized
  have hS : va_S (ty_A sz) s.heap s.heap [] := va_S.rf
  have hl := lv_entry ([.ref h0, .int p1]) (n := 3) (Nat.le_of_ble_eq_true rfl)
  rw [lg_entry_eq]
  generalize (lg_sl ([.ref h0, .int p1]) ++ List.replicate (3 - (lg_sl ([.ref h0, .int p1])).length) Slot.unset).toArray = ls at hl ⊢
  have hl : lv_has ls 3 [(0, .ref h0), (1, .int p1)] := hl
  refine lv_iload_n hx hb dX8_rings_0 rfl (lv_at hl 1 rfl) ?_
  refine ty_iconst hx hb (2) dX8_rings_1 (by decide) (fun x1 h2 => ?_)
  refine ty_icmp_lt (tgt := 11) hx hb dX8_rings_2 (by decide) (fun c3 => ?_) (fun c3 => ?_)
  · skip
    refine ty_iconst hx hb (-1) dX8_rings_11 (by decide) (fun x4 h5 => ?_)
    exact W.iret (v := x4) hx hb hr (fun t ht hW => ⟨⟨x4, g, rfl, ⟨(fun c j h7 h8 h36 => by rfl), (by omega)⟩, ok1 ht hG⟩, hS.F ht⟩) hS.2.2 dX8_rings_12
  · skip
    refine lv_iload_n hx hb dX8_rings_5 rfl (lv_at hl 1 rfl) ?_
    refine ty_bipush hx hb (9) dX8_rings_6 (by decide) (fun x6 h7 => ?_)
    refine ty_icmp_le (tgt := 13) hx hb dX8_rings_8 (by decide) (fun c8 => ?_) (fun c8 => ?_)
    · skip
      refine lv_aload_n hx hb dX8_rings_13 rfl (lv_at hl 0 rfl) ?_
      refine get_X8_11 hx hb hA hown hE hG t_h0 wd_1_168 dX8_rings_14 (fun b9 (t_b9 : ty Γ b9 8) => ?_)
      refine cV (va_runV (C := RX5) (As := []) (rest := []) ⟨hx, hb, hml, hown, hA⟩ (k_X5_clear l dC dI dA sz X Γ hU g b9 t_b9   ) ⟨callB_of 0 hA (al_A wd_3_114) rfl rfl rfl (hA _ wd_1_5) (hA _ wd_3_111) (by decide +kernel) ⟨Nat.le_of_ble_eq_true rfl, Nat.le_of_ble_eq_true rfl⟩, hA _ wd_3_112, hA _ wd_3_113⟩ ⟨bl, recv_X5 hE hG t_b9, fun U hU9 hW9 => ⟨rfl, by rw [hU9]; exact hG, hE.go hS hU9 hW9⟩⟩ rfl rfl hl.1 rfl (lv_room (Nat.le_of_ble_eq_true rfl)) dX8_rings_17 ⟨Nat.zero_le _, Nat.zero_le _⟩) hS (fun u10 H locs w11 hG hS => ?_)
      obtain ⟨hf12, w11⟩ := w11
      refine ty_iconst hx hb (0) dX8_rings_20 (by decide) (fun x13 h14 => ?_)
      refine lv_istore_n (lv' := [(2, .int x13), (0, .ref h0), (1, .int p1)]) hx hb dX8_rings_21 rfl hl (by decide) rfl (fun ls hl => ?_)
      have L_22 : ∀ (n : Nat) (v2_22 : Int32) (g15 : gh) (H : Heap) (locs : List Loc) (ls : Array Slot), (g15 3 0 - v2_22.toInt : Int) < n → 0 ≤ v2_22.toInt ∧ v2_22.toInt ≤ g15 3 0 → 0 ≤ g15 7 0 ∧ g15 7 0 ≤ g15 36 0 ∧ g15 36 0 ≤ 9 → (∀ c j : Nat, c ≠ 7 → c ≠ 36 → g15 c j = u10 c j) → ty_ok (dC, dI) vwCl Γ (TP dA Γ g15) sz X H → va_S (ty_A sz) s.heap H locs → lv_has ls 3 [(2, .int v2_22), (0, .ref h0), (1, .int p1)] → W p l e (headSpec (.code yX8_rings cX8_rings 3 (Option.some Jvm.ClassFile.FieldType.int) :: AL) ({ frames := 4, cells := 0, slots := 0, locals := 97 })).room s m ([.ref h0, .int p1] : List Value).toArray below meth c H locs 0 0 (MQ below (va_Qi (fun (r : Int32) (u : gh) => (∀ c j : Nat, c ≠ 7 → c ≠ 8 → c ≠ 36 → u c j = g c j) ∧ ((0 ≤ u 7 0 ∧ u 7 0 ≤ u 36 0 ∧ u 36 0 ≤ 9))) (okb dC dI dA sz X Γ) (ty_A sz)) ([.ref h0, .int p1] : List Value).toArray s 0 0 (ty_A sz)) (F0 m 22 ls []) := by
        intro n
        induction n with
        | zero => intro v2_22 g15 H locs ls hm hi0 hi1 hf16 hG hS hl; exfalso; omega
        | succ n ih_22 =>
          intro v2_22 g15 H locs ls hm hi0 hi1 hf16 hG hS hl
          have hk17 : g15 3 0 = u10 3 0 := hf16 3 0 (by decide) (by decide)
          have hk18 : u10 3 0 = g 3 0 := hf12 3 0 (by decide) (by decide)
          refine lv_iload_n hx hb dX8_rings_22 rfl (lv_at hl 0 rfl) ?_
          refine lv_aload_n hx hb dX8_rings_23 rfl (lv_at hl 1 rfl) ?_
          refine get_X8_5 hx hb hA hown hE hG t_h0 wd_1_162 dX8_rings_24 (fun x19 h20 => ?_)
          refine ty_icmp_ge (tgt := 73) hx hb dX8_rings_27 (by decide) (fun c22 => ?_) (fun c22 => ?_)
          · skip
            refine lv_aload_n hx hb dX8_rings_73 rfl (lv_at hl 1 rfl) ?_
            refine get_X8_11 hx hb hA hown hE hG t_h0 wd_1_168 dX8_rings_74 (fun b23 (t_b23 : ty Γ b23 8) => ?_)
            refine lv_iload_n hx hb dX8_rings_77 rfl (lv_at hl 2 rfl) ?_
            have hpp9 := pw_pos (g15 7 0)
            have hk24 : g15 8 0 = u10 8 0 := hf16 8 0 (by decide) (by decide)
            refine cV (va_runV (C := RX5) (As := [.int p1]) (rest := []) ⟨hx, hb, hml, hown, hA⟩ (k_X5_findBest l dC dI dA sz X Γ hU g15 b23 t_b23 p1   (by omega) (by omega)) ⟨callB_of 1 hA (al_A wd_3_122) rfl rfl rfl (hA _ wd_1_5) (hA _ wd_3_119) (by decide +kernel) ⟨Nat.le_of_ble_eq_true rfl, Nat.le_of_ble_eq_true rfl⟩, hA _ wd_3_120, hA _ wd_3_121⟩ ⟨bl, recv_X5 hE hG t_b23, fun U hU9 hW9 => ⟨rfl, by rw [hU9]; exact hG, hE.go hS hU9 hW9⟩⟩ rfl rfl hl.1 rfl (lv_room (Nat.le_of_ble_eq_true rfl)) dX8_rings_78 ⟨Nat.zero_le _, Nat.zero_le _⟩) hS (fun u25 H locs w26 hG hS => ?_)
            obtain ⟨hf27, w26⟩ := w26
            refine lv_aload_n hx hb dX8_rings_81 rfl (lv_at hl 1 rfl) ?_
            refine get_X8_11 hx hb hA hown hE hG t_h0 wd_1_168 dX8_rings_82 (fun b28 (t_b28 : ty Γ b28 8) => ?_)
            have h7n : u25 7 0 = g15 7 0 := by rw [hf27 7 0 (by decide)]
            have hpp8 : pw (u25 7 0) = pw (g15 7 0) := by rw [h7n]
            have hk29 : u25 7 0 = g15 7 0 := hf27 7 0 (by decide)
            have hk30 : u25 36 0 = g15 36 0 := hf27 36 0 (by decide)
            refine cI (va_runV (C := RX5) (As := []) (rest := []) ⟨hx, hb, hml, hown, hA⟩ (k_X5_swapBest l dC dI dA sz X Γ hU u25 b28 t_b28   (by omega) (by omega)) ⟨callB_of 0 hA (al_A wd_3_178) rfl rfl rfl (hA _ wd_1_5) (hA _ wd_3_175) (by decide +kernel) ⟨Nat.le_of_ble_eq_true rfl, Nat.le_of_ble_eq_true rfl⟩, hA _ wd_3_176, hA _ wd_3_177⟩ ⟨bl, recv_X5 hE hG t_b28, fun U hU9 hW9 => ⟨rfl, by rw [hU9]; exact hG, hE.go hS hU9 hW9⟩⟩ rfl rfl hl.1 rfl (lv_room (Nat.le_of_ble_eq_true rfl)) dX8_rings_85 ⟨Nat.zero_le _, Nat.zero_le _⟩) hS (fun x33 u31 H locs w32 hG hS => ?_)
            have eu34 := w32
            rw [eu34] at hG
            exact W.iret (v := x33) hx hb hr (fun t ht hW => ⟨⟨x33, u25, rfl, ⟨(fun c j h7 h8 h36 => by rw [hf27 c j h8, hf16 c j h7 h36, hf12 c j h7 h8]), (by omega)⟩, ok1 ht hG⟩, hS.F ht⟩) hS.2.2 dX8_rings_88
          · skip
            refine lv_aload_n hx hb dX8_rings_30 rfl (lv_at hl 1 rfl) ?_
            refine get_X8_4 hx hb hA hown hE hG t_h0 wd_1_161 dX8_rings_31 (fun b35 (t_b35 : ty Γ b35 12) => ?_)
            refine lv_iload_n hx hb dX8_rings_34 rfl (lv_at hl 0 rfl) ?_
            refine ald_12 hx hb hE hG t_b35 (by omega) dX8_rings_35 (fun j37 r36 h38 t_r36 h39 => ?_)
            have hk40 : g15 35 0 = u10 35 0 := hf16 35 0 (by decide) (by decide)
            have hk41 : u10 35 0 = g 35 0 := hf12 35 0 (by decide) (by decide)
            obtain ⟨b42, rfl⟩ := Option.ne_none_iff_exists'.mp (h39 (by omega))
            have t_b42 : ty Γ b42 4 := t_r36 b42 rfl
            have hl : lv_has ls 3 [(2, .int v2_22), (0, .ref h0), (1, .int p1)] := hl
            refine get_X2_6 hx hb hA hown hE hG t_b42 wd_3_34 dX8_rings_36 (fun x43 => ?_)
            refine ty_if_ne (tgt := 67) hx hb dX8_rings_39 (by decide) (fun c44 => ?_) (fun c44 => ?_)
            · skip
              obtain ⟨x45, h46⟩ : ∃ y : Int32, y = v2_22 + Int32.ofInt (1) := ⟨_, rfl⟩
              try have h47 : x45.toInt = v2_22.toInt + (1) := ty_inc h46 (by decide) (by omega) (by omega)
              refine lv_iinc (v := x45) (lv' := [(2, .int x45), (0, .ref h0), (1, .int p1)]) hx hb dX8_rings_67 hl (k := 0) rfl h46.symm (by decide) rfl (fun ls hl => ?_)
              refine lv_goto (tgt := 22) hx hb dX8_rings_70 (by decide) ?_
              exact ih_22 x45 g15 _ _ ls (by omega) (by omega) (by omega) (fun c j h7 h36 => by rw [hf16 c j h7 h36]) hG hS (lv_sub hl [0, 1, 2] rfl)
            · skip
              refine lv_aload_n hx hb dX8_rings_42 rfl (lv_at hl 1 rfl) ?_
              refine get_X8_4 hx hb hA hown hE hG t_h0 wd_1_161 dX8_rings_43 (fun b48 (t_b48 : ty Γ b48 12) => ?_)
              refine lv_iload_n hx hb dX8_rings_46 rfl (lv_at hl 0 rfl) ?_
              refine ald_12 hx hb hE hG t_b48 (by omega) dX8_rings_47 (fun j50 r49 h51 t_r49 h52 => ?_)
              obtain ⟨b53, rfl⟩ := Option.ne_none_iff_exists'.mp (h52 (by omega))
              have t_b53 : ty Γ b53 4 := t_r49 b53 rfl
              have hl : lv_has ls 3 [(2, .int v2_22), (0, .ref h0), (1, .int p1)] := hl
              obtain ⟨fs54, fs54a, fs54l, fs54F⟩ := pin_X2 hG t_b53
              obtain ⟨r55, e_r55, t_r55⟩ : vN Γ 5 (vp_V fs54 7) := fs54F 7 (by decide)
              refine gep_X2 hx hb hA hE fs54a hown 7 (by decide) wd_3_37 rfl (va_rf r55) (vp_at fs54l (by decide) e_r55) dX8_rings_48 ?_
              refine ty_ifnull (tgt := 67) hx hb dX8_rings_51 (by decide) (fun h57 => ?_) (fun b56 h57 => ?_)
              · skip
                subst h57
                have hl : lv_has ls 3 [(2, .int v2_22), (0, .ref h0), (1, .int p1)] := hl
                obtain ⟨x58, h59⟩ : ∃ y : Int32, y = v2_22 + Int32.ofInt (1) := ⟨_, rfl⟩
                try have h60 : x58.toInt = v2_22.toInt + (1) := ty_inc h59 (by decide) (by omega) (by omega)
                refine lv_iinc (v := x58) (lv' := [(2, .int x58), (0, .ref h0), (1, .int p1)]) hx hb dX8_rings_67 hl (k := 0) rfl h59.symm (by decide) rfl (fun ls hl => ?_)
                refine lv_goto (tgt := 22) hx hb dX8_rings_70 (by decide) ?_
                exact ih_22 x58 g15 _ _ ls (by omega) (by omega) (by omega) (fun c j h7 h36 => by rw [hf16 c j h7 h36]) hG hS (lv_sub hl [0, 1, 2] rfl)
              · skip
                subst h57
                have t_b56 : ty Γ b56 5 := t_r55 b56 rfl
                have hl : lv_has ls 3 [(2, .int v2_22), (0, .ref h0), (1, .int p1)] := hl
                refine lv_aload_n hx hb dX8_rings_54 rfl (lv_at hl 1 rfl) ?_
                refine get_X8_11 hx hb hA hown hE hG t_h0 wd_1_168 dX8_rings_55 (fun b61 (t_b61 : ty Γ b61 8) => ?_)
                refine lv_aload_n hx hb dX8_rings_58 rfl (lv_at hl 1 rfl) ?_
                refine get_X8_4 hx hb hA hown hE hG t_h0 wd_1_161 dX8_rings_59 (fun b62 (t_b62 : ty Γ b62 12) => ?_)
                refine lv_iload_n hx hb dX8_rings_62 rfl (lv_at hl 0 rfl) ?_
                refine ald_12 hx hb hE hG t_b62 (by omega) dX8_rings_63 (fun j64 r63 h65 t_r63 h66 => ?_)
                obtain ⟨b67, rfl⟩ := Option.ne_none_iff_exists'.mp (h66 (by omega))
                have t_b67 : ty Γ b67 4 := t_r63 b67 rfl
                have hl : lv_has ls 3 [(2, .int v2_22), (0, .ref h0), (1, .int p1)] := hl
                refine cV (va_runV (C := RX5) (As := [.ref b67]) (rest := []) ⟨hx, hb, hml, hown, hA⟩ (k_X5_add l dC dI dA sz X Γ hU g15 b61 t_b61 b67 t_b67   (by omega)) ⟨callB_of 1 hA (al_A wd_3_118) rfl rfl rfl (hA _ wd_1_5) (hA _ wd_3_115) (by decide +kernel) ⟨Nat.le_of_ble_eq_true rfl, Nat.le_of_ble_eq_true rfl⟩, hA _ wd_3_116, hA _ wd_3_117⟩ ⟨bl, recv_X5 hE hG t_b61, fun U hU9 hW9 => ⟨rfl, by rw [hU9]; exact hG, hE.go hS hU9 hW9⟩⟩ rfl rfl hl.1 rfl (lv_room (Nat.le_of_ble_eq_true rfl)) dX8_rings_64 ⟨Nat.zero_le _, Nat.zero_le _⟩) hS (fun u68 H locs w69 hG hS => ?_)
                obtain ⟨hf70, w69⟩ := w69
                obtain ⟨x71, h72⟩ : ∃ y : Int32, y = v2_22 + Int32.ofInt (1) := ⟨_, rfl⟩
                try have h73 : x71.toInt = v2_22.toInt + (1) := ty_inc h72 (by decide) (by omega) (by omega)
                refine lv_iinc (v := x71) (lv' := [(2, .int x71), (0, .ref h0), (1, .int p1)]) hx hb dX8_rings_67 hl (k := 0) rfl h72.symm (by decide) rfl (fun ls hl => ?_)
                refine lv_goto (tgt := 22) hx hb dX8_rings_70 (by decide) ?_
                have hk74 : u68 3 0 = g15 3 0 := hf70 3 0 (by decide) (by decide)
                exact ih_22 x71 u68 _ _ ls (by omega) (by omega) (by omega) (fun c j h7 h36 => by rw [hf70 c j h7 h36, hf16 c j h7 h36]) hG hS (lv_sub hl [0, 1, 2] rfl)
      have hk75 : u10 3 0 = g 3 0 := hf12 3 0 (by decide) (by decide)
      have hk76 : u10 36 0 = g 36 0 := hf12 36 0 (by decide) (by decide)
      exact L_22 ((u10 3 0 - x13.toInt) + 1).toNat x13 u10 _ _ ls (by omega) (by omega) (by omega) (fun c j _ _ => rfl) hG hS (lv_sub hl [0, 1, 2] rfl)
    · skip
      refine ty_iconst hx hb (-1) dX8_rings_11 (by decide) (fun x77 h78 => ?_)
      exact W.iret (v := x77) hx hb hr (fun t ht hW => ⟨⟨x77, g, rfl, ⟨(fun c j h7 h8 h36 => by rfl), (by omega)⟩, ok1 ht hG⟩, hS.F ht⟩) hS.2.2 dX8_rings_12
