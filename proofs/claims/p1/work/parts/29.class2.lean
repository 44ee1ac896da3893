set_option maxHeartbeats 4000000 in
set_option maxRecDepth 100000 in
/-- java/lang/Integer.bitCount:  -/
theorem f_bitCount (l : Launch) (dC : Nat → ClassId) (dI : Nat → Nat → Nat) (dA : Nat → ClassId) (sz : Nat) (X : va_W) (Γ : ty_G) (hU : Un Γ) (g : gh) (p0 : Int32) (f0 : p0.toInt = 0) : Met l yJ6_bitCount_0f7a4 (.code yJ6_bitCount_0f7a4 cJ6_bitCount_0f7a4 1 (Option.some Jvm.ClassFile.FieldType.int) :: AL) ({ frames := 0, cells := 0, slots := 0, locals := 0 }) (PCx dC dI dA sz X Γ g [.int p0]) (va_Qi (fun (r : Int32) (u : gh) => u = g ∧ ((r.toInt = 0))) (okb dC dI dA sz X Γ) (ty_A sz)) 0 0 (ty_A sz) := by
  refine Met.ofW (cc := cJ6_bitCount_0f7a4) (maxL := 1) (ret := (Option.some Jvm.ClassFile.FieldType.int)) (by decide) rfl ?_
  intro p e s m args below meth c s₁ B hml hv
  obtain ⟨rfl, hG, hE⟩ := hv
  have hx := B.exec
  have hb := B.bytes
  have hr := B.returns
  have hts := atoms_spec B.pre
  have hA : ∀ w ∈ AL, w.before _ s = true := fun w h => hts w (List.mem_cons_of_mem _ h)
  have hown : s.vm.findClass RJ6 = some m.cls := findClass_of_methodNamed B.named
  have hlocks := B.notSynchronized
  have hS : va_S (ty_A sz) s.heap s.heap [] := va_S.rf
  have hl := lv_entry ([.int p0]) (n := 1) (Nat.le_of_ble_eq_true rfl)
  rw [lg_entry_eq]
  generalize (lg_sl ([.int p0]) ++ List.replicate (1 - (lg_sl ([.int p0])).length) Slot.unset).toArray = ls at hl ⊢
  have hl : lv_has ls 1 [(0, .int p0)] := hl
  refine lv_iload_n hx hb dJ6_bitCount_0f7a4_0 rfl (lv_at hl 0 rfl) ?_
  refine lv_iload_n hx hb dJ6_bitCount_0f7a4_1 rfl (lv_at hl 0 rfl) ?_
  refine lv_iconst (v := 1) hx hb dJ6_bitCount_0f7a4_2 (by decide) ?_
  refine lv_topi (fun x1 h2 => ?_)
  refine lv_iushr hx hb dJ6_bitCount_0f7a4_3 rfl ?_
  refine lv_topi (fun x3 h4 => ?_)
  refine lv_ldcw (v := 1431655765) hx hb hown (hA _ wd_3_146) dJ6_bitCount_0f7a4_4 ?_
  refine lv_topi (fun x5 h6 => ?_)
  refine ty_iand hx hb dJ6_bitCount_0f7a4_7 (fun x7 h8 => ?_)
  refine ty_isub hx hb dJ6_bitCount_0f7a4_8 (fun x9 h10 => ?_)
  try have h11 : x9.toInt = p0.toInt - x7.toInt := ty_sub h10 (by omega) (by omega)
  refine lv_istore_n (lv' := [(0, .int x9)]) hx hb dJ6_bitCount_0f7a4_9 rfl hl (by decide) rfl (fun ls hl => ?_)
  refine lv_iload_n hx hb dJ6_bitCount_0f7a4_10 rfl (lv_at hl 0 rfl) ?_
  refine lv_ldcw (v := 858993459) hx hb hown (hA _ wd_3_147) dJ6_bitCount_0f7a4_11 ?_
  refine lv_topi (fun x12 h13 => ?_)
  refine ty_iand hx hb dJ6_bitCount_0f7a4_14 (fun x14 h15 => ?_)
  refine lv_iload_n hx hb dJ6_bitCount_0f7a4_15 rfl (lv_at hl 0 rfl) ?_
  refine lv_iconst (v := 2) hx hb dJ6_bitCount_0f7a4_16 (by decide) ?_
  refine lv_topi (fun x16 h17 => ?_)
  refine lv_iushr hx hb dJ6_bitCount_0f7a4_17 rfl ?_
  refine lv_topi (fun x18 h19 => ?_)
  refine lv_ldcw (v := 858993459) hx hb hown (hA _ wd_3_147) dJ6_bitCount_0f7a4_18 ?_
  refine lv_topi (fun x20 h21 => ?_)
  refine ty_iand hx hb dJ6_bitCount_0f7a4_21 (fun x22 h23 => ?_)
  refine ty_iadd hx hb dJ6_bitCount_0f7a4_22 (fun x24 h25 => ?_)
  try have h26 : x24.toInt = x14.toInt + x22.toInt := ty_add h25 (by omega) (by omega)
  refine lv_istore_n (lv' := [(0, .int x24)]) hx hb dJ6_bitCount_0f7a4_23 rfl hl (by decide) rfl (fun ls hl => ?_)
  refine lv_iload_n hx hb dJ6_bitCount_0f7a4_24 rfl (lv_at hl 0 rfl) ?_
  refine lv_iload_n hx hb dJ6_bitCount_0f7a4_25 rfl (lv_at hl 0 rfl) ?_
  refine lv_iconst (v := 4) hx hb dJ6_bitCount_0f7a4_26 (by decide) ?_
  refine lv_topi (fun x27 h28 => ?_)
  refine lv_iushr hx hb dJ6_bitCount_0f7a4_27 rfl ?_
  refine lv_topi (fun x29 h30 => ?_)
  refine ty_iadd hx hb dJ6_bitCount_0f7a4_28 (fun x31 h32 => ?_)
  try have h33 : x31.toInt = x24.toInt + x29.toInt := ty_add h32 (by omega) (by omega)
  refine lv_ldcw (v := 252645135) hx hb hown (hA _ wd_3_148) dJ6_bitCount_0f7a4_29 ?_
  refine lv_topi (fun x34 h35 => ?_)
  refine ty_iand hx hb dJ6_bitCount_0f7a4_32 (fun x36 h37 => ?_)
  refine lv_istore_n (lv' := [(0, .int x36)]) hx hb dJ6_bitCount_0f7a4_33 rfl hl (by decide) rfl (fun ls hl => ?_)
  refine lv_iload_n hx hb dJ6_bitCount_0f7a4_34 rfl (lv_at hl 0 rfl) ?_
  refine lv_iload_n hx hb dJ6_bitCount_0f7a4_35 rfl (lv_at hl 0 rfl) ?_
  refine lv_bipush (v := 8) hx hb dJ6_bitCount_0f7a4_36 (by decide) ?_
  refine lv_topi (fun x38 h39 => ?_)
  refine lv_iushr hx hb dJ6_bitCount_0f7a4_38 rfl ?_
  refine lv_topi (fun x40 h41 => ?_)
  refine ty_iadd hx hb dJ6_bitCount_0f7a4_39 (fun x42 h43 => ?_)
  try have h44 : x42.toInt = x36.toInt + x40.toInt := ty_add h43 (by omega) (by omega)
  refine lv_istore_n (lv' := [(0, .int x42)]) hx hb dJ6_bitCount_0f7a4_40 rfl hl (by decide) rfl (fun ls hl => ?_)
  refine lv_iload_n hx hb dJ6_bitCount_0f7a4_41 rfl (lv_at hl 0 rfl) ?_
  refine lv_iload_n hx hb dJ6_bitCount_0f7a4_42 rfl (lv_at hl 0 rfl) ?_
  refine lv_bipush (v := 16) hx hb dJ6_bitCount_0f7a4_43 (by decide) ?_
  refine lv_topi (fun x45 h46 => ?_)
  refine lv_iushr hx hb dJ6_bitCount_0f7a4_45 rfl ?_
  refine lv_topi (fun x47 h48 => ?_)
  refine ty_iadd hx hb dJ6_bitCount_0f7a4_46 (fun x49 h50 => ?_)
  try have h51 : x49.toInt = x42.toInt + x47.toInt := ty_add h50 (by omega) (by omega)
  refine lv_istore_n (lv' := [(0, .int x49)]) hx hb dJ6_bitCount_0f7a4_47 rfl hl (by decide) rfl (fun ls hl => ?_)
  refine lv_iload_n hx hb dJ6_bitCount_0f7a4_48 rfl (lv_at hl 0 rfl) ?_
  refine lv_bipush (v := 63) hx hb dJ6_bitCount_0f7a4_49 (by decide) ?_
  refine lv_topi (fun x52 h53 => ?_)
  refine ty_iand hx hb dJ6_bitCount_0f7a4_51 (fun x54 h55 => ?_)
  exact W.iret (v := x54) hx hb hr (fun t ht hW => ⟨⟨x54, g, rfl, ⟨rfl, (by obtain rfl : p0 = 0 := ty_eq32.mpr f0; subst_vars; decide)⟩, ok1 ht hG⟩, hS.F ht⟩) hS.2.2 dJ6_bitCount_0f7a4_52

set_option maxHeartbeats 4000000 in
set_option maxRecDepth 100000 in
/-- WeekBank$Rules.clear:  -/
theorem k_X6_clear (l : Launch) (dC : Nat → ClassId) (dI : Nat → Nat → Nat) (dA : Nat → ClassId) (sz : Nat) (X : va_W) (Γ : ty_G) (hU : Un Γ) (g : gh) (h0 ii : Nat) (t_h0 : Γ h0 = (6, ii)) : Met l yX6_clear (.code yX6_clear cX6_clear 1 (Option.none : Option Jvm.ClassFile.FieldType) :: AL) ({ frames := 1, cells := 0, slots := 0, locals := 23 }) (PCx dC dI dA sz X Γ g [.ref h0]) (va_Qv (fun (u : gh) => (∀ c j : Nat, c ≠ 10 → c ≠ 11 → u c j = g c j) ∧ ((u 10 ii = 0) ∧ (u 11 ii = 0))) (okb dC dI dA sz X Γ) (ty_A sz)) 0 0 (ty_A sz) := by
  refine Met.ofW (cc := cX6_clear) (maxL := 1) (ret := (Option.none : Option Jvm.ClassFile.FieldType)) (by decide) rfl ?_
  intro p e s m args below meth c s₁ B hml hv
  obtain ⟨rfl, hG, hE⟩ := hv
  have hx := B.exec
  have hb := B.bytes
  have hr := B.returns
  have hts := atoms_spec B.pre
  have hA : ∀ w ∈ AL, w.before _ s = true := fun w h => hts w (List.mem_cons_of_mem _ h)
  have hown : s.vm.findClass RX6 = some m.cls := findClass_of_methodNamed B.named
  have hlocks := B.notSynchronized
  have hS : va_S (ty_A sz) s.heap s.heap [] := va_S.rf
  have hl := lv_entry ([.ref h0]) (n := 1) (Nat.le_of_ble_eq_true rfl)
  rw [lg_entry_eq]
  generalize (lg_sl ([.ref h0]) ++ List.replicate (1 - (lg_sl ([.ref h0])).length) Slot.unset).toArray = ls at hl ⊢
  have hl : lv_has ls 1 [(0, .ref h0)] := hl
  refine lv_aload_n hx hb dX6_clear_0 rfl (lv_at hl 0 rfl) ?_
  refine get_X6_0 hx hb hA hown hE hG t_h0 wd_1_80 dX6_clear_1 (fun b1 t_b1 => ?_)
  refine ty_iconst hx hb (0) dX6_clear_4 (by decide) (fun x2 h3 => ?_)
  refine cV (va_runS (As := [.ref b1, .int x2]) (rest := []) ⟨hx, hb, hml, hown, hA⟩ (k_fill_16 l dC dI dA sz X Γ hU g b1 ii t_b1 x2   ) ⟨callB_of 2 hA (al_A wd_1_79) rfl rfl rfl (hA _ wd_1_4) (hA _ wd_1_77) (by decide +kernel) ⟨Nat.le_of_ble_eq_true rfl, Nat.le_of_ble_eq_true rfl⟩, hA _ wd_1_78⟩ ⟨bl, fun U hU9 hW9 => ⟨rfl, by rw [hU9]; exact hG, hE.go hS hU9 hW9⟩⟩ rfl rfl hl.1 rfl (lv_room (Nat.le_of_ble_eq_true rfl)) dX6_clear_5 ⟨Nat.zero_le _, Nat.zero_le _⟩) hS (fun u4 H locs w5 hG hS => ?_)
  have eu6 := w5
  rw [eu6] at hG
  refine lv_aload_n hx hb dX6_clear_8 rfl (lv_at hl 0 rfl) ?_
  refine get_X6_1 hx hb hA hown hE hG t_h0 wd_1_81 dX6_clear_9 (fun b7 t_b7 => ?_)
  refine ty_iconst hx hb (0) dX6_clear_12 (by decide) (fun x8 h9 => ?_)
  refine cV (va_runS (As := [.ref b7, .int x8]) (rest := []) ⟨hx, hb, hml, hown, hA⟩ (k_fill_17 l dC dI dA sz X Γ hU g b7 ii t_b7 x8   ) ⟨callB_of 2 hA (al_A wd_1_79) rfl rfl rfl (hA _ wd_1_4) (hA _ wd_1_77) (by decide +kernel) ⟨Nat.le_of_ble_eq_true rfl, Nat.le_of_ble_eq_true rfl⟩, hA _ wd_1_78⟩ ⟨bl, fun U hU9 hW9 => ⟨rfl, by rw [hU9]; exact hG, hE.go hS hU9 hW9⟩⟩ rfl rfl hl.1 rfl (lv_room (Nat.le_of_ble_eq_true rfl)) dX6_clear_13 ⟨Nat.zero_le _, Nat.zero_le _⟩) hS (fun u10 H locs w11 hG hS => ?_)
  have eu12 := w11
  rw [eu12] at hG
  refine lv_aload_n hx hb dX6_clear_16 rfl (lv_at hl 0 rfl) ?_
  refine get_X6_2 hx hb hA hown hE hG t_h0 wd_1_82 dX6_clear_17 (fun b13 t_b13 => ?_)
  refine ty_iconst hx hb (-1) dX6_clear_20 (by decide) (fun x14 h15 => ?_)
  refine cV (va_runS (As := [.ref b13, .int x14]) (rest := []) ⟨hx, hb, hml, hown, hA⟩ (k_fill_26 l dC dI dA sz X Γ hU g b13 ii t_b13 x14   ) ⟨callB_of 2 hA (al_A wd_1_79) rfl rfl rfl (hA _ wd_1_4) (hA _ wd_1_77) (by decide +kernel) ⟨Nat.le_of_ble_eq_true rfl, Nat.le_of_ble_eq_true rfl⟩, hA _ wd_1_78⟩ ⟨bl, fun U hU9 hW9 => ⟨rfl, by rw [hU9]; exact hG, hE.go hS hU9 hW9⟩⟩ rfl rfl hl.1 rfl (lv_room (Nat.le_of_ble_eq_true rfl)) dX6_clear_21 ⟨Nat.zero_le _, Nat.zero_le _⟩) hS (fun u16 H locs w17 hG hS => ?_)
  have eu18 := w17
  rw [eu18] at hG
  refine lv_aload_n hx hb dX6_clear_24 rfl (lv_at hl 0 rfl) ?_
  refine ty_iconst hx hb (0) dX6_clear_25 (by decide) (fun x19 h20 => ?_)
  refine put_X6_3 hx hb hA hown hE hG hS hU t_h0 wd_1_83 (by omega) dX6_clear_26 (fun H locs hG hS => ?_)
  refine lv_aload_n hx hb dX6_clear_29 rfl (lv_at hl 0 rfl) ?_
  refine ty_iconst hx hb (0) dX6_clear_30 (by decide) (fun x21 h22 => ?_)
  refine put_X6_4 hx hb hA hown hE hG hS hU t_h0 wd_1_86 dX6_clear_31 (fun H locs hG hS => ?_)
  have e23 : (gs (gs g 11 ii x19.toInt) 10 ii x21.toInt) 10 ii = x21.toInt := by simp [gs]
  have e24 : (gs (gs g 11 ii x19.toInt) 10 ii x21.toInt) 11 ii = x19.toInt := by simp [gs]
  exact W.vret hx hb hr (fun t ht hW => ⟨⟨(gs (gs g 11 ii x19.toInt) 10 ii x21.toInt), rfl, ⟨(fun c j h10 h11 => by rw [gs_c _ _ _ _ h10, gs_c _ _ _ _ h11]), (by omega)⟩, ok1 ht hG⟩, hS.F ht⟩) hS.2.2 dX6_clear_34

set_option maxHeartbeats 4000000 in
set_option maxRecDepth 100000 in
/-- WeekBank$Reader.readToken:  -/
theorem f_X4_readToken (l : Launch) (dC : Nat → ClassId) (dI : Nat → Nat → Nat) (dA : Nat → ClassId) (sz : Nat) (X : va_W) (Γ : ty_G) (hU : Un Γ) (g : gh) (h0 : Nat) (t_h0 : ty Γ h0 7) (f1 : g 6 0 = 0) (f2 : g 16 0 = 0) : Met l yX4_readToken (.code yX4_readToken cX4_readToken 1 (Option.none : Option Jvm.ClassFile.FieldType) :: AL) ({ frames := 0, cells := 0, slots := 0, locals := 0 }) (PCx dC dI dA sz X Γ g [.ref h0]) (va_Qv (fun (u : gh) => (∀ c j : Nat, c ≠ 15 → c ≠ 17 → u c j = g c j) ∧ ((u 15 0 = 0))) (okb dC dI dA sz X Γ) (ty_A sz)) 0 0 (ty_A sz) := by
  refine Met.ofW (cc := cX4_readToken) (maxL := 1) (ret := (Option.none : Option Jvm.ClassFile.FieldType)) (by decide) rfl ?_
  intro p e s m args below meth c s₁ B hml hv
  obtain ⟨rfl, hG, hE⟩ := hv
  have hx := B.exec
  have hb := B.bytes
  have hr := B.returns
  have hts := atoms_spec B.pre
  have hA : ∀ w ∈ AL, w.before _ s = true := fun w h => hts w (List.mem_cons_of_mem _ h)
  have hown : s.vm.findClass RX4 = some m.cls := findClass_of_methodNamed B.named
  have hlocks := B.notSynchronized
  have hS : va_S (ty_A sz) s.heap s.heap [] := va_S.rf
  have hl := lv_entry ([.ref h0]) (n := 1) (Nat.le_of_ble_eq_true rfl)
  rw [lg_entry_eq]
  generalize (lg_sl ([.ref h0]) ++ List.replicate (1 - (lg_sl ([.ref h0])).length) Slot.unset).toArray = ls at hl ⊢
  have hl : lv_has ls 1 [(0, .ref h0)] := hl
  refine lv_aload_n hx hb dX4_readToken_0 rfl (lv_at hl 0 rfl) ?_
  refine get_X4_4 hx hb hA hown hE hG t_h0 wd_1_49 dX4_readToken_1 (fun x1 h2 => ?_)
  refine lv_aload_n hx hb dX4_readToken_4 rfl (lv_at hl 0 rfl) ?_
  refine get_X4_1 hx hb hA hown hE hG t_h0 wd_1_43 dX4_readToken_5 (fun x4 h5 => ?_)
  refine ty_icmp_ge (tgt := 39) hx hb dX4_readToken_8 (by decide) (fun c7 => ?_) (fun c7 => ?_)
  · skip
    refine lv_aload_n hx hb dX4_readToken_39 rfl (lv_at hl 0 rfl) ?_
    refine lv_aload_n hx hb dX4_readToken_40 rfl (lv_at hl 0 rfl) ?_
    refine get_X4_4 hx hb hA hown hE hG t_h0 wd_1_49 dX4_readToken_41 (fun x8 h9 => ?_)
    refine put_X4_6 hx hb hA hown hE hG hS hU t_h0 wd_1_51 dX4_readToken_44 (fun H locs hG hS => ?_)
    refine lv_aload_n hx hb dX4_readToken_47 rfl (lv_at hl 0 rfl) ?_
    refine get_X4_4 hx hb hA hown hE hG t_h0 wd_1_49 dX4_readToken_48 (fun x11 h12 => ?_)
    have h12 : x11.toInt = g 16 0 := by rw [h12]; simp [gs]
    refine lv_aload_n hx hb dX4_readToken_51 rfl (lv_at hl 0 rfl) ?_
    refine get_X4_1 hx hb hA hown hE hG t_h0 wd_1_43 dX4_readToken_52 (fun x14 h15 => ?_)
    have h15 : x14.toInt = g 6 0 := by rw [h15]; simp [gs]
    refine ty_icmp_lt (tgt := 66) hx hb dX4_readToken_55 (by decide) (fun c17 => ?_) (fun c17 => ?_)
    · exfalso; omega
    · skip
      refine lv_aload_n hx hb dX4_readToken_58 rfl (lv_at hl 0 rfl) ?_
      refine ty_iconst hx hb (0) dX4_readToken_59 (by decide) (fun x18 h19 => ?_)
      refine put_X4_5 hx hb hA hown hE hG hS hU t_h0 wd_1_50 dX4_readToken_60 (fun H locs hG hS => ?_)
      refine lv_goto (tgt := 148) hx hb dX4_readToken_63 (by decide) ?_
      have e20 : (gs (gs g 17 0 x8.toInt) 15 0 x18.toInt) 15 0 = x18.toInt := by simp [gs]
      exact W.vret hx hb hr (fun t ht hW => ⟨⟨(gs (gs g 17 0 x8.toInt) 15 0 x18.toInt), rfl, ⟨(fun c j h15 h17 => by rw [gs_c _ _ _ _ h15, gs_c _ _ _ _ h17]), (by omega)⟩, ok1 ht hG⟩, hS.F ht⟩) hS.2.2 dX4_readToken_148
  · exfalso; omega

set_option maxHeartbeats 4000000 in
set_option maxRecDepth 100000 in
/-- WeekBank$Reader.readInto:  -/
theorem f_X4_readInto (l : Launch) (dC : Nat → ClassId) (dI : Nat → Nat → Nat) (dA : Nat → ClassId) (sz : Nat) (X : va_W) (Γ : ty_G) (hU : Un Γ) (g : gh) (h0 : Nat) (t_h0 : ty Γ h0 7) (p1 ii : Nat) (t_p1 : Γ p1 = (6, ii)) (f1 : g 6 0 = 0) : Met l yX4_readInto (.code yX4_readInto cX4_readInto 3 (Option.none : Option Jvm.ClassFile.FieldType) :: AL) ({ frames := 2, cells := 0, slots := 0, locals := 43 }) (PCx dC dI dA sz X Γ g [.ref h0, .ref p1]) (va_Qv (fun (u : gh) => (∀ c j : Nat, c ≠ 9 → c ≠ 10 → c ≠ 11 → c ≠ 14 → c ≠ 15 → c ≠ 16 → c ≠ 17 → u c j = g c j) ∧ ((u 9 0 = 0) ∧ (u 14 0 = -1) ∧ (u 10 ii = 0))) (okb dC dI dA sz X Γ) (ty_A sz)) 0 0 (ty_A sz) := by
  refine Met.ofW (cc := cX4_readInto) (maxL := 3) (ret := (Option.none : Option Jvm.ClassFile.FieldType)) (by decide) rfl ?_
  intro p e s m args below meth c s₁ B hml hv
  obtain ⟨rfl, hG, hE⟩ := hv
  have hx := B.exec
  have hb := B.bytes
  have hr := B.returns
  have hts := atoms_spec B.pre
  have hA : ∀ w ∈ AL, w.before _ s = true := fun w h => hts w (List.mem_cons_of_mem _ h)
  have hown : s.vm.findClass RX4 = some m.cls := findClass_of_methodNamed B.named
  have hlocks := B.notSynchronized
  have hS : va_S (ty_A sz) s.heap s.heap [] := va_S.rf
  have hl := lv_entry ([.ref h0, .ref p1]) (n := 3) (Nat.le_of_ble_eq_true rfl)
  rw [lg_entry_eq]
  generalize (lg_sl ([.ref h0, .ref p1]) ++ List.replicate (3 - (lg_sl ([.ref h0, .ref p1])).length) Slot.unset).toArray = ls at hl ⊢
  have hl : lv_has ls 3 [(0, .ref h0), (1, .ref p1)] := hl
  refine lv_aload_n hx hb dX4_readInto_0 rfl (lv_at hl 1 rfl) ?_
  refine cV (va_runV (C := RX6) (As := []) (rest := []) ⟨hx, hb, hml, hown, hA⟩ (k_X6_clear l dC dI dA sz X Γ hU g p1 ii t_p1   ) ⟨callB_of 0 hA (al_A wd_2_96) rfl rfl rfl (hA _ wd_1_3) (hA _ wd_2_93) (by decide +kernel) ⟨Nat.le_of_ble_eq_true rfl, Nat.le_of_ble_eq_true rfl⟩, hA _ wd_2_94, hA _ wd_2_95⟩ ⟨bl, recv_X6 hE hG (by rw [t_p1]), fun U hU9 hW9 => ⟨rfl, by rw [hU9]; exact hG, hE.go hS hU9 hW9⟩⟩ rfl rfl hl.1 rfl (lv_room (Nat.le_of_ble_eq_true rfl)) dX4_readInto_1 ⟨Nat.zero_le _, Nat.zero_le _⟩) hS (fun u1 H locs w2 hG hS => ?_)
  obtain ⟨hf3, w2⟩ := w2
  refine lv_aload_n hx hb dX4_readInto_4 rfl (lv_at hl 0 rfl) ?_
  refine ty_iconst hx hb (0) dX4_readInto_5 (by decide) (fun x4 h5 => ?_)
  refine put_X4_2 hx hb hA hown hE hG hS hU t_h0 wd_1_45 dX4_readInto_6 (fun H locs hG hS => ?_)
  refine lv_aload_n hx hb dX4_readInto_9 rfl (lv_at hl 0 rfl) ?_
  refine ty_iconst hx hb (-1) dX4_readInto_10 (by decide) (fun x6 h7 => ?_)
  refine put_X4_3 hx hb hA hown hE hG hS hU t_h0 wd_1_47 dX4_readInto_11 (fun H locs hG hS => ?_)
  refine lv_aload_n hx hb dX4_readInto_14 rfl (lv_at hl 0 rfl) ?_
  refine ty_iconst hx hb (0) dX4_readInto_15 (by decide) (fun x8 h9 => ?_)
  refine put_X4_4 hx hb hA hown hE hG hS hU t_h0 wd_1_49 dX4_readInto_16 (fun H locs hG hS => ?_)
  refine lv_aload_n hx hb dX4_readInto_19 rfl (lv_at hl 0 rfl) ?_
  have hk10 : u1 6 0 = g 6 0 := hf3 6 0 (by decide) (by decide)
  have e11 : (gs (gs (gs u1 9 0 x4.toInt) 14 0 x6.toInt) 16 0 x8.toInt) 6 0 = u1 6 0 := by simp [gs]
  have e12 : (gs (gs (gs u1 9 0 x4.toInt) 14 0 x6.toInt) 16 0 x8.toInt) 16 0 = x8.toInt := by simp [gs]
  refine cV (va_runV (C := RX4) (As := []) (rest := []) ⟨hx, hb, hml, hown, hA⟩ (f_X4_readToken l dC dI dA sz X Γ hU (gs (gs (gs u1 9 0 x4.toInt) 14 0 x6.toInt) 16 0 x8.toInt) h0 t_h0   (by omega) (by omega)) ⟨callB_of 0 hA (al_A wd_2_100) rfl rfl rfl (hA _ wd_1_2) (hA _ wd_2_97) (by decide +kernel) ⟨Nat.le_of_ble_eq_true rfl, Nat.le_of_ble_eq_true rfl⟩, hA _ wd_2_99, hA _ ws_3⟩ ⟨bl, recv_X4 hE hG t_h0, fun U hU9 hW9 => ⟨rfl, by rw [hU9]; exact hG, hE.go hS hU9 hW9⟩⟩ rfl rfl hl.1 rfl (lv_room (Nat.le_of_ble_eq_true rfl)) dX4_readInto_20 ⟨Nat.zero_le _, Nat.zero_le _⟩) hS (fun u13 H locs w14 hG hS => ?_)
  obtain ⟨hf15, w14⟩ := w14
  refine ty_iconst hx hb (0) dX4_readInto_23 (by decide) (fun x16 h17 => ?_)
  refine lv_istore_n (lv' := [(2, .int x16), (0, .ref h0), (1, .ref p1)]) hx hb dX4_readInto_24 rfl hl (by decide) rfl (fun ls hl => ?_)
  refine lv_iload_n hx hb dX4_readInto_25 rfl (lv_at hl 0 rfl) ?_
  refine ty_bipush hx hb (30) dX4_readInto_26 (by decide) (fun x18 h19 => ?_)
  refine ty_icmp_gt (tgt := 56) hx hb dX4_readInto_28 (by decide) (fun c20 => ?_) (fun c20 => ?_)
  · exfalso; omega
  · skip
    refine lv_aload_n hx hb dX4_readInto_31 rfl (lv_at hl 1 rfl) ?_
    refine get_X4_5 hx hb hA hown hE hG t_h0 wd_1_50 dX4_readInto_32 (fun x21 h22 => ?_)
    refine ty_if_eq (tgt := 56) hx hb dX4_readInto_35 (by decide) (fun c24 => ?_) (fun c24 => ?_)
    · skip
      have hk25 : u13 9 0 = (gs (gs (gs u1 9 0 x4.toInt) 14 0 x6.toInt) 16 0 x8.toInt) 9 0 := hf15 9 0 (by decide) (by decide)
      have hk25 : u13 9 0 = x4.toInt := by rw [hk25]; simp [gs]
      have hk26 : u13 10 ii = (gs (gs (gs u1 9 0 x4.toInt) 14 0 x6.toInt) 16 0 x8.toInt) 10 ii := hf15 10 ii (by decide) (by decide)
      have hk26 : u13 10 ii = u1 10 ii := by rw [hk26]; simp [gs]
      have hk27 : u13 14 0 = (gs (gs (gs u1 9 0 x4.toInt) 14 0 x6.toInt) 16 0 x8.toInt) 14 0 := hf15 14 0 (by decide) (by decide)
      have hk27 : u13 14 0 = x6.toInt := by rw [hk27]; simp [gs]
      exact W.vret hx hb hr (fun t ht hW => ⟨⟨u13, rfl, ⟨(fun c j h9 h10 h11 h14 h15 h16 h17 => by rw [hf15 c j h15 h17, gs_c _ _ _ _ h16, gs_c _ _ _ _ h14, gs_c _ _ _ _ h9, hf3 c j h10 h11]), (by omega)⟩, ok1 ht hG⟩, hS.F ht⟩) hS.2.2 dX4_readInto_56
    · exfalso; omega

set_option maxHeartbeats 4000000 in
set_option maxRecDepth 100000 in
/-- WeekBank.rules:  -/
theorem f_X8_rules (l : Launch) (dC : Nat → ClassId) (dI : Nat → Nat → Nat) (dA : Nat → ClassId) (sz : Nat) (X : va_W) (Γ : ty_G) (hU : Un Γ) (g : gh) (h0 : Nat) (t_h0 : ty Γ h0 1) (f1 : g 6 0 = 0) : Met l yX8_rules (.code yX8_rules cX8_rules 2 (Option.some Jvm.ClassFile.FieldType.int) :: AL) ({ frames := 3, cells := 0, slots := 0, locals := 65 }) (PCx dC dI dA sz X Γ g [.ref h0]) (va_Qi (fun (r : Int32) (u : gh) => (∀ c j : Nat, c ≠ 6 → c ≠ 9 → c ≠ 10 → c ≠ 11 → c ≠ 12 → c ≠ 13 → c ≠ 14 → c ≠ 15 → c ≠ 16 → c ≠ 17 → u c j = g c j) ∧ ((r.toInt = 0) ∧ (u 14 0 = -1) ∧ (u 6 0 = 0))) (okb dC dI dA sz X Γ) (ty_A sz)) 0 0 (ty_A sz) := by
  refine Met.ofW (cc := cX8_rules) (maxL := 2) (ret := (Option.some Jvm.ClassFile.FieldType.int)) (by decide) rfl ?_
  intro p e s m args below meth c s₁ B hml hv
  obtain ⟨rfl, hG, hE⟩ := hv
  have hx := B.exec
  have hb := B.bytes
  have hr := B.returns
  have hts := atoms_spec B.pre
  have hA : ∀ w ∈ AL, w.before _ s = true := fun w h => hts w (List.mem_cons_of_mem _ h)
  have hown : s.vm.findClass RX8 = some m.cls := findClass_of_methodNamed B.named
  have hlocks := B.notSynchronized
  have hS : va_S (ty_A sz) s.heap s.heap [] := va_S.rf
  have hl := lv_entry ([.ref h0]) (n := 2) (Nat.le_of_ble_eq_true rfl)
  rw [lg_entry_eq]
  generalize (lg_sl ([.ref h0]) ++ List.replicate (2 - (lg_sl ([.ref h0])).length) Slot.unset).toArray = ls at hl ⊢
  have hl : lv_has ls 2 [(0, .ref h0)] := hl
  refine lv_aload_n hx hb dX8_rules_0 rfl (lv_at hl 0 rfl) ?_
  refine get_X8_6 hx hb hA hown hE hG t_h0 wd_1_163 dX8_rules_1 (fun b1 (t_b1 : ty Γ b1 7) => ?_)
  refine lv_aload_n hx hb dX8_rules_4 rfl (lv_at hl 0 rfl) ?_
  refine get_X8_8 hx hb hA hown hE hG t_h0 wd_1_165 dX8_rules_5 (fun b2 i3 t_b2 h4 h4' => ?_)
  refine cV (va_runV (C := RX4) (As := [.ref b2]) (rest := []) ⟨hx, hb, hml, hown, hA⟩ (f_X4_readInto l dC dI dA sz X Γ hU g b1 t_b1 b2 i3 t_b2   (by omega)) ⟨callB_of 1 hA (al_A wd_2_92) rfl rfl rfl (hA _ wd_1_2) (hA _ wd_2_89) (by decide +kernel) ⟨Nat.le_of_ble_eq_true rfl, Nat.le_of_ble_eq_true rfl⟩, hA _ wd_2_90, hA _ wd_2_91⟩ ⟨bl, recv_X4 hE hG t_b1, fun U hU9 hW9 => ⟨rfl, by rw [hU9]; exact hG, hE.go hS hU9 hW9⟩⟩ rfl rfl hl.1 rfl (lv_room (Nat.le_of_ble_eq_true rfl)) dX8_rules_8 ⟨Nat.zero_le _, Nat.zero_le _⟩) hS (fun u5 H locs w6 hG hS => ?_)
  obtain ⟨hf7, w6⟩ := w6
  refine lv_aload_n hx hb dX8_rules_11 rfl (lv_at hl 0 rfl) ?_
  refine get_X8_6 hx hb hA hown hE hG t_h0 wd_1_163 dX8_rules_12 (fun b8 (t_b8 : ty Γ b8 7) => ?_)
  refine ty_iconst hx hb (0) dX8_rules_15 (by decide) (fun x9 h10 => ?_)
  refine put_X4_1 hx hb hA hown hE hG hS hU t_b8 wd_1_44 dX8_rules_16 (fun H locs hG hS => ?_)
  refine lv_aload_n hx hb dX8_rules_19 rfl (lv_at hl 0 rfl) ?_
  refine get_X8_6 hx hb hA hown hE hG t_h0 wd_1_163 dX8_rules_20 (fun b11 (t_b11 : ty Γ b11 7) => ?_)
  refine get_X4_2 hx hb hA hown hE hG t_b11 wd_1_46 dX8_rules_23 (fun x12 h13 => ?_)
  have h13 : x12.toInt = u5 9 0 := by rw [h13]; simp [gs]
  refine ty_if_eq (tgt := 40) hx hb dX8_rules_26 (by decide) (fun c15 => ?_) (fun c15 => ?_)
  · skip
    refine lv_aload_n hx hb dX8_rules_40 rfl (lv_at hl 0 rfl) ?_
    refine get_X8_7 hx hb hA hown hE hG t_h0 wd_1_164 dX8_rules_41 (fun b16 i17 t_b16 h18 h18' => ?_)
    have h18 : (i17 : Int) = u5 13 0 := by rw [h18]; simp [gs]
    have hk19 : u5 13 0 = g 13 0 := hf7 13 0 (by decide) (by decide) (by decide) (by decide) (by decide) (by decide) (by decide)
    refine lv_astore_n (lv' := [(1, .ref b16), (0, .ref h0)]) hx hb dX8_rules_44 rfl hl (by decide) rfl (fun ls hl => ?_)
    refine lv_aload_n hx hb dX8_rules_45 rfl (lv_at hl 1 rfl) ?_
    refine lv_aload_n hx hb dX8_rules_46 rfl (lv_at hl 1 rfl) ?_
    refine get_X8_8 hx hb hA hown hE hG t_h0 wd_1_165 dX8_rules_47 (fun b20 i21 t_b20 h22 h22' => ?_)
    have h22 : (i21 : Int) = u5 12 0 := by rw [h22]; simp [gs]
    have hk23 : u5 12 0 = g 12 0 := hf7 12 0 (by decide) (by decide) (by decide) (by decide) (by decide) (by decide) (by decide)
    refine put_X8_7 hx hb hA hown hE hG hS hU t_h0 wd_1_164 t_b20 (by omega) dX8_rules_50 (fun H locs hG hS => ?_)
    refine lv_aload_n hx hb dX8_rules_53 rfl (lv_at hl 1 rfl) ?_
    refine lv_aload_n hx hb dX8_rules_54 rfl (lv_at hl 0 rfl) ?_
    refine put_X8_8 hx hb hA hown hE hG hS hU t_h0 wd_1_165 t_b16 (by omega) dX8_rules_55 (fun H locs hG hS => ?_)
    refine lv_aload_n hx hb dX8_rules_58 rfl (lv_at hl 1 rfl) ?_
    refine get_X8_7 hx hb hA hown hE hG t_h0 wd_1_164 dX8_rules_59 (fun b24 i25 t_b24 h26 h26' => ?_)
    have h26 : (i25 : Int) = (i21 : Int) := by rw [h26]; simp [gs]
    have q_i25 : i25 = i21 := by omega
    rw [q_i25] at t_b24
    refine get_X6_4 hx hb hA hown hE hG t_b24 wd_1_88 dX8_rules_62 (fun x27 h28 => ?_)
    have h28 : x27.toInt = u5 10 i21 := by rw [h28]; simp [gs]
    rw [show i21 = i3 by omega] at h28
    have e30 : (gs (gs (gs u5 6 0 x9.toInt) 13 0 (i21 : Int)) 12 0 (i17 : Int)) 6 0 = x9.toInt := by simp [gs]
    have e31 : (gs (gs (gs u5 6 0 x9.toInt) 13 0 (i21 : Int)) 12 0 (i17 : Int)) 14 0 = u5 14 0 := by simp [gs]
    exact W.iret (v := x27) hx hb hr (fun t ht hW => ⟨⟨x27, (gs (gs (gs u5 6 0 x9.toInt) 13 0 (i21 : Int)) 12 0 (i17 : Int)), rfl, ⟨(fun c j h6 h9 h10 h11 h12 h13 h14 h15 h16 h17 => by rw [gs_c _ _ _ _ h12, gs_c _ _ _ _ h13, gs_c _ _ _ _ h6, hf7 c j h9 h10 h11 h14 h15 h16 h17]), (by omega)⟩, ok1 ht hG⟩, hS.F ht⟩) hS.2.2 dX8_rules_65
  · exfalso; omega

set_option maxHeartbeats 4000000 in
set_option maxRecDepth 100000 in
/-- WeekBank$RingSearch.clear:  -/
theorem k_X5_clear (l : Launch) (dC : Nat → ClassId) (dI : Nat → Nat → Nat) (dA : Nat → ClassId) (sz : Nat) (X : va_W) (Γ : ty_G) (hU : Un Γ) (g : gh) (h0 : Nat) (t_h0 : ty Γ h0 8) : Met l yX5_clear (.code yX5_clear cX5_clear 1 (Option.none : Option Jvm.ClassFile.FieldType) :: AL) ({ frames := 0, cells := 0, slots := 0, locals := 0 }) (PCx dC dI dA sz X Γ g [.ref h0]) (va_Qv (fun (u : gh) => (∀ c j : Nat, c ≠ 7 → c ≠ 8 → u c j = g c j) ∧ ((u 7 0 = 0) ∧ (u 8 0 = 0))) (okb dC dI dA sz X Γ) (ty_A sz)) 0 0 (ty_A sz) := by
  refine Met.ofW (cc := cX5_clear) (maxL := 1) (ret := (Option.none : Option Jvm.ClassFile.FieldType)) (by decide) rfl ?_
  intro p e s m args below meth c s₁ B hml hv
  obtain ⟨rfl, hG, hE⟩ := hv
  have hx := B.exec
  have hb := B.bytes
  have hr := B.returns
  have hts := atoms_spec B.pre
  have hA : ∀ w ∈ AL, w.before _ s = true := fun w h => hts w (List.mem_cons_of_mem _ h)
  have hown : s.vm.findClass RX5 = some m.cls := findClass_of_methodNamed B.named
  have hlocks := B.notSynchronized
  have hS : va_S (ty_A sz) s.heap s.heap [] := va_S.rf
  have hl := lv_entry ([.ref h0]) (n := 1) (Nat.le_of_ble_eq_true rfl)
  rw [lg_entry_eq]
  generalize (lg_sl ([.ref h0]) ++ List.replicate (1 - (lg_sl ([.ref h0])).length) Slot.unset).toArray = ls at hl ⊢
  have hl : lv_has ls 1 [(0, .ref h0)] := hl
  refine lv_aload_n hx hb dX5_clear_0 rfl (lv_at hl 0 rfl) ?_
  refine ty_iconst hx hb (0) dX5_clear_1 (by decide) (fun x1 h2 => ?_)
  refine put_X5_1 hx hb hA hown hE hG hS hU t_h0 wd_1_108 dX5_clear_2 (fun H locs hG hS => ?_)
  refine lv_aload_n hx hb dX5_clear_5 rfl (lv_at hl 0 rfl) ?_
  refine ty_iconst hx hb (0) dX5_clear_6 (by decide) (fun x3 h4 => ?_)
  refine put_X5_6 hx hb hA hown hE hG hS hU t_h0 wd_1_113 dX5_clear_7 (fun H locs hG hS => ?_)
  have e5 : (gs (gs g 7 0 x1.toInt) 8 0 x3.toInt) 7 0 = x1.toInt := by simp [gs]
  have e6 : (gs (gs g 7 0 x1.toInt) 8 0 x3.toInt) 8 0 = x3.toInt := by simp [gs]
  exact W.vret hx hb hr (fun t ht hW => ⟨⟨(gs (gs g 7 0 x1.toInt) 8 0 x3.toInt), rfl, ⟨(fun c j h7 h8 => by rw [gs_c _ _ _ _ h8, gs_c _ _ _ _ h7]), (by omega)⟩, ok1 ht hG⟩, hS.F ht⟩) hS.2.2 dX5_clear_10

set_option maxHeartbeats 4000000 in
set_option maxRecDepth 100000 in
/-- WeekBank$RingSearch.has:  -/
theorem f_X5_has (l : Launch) (dC : Nat → ClassId) (dI : Nat → Nat → Nat) (dA : Nat → ClassId) (sz : Nat) (X : va_W) (Γ : ty_G) (hU : Un Γ) (g : gh) (p1 : Int32) (p2 : Int32) (f1 : p1.toInt = 0) : Met l yX5_has (.code yX5_has cX5_has 2 (Option.some Jvm.ClassFile.FieldType.boolean) :: AL) ({ frames := 0, cells := 0, slots := 0, locals := 0 }) (PCx dC dI dA sz X Γ g [.int p1, .int p2]) (va_Qi (fun (r : Int32) (u : gh) => u = g ∧ ((r.toInt = 0))) (okb dC dI dA sz X Γ) (ty_A sz)) 0 0 (ty_A sz) := by
  refine Met.ofW (cc := cX5_has) (maxL := 2) (ret := (Option.some Jvm.ClassFile.FieldType.boolean)) (by decide) rfl ?_
  intro p e s m args below meth c s₁ B hml hv
  obtain ⟨rfl, hG, hE⟩ := hv
  have hx := B.exec
  have hb := B.bytes
  have hr := B.returns
  have hts := atoms_spec B.pre
  have hA : ∀ w ∈ AL, w.before _ s = true := fun w h => hts w (List.mem_cons_of_mem _ h)
  have hown : s.vm.findClass RX5 = some m.cls := findClass_of_methodNamed B.named
  have hlocks := B.notSynchronized
  have hS : va_S (ty_A sz) s.heap s.heap [] := va_S.rf
  have hl := lv_entry ([.int p1, .int p2]) (n := 2) (Nat.le_of_ble_eq_true rfl)
  rw [lg_entry_eq]
  generalize (lg_sl ([.int p1, .int p2]) ++ List.replicate (2 - (lg_sl ([.int p1, .int p2])).length) Slot.unset).toArray = ls at hl ⊢
  have hl : lv_has ls 2 [(0, .int p1), (1, .int p2)] := hl
  refine lv_iload_n hx hb dX5_has_0 rfl (lv_at hl 0 rfl) ?_
  refine lv_iload_n hx hb dX5_has_1 rfl (lv_at hl 1 rfl) ?_
  refine lv_ishr hx hb dX5_has_2 ?_
  refine lv_topi (fun x1 h2 => ?_)
  have h3 : x1.toInt = 0 := shr0 h2 (by omega)
  refine ty_iconst hx hb (1) dX5_has_3 (by decide) (fun x4 h5 => ?_)
  refine ty_iand hx hb dX5_has_4 (fun x6 h7 => ?_)
  have h8 : x6.toInt = 0 := and0 h7 (by omega)
  refine ty_iconst hx hb (1) dX5_has_5 (by decide) (fun x9 h10 => ?_)
  refine ty_icmp_ne (tgt := 13) hx hb dX5_has_6 (by decide) (fun c11 => ?_) (fun c11 => ?_)
  · skip
    refine ty_iconst hx hb (0) dX5_has_13 (by decide) (fun x12 h13 => ?_)
    exact W.zret (v := x12) hx hb hr (ty_nb (by omega)).1 (fun t ht hW => ⟨⟨x12, g, rfl, ⟨rfl, (by omega)⟩, ok1 ht hG⟩, hS.F ht⟩) hS.2.2 dX5_has_14
  · exfalso; omega

set_option maxHeartbeats 4000000 in
set_option maxRecDepth 100000 in
/-- WeekBank$RingSearch.findSuiting:  -/
theorem f_X5_findSuiting (l : Launch) (dC : Nat → ClassId) (dI : Nat → Nat → Nat) (dA : Nat → ClassId) (sz : Nat) (X : va_W) (Γ : ty_G) (hU : Un Γ) (g : gh) (h0 : Nat) (t_h0 : ty Γ h0 8) (f1 : g 7 0 = 0) : Met l yX5_findSuiting (.code yX5_findSuiting cX5_findSuiting 3 (Option.none : Option Jvm.ClassFile.FieldType) :: AL) ({ frames := 0, cells := 0, slots := 0, locals := 0 }) (PCx dC dI dA sz X Γ g [.ref h0]) (va_Qv (fun (u : gh) => u = g) (okb dC dI dA sz X Γ) (ty_A sz)) 0 0 (ty_A sz) := by
  refine Met.ofW (cc := cX5_findSuiting) (maxL := 3) (ret := (Option.none : Option Jvm.ClassFile.FieldType)) (by decide) rfl ?_
  intro p e s m args below meth c s₁ B hml hv
  obtain ⟨rfl, hG, hE⟩ := hv
  have hx := B.exec
  have hb := B.bytes
  have hr := B.returns
  have hts := atoms_spec B.pre
  have hA : ∀ w ∈ AL, w.before _ s = true := fun w h => hts w (List.mem_cons_of_mem _ h)
  have hown : s.vm.findClass RX5 = some m.cls := findClass_of_methodNamed B.named
  have hlocks := B.notSynchronized
  have hS : va_S (ty_A sz) s.heap s.heap [] := va_S.rf
  have hl := lv_entry ([.ref h0]) (n := 3) (Nat.le_of_ble_eq_true rfl)
  rw [lg_entry_eq]
  generalize (lg_sl ([.ref h0]) ++ List.replicate (3 - (lg_sl ([.ref h0])).length) Slot.unset).toArray = ls at hl ⊢
  have hl : lv_has ls 3 [(0, .ref h0)] := hl
  refine ty_iconst hx hb (0) dX5_findSuiting_0 (by decide) (fun x1 h2 => ?_)
  refine lv_istore_n (lv' := [(1, .int x1), (0, .ref h0)]) hx hb dX5_findSuiting_1 rfl hl (by decide) rfl (fun ls hl => ?_)
  refine lv_iload_n hx hb dX5_findSuiting_2 rfl (lv_at hl 0 rfl) ?_
  refine lv_aload_n hx hb dX5_findSuiting_3 rfl (lv_at hl 1 rfl) ?_
  refine get_X5_1 hx hb hA hown hE hG t_h0 wd_1_108 dX5_findSuiting_4 (fun x3 h4 => ?_)
  refine ty_icmp_ge (tgt := 77) hx hb dX5_findSuiting_7 (by decide) (fun c6 => ?_) (fun c6 => ?_)
  · skip
    exact W.vret hx hb hr (fun t ht hW => ⟨⟨g, rfl, rfl, ok1 ht hG⟩, hS.F ht⟩) hS.2.2 dX5_findSuiting_77
  · exfalso; omega

set_option maxHeartbeats 4000000 in
set_option maxRecDepth 100000 in
/-- WeekBank$RingSearch.forgetBefore:  -/
theorem f_X5_forgetBefore (l : Launch) (dC : Nat → ClassId) (dI : Nat → Nat → Nat) (dA : Nat → ClassId) (sz : Nat) (X : va_W) (Γ : ty_G) (hU : Un Γ) (g : gh) (h0 : Nat) (t_h0 : ty Γ h0 8) (p1 : Int32) (f1 : p1.toInt = 1) : Met l yX5_forgetBefore (.code yX5_forgetBefore cX5_forgetBefore 3 (Option.none : Option Jvm.ClassFile.FieldType) :: AL) ({ frames := 0, cells := 0, slots := 0, locals := 0 }) (PCx dC dI dA sz X Γ g [.ref h0, .int p1]) (va_Qv (fun (u : gh) => u = g) (okb dC dI dA sz X Γ) (ty_A sz)) 0 0 (ty_A sz) := by
  refine Met.ofW (cc := cX5_forgetBefore) (maxL := 3) (ret := (Option.none : Option Jvm.ClassFile.FieldType)) (by decide) rfl ?_
  intro p e s m args below meth c s₁ B hml hv
  obtain ⟨rfl, hG, hE⟩ := hv
  have hx := B.exec
  have hb := B.bytes
  have hr := B.returns
  have hts := atoms_spec B.pre
  have hA : ∀ w ∈ AL, w.before _ s = true := fun w h => hts w (List.mem_cons_of_mem _ h)
  have hown : s.vm.findClass RX5 = some m.cls := findClass_of_methodNamed B.named
  have hlocks := B.notSynchronized
  have hS : va_S (ty_A sz) s.heap s.heap [] := va_S.rf
  have hl := lv_entry ([.ref h0, .int p1]) (n := 3) (Nat.le_of_ble_eq_true rfl)
  rw [lg_entry_eq]
  generalize (lg_sl ([.ref h0, .int p1]) ++ List.replicate (3 - (lg_sl ([.ref h0, .int p1])).length) Slot.unset).toArray = ls at hl ⊢
  have hl : lv_has ls 3 [(0, .ref h0), (1, .int p1)] := hl
  refine ty_iconst hx hb (0) dX5_forgetBefore_0 (by decide) (fun x1 h2 => ?_)
  refine lv_istore_n (lv' := [(2, .int x1), (0, .ref h0), (1, .int p1)]) hx hb dX5_forgetBefore_1 rfl hl (by decide) rfl (fun ls hl => ?_)
  have L_2 : ∀ (n : Nat) (k : Int32) (H : Heap) (locs : List Loc) (ls : Array Slot), (9 - k.toInt : Int) < n → 0 ≤ k.toInt ∧ k.toInt ≤ 9 → ty_ok (dC, dI) vwCl Γ (TP dA Γ g) sz X H → va_S (ty_A sz) s.heap H locs → lv_has ls 3 [(2, .int k), (0, .ref h0), (1, .int p1)] → W p l e (headSpec (.code yX5_forgetBefore cX5_forgetBefore 3 (Option.none : Option Jvm.ClassFile.FieldType) :: AL) ({ frames := 0, cells := 0, slots := 0, locals := 0 })).room s m ([.ref h0, .int p1] : List Value).toArray below meth c H locs 0 0 (MQ below (va_Qv (fun (u : gh) => u = g) (okb dC dI dA sz X Γ) (ty_A sz)) ([.ref h0, .int p1] : List Value).toArray s 0 0 (ty_A sz)) (F0 m 2 ls []) := by
    intro n
    induction n with
    | zero => intro k H locs ls hm hi0 hG hS hl; exfalso; omega
    | succ n ih =>
      intro k H locs ls hm hi0 hG hS hl
      refine lv_iload_n hx hb dX5_forgetBefore_2 rfl (lv_at hl 0 rfl) ?_
      refine lv_iload_n hx hb dX5_forgetBefore_3 rfl (lv_at hl 2 rfl) ?_
      refine ty_bipush hx hb (9) dX5_forgetBefore_4 (by decide) (fun x4 h5 => ?_)
      refine ty_imul hx hb dX5_forgetBefore_6 (fun x6 h7 => ?_)
      try have h8 : x6.toInt = p1.toInt * 9 := ty_mulr h7 (by omega) (by omega) (by omega)
      refine ty_icmp_ge (tgt := 24) hx hb dX5_forgetBefore_7 (by decide) (fun c9 => ?_) (fun c9 => ?_)
      · skip
        refine ty_iconst hx hb (0) dX5_forgetBefore_24 (by decide) (fun x10 h11 => ?_)
        refine lv_istore_n (lv' := [(2, .int x10), (0, .ref h0), (1, .int p1)]) hx hb dX5_forgetBefore_25 rfl hl (by decide) rfl (fun ls hl => ?_)
        have L_26 : ∀ (n : Nat) (k2 : Int32) (H : Heap) (locs : List Loc) (ls : Array Slot), (1 - k2.toInt : Int) < n → 0 ≤ k2.toInt ∧ k2.toInt ≤ 1 → ty_ok (dC, dI) vwCl Γ (TP dA Γ g) sz X H → va_S (ty_A sz) s.heap H locs → lv_has ls 3 [(2, .int k2), (0, .ref h0), (1, .int p1)] → W p l e (headSpec (.code yX5_forgetBefore cX5_forgetBefore 3 (Option.none : Option Jvm.ClassFile.FieldType) :: AL) ({ frames := 0, cells := 0, slots := 0, locals := 0 })).room s m ([.ref h0, .int p1] : List Value).toArray below meth c H locs 0 0 (MQ below (va_Qv (fun (u : gh) => u = g) (okb dC dI dA sz X Γ) (ty_A sz)) ([.ref h0, .int p1] : List Value).toArray s 0 0 (ty_A sz)) (F0 m 26 ls []) := by
          intro n
          induction n with
          | zero => intro k2 H locs ls hm hi0 hG hS hl; exfalso; omega
          | succ n ih =>
            intro k2 H locs ls hm hi0 hG hS hl
            refine lv_iload_n hx hb dX5_forgetBefore_26 rfl (lv_at hl 0 rfl) ?_
            refine lv_iload_n hx hb dX5_forgetBefore_27 rfl (lv_at hl 2 rfl) ?_
            refine ty_icmp_ge (tgt := 45) hx hb dX5_forgetBefore_28 (by decide) (fun c13 => ?_) (fun c13 => ?_)
            · skip
              exact W.vret hx hb hr (fun t ht hW => ⟨⟨g, rfl, rfl, ok1 ht hG⟩, hS.F ht⟩) hS.2.2 dX5_forgetBefore_45
            · skip
              refine lv_aload_n hx hb dX5_forgetBefore_31 rfl (lv_at hl 1 rfl) ?_
              refine get_X5_4 hx hb hA hown hE hG t_h0 wd_1_111 dX5_forgetBefore_32 (fun b14 (t_b14 : ty Γ b14 22) => ?_)
              refine lv_iload_n hx hb dX5_forgetBefore_35 rfl (lv_at hl 0 rfl) ?_
              refine ty_ldc hx hb (2147483647) hown (hA _ wd_3_135) dX5_forgetBefore_36 (by decide) (fun x15 h16 => ?_)
              refine ast_22 hx hb hE hG hS t_b14 (by omega) dX5_forgetBefore_38 (fun H locs hG hS => ?_)
              obtain ⟨x17, h18⟩ : ∃ y : Int32, y = k2 + Int32.ofInt (1) := ⟨_, rfl⟩
              try have h19 : x17.toInt = k2.toInt + (1) := ty_inc h18 (by decide) (by omega) (by omega)
              refine lv_iinc (v := x17) (lv' := [(2, .int x17), (0, .ref h0), (1, .int p1)]) hx hb dX5_forgetBefore_39 hl (k := 0) rfl h18.symm (by decide) rfl (fun ls hl => ?_)
              refine lv_goto (tgt := 26) hx hb dX5_forgetBefore_42 (by decide) ?_
              exact ih x17 _ _ ls (by omega) (by omega) hG hS (lv_sub hl [0, 1, 2] rfl)
        exact L_26 ((1 - x10.toInt) + 1).toNat x10 _ _ ls (by omega) (by omega) hG hS (lv_sub hl [0, 1, 2] rfl)
      · skip
        refine lv_aload_n hx hb dX5_forgetBefore_10 rfl (lv_at hl 1 rfl) ?_
        refine get_X5_3 hx hb hA hown hE hG t_h0 wd_1_110 dX5_forgetBefore_11 (fun b20 (t_b20 : ty Γ b20 21) => ?_)
        refine lv_iload_n hx hb dX5_forgetBefore_14 rfl (lv_at hl 0 rfl) ?_
        refine ty_ldc hx hb (2147483647) hown (hA _ wd_3_135) dX5_forgetBefore_15 (by decide) (fun x21 h22 => ?_)
        refine ast_21 hx hb hE hG hS t_b20 (by omega) dX5_forgetBefore_17 (fun H locs hG hS => ?_)
        obtain ⟨x23, h24⟩ : ∃ y : Int32, y = k + Int32.ofInt (1) := ⟨_, rfl⟩
        try have h25 : x23.toInt = k.toInt + (1) := ty_inc h24 (by decide) (by omega) (by omega)
        refine lv_iinc (v := x23) (lv' := [(2, .int x23), (0, .ref h0), (1, .int p1)]) hx hb dX5_forgetBefore_18 hl (k := 0) rfl h24.symm (by decide) rfl (fun ls hl => ?_)
        refine lv_goto (tgt := 2) hx hb dX5_forgetBefore_21 (by decide) ?_
        exact ih x23 _ _ ls (by omega) (by omega) hG hS (lv_sub hl [0, 1, 2] rfl)
  exact L_2 ((9 - x1.toInt) + 1).toNat x1 _ _ ls (by omega) (by omega) hG hS (lv_sub hl [0, 1, 2] rfl)

set_option maxHeartbeats 4000000 in
set_option maxRecDepth 100000 in
/-- WeekBank$RingSearch.findBest:  -/
theorem f_X5_findBest (l : Launch) (dC : Nat → ClassId) (dI : Nat → Nat → Nat) (dA : Nat → ClassId) (sz : Nat) (X : va_W) (Γ : ty_G) (hU : Un Γ) (g : gh) (h0 : Nat) (t_h0 : ty Γ h0 8) (p1 : Int32) (f1 : g 7 0 = 0) : Met l yX5_findBest (.code yX5_findBest cX5_findBest 4 (Option.none : Option Jvm.ClassFile.FieldType) :: AL) ({ frames := 1, cells := 0, slots := 0, locals := 22 }) (PCx dC dI dA sz X Γ g [.ref h0, .int p1]) (va_Qv (fun (u : gh) => u = g) (okb dC dI dA sz X Γ) (ty_A sz)) 0 0 (ty_A sz) := by
  refine Met.ofW (cc := cX5_findBest) (maxL := 4) (ret := (Option.none : Option Jvm.ClassFile.FieldType)) (by decide) rfl ?_
  intro p e s m args below meth c s₁ B hml hv
  obtain ⟨rfl, hG, hE⟩ := hv
  have hx := B.exec
  have hb := B.bytes
  have hr := B.returns
  have hts := atoms_spec B.pre
  have hA : ∀ w ∈ AL, w.before _ s = true := fun w h => hts w (List.mem_cons_of_mem _ h)
  have hown : s.vm.findClass RX5 = some m.cls := findClass_of_methodNamed B.named
  have hlocks := B.notSynchronized
  have hS : va_S (ty_A sz) s.heap s.heap [] := va_S.rf
  have hl := lv_entry ([.ref h0, .int p1]) (n := 4) (Nat.le_of_ble_eq_true rfl)
  rw [lg_entry_eq]
  generalize (lg_sl ([.ref h0, .int p1]) ++ List.replicate (4 - (lg_sl ([.ref h0, .int p1])).length) Slot.unset).toArray = ls at hl ⊢
  have hl : lv_has ls 4 [(0, .ref h0), (1, .int p1)] := hl
  refine ty_iconst hx hb (1) dX5_findBest_0 (by decide) (fun x1 h2 => ?_)
  refine lv_aload_n hx hb dX5_findBest_1 rfl (lv_at hl 0 rfl) ?_
  refine get_X5_1 hx hb hA hown hE hG t_h0 wd_1_108 dX5_findBest_2 (fun x3 h4 => ?_)
  refine lv_ishl hx hb dX5_findBest_5 ?_
  refine lv_topi (fun x6 h7 => ?_)
  have h8 : x6.toInt = 1 := shl0 h7 (by omega) (by omega)
  refine lv_istore_n (lv' := [(2, .int x6), (0, .ref h0), (1, .int p1)]) hx hb dX5_findBest_6 rfl hl (by decide) rfl (fun ls hl => ?_)
  refine lv_aload_n hx hb dX5_findBest_7 rfl (lv_at hl 1 rfl) ?_
  refine cV (va_runV (C := RX5) (As := []) (rest := []) ⟨hx, hb, hml, hown, hA⟩ (f_X5_findSuiting l dC dI dA sz X Γ hU g h0 t_h0   (by omega)) ⟨callB_of 0 hA (al_A wd_3_126) rfl rfl rfl (hA _ wd_1_5) (hA _ wd_3_123) (by decide +kernel) ⟨Nat.le_of_ble_eq_true rfl, Nat.le_of_ble_eq_true rfl⟩, hA _ wd_3_125, hA _ ws_19⟩ ⟨bl, recv_X5 hE hG t_h0, fun U hU9 hW9 => ⟨rfl, by rw [hU9]; exact hG, hE.go hS hU9 hW9⟩⟩ rfl rfl hl.1 rfl (lv_room (Nat.le_of_ble_eq_true rfl)) dX5_findBest_8 ⟨Nat.zero_le _, Nat.zero_le _⟩) hS (fun u9 H locs w10 hG hS => ?_)
  have eu11 := w10
  rw [eu11] at hG
  refine lv_aload_n hx hb dX5_findBest_11 rfl (lv_at hl 1 rfl) ?_
  refine lv_iload_n hx hb dX5_findBest_12 rfl (lv_at hl 0 rfl) ?_
  refine cV (va_runV (C := RX5) (As := [.int x6]) (rest := []) ⟨hx, hb, hml, hown, hA⟩ (f_X5_forgetBefore l dC dI dA sz X Γ hU g h0 t_h0 x6   (by omega)) ⟨callB_of 1 hA (al_A wd_3_134) rfl rfl rfl (hA _ wd_1_5) (hA _ wd_3_131) (by decide +kernel) ⟨Nat.le_of_ble_eq_true rfl, Nat.le_of_ble_eq_true rfl⟩, hA _ wd_3_133, hA _ ws_20⟩ ⟨bl, recv_X5 hE hG t_h0, fun U hU9 hW9 => ⟨rfl, by rw [hU9]; exact hG, hE.go hS hU9 hW9⟩⟩ rfl rfl hl.1 rfl (lv_room (Nat.le_of_ble_eq_true rfl)) dX5_findBest_13 ⟨Nat.zero_le _, Nat.zero_le _⟩) hS (fun u12 H locs w13 hG hS => ?_)
  have eu14 := w13
  rw [eu14] at hG
  refine ty_iconst hx hb (0) dX5_findBest_16 (by decide) (fun x15 h16 => ?_)
  refine lv_istore_n (lv' := [(3, .int x15), (2, .int x6), (0, .ref h0), (1, .int p1)]) hx hb dX5_findBest_17 rfl hl (by decide) rfl (fun ls hl => ?_)
  refine lv_iload_n hx hb dX5_findBest_18 rfl (lv_at hl 0 rfl) ?_
  refine lv_aload_n hx hb dX5_findBest_19 rfl (lv_at hl 2 rfl) ?_
  refine get_X5_1 hx hb hA hown hE hG t_h0 wd_1_108 dX5_findBest_20 (fun x17 h18 => ?_)
  refine ty_icmp_ge (tgt := 46) hx hb dX5_findBest_23 (by decide) (fun c20 => ?_) (fun c20 => ?_)
  · skip
    refine ty_iconst hx hb (1) dX5_findBest_46 (by decide) (fun x21 h22 => ?_)
    refine lv_istore_n (lv' := [(3, .int x21), (2, .int x6), (0, .ref h0), (1, .int p1)]) hx hb dX5_findBest_47 rfl hl (by decide) rfl (fun ls hl => ?_)
    refine lv_iload_n hx hb dX5_findBest_48 rfl (lv_at hl 0 rfl) ?_
    refine lv_iload_n hx hb dX5_findBest_49 rfl (lv_at hl 1 rfl) ?_
    refine ty_icmp_ge (tgt := 65) hx hb dX5_findBest_50 (by decide) (fun c23 => ?_) (fun c23 => ?_)
    · skip
      refine ty_iconst hx hb (1) dX5_findBest_65 (by decide) (fun x24 h25 => ?_)
      refine lv_istore_n (lv' := [(3, .int x24), (2, .int x6), (0, .ref h0), (1, .int p1)]) hx hb dX5_findBest_66 rfl hl (by decide) rfl (fun ls hl => ?_)
      refine lv_iload_n hx hb dX5_findBest_67 rfl (lv_at hl 0 rfl) ?_
      refine lv_iload_n hx hb dX5_findBest_68 rfl (lv_at hl 1 rfl) ?_
      refine ty_icmp_ge (tgt := 113) hx hb dX5_findBest_69 (by decide) (fun c26 => ?_) (fun c26 => ?_)
      · skip
        exact W.vret hx hb hr (fun t ht hW => ⟨⟨g, rfl, rfl, ok1 ht hG⟩, hS.F ht⟩) hS.2.2 dX5_findBest_113
      · exfalso; omega
    · exfalso; omega
  · exfalso; omega

set_option maxHeartbeats 4000000 in
set_option maxRecDepth 100000 in
/-- WeekBank$RingSearch.swapBest:  -/
theorem f_X5_swapBest (l : Launch) (dC : Nat → ClassId) (dI : Nat → Nat → Nat) (dA : Nat → ClassId) (sz : Nat) (X : va_W) (Γ : ty_G) (hU : Un Γ) (g : gh) (h0 : Nat) (t_h0 : ty Γ h0 8) (f1 : g 8 0 = 0) : Met l yX5_swapBest (.code yX5_swapBest cX5_swapBest 3 (Option.some Jvm.ClassFile.FieldType.int) :: AL) ({ frames := 1, cells := 0, slots := 0, locals := 21 }) (PCx dC dI dA sz X Γ g [.ref h0]) (va_Qi (fun (r : Int32) (u : gh) => u = g ∧ ((r.toInt = 0))) (okb dC dI dA sz X Γ) (ty_A sz)) 0 0 (ty_A sz) := by
  refine Met.ofW (cc := cX5_swapBest) (maxL := 3) (ret := (Option.some Jvm.ClassFile.FieldType.int)) (by decide) rfl ?_
  intro p e s m args below meth c s₁ B hml hv
  obtain ⟨rfl, hG, hE⟩ := hv
  have hx := B.exec
  have hb := B.bytes
  have hr := B.returns
  have hts := atoms_spec B.pre
  have hA : ∀ w ∈ AL, w.before _ s = true := fun w h => hts w (List.mem_cons_of_mem _ h)
  have hown : s.vm.findClass RX5 = some m.cls := findClass_of_methodNamed B.named
  have hlocks := B.notSynchronized
  have hS : va_S (ty_A sz) s.heap s.heap [] := va_S.rf
  have hl := lv_entry ([.ref h0]) (n := 3) (Nat.le_of_ble_eq_true rfl)
  rw [lg_entry_eq]
  generalize (lg_sl ([.ref h0]) ++ List.replicate (3 - (lg_sl ([.ref h0])).length) Slot.unset).toArray = ls at hl ⊢
  have hl : lv_has ls 3 [(0, .ref h0)] := hl
  refine lv_aload_n hx hb dX5_swapBest_0 rfl (lv_at hl 0 rfl) ?_
  refine get_X5_5 hx hb hA hown hE hG t_h0 wd_1_112 dX5_swapBest_1 (fun b1 (t_b1 : ty Γ b1 22) => ?_)
  refine lv_aload_n hx hb dX5_swapBest_4 rfl (lv_at hl 0 rfl) ?_
  refine get_X5_6 hx hb hA hown hE hG t_h0 wd_1_113 dX5_swapBest_5 (fun x2 h3 => ?_)
  refine ald_22 hx hb hE hG t_b1 (by omega) dX5_swapBest_8 (fun j6 x5 h7 => ?_)
  refine lv_istore_n (lv' := [(1, .int x5), (0, .ref h0)]) hx hb dX5_swapBest_9 rfl hl (by decide) rfl (fun ls hl => ?_)
  refine ty_bipush hx hb (8) dX5_swapBest_10 (by decide) (fun x9 h10 => ?_)
  refine lv_istore_n (lv' := [(2, .int x9), (1, .int x5), (0, .ref h0)]) hx hb dX5_swapBest_12 rfl hl (by decide) rfl (fun ls hl => ?_)
  have L_13 : ∀ (n : Nat) (k : Int32) (w : Int32) (H : Heap) (locs : List Loc) (ls : Array Slot), (k.toInt + 1 : Int) < n → -1 ≤ k.toInt ∧ k.toInt ≤ 8 → ty_ok (dC, dI) vwCl Γ (TP dA Γ g) sz X H → va_S (ty_A sz) s.heap H locs → lv_has ls 3 [(2, .int k), (1, .int w), (0, .ref h0)] → W p l e (headSpec (.code yX5_swapBest cX5_swapBest 3 (Option.some Jvm.ClassFile.FieldType.int) :: AL) ({ frames := 1, cells := 0, slots := 0, locals := 21 })).room s m ([.ref h0] : List Value).toArray below meth c H locs 0 0 (MQ below (va_Qi (fun (r : Int32) (u : gh) => u = g ∧ ((r.toInt = 0))) (okb dC dI dA sz X Γ) (ty_A sz)) ([.ref h0] : List Value).toArray s 0 0 (ty_A sz)) (F0 m 13 ls []) := by
    intro n
    induction n with
    | zero => intro k w H locs ls hm hi0 hG hS hl; exfalso; omega
    | succ n ih =>
      intro k w H locs ls hm hi0 hG hS hl
      refine lv_iload_n hx hb dX5_swapBest_13 rfl (lv_at hl 0 rfl) ?_
      refine ty_if_lt (tgt := 53) hx hb dX5_swapBest_14 (by decide) (fun c12 => ?_) (fun c12 => ?_)
      · skip
        refine lv_aload_n hx hb dX5_swapBest_53 rfl (lv_at hl 2 rfl) ?_
        refine get_X5_6 hx hb hA hown hE hG t_h0 wd_1_113 dX5_swapBest_54 (fun x13 h14 => ?_)
        refine cI (va_runS (As := [.int x13]) (rest := []) ⟨hx, hb, hml, hown, hA⟩ (f_bitCount l dC dI dA sz X Γ hU g x13   (by omega)) ⟨callB_of 1 hA (al_A wd_3_145) rfl rfl rfl (hA _ wd_1_17) (hA _ wd_3_143) (by decide +kernel) ⟨Nat.le_of_ble_eq_true rfl, Nat.le_of_ble_eq_true rfl⟩, hA _ wd_3_144⟩ ⟨bl, fun U hU9 hW9 => ⟨rfl, by rw [hU9]; exact hG, hE.go hS hU9 hW9⟩⟩ rfl rfl hl.1 rfl (lv_room (Nat.le_of_ble_eq_true rfl)) dX5_swapBest_57 ⟨Nat.zero_le _, Nat.zero_le _⟩) hS (fun x18 u16 H locs w17 hG hS => ?_)
        obtain ⟨eu19, w17⟩ := w17
        rw [eu19] at hG
        exact W.iret (v := x18) hx hb hr (fun t ht hW => ⟨⟨x18, g, rfl, ⟨rfl, (by omega)⟩, ok1 ht hG⟩, hS.F ht⟩) hS.2.2 dX5_swapBest_60
      · skip
        refine lv_aload_n hx hb dX5_swapBest_17 rfl (lv_at hl 2 rfl) ?_
        refine get_X5_6 hx hb hA hown hE hG t_h0 wd_1_113 dX5_swapBest_18 (fun x20 h21 => ?_)
        refine lv_iload_n hx hb dX5_swapBest_21 rfl (lv_at hl 0 rfl) ?_
        refine cI (va_runS (As := [.int x20, .int k]) (rest := []) ⟨hx, hb, hml, hown, hA⟩ (f_X5_has l dC dI dA sz X Γ hU g x20 k   (by omega)) ⟨callB_of 2 hA (al_A wd_3_151) rfl rfl rfl (hA _ wd_1_5) (hA _ wd_3_149) (by decide +kernel) ⟨Nat.le_of_ble_eq_true rfl, Nat.le_of_ble_eq_true rfl⟩, hA _ wd_3_150⟩ ⟨bl, fun U hU9 hW9 => ⟨rfl, by rw [hU9]; exact hG, hE.go hS hU9 hW9⟩⟩ rfl rfl hl.1 rfl (lv_room (Nat.le_of_ble_eq_true rfl)) dX5_swapBest_22 ⟨Nat.zero_le _, Nat.zero_le _⟩) hS (fun x25 u23 H locs w24 hG hS => ?_)
        obtain ⟨eu26, w24⟩ := w24
        rw [eu26] at hG
        refine ty_if_eq (tgt := 42) hx hb dX5_swapBest_25 (by decide) (fun c27 => ?_) (fun c27 => ?_)
        · skip
          refine lv_iload_n hx hb dX5_swapBest_42 rfl (lv_at hl 1 rfl) ?_
          refine ty_bipush hx hb (10) dX5_swapBest_43 (by decide) (fun x28 h29 => ?_)
          refine lv_idiv hx hb dX5_swapBest_45 (fun h0 => by have := ty_c0.mp h0; omega) ?_
          refine lv_topi (fun x30 h31 => ?_)
          refine lv_istore_n (lv' := [(1, .int x30), (2, .int k), (0, .ref h0)]) hx hb dX5_swapBest_46 rfl hl (by decide) rfl (fun ls hl => ?_)
          obtain ⟨x32, h33⟩ : ∃ y : Int32, y = k + Int32.ofInt (-1) := ⟨_, rfl⟩
          try have h34 : x32.toInt = k.toInt + (-1) := ty_inc h33 (by decide) (by omega) (by omega)
          refine lv_iinc (v := x32) (lv' := [(2, .int x32), (1, .int x30), (0, .ref h0)]) hx hb dX5_swapBest_47 hl (k := 1) rfl h33.symm (by decide) rfl (fun ls hl => ?_)
          refine lv_goto (tgt := 13) hx hb dX5_swapBest_50 (by decide) ?_
          exact ih x32 x30 _ _ ls (by omega) (by omega) hG hS (lv_sub hl [0, 1, 2] rfl)
        · exfalso; omega
  exact L_13 ((x9.toInt + 1) + 1).toNat x9 x5 _ _ ls (by omega) (by omega) hG hS (lv_sub hl [0, 1, 2] rfl)

set_option maxHeartbeats 4000000 in
set_option maxRecDepth 100000 in
/-- WeekBank.rings:  -/
theorem f_X8_rings (l : Launch) (dC : Nat → ClassId) (dI : Nat → Nat → Nat) (dA : Nat → ClassId) (sz : Nat) (X : va_W) (Γ : ty_G) (hU : Un Γ) (g : gh) (h0 : Nat) (t_h0 : ty Γ h0 1) (p1 : Int32) (f3 : g 3 0 = 0) : Met l yX8_rings (.code yX8_rings cX8_rings 3 (Option.some Jvm.ClassFile.FieldType.int) :: AL) ({ frames := 2, cells := 0, slots := 0, locals := 45 }) (PCx dC dI dA sz X Γ g [.ref h0, .int p1]) (va_Qi (fun (r : Int32) (u : gh) => (∀ c j : Nat, c ≠ 7 → c ≠ 8 → u c j = g c j) ∧ ((2 ≤ p1.toInt ∧ p1.toInt ≤ 9 → r.toInt = 0) ∧ (¬ (2 ≤ p1.toInt ∧ p1.toInt ≤ 9) → r.toInt = -1))) (okb dC dI dA sz X Γ) (ty_A sz)) 0 0 (ty_A sz) := by
  refine Met.ofW (cc := cX8_rings) (maxL := 3) (ret := (Option.some Jvm.ClassFile.FieldType.int)) (by decide) rfl ?_
  intro p e s m args below meth c s₁ B hml hv
  obtain ⟨rfl, hG, hE⟩ := hv
  have hx := B.exec
  have hb := B.bytes
  have hr := B.returns
  have hts := atoms_spec B.pre
  have hA : ∀ w ∈ AL, w.before _ s = true := fun w h => hts w (List.mem_cons_of_mem _ h)
  have hown : s.vm.findClass RX8 = some m.cls := findClass_of_methodNamed B.named
  have hlocks := B.notSynchronized
  have hS : va_S (ty_A sz) s.heap s.heap [] := va_S.rf
  have hl := lv_entry ([.ref h0, .int p1]) (n := 3) (Nat.le_of_ble_eq_true rfl)
  rw [lg_entry_eq]
  generalize (lg_sl ([.ref h0, .int p1]) ++ List.replicate (3 - (lg_sl ([.ref h0, .int p1])).length) Slot.unset).toArray = ls at hl ⊢
  have hl : lv_has ls 3 [(0, .ref h0), (1, .int p1)] := hl
  refine lv_iload_n hx hb dX8_rings_0 rfl (lv_at hl 1 rfl) ?_
  refine ty_iconst hx hb (2) dX8_rings_1 (by decide) (fun x1 h2 => ?_)
  refine ty_icmp_lt (tgt := 11) hx hb dX8_rings_2 (by decide) (fun c3 => ?_) (fun c3 => ?_)
  · skip
    refine ty_iconst hx hb (-1) dX8_rings_11 (by decide) (fun x4 h5 => ?_)
    exact W.iret (v := x4) hx hb hr (fun t ht hW => ⟨⟨x4, g, rfl, ⟨(fun c j h7 h8 => by rfl), (by omega)⟩, ok1 ht hG⟩, hS.F ht⟩) hS.2.2 dX8_rings_12
  · skip
    refine lv_iload_n hx hb dX8_rings_5 rfl (lv_at hl 1 rfl) ?_
    refine ty_bipush hx hb (9) dX8_rings_6 (by decide) (fun x6 h7 => ?_)
    refine ty_icmp_le (tgt := 13) hx hb dX8_rings_8 (by decide) (fun c8 => ?_) (fun c8 => ?_)
    · skip
      refine lv_aload_n hx hb dX8_rings_13 rfl (lv_at hl 0 rfl) ?_
      refine get_X8_11 hx hb hA hown hE hG t_h0 wd_1_168 dX8_rings_14 (fun b9 (t_b9 : ty Γ b9 8) => ?_)
      refine cV (va_runV (C := RX5) (As := []) (rest := []) ⟨hx, hb, hml, hown, hA⟩ (k_X5_clear l dC dI dA sz X Γ hU g b9 t_b9   ) ⟨callB_of 0 hA (al_A wd_3_114) rfl rfl rfl (hA _ wd_1_5) (hA _ wd_3_111) (by decide +kernel) ⟨Nat.le_of_ble_eq_true rfl, Nat.le_of_ble_eq_true rfl⟩, hA _ wd_3_112, hA _ wd_3_113⟩ ⟨bl, recv_X5 hE hG t_b9, fun U hU9 hW9 => ⟨rfl, by rw [hU9]; exact hG, hE.go hS hU9 hW9⟩⟩ rfl rfl hl.1 rfl (lv_room (Nat.le_of_ble_eq_true rfl)) dX8_rings_17 ⟨Nat.zero_le _, Nat.zero_le _⟩) hS (fun u10 H locs w11 hG hS => ?_)
      obtain ⟨hf12, w11⟩ := w11
      refine ty_iconst hx hb (0) dX8_rings_20 (by decide) (fun x13 h14 => ?_)
      refine lv_istore_n (lv' := [(2, .int x13), (0, .ref h0), (1, .int p1)]) hx hb dX8_rings_21 rfl hl (by decide) rfl (fun ls hl => ?_)
      refine lv_iload_n hx hb dX8_rings_22 rfl (lv_at hl 0 rfl) ?_
      refine lv_aload_n hx hb dX8_rings_23 rfl (lv_at hl 1 rfl) ?_
      refine get_X8_5 hx hb hA hown hE hG t_h0 wd_1_162 dX8_rings_24 (fun x15 h16 => ?_)
      have hk18 : u10 3 0 = g 3 0 := hf12 3 0 (by decide) (by decide)
      refine ty_icmp_ge (tgt := 73) hx hb dX8_rings_27 (by decide) (fun c19 => ?_) (fun c19 => ?_)
      · skip
        refine lv_aload_n hx hb dX8_rings_73 rfl (lv_at hl 1 rfl) ?_
        refine get_X8_11 hx hb hA hown hE hG t_h0 wd_1_168 dX8_rings_74 (fun b20 (t_b20 : ty Γ b20 8) => ?_)
        refine lv_iload_n hx hb dX8_rings_77 rfl (lv_at hl 2 rfl) ?_
        refine cV (va_runV (C := RX5) (As := [.int p1]) (rest := []) ⟨hx, hb, hml, hown, hA⟩ (f_X5_findBest l dC dI dA sz X Γ hU u10 b20 t_b20 p1   (by omega)) ⟨callB_of 1 hA (al_A wd_3_122) rfl rfl rfl (hA _ wd_1_5) (hA _ wd_3_119) (by decide +kernel) ⟨Nat.le_of_ble_eq_true rfl, Nat.le_of_ble_eq_true rfl⟩, hA _ wd_3_120, hA _ wd_3_121⟩ ⟨bl, recv_X5 hE hG t_b20, fun U hU9 hW9 => ⟨rfl, by rw [hU9]; exact hG, hE.go hS hU9 hW9⟩⟩ rfl rfl hl.1 rfl (lv_room (Nat.le_of_ble_eq_true rfl)) dX8_rings_78 ⟨Nat.zero_le _, Nat.zero_le _⟩) hS (fun u21 H locs w22 hG hS => ?_)
        have eu23 := w22
        rw [eu23] at hG
        refine lv_aload_n hx hb dX8_rings_81 rfl (lv_at hl 1 rfl) ?_
        refine get_X8_11 hx hb hA hown hE hG t_h0 wd_1_168 dX8_rings_82 (fun b24 (t_b24 : ty Γ b24 8) => ?_)
        refine cI (va_runV (C := RX5) (As := []) (rest := []) ⟨hx, hb, hml, hown, hA⟩ (f_X5_swapBest l dC dI dA sz X Γ hU u10 b24 t_b24   (by omega)) ⟨callB_of 0 hA (al_A wd_3_178) rfl rfl rfl (hA _ wd_1_5) (hA _ wd_3_175) (by decide +kernel) ⟨Nat.le_of_ble_eq_true rfl, Nat.le_of_ble_eq_true rfl⟩, hA _ wd_3_176, hA _ wd_3_177⟩ ⟨bl, recv_X5 hE hG t_b24, fun U hU9 hW9 => ⟨rfl, by rw [hU9]; exact hG, hE.go hS hU9 hW9⟩⟩ rfl rfl hl.1 rfl (lv_room (Nat.le_of_ble_eq_true rfl)) dX8_rings_85 ⟨Nat.zero_le _, Nat.zero_le _⟩) hS (fun x27 u25 H locs w26 hG hS => ?_)
        obtain ⟨eu28, w26⟩ := w26
        rw [eu28] at hG
        exact W.iret (v := x27) hx hb hr (fun t ht hW => ⟨⟨x27, u10, rfl, ⟨(fun c j h7 h8 => by rw [hf12 c j h7 h8]), (by omega)⟩, ok1 ht hG⟩, hS.F ht⟩) hS.2.2 dX8_rings_88
      · exfalso; omega
    · skip
      refine ty_iconst hx hb (-1) dX8_rings_11 (by decide) (fun x29 h30 => ?_)
      exact W.iret (v := x29) hx hb hr (fun t ht hW => ⟨⟨x29, g, rfl, ⟨(fun c j h7 h8 => by rfl), (by omega)⟩, ok1 ht hG⟩, hS.F ht⟩) hS.2.2 dX8_rings_12

set_option maxHeartbeats 4000000 in
set_option maxRecDepth 100000 in
/-- WeekBank$FeeRounds.clear:  -/
theorem k_X0_clear (l : Launch) (dC : Nat → ClassId) (dI : Nat → Nat → Nat) (dA : Nat → ClassId) (sz : Nat) (X : va_W) (Γ : ty_G) (hU : Un Γ) (g : gh) (h0 : Nat) (t_h0 : ty Γ h0 9) : Met l yX0_clear (.code yX0_clear cX0_clear 1 (Option.none : Option Jvm.ClassFile.FieldType) :: AL) ({ frames := 0, cells := 0, slots := 0, locals := 0 }) (PCx dC dI dA sz X Γ g [.ref h0]) (va_Qv (fun (u : gh) => (∀ c j : Nat, c ≠ 30 → c ≠ 31 → c ≠ 32 → u c j = g c j) ∧ ((u 30 0 = 0) ∧ (u 31 0 = 0) ∧ (u 32 0 = 0))) (okb dC dI dA sz X Γ) (ty_A sz)) 0 0 (ty_A sz) := by
  refine Met.ofW (cc := cX0_clear) (maxL := 1) (ret := (Option.none : Option Jvm.ClassFile.FieldType)) (by decide) rfl ?_
  intro p e s m args below meth c s₁ B hml hv
  obtain ⟨rfl, hG, hE⟩ := hv
  have hx := B.exec
  have hb := B.bytes
  have hr := B.returns
  have hts := atoms_spec B.pre
  have hA : ∀ w ∈ AL, w.before _ s = true := fun w h => hts w (List.mem_cons_of_mem _ h)
  have hown : s.vm.findClass RX0 = some m.cls := findClass_of_methodNamed B.named
  have hlocks := B.notSynchronized
  have hS : va_S (ty_A sz) s.heap s.heap [] := va_S.rf
  have hl := lv_entry ([.ref h0]) (n := 1) (Nat.le_of_ble_eq_true rfl)
  rw [lg_entry_eq]
  generalize (lg_sl ([.ref h0]) ++ List.replicate (1 - (lg_sl ([.ref h0])).length) Slot.unset).toArray = ls at hl ⊢
  have hl : lv_has ls 1 [(0, .ref h0)] := hl
  refine lv_aload_n hx hb dX0_clear_0 rfl (lv_at hl 0 rfl) ?_
  refine ty_iconst hx hb (0) dX0_clear_1 (by decide) (fun x1 h2 => ?_)
  refine put_X0_3 hx hb hA hown hE hG hS hU t_h0 wd_1_138 dX0_clear_2 (fun H locs hG hS => ?_)
  refine lv_aload_n hx hb dX0_clear_5 rfl (lv_at hl 0 rfl) ?_
  refine ty_iconst hx hb (0) dX0_clear_6 (by decide) (fun x3 h4 => ?_)
  refine put_X0_4 hx hb hA hown hE hG hS hU t_h0 wd_1_139 dX0_clear_7 (fun H locs hG hS => ?_)
  refine lv_aload_n hx hb dX0_clear_10 rfl (lv_at hl 0 rfl) ?_
  refine ty_iconst hx hb (0) dX0_clear_11 (by decide) (fun x5 h6 => ?_)
  refine put_X0_5 hx hb hA hown hE hG hS hU t_h0 wd_1_141 dX0_clear_12 (fun H locs hG hS => ?_)
  have e7 : (gs (gs (gs g 30 0 x1.toInt) 31 0 x3.toInt) 32 0 x5.toInt) 30 0 = x1.toInt := by simp [gs]
  have e8 : (gs (gs (gs g 30 0 x1.toInt) 31 0 x3.toInt) 32 0 x5.toInt) 31 0 = x3.toInt := by simp [gs]
  have e9 : (gs (gs (gs g 30 0 x1.toInt) 31 0 x3.toInt) 32 0 x5.toInt) 32 0 = x5.toInt := by simp [gs]
  exact W.vret hx hb hr (fun t ht hW => ⟨⟨(gs (gs (gs g 30 0 x1.toInt) 31 0 x3.toInt) 32 0 x5.toInt), rfl, ⟨(fun c j h30 h31 h32 => by rw [gs_c _ _ _ _ h32, gs_c _ _ _ _ h31, gs_c _ _ _ _ h30]), (by omega)⟩, ok1 ht hG⟩, hS.F ht⟩) hS.2.2 dX0_clear_15

set_option maxHeartbeats 4000000 in
set_option maxRecDepth 100000 in
/-- WeekBank$FeeRounds.countOwned:  -/
theorem f_X0_countOwned (l : Launch) (dC : Nat → ClassId) (dI : Nat → Nat → Nat) (dA : Nat → ClassId) (sz : Nat) (X : va_W) (Γ : ty_G) (hU : Un Γ) (g : gh) (h0 : Nat) (t_h0 : ty Γ h0 9) (f1 : g 30 0 = 0) : Met l yX0_countOwned (.code yX0_countOwned cX0_countOwned 3 (Option.some Jvm.ClassFile.FieldType.int) :: AL) ({ frames := 0, cells := 0, slots := 0, locals := 0 }) (PCx dC dI dA sz X Γ g [.ref h0]) (va_Qi (fun (r : Int32) (u : gh) => u = g ∧ ((r.toInt = 0))) (okb dC dI dA sz X Γ) (ty_A sz)) 0 0 (ty_A sz) := by
  refine Met.ofW (cc := cX0_countOwned) (maxL := 3) (ret := (Option.some Jvm.ClassFile.FieldType.int)) (by decide) rfl ?_
  intro p e s m args below meth c s₁ B hml hv
  obtain ⟨rfl, hG, hE⟩ := hv
  have hx := B.exec
  have hb := B.bytes
  have hr := B.returns
  have hts := atoms_spec B.pre
  have hA : ∀ w ∈ AL, w.before _ s = true := fun w h => hts w (List.mem_cons_of_mem _ h)
  have hown : s.vm.findClass RX0 = some m.cls := findClass_of_methodNamed B.named
  have hlocks := B.notSynchronized
  have hS : va_S (ty_A sz) s.heap s.heap [] := va_S.rf
  have hl := lv_entry ([.ref h0]) (n := 3) (Nat.le_of_ble_eq_true rfl)
  rw [lg_entry_eq]
  generalize (lg_sl ([.ref h0]) ++ List.replicate (3 - (lg_sl ([.ref h0])).length) Slot.unset).toArray = ls at hl ⊢
  have hl : lv_has ls 3 [(0, .ref h0)] := hl
  refine ty_iconst hx hb (0) dX0_countOwned_0 (by decide) (fun x1 h2 => ?_)
  refine lv_istore_n (lv' := [(1, .int x1), (0, .ref h0)]) hx hb dX0_countOwned_1 rfl hl (by decide) rfl (fun ls hl => ?_)
  refine ty_iconst hx hb (0) dX0_countOwned_2 (by decide) (fun x3 h4 => ?_)
  refine lv_istore_n (lv' := [(2, .int x3), (1, .int x1), (0, .ref h0)]) hx hb dX0_countOwned_3 rfl hl (by decide) rfl (fun ls hl => ?_)
  refine lv_iload_n hx hb dX0_countOwned_4 rfl (lv_at hl 0 rfl) ?_
  refine lv_aload_n hx hb dX0_countOwned_5 rfl (lv_at hl 2 rfl) ?_
  refine get_X0_3 hx hb hA hown hE hG t_h0 wd_1_138 dX0_countOwned_6 (fun x5 h6 => ?_)
  refine ty_icmp_ge (tgt := 36) hx hb dX0_countOwned_9 (by decide) (fun c8 => ?_) (fun c8 => ?_)
  · skip
    refine lv_iload_n hx hb dX0_countOwned_36 rfl (lv_at hl 1 rfl) ?_
    exact W.iret (v := x1) hx hb hr (fun t ht hW => ⟨⟨x1, g, rfl, ⟨rfl, (by omega)⟩, ok1 ht hG⟩, hS.F ht⟩) hS.2.2 dX0_countOwned_37
  · exfalso; omega

set_option maxHeartbeats 4000000 in
set_option maxRecDepth 100000 in
/-- WeekBank$FeeRounds.countStaying:  -/
theorem f_X0_countStaying (l : Launch) (dC : Nat → ClassId) (dI : Nat → Nat → Nat) (dA : Nat → ClassId) (sz : Nat) (X : va_W) (Γ : ty_G) (hU : Un Γ) (g : gh) (h0 : Nat) (t_h0 : ty Γ h0 9) (f1 : g 30 0 = 0) : Met l yX0_countStaying (.code yX0_countStaying cX0_countStaying 3 (Option.some Jvm.ClassFile.FieldType.int) :: AL) ({ frames := 0, cells := 0, slots := 0, locals := 0 }) (PCx dC dI dA sz X Γ g [.ref h0]) (va_Qi (fun (r : Int32) (u : gh) => u = g ∧ ((r.toInt = 0))) (okb dC dI dA sz X Γ) (ty_A sz)) 0 0 (ty_A sz) := by
  refine Met.ofW (cc := cX0_countStaying) (maxL := 3) (ret := (Option.some Jvm.ClassFile.FieldType.int)) (by decide) rfl ?_
  intro p e s m args below meth c s₁ B hml hv
  obtain ⟨rfl, hG, hE⟩ := hv
  have hx := B.exec
  have hb := B.bytes
  have hr := B.returns
  have hts := atoms_spec B.pre
  have hA : ∀ w ∈ AL, w.before _ s = true := fun w h => hts w (List.mem_cons_of_mem _ h)
  have hown : s.vm.findClass RX0 = some m.cls := findClass_of_methodNamed B.named
  have hlocks := B.notSynchronized
  have hS : va_S (ty_A sz) s.heap s.heap [] := va_S.rf
  have hl := lv_entry ([.ref h0]) (n := 3) (Nat.le_of_ble_eq_true rfl)
  rw [lg_entry_eq]
  generalize (lg_sl ([.ref h0]) ++ List.replicate (3 - (lg_sl ([.ref h0])).length) Slot.unset).toArray = ls at hl ⊢
  have hl : lv_has ls 3 [(0, .ref h0)] := hl
  refine ty_iconst hx hb (0) dX0_countStaying_0 (by decide) (fun x1 h2 => ?_)
  refine lv_istore_n (lv' := [(1, .int x1), (0, .ref h0)]) hx hb dX0_countStaying_1 rfl hl (by decide) rfl (fun ls hl => ?_)
  refine ty_iconst hx hb (0) dX0_countStaying_2 (by decide) (fun x3 h4 => ?_)
  refine lv_istore_n (lv' := [(2, .int x3), (1, .int x1), (0, .ref h0)]) hx hb dX0_countStaying_3 rfl hl (by decide) rfl (fun ls hl => ?_)
  refine lv_iload_n hx hb dX0_countStaying_4 rfl (lv_at hl 0 rfl) ?_
  refine lv_aload_n hx hb dX0_countStaying_5 rfl (lv_at hl 2 rfl) ?_
  refine get_X0_3 hx hb hA hown hE hG t_h0 wd_1_138 dX0_countStaying_6 (fun x5 h6 => ?_)
  refine ty_icmp_ge (tgt := 39) hx hb dX0_countStaying_9 (by decide) (fun c8 => ?_) (fun c8 => ?_)
  · skip
    refine lv_iload_n hx hb dX0_countStaying_39 rfl (lv_at hl 1 rfl) ?_
    exact W.iret (v := x1) hx hb hr (fun t ht hW => ⟨⟨x1, g, rfl, ⟨rfl, (by omega)⟩, ok1 ht hG⟩, hS.F ht⟩) hS.2.2 dX0_countStaying_40
  · exfalso; omega

set_option maxHeartbeats 4000000 in
set_option maxRecDepth 100000 in
/-- WeekBank$FeeRounds.reckon:  -/
theorem f_X0_reckon (l : Launch) (dC : Nat → ClassId) (dI : Nat → Nat → Nat) (dA : Nat → ClassId) (sz : Nat) (X : va_W) (Γ : ty_G) (hU : Un Γ) (g : gh) (h0 : Nat) (t_h0 : ty Γ h0 9) (p1 : Int32) (f1 : g 30 0 = 0) : Met l yX0_reckon (.code yX0_reckon cX0_reckon 4 (Option.none : Option Jvm.ClassFile.FieldType) :: AL) ({ frames := 1, cells := 0, slots := 0, locals := 22 }) (PCx dC dI dA sz X Γ g [.ref h0, .int p1]) (va_Qv (fun (u : gh) => (∀ c j : Nat, c ≠ 31 → u c j = g c j) ∧ ((u 31 0 = 0))) (okb dC dI dA sz X Γ) (ty_A sz)) 0 0 (ty_A sz) := by
  refine Met.ofW (cc := cX0_reckon) (maxL := 4) (ret := (Option.none : Option Jvm.ClassFile.FieldType)) (by decide) rfl ?_
  intro p e s m args below meth c s₁ B hml hv
  obtain ⟨rfl, hG, hE⟩ := hv
  have hx := B.exec
  have hb := B.bytes
  have hr := B.returns
  have hts := atoms_spec B.pre
  have hA : ∀ w ∈ AL, w.before _ s = true := fun w h => hts w (List.mem_cons_of_mem _ h)
  have hown : s.vm.findClass RX0 = some m.cls := findClass_of_methodNamed B.named
  have hlocks := B.notSynchronized
  have hS : va_S (ty_A sz) s.heap s.heap [] := va_S.rf
  have hl := lv_entry ([.ref h0, .int p1]) (n := 4) (Nat.le_of_ble_eq_true rfl)
  rw [lg_entry_eq]
  generalize (lg_sl ([.ref h0, .int p1]) ++ List.replicate (4 - (lg_sl ([.ref h0, .int p1])).length) Slot.unset).toArray = ls at hl ⊢
  have hl : lv_has ls 4 [(0, .ref h0), (1, .int p1)] := hl
  refine ty_iconst hx hb (0) dX0_reckon_0 (by decide) (fun x1 h2 => ?_)
  refine lv_istore_n (lv' := [(2, .int x1), (0, .ref h0), (1, .int p1)]) hx hb dX0_reckon_1 rfl hl (by decide) rfl (fun ls hl => ?_)
  refine lv_iload_n hx hb dX0_reckon_2 rfl (lv_at hl 0 rfl) ?_
  refine ty_bipush hx hb (10) dX0_reckon_3 (by decide) (fun x3 h4 => ?_)
  refine ty_icmp_gt (tgt := 58) hx hb dX0_reckon_5 (by decide) (fun c5 => ?_) (fun c5 => ?_)
  · exfalso; omega
  · skip
    refine lv_aload_n hx hb dX0_reckon_8 rfl (lv_at hl 1 rfl) ?_
    refine cI (va_runV (C := RX0) (As := []) (rest := []) ⟨hx, hb, hml, hown, hA⟩ (f_X0_countOwned l dC dI dA sz X Γ hU g h0 t_h0   (by omega)) ⟨callB_of 0 hA (al_A wd_4_21) rfl rfl rfl (hA _ wd_1_6) (hA _ wd_4_18) (by decide +kernel) ⟨Nat.le_of_ble_eq_true rfl, Nat.le_of_ble_eq_true rfl⟩, hA _ wd_4_20, hA _ ws_32⟩ ⟨bl, recv_X0 hE hG t_h0, fun U hU9 hW9 => ⟨rfl, by rw [hU9]; exact hG, hE.go hS hU9 hW9⟩⟩ rfl rfl hl.1 rfl (lv_room (Nat.le_of_ble_eq_true rfl)) dX0_reckon_9 ⟨Nat.zero_le _, Nat.zero_le _⟩) hS (fun x8 u6 H locs w7 hG hS => ?_)
    obtain ⟨eu9, w7⟩ := w7
    rw [eu9] at hG
    refine lv_istore_n (lv' := [(3, .int x8), (2, .int x1), (0, .ref h0), (1, .int p1)]) hx hb dX0_reckon_12 rfl hl (by decide) rfl (fun ls hl => ?_)
    refine lv_iload_n hx hb dX0_reckon_13 rfl (lv_at hl 0 rfl) ?_
    refine ty_if_gt (tgt := 23) hx hb dX0_reckon_14 (by decide) (fun c10 => ?_) (fun c10 => ?_)
    · exfalso; omega
    · skip
      refine lv_aload_n hx hb dX0_reckon_17 rfl (lv_at hl 2 rfl) ?_
      refine ty_iconst hx hb (0) dX0_reckon_18 (by decide) (fun x11 h12 => ?_)
      refine put_X0_4 hx hb hA hown hE hG hS hU t_h0 wd_1_139 dX0_reckon_19 (fun H locs hG hS => ?_)
      have e13 : (gs g 31 0 x11.toInt) 31 0 = x11.toInt := by simp [gs]
      exact W.vret hx hb hr (fun t ht hW => ⟨⟨(gs g 31 0 x11.toInt), rfl, ⟨(fun c j h31 => by rw [gs_c _ _ _ _ h31]), (by omega)⟩, ok1 ht hG⟩, hS.F ht⟩) hS.2.2 dX0_reckon_22

set_option maxHeartbeats 4000000 in
set_option maxRecDepth 100000 in
/-- WeekBank.fees:  -/
theorem f_X8_fees (l : Launch) (dC : Nat → ClassId) (dI : Nat → Nat → Nat) (dA : Nat → ClassId) (sz : Nat) (X : va_W) (Γ : ty_G) (hU : Un Γ) (g : gh) (h0 : Nat) (t_h0 : ty Γ h0 1) (p1 : Int32) (p2 : Int32) (f2 : g 2 0 = 0) : Met l yX8_fees (.code yX8_fees cX8_fees 4 (Option.some Jvm.ClassFile.FieldType.int) :: AL) ({ frames := 2, cells := 0, slots := 0, locals := 45 }) (PCx dC dI dA sz X Γ g [.ref h0, .int p1, .int p2]) (va_Qi (fun (r : Int32) (u : gh) => (∀ c j : Nat, c ≠ 30 → c ≠ 31 → c ≠ 32 → u c j = g c j) ∧ ((1 ≤ p1.toInt ∧ p1.toInt ≤ 999999 ∧ 0 ≤ p2.toInt ∧ p2.toInt ≤ 2 → r.toInt = 0) ∧ (¬ (1 ≤ p1.toInt ∧ p1.toInt ≤ 999999 ∧ 0 ≤ p2.toInt ∧ p2.toInt ≤ 2) → r.toInt = -1))) (okb dC dI dA sz X Γ) (ty_A sz)) 0 0 (ty_A sz) := by
  refine Met.ofW (cc := cX8_fees) (maxL := 4) (ret := (Option.some Jvm.ClassFile.FieldType.int)) (by decide) rfl ?_
  intro p e s m args below meth c s₁ B hml hv
  obtain ⟨rfl, hG, hE⟩ := hv
  have hx := B.exec
  have hb := B.bytes
  have hr := B.returns
  have hts := atoms_spec B.pre
  have hA : ∀ w ∈ AL, w.before _ s = true := fun w h => hts w (List.mem_cons_of_mem _ h)
  have hown : s.vm.findClass RX8 = some m.cls := findClass_of_methodNamed B.named
  have hlocks := B.notSynchronized
  have hS : va_S (ty_A sz) s.heap s.heap [] := va_S.rf
  have hl := lv_entry ([.ref h0, .int p1, .int p2]) (n := 4) (Nat.le_of_ble_eq_true rfl)
  rw [lg_entry_eq]
  generalize (lg_sl ([.ref h0, .int p1, .int p2]) ++ List.replicate (4 - (lg_sl ([.ref h0, .int p1, .int p2])).length) Slot.unset).toArray = ls at hl ⊢
  have hl : lv_has ls 4 [(0, .ref h0), (1, .int p1), (2, .int p2)] := hl
  refine lv_iload_n hx hb dX8_fees_0 rfl (lv_at hl 1 rfl) ?_
  refine ty_iconst hx hb (1) dX8_fees_1 (by decide) (fun x1 h2 => ?_)
  refine ty_icmp_lt (tgt := 20) hx hb dX8_fees_2 (by decide) (fun c3 => ?_) (fun c3 => ?_)
  · skip
    refine ty_iconst hx hb (-1) dX8_fees_20 (by decide) (fun x4 h5 => ?_)
    exact W.iret (v := x4) hx hb hr (fun t ht hW => ⟨⟨x4, g, rfl, ⟨(fun c j h30 h31 h32 => by rfl), (by omega)⟩, ok1 ht hG⟩, hS.F ht⟩) hS.2.2 dX8_fees_21
  · skip
    refine lv_iload_n hx hb dX8_fees_5 rfl (lv_at hl 1 rfl) ?_
    refine ty_ldc hx hb (999999) hown (hA _ wd_4_5) dX8_fees_6 (by decide) (fun x6 h7 => ?_)
    refine ty_icmp_gt (tgt := 20) hx hb dX8_fees_8 (by decide) (fun c8 => ?_) (fun c8 => ?_)
    · skip
      refine ty_iconst hx hb (-1) dX8_fees_20 (by decide) (fun x9 h10 => ?_)
      exact W.iret (v := x9) hx hb hr (fun t ht hW => ⟨⟨x9, g, rfl, ⟨(fun c j h30 h31 h32 => by rfl), (by omega)⟩, ok1 ht hG⟩, hS.F ht⟩) hS.2.2 dX8_fees_21
    · skip
      refine lv_iload_n hx hb dX8_fees_11 rfl (lv_at hl 2 rfl) ?_
      refine ty_if_lt (tgt := 20) hx hb dX8_fees_12 (by decide) (fun c11 => ?_) (fun c11 => ?_)
      · skip
        refine ty_iconst hx hb (-1) dX8_fees_20 (by decide) (fun x12 h13 => ?_)
        exact W.iret (v := x12) hx hb hr (fun t ht hW => ⟨⟨x12, g, rfl, ⟨(fun c j h30 h31 h32 => by rfl), (by omega)⟩, ok1 ht hG⟩, hS.F ht⟩) hS.2.2 dX8_fees_21
      · skip
        refine lv_iload_n hx hb dX8_fees_15 rfl (lv_at hl 2 rfl) ?_
        refine ty_iconst hx hb (2) dX8_fees_16 (by decide) (fun x14 h15 => ?_)
        refine ty_icmp_le (tgt := 22) hx hb dX8_fees_17 (by decide) (fun c16 => ?_) (fun c16 => ?_)
        · skip
          refine lv_aload_n hx hb dX8_fees_22 rfl (lv_at hl 0 rfl) ?_
          refine get_X8_12 hx hb hA hown hE hG t_h0 wd_1_169 dX8_fees_23 (fun b17 (t_b17 : ty Γ b17 9) => ?_)
          refine cV (va_runV (C := RX0) (As := []) (rest := []) ⟨hx, hb, hml, hown, hA⟩ (k_X0_clear l dC dI dA sz X Γ hU g b17 t_b17   ) ⟨callB_of 0 hA (al_A wd_4_9) rfl rfl rfl (hA _ wd_1_6) (hA _ wd_4_6) (by decide +kernel) ⟨Nat.le_of_ble_eq_true rfl, Nat.le_of_ble_eq_true rfl⟩, hA _ wd_4_7, hA _ wd_4_8⟩ ⟨bl, recv_X0 hE hG t_b17, fun U hU9 hW9 => ⟨rfl, by rw [hU9]; exact hG, hE.go hS hU9 hW9⟩⟩ rfl rfl hl.1 rfl (lv_room (Nat.le_of_ble_eq_true rfl)) dX8_fees_26 ⟨Nat.zero_le _, Nat.zero_le _⟩) hS (fun u18 H locs w19 hG hS => ?_)
          obtain ⟨hf20, w19⟩ := w19
          refine ty_iconst hx hb (0) dX8_fees_29 (by decide) (fun x21 h22 => ?_)
          refine lv_istore_n (lv' := [(3, .int x21), (0, .ref h0), (1, .int p1), (2, .int p2)]) hx hb dX8_fees_30 rfl hl (by decide) rfl (fun ls hl => ?_)
          refine lv_iload_n hx hb dX8_fees_31 rfl (lv_at hl 0 rfl) ?_
          refine lv_aload_n hx hb dX8_fees_32 rfl (lv_at hl 1 rfl) ?_
          refine get_X8_3 hx hb hA hown hE hG t_h0 wd_1_160 dX8_fees_33 (fun x23 h24 => ?_)
          have hk26 : u18 2 0 = g 2 0 := hf20 2 0 (by decide) (by decide) (by decide)
          refine ty_icmp_ge (tgt := 82) hx hb dX8_fees_36 (by decide) (fun c27 => ?_) (fun c27 => ?_)
          · skip
            refine lv_aload_n hx hb dX8_fees_82 rfl (lv_at hl 1 rfl) ?_
            refine get_X8_12 hx hb hA hown hE hG t_h0 wd_1_169 dX8_fees_83 (fun b28 (t_b28 : ty Γ b28 9) => ?_)
            refine lv_iload_n hx hb dX8_fees_86 rfl (lv_at hl 2 rfl) ?_
            refine cV (va_runV (C := RX0) (As := [.int p1]) (rest := []) ⟨hx, hb, hml, hown, hA⟩ (f_X0_reckon l dC dI dA sz X Γ hU u18 b28 t_b28 p1   (by omega)) ⟨callB_of 1 hA (al_A wd_4_17) rfl rfl rfl (hA _ wd_1_6) (hA _ wd_4_14) (by decide +kernel) ⟨Nat.le_of_ble_eq_true rfl, Nat.le_of_ble_eq_true rfl⟩, hA _ wd_4_15, hA _ wd_4_16⟩ ⟨bl, recv_X0 hE hG t_b28, fun U hU9 hW9 => ⟨rfl, by rw [hU9]; exact hG, hE.go hS hU9 hW9⟩⟩ rfl rfl hl.1 rfl (lv_room (Nat.le_of_ble_eq_true rfl)) dX8_fees_87 ⟨Nat.zero_le _, Nat.zero_le _⟩) hS (fun u29 H locs w30 hG hS => ?_)
            obtain ⟨hf31, w30⟩ := w30
            refine lv_iload_n hx hb dX8_fees_90 rfl (lv_at hl 3 rfl) ?_
            refine ty_if_ne (tgt := 102) hx hb dX8_fees_91 (by decide) (fun c32 => ?_) (fun c32 => ?_)
            · skip
              refine lv_iload_n hx hb dX8_fees_102 rfl (lv_at hl 3 rfl) ?_
              refine ty_iconst hx hb (1) dX8_fees_103 (by decide) (fun x33 h34 => ?_)
              refine ty_icmp_ne (tgt := 117) hx hb dX8_fees_104 (by decide) (fun c35 => ?_) (fun c35 => ?_)
              · skip
                refine lv_aload_n hx hb dX8_fees_117 rfl (lv_at hl 1 rfl) ?_
                refine get_X8_12 hx hb hA hown hE hG t_h0 wd_1_169 dX8_fees_118 (fun b36 (t_b36 : ty Γ b36 9) => ?_)
                have hk37 : u29 30 0 = u18 30 0 := hf31 30 0 (by decide)
                refine cI (va_runV (C := RX0) (As := []) (rest := []) ⟨hx, hb, hml, hown, hA⟩ (f_X0_countStaying l dC dI dA sz X Γ hU u29 b36 t_b36   (by omega)) ⟨callB_of 0 hA (al_A wd_4_29) rfl rfl rfl (hA _ wd_1_6) (hA _ wd_4_26) (by decide +kernel) ⟨Nat.le_of_ble_eq_true rfl, Nat.le_of_ble_eq_true rfl⟩, hA _ wd_4_27, hA _ wd_4_28⟩ ⟨bl, recv_X0 hE hG t_b36, fun U hU9 hW9 => ⟨rfl, by rw [hU9]; exact hG, hE.go hS hU9 hW9⟩⟩ rfl rfl hl.1 rfl (lv_room (Nat.le_of_ble_eq_true rfl)) dX8_fees_121 ⟨Nat.zero_le _, Nat.zero_le _⟩) hS (fun x40 u38 H locs w39 hG hS => ?_)
                obtain ⟨eu41, w39⟩ := w39
                rw [eu41] at hG
                exact W.iret (v := x40) hx hb hr (fun t ht hW => ⟨⟨x40, u29, rfl, ⟨(fun c j h30 h31 h32 => by rw [hf31 c j h31, hf20 c j h30 h31 h32]), (by omega)⟩, ok1 ht hG⟩, hS.F ht⟩) hS.2.2 dX8_fees_124
              · skip
                refine lv_aload_n hx hb dX8_fees_107 rfl (lv_at hl 1 rfl) ?_
                refine get_X8_12 hx hb hA hown hE hG t_h0 wd_1_169 dX8_fees_108 (fun b42 (t_b42 : ty Γ b42 9) => ?_)
                refine get_X0_5 hx hb hA hown hE hG t_b42 wd_1_142 dX8_fees_111 (fun x43 h44 => ?_)
                have hk46 : u29 32 0 = u18 32 0 := hf31 32 0 (by decide)
                refine lv_goto (tgt := 124) hx hb dX8_fees_114 (by decide) ?_
                exact W.iret (v := x43) hx hb hr (fun t ht hW => ⟨⟨x43, u29, rfl, ⟨(fun c j h30 h31 h32 => by rw [hf31 c j h31, hf20 c j h30 h31 h32]), (by omega)⟩, ok1 ht hG⟩, hS.F ht⟩) hS.2.2 dX8_fees_124
            · skip
              refine lv_aload_n hx hb dX8_fees_94 rfl (lv_at hl 1 rfl) ?_
              refine get_X8_12 hx hb hA hown hE hG t_h0 wd_1_169 dX8_fees_95 (fun b47 (t_b47 : ty Γ b47 9) => ?_)
              refine get_X0_4 hx hb hA hown hE hG t_b47 wd_1_140 dX8_fees_98 (fun x48 h49 => ?_)
              exact W.iret (v := x48) hx hb hr (fun t ht hW => ⟨⟨x48, u29, rfl, ⟨(fun c j h30 h31 h32 => by rw [hf31 c j h31, hf20 c j h30 h31 h32]), (by omega)⟩, ok1 ht hG⟩, hS.F ht⟩) hS.2.2 dX8_fees_101
          · exfalso; omega
        · skip
          refine ty_iconst hx hb (-1) dX8_fees_20 (by decide) (fun x51 h52 => ?_)
          exact W.iret (v := x51) hx hb hr (fun t ht hW => ⟨⟨x51, g, rfl, ⟨(fun c j h30 h31 h32 => by rfl), (by omega)⟩, ok1 ht hG⟩, hS.F ht⟩) hS.2.2 dX8_fees_21
