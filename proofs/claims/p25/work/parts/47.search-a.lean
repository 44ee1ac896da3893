set_option maxHeartbeats 4000000 in
set_option maxRecDepth 100000 in
/-- java/lang/Integer.bitCount:  -/
theorem k_bitCount (l : Launch) (dC : Nat → ClassId) (dI : Nat → Nat → Nat) (dA : Nat → ClassId) (sz : Nat) (X : va_W) (Γ : ty_G) (hU : Un Γ) (g : gh) (p0 : Int32) (hp : 0 ≤ p0.toInt ∧ p0.toInt ≤ 511) : Met l yJ6_bitCount_0f7a4 (.code yJ6_bitCount_0f7a4 cJ6_bitCount_0f7a4 1 (Option.some Jvm.ClassFile.FieldType.int) :: AL) ({ frames := 0, cells := 0, slots := 0, locals := 0 }) (PCx dC dI dA sz X Γ g [.int p0]) (va_Qi (fun (r : Int32) (u : gh) => u = g ∧ ((r.toInt = bcz p0.toInt.toNat))) (okb dC dI dA sz X Γ) (ty_A sz)) 0 0 (ty_A sz) := by
  refine Met.ofW (cc := cJ6_bitCount_0f7a4) (maxL := 1) (ret := (Option.some Jvm.ClassFile.FieldType.int)) (by decide) rfl ?_
  intro p e s m args below meth c s₁ B hml hv
  obtain ⟨rfl, hG, hE⟩ := hv
  have hx := B.exec
  have hb := B.bytes
  have hr := B.returns
  have hts := atoms_spec B.pre
  have hA : ∀ w ∈ AL, w.before _ s = true := fun w h => hts w (List.mem_cons_of_mem _ h)
  have hown : s.vm.findClass RJ6 = some m.cls := findClass_of_methodNamed B.named
  have hlocks := B.notSynchronized
  have hS : va_S (ty_A sz) s.heap s.heap [] := va_S.rf
  have hl := lv_entry ([.int p0]) (n := 1) (Nat.le_of_ble_eq_true rfl)
  rw [lg_entry_eq]
  generalize (lg_sl ([.int p0]) ++ List.replicate (1 - (lg_sl ([.int p0])).length) Slot.unset).toArray = ls at hl ⊢
  have hl : lv_has ls 1 [(0, .int p0)] := hl
  refine lv_iload_n hx hb dJ6_bitCount_0f7a4_0 rfl (lv_at hl 0 rfl) ?_
  refine lv_iload_n hx hb dJ6_bitCount_0f7a4_1 rfl (lv_at hl 0 rfl) ?_
  refine lv_iconst (v := 1) hx hb dJ6_bitCount_0f7a4_2 (by decide) ?_
  refine lv_topi (fun x1 h2 => ?_)
  refine lv_iushr hx hb dJ6_bitCount_0f7a4_3 rfl ?_
  refine lv_topi (fun x3 h4 => ?_)
  refine lv_ldcw (v := 1431655765) hx hb hown (hA _ wd_3_146) dJ6_bitCount_0f7a4_4 ?_
  refine lv_topi (fun x5 h6 => ?_)
  refine ty_iand hx hb dJ6_bitCount_0f7a4_7 (fun x7 h8 => ?_)
  refine ty_isub hx hb dJ6_bitCount_0f7a4_8 (fun x9 h10 => ?_)
  try have h11 : x9.toInt = p0.toInt - x7.toInt := ty_sub h10 (by omega) (by omega)
  refine lv_istore_n (lv' := [(0, .int x9)]) hx hb dJ6_bitCount_0f7a4_9 rfl hl (by decide) rfl (fun ls hl => ?_)
  refine lv_iload_n hx hb dJ6_bitCount_0f7a4_10 rfl (lv_at hl 0 rfl) ?_
  refine lv_ldcw (v := 858993459) hx hb hown (hA _ wd_3_147) dJ6_bitCount_0f7a4_11 ?_
  refine lv_topi (fun x12 h13 => ?_)
  refine ty_iand hx hb dJ6_bitCount_0f7a4_14 (fun x14 h15 => ?_)
  refine lv_iload_n hx hb dJ6_bitCount_0f7a4_15 rfl (lv_at hl 0 rfl) ?_
  refine lv_iconst (v := 2) hx hb dJ6_bitCount_0f7a4_16 (by decide) ?_
  refine lv_topi (fun x16 h17 => ?_)
  refine lv_iushr hx hb dJ6_bitCount_0f7a4_17 rfl ?_
  refine lv_topi (fun x18 h19 => ?_)
  refine lv_ldcw (v := 858993459) hx hb hown (hA _ wd_3_147) dJ6_bitCount_0f7a4_18 ?_
  refine lv_topi (fun x20 h21 => ?_)
  refine ty_iand hx hb dJ6_bitCount_0f7a4_21 (fun x22 h23 => ?_)
  refine ty_iadd hx hb dJ6_bitCount_0f7a4_22 (fun x24 h25 => ?_)
  try have h26 : x24.toInt = x14.toInt + x22.toInt := ty_add h25 (by omega) (by omega)
  refine lv_istore_n (lv' := [(0, .int x24)]) hx hb dJ6_bitCount_0f7a4_23 rfl hl (by decide) rfl (fun ls hl => ?_)
  refine lv_iload_n hx hb dJ6_bitCount_0f7a4_24 rfl (lv_at hl 0 rfl) ?_
  refine lv_iload_n hx hb dJ6_bitCount_0f7a4_25 rfl (lv_at hl 0 rfl) ?_
  refine lv_iconst (v := 4) hx hb dJ6_bitCount_0f7a4_26 (by decide) ?_
  refine lv_topi (fun x27 h28 => ?_)
  refine lv_iushr hx hb dJ6_bitCount_0f7a4_27 rfl ?_
  refine lv_topi (fun x29 h30 => ?_)
  refine ty_iadd hx hb dJ6_bitCount_0f7a4_28 (fun x31 h32 => ?_)
  try have h33 : x31.toInt = x24.toInt + x29.toInt := ty_add h32 (by omega) (by omega)
  refine lv_ldcw (v := 252645135) hx hb hown (hA _ wd_3_148) dJ6_bitCount_0f7a4_29 ?_
  refine lv_topi (fun x34 h35 => ?_)
  refine ty_iand hx hb dJ6_bitCount_0f7a4_32 (fun x36 h37 => ?_)
  refine lv_istore_n (lv' := [(0, .int x36)]) hx hb dJ6_bitCount_0f7a4_33 rfl hl (by decide) rfl (fun ls hl => ?_)
  refine lv_iload_n hx hb dJ6_bitCount_0f7a4_34 rfl (lv_at hl 0 rfl) ?_
  refine lv_iload_n hx hb dJ6_bitCount_0f7a4_35 rfl (lv_at hl 0 rfl) ?_
  refine lv_bipush (v := 8) hx hb dJ6_bitCount_0f7a4_36 (by decide) ?_
  refine lv_topi (fun x38 h39 => ?_)
  refine lv_iushr hx hb dJ6_bitCount_0f7a4_38 rfl ?_
  refine lv_topi (fun x40 h41 => ?_)
  refine ty_iadd hx hb dJ6_bitCount_0f7a4_39 (fun x42 h43 => ?_)
  try have h44 : x42.toInt = x36.toInt + x40.toInt := ty_add h43 (by omega) (by omega)
  refine lv_istore_n (lv' := [(0, .int x42)]) hx hb dJ6_bitCount_0f7a4_40 rfl hl (by decide) rfl (fun ls hl => ?_)
  refine lv_iload_n hx hb dJ6_bitCount_0f7a4_41 rfl (lv_at hl 0 rfl) ?_
  refine lv_iload_n hx hb dJ6_bitCount_0f7a4_42 rfl (lv_at hl 0 rfl) ?_
  refine lv_bipush (v := 16) hx hb dJ6_bitCount_0f7a4_43 (by decide) ?_
  refine lv_topi (fun x45 h46 => ?_)
  refine lv_iushr hx hb dJ6_bitCount_0f7a4_45 rfl ?_
  refine lv_topi (fun x47 h48 => ?_)
  refine ty_iadd hx hb dJ6_bitCount_0f7a4_46 (fun x49 h50 => ?_)
  try have h51 : x49.toInt = x42.toInt + x47.toInt := ty_add h50 (by omega) (by omega)
  refine lv_istore_n (lv' := [(0, .int x49)]) hx hb dJ6_bitCount_0f7a4_47 rfl hl (by decide) rfl (fun ls hl => ?_)
  refine lv_iload_n hx hb dJ6_bitCount_0f7a4_48 rfl (lv_at hl 0 rfl) ?_
  refine lv_bipush (v := 63) hx hb dJ6_bitCount_0f7a4_49 (by decide) ?_
  refine lv_topi (fun x52 h53 => ?_)
  refine ty_iand hx hb dJ6_bitCount_0f7a4_51 (fun x54 h55 => ?_)
  exact W.iret (v := x54) hx hb hr (fun t ht hW => ⟨⟨x54, g, rfl, ⟨rfl, (by subst_vars; exact bc_ok hp)⟩, ok1 ht hG⟩, hS.F ht⟩) hS.2.2 dJ6_bitCount_0f7a4_52

set_option maxHeartbeats 4000000 in
set_option maxRecDepth 100000 in
/-- WeekBank$RingSearch.clear:  -/
theorem k_X5_clear (l : Launch) (dC : Nat → ClassId) (dI : Nat → Nat → Nat) (dA : Nat → ClassId) (sz : Nat) (X : va_W) (Γ : ty_G) (hU : Un Γ) (g : gh) (h0 : Nat) (t_h0 : ty Γ h0 8) : Met l yX5_clear (.code yX5_clear cX5_clear 1 (Option.none : Option Jvm.ClassFile.FieldType) :: AL) ({ frames := 0, cells := 0, slots := 0, locals := 0 }) (PCx dC dI dA sz X Γ g [.ref h0]) (va_Qv (fun (u : gh) => (∀ c j : Nat, c ≠ 7 → c ≠ 8 → u c j = g c j) ∧ ((u 7 0 = 0) ∧ (u 8 0 = 0))) (okb dC dI dA sz X Γ) (ty_A sz)) 0 0 (ty_A sz) := by
  refine Met.ofW (cc := cX5_clear) (maxL := 1) (ret := (Option.none : Option Jvm.ClassFile.FieldType)) (by decide) rfl ?_
  intro p e s m args below meth c s₁ B hml hv
  obtain ⟨rfl, hG, hE⟩ := hv
  have hx := B.exec
  have hb := B.bytes
  have hr := B.returns
  have hts := atoms_spec B.pre
  have hA : ∀ w ∈ AL, w.before _ s = true := fun w h => hts w (List.mem_cons_of_mem _ h)
  have hown : s.vm.findClass RX5 = some m.cls := findClass_of_methodNamed B.named
  have hlocks := B.notSynchronized
  have hS : va_S (ty_A sz) s.heap s.heap [] := va_S.rf
  have hl := lv_entry ([.ref h0]) (n := 1) (Nat.le_of_ble_eq_true rfl)
  rw [lg_entry_eq]
  generalize (lg_sl ([.ref h0]) ++ List.replicate (1 - (lg_sl ([.ref h0])).length) Slot.unset).toArray = ls at hl ⊢
  have hl : lv_has ls 1 [(0, .ref h0)] := hl
  refine lv_aload_n hx hb dX5_clear_0 rfl (lv_at hl 0 rfl) ?_
  refine ty_iconst hx hb (0) dX5_clear_1 (by decide) (fun x1 h2 => ?_)
  refine put_X5_1 hx hb hA hown hE hG hS hU t_h0 wd_1_108 dX5_clear_2 (fun H locs hG hS => ?_)
  refine lv_aload_n hx hb dX5_clear_5 rfl (lv_at hl 0 rfl) ?_
  refine ty_iconst hx hb (0) dX5_clear_6 (by decide) (fun x3 h4 => ?_)
  refine put_X5_6 hx hb hA hown hE hG hS hU t_h0 wd_1_113 dX5_clear_7 (fun H locs hG hS => ?_)
  have e5 : (gs (gs g 7 0 x1.toInt) 8 0 x3.toInt) 7 0 = x1.toInt := by rw [gs_c _ _ _ _ (by decide), gs_self]
  have e6 : (gs (gs g 7 0 x1.toInt) 8 0 x3.toInt) 8 0 = x3.toInt := by rw [gs_self]
  exact W.vret hx hb hr (fun t ht hW => ⟨⟨(gs (gs g 7 0 x1.toInt) 8 0 x3.toInt), rfl, ⟨(fun c j h7 h8 => by rw [gs_c _ _ _ _ h8, gs_c _ _ _ _ h7]), (by omega)⟩, ok1 ht hG⟩, hS.F ht⟩) hS.2.2 dX5_clear_10

set_option maxHeartbeats 4000000 in
set_option maxRecDepth 100000 in
/-- WeekBank$RingSearch.has:  -/
theorem k_X5_has (l : Launch) (dC : Nat → ClassId) (dI : Nat → Nat → Nat) (dA : Nat → ClassId) (sz : Nat) (X : va_W) (Γ : ty_G) (hU : Un Γ) (g : gh) (p0 : Int32) (p1 : Int32) (hh : 0 ≤ p0.toInt ∧ p0.toInt ≤ 511 ∧ 0 ≤ p1.toInt ∧ p1.toInt ≤ 8) : Met l yX5_has (.code yX5_has cX5_has 2 (Option.some Jvm.ClassFile.FieldType.boolean) :: AL) ({ frames := 0, cells := 0, slots := 0, locals := 0 }) (PCx dC dI dA sz X Γ g [.int p0, .int p1]) (va_Qi (fun (r : Int32) (u : gh) => u = g ∧ ((r.toInt = tbz p0.toInt p1.toInt))) (okb dC dI dA sz X Γ) (ty_A sz)) 0 0 (ty_A sz) := by
  refine Met.ofW (cc := cX5_has) (maxL := 2) (ret := (Option.some Jvm.ClassFile.FieldType.boolean)) (by decide) rfl ?_
  intro p e s m args below meth c s₁ B hml hv
  obtain ⟨rfl, hG, hE⟩ := hv
  have hx := B.exec
  have hb := B.bytes
  have hr := B.returns
  have hts := atoms_spec B.pre
  have hA : ∀ w ∈ AL, w.before _ s = true := fun w h => hts w (List.mem_cons_of_mem _ h)
  have hown : s.vm.findClass RX5 = some m.cls := findClass_of_methodNamed B.named
  have hlocks := B.notSynchronized
  have hS : va_S (ty_A sz) s.heap s.heap [] := va_S.rf
  have hl := lv_entry ([.int p0, .int p1]) (n := 2) (Nat.le_of_ble_eq_true rfl)
  rw [lg_entry_eq]
  generalize (lg_sl ([.int p0, .int p1]) ++ List.replicate (2 - (lg_sl ([.int p0, .int p1])).length) Slot.unset).toArray = ls at hl ⊢
  have hl : lv_has ls 2 [(0, .int p0), (1, .int p1)] := hl
  refine lv_iload_n hx hb dX5_has_0 rfl (lv_at hl 0 rfl) ?_
  refine lv_iload_n hx hb dX5_has_1 rfl (lv_at hl 1 rfl) ?_
  refine lv_ishr hx hb dX5_has_2 ?_
  refine lv_topi (fun x1 h2 => ?_)
  refine ty_iconst hx hb (1) dX5_has_3 (by decide) (fun x3 h4 => ?_)
  refine ty_iand hx hb dX5_has_4 (fun x5 h6 => ?_)
  refine ty_iconst hx hb (1) dX5_has_5 (by decide) (fun x7 h8 => ?_)
  refine ty_icmp_ne (tgt := 13) hx hb dX5_has_6 (by decide) (fun c9 => ?_) (fun c9 => ?_)
  · skip
    refine ty_iconst hx hb (0) dX5_has_13 (by decide) (fun x10 h11 => ?_)
    exact W.zret (v := x10) hx hb hr (ty_nb (by omega)).1 (fun t ht hW => ⟨⟨x10, g, rfl, ⟨rfl, (by have h9 := has_c h2 h6 (by omega) (by omega) (by omega); have h8 := tbz_01 p0.toInt p1.toInt; omega)⟩, ok1 ht hG⟩, hS.F ht⟩) hS.2.2 dX5_has_14
  · skip
    refine ty_iconst hx hb (1) dX5_has_9 (by decide) (fun x12 h13 => ?_)
    refine lv_goto (tgt := 14) hx hb dX5_has_10 (by decide) ?_
    exact W.zret (v := x12) hx hb hr (ty_nb (by omega)).1 (fun t ht hW => ⟨⟨x12, g, rfl, ⟨rfl, (by have h9 := has_c h2 h6 (by omega) (by omega) (by omega); have h8 := tbz_01 p0.toInt p1.toInt; omega)⟩, ok1 ht hG⟩, hS.F ht⟩) hS.2.2 dX5_has_14

set_option maxHeartbeats 4000000 in
set_option maxRecDepth 100000 in
/-- WeekBank$RingSearch.leastOf:  -/
theorem k_X5_leastOf (l : Launch) (dC : Nat → ClassId) (dI : Nat → Nat → Nat) (dA : Nat → ClassId) (sz : Nat) (X : va_W) (Γ : ty_G) (hU : Un Γ) (g : gh) (p0 : Int32) (hp : 1 ≤ p0.toInt ∧ p0.toInt ≤ 511) : Met l yX5_leastOf (.code yX5_leastOf cX5_leastOf 1 (Option.some Jvm.ClassFile.FieldType.int) :: AL) ({ frames := 1, cells := 0, slots := 0, locals := 20 }) (PCx dC dI dA sz X Γ g [.int p0]) (va_Qi (fun (r : Int32) (u : gh) => u = g ∧ ((r.toInt = (lo9 p0.toInt.toNat : Int)))) (okb dC dI dA sz X Γ) (ty_A sz)) 0 0 (ty_A sz) := by
  refine Met.ofW (cc := cX5_leastOf) (maxL := 1) (ret := (Option.some Jvm.ClassFile.FieldType.int)) (by decide) rfl ?_
  intro p e s m args below meth c s₁ B hml hv
  obtain ⟨rfl, hG, hE⟩ := hv
  have hx := B.exec
  have hb := B.bytes
  have hr := B.returns
  have hts := atoms_spec B.pre
  have hA : ∀ w ∈ AL, w.before _ s = true := fun w h => hts w (List.mem_cons_of_mem _ h)
  have hown : s.vm.findClass RX5 = some m.cls := findClass_of_methodNamed B.named
  have hlocks := B.notSynchronized
  have hS : va_S (ty_A sz) s.heap s.heap [] := va_S.rf
  have hl := lv_entry ([.int p0]) (n := 1) (Nat.le_of_ble_eq_true rfl)
  rw [lg_entry_eq]
  generalize (lg_sl ([.int p0]) ++ List.replicate (1 - (lg_sl ([.int p0])).length) Slot.unset).toArray = ls at hl ⊢
  have hl : lv_has ls 1 [(0, .int p0)] := hl
  refine lv_iload_n hx hb dX5_leastOf_0 rfl (lv_at hl 0 rfl) ?_
  refine lv_iload_n hx hb dX5_leastOf_1 rfl (lv_at hl 0 rfl) ?_
  refine lv_ineg hx hb dX5_leastOf_2 ?_
  refine lv_topi (fun x1 h2 => ?_)
  refine ty_iand hx hb dX5_leastOf_3 (fun x3 h4 => ?_)
  refine ty_iconst hx hb (1) dX5_leastOf_4 (by decide) (fun x5 h6 => ?_)
  refine ty_isub hx hb dX5_leastOf_5 (fun x7 h8 => ?_)
  try have h9 : x7.toInt = x3.toInt - x5.toInt := ty_sub h8 (by omega) (by omega)
  have hlo9 := lo_c h2 h4 h8 (show x5.toInt = 1 by omega) (by omega)
  refine cI (va_runS (As := [.int x7]) (rest := []) ⟨hx, hb, hml, hown, hA⟩ (k_bitCount l dC dI dA sz X Γ hU g x7   (hlo9.1)) ⟨callB_of 1 hA (al_A wd_3_145) rfl rfl rfl (hA _ wd_1_17) (hA _ wd_3_143) (by decide +kernel) ⟨Nat.le_of_ble_eq_true rfl, Nat.le_of_ble_eq_true rfl⟩, hA _ wd_3_144⟩ ⟨bl, fun U hU9 hW9 => ⟨rfl, by rw [hU9]; exact hG, hE.go hS hU9 hW9⟩⟩ rfl rfl hl.1 rfl (lv_room (Nat.le_of_ble_eq_true rfl)) dX5_leastOf_6 ⟨Nat.zero_le _, Nat.zero_le _⟩) hS (fun x12 u10 H locs w11 hG hS => ?_)
  obtain ⟨eu13, w11⟩ := w11
  rw [eu13] at hG
  have hbr9 := bcz_rg x7.toInt.toNat (by omega)
  exact W.iret (v := x12) hx hb hr (fun t ht hW => ⟨⟨x12, g, rfl, ⟨rfl, (w11.trans hlo9.2)⟩, ok1 ht hG⟩, hS.F ht⟩) hS.2.2 dX5_leastOf_9

set_option maxHeartbeats 4000000 in
set_option maxRecDepth 100000 in
/-- WeekBank$RingSearch.forgetBefore:  -/
theorem k_X5_forgetBefore (l : Launch) (dC : Nat → ClassId) (dI : Nat → Nat → Nat) (dA : Nat → ClassId) (sz : Nat) (X : va_W) (Γ : ty_G) (hU : Un Γ) (g : gh) (h0 : Nat) (t_h0 : ty Γ h0 8) (p1 : Int32) (hf : 1 ≤ p1.toInt ∧ p1.toInt ≤ 512) : Met l yX5_forgetBefore (.code yX5_forgetBefore cX5_forgetBefore 3 (Option.none : Option Jvm.ClassFile.FieldType) :: AL) ({ frames := 0, cells := 0, slots := 0, locals := 0 }) (PCx dC dI dA sz X Γ g [.ref h0, .int p1]) (va_Qv (fun (u : gh) => (∀ c j : Nat, c ≠ 84 → c ≠ 85 → u c j = g c j) ∧ (u 84 = fz (g 84) 0 dp_N (9 * p1.toInt.toNat)) ∧ (u 85 = fz (g 85) 0 dp_N p1.toInt.toNat)) (okb dC dI dA sz X Γ) (ty_A sz)) 0 0 (ty_A sz) := by
  refine Met.ofW (cc := cX5_forgetBefore) (maxL := 3) (ret := (Option.none : Option Jvm.ClassFile.FieldType)) (by decide) rfl ?_
  intro p e s m args below meth c s₁ B hml hv
  obtain ⟨rfl, hG, hE⟩ := hv
  have hx := B.exec
  have hb := B.bytes
  have hr := B.returns
  have hts := atoms_spec B.pre
  have hA : ∀ w ∈ AL, w.before _ s = true := fun w h => hts w (List.mem_cons_of_mem _ h)
  have hown : s.vm.findClass RX5 = some m.cls := findClass_of_methodNamed B.named
  have hlocks := B.notSynchronized
  have hS : va_S (ty_A sz) s.heap s.heap [] := va_S.rf
  have hl := lv_entry ([.ref h0, .int p1]) (n := 3) (Nat.le_of_ble_eq_true rfl)
  rw [lg_entry_eq]
  generalize (lg_sl ([.ref h0, .int p1]) ++ List.replicate (3 - (lg_sl ([.ref h0, .int p1])).length) Slot.unset).toArray = ls at hl ⊢
  have hl : lv_has ls 3 [(0, .ref h0), (1, .int p1)] := hl
  refine ty_iconst hx hb (0) dX5_forgetBefore_0 (by decide) (fun x1 h2 => ?_)
  refine lv_istore_n (lv' := [(2, .int x1), (0, .ref h0), (1, .int p1)]) hx hb dX5_forgetBefore_1 rfl hl (by decide) rfl (fun ls hl => ?_)
  have L_2 : ∀ (n : Nat) (v2_2 : Int32) (g3 : gh) (H : Heap) (locs : List Loc) (ls : Array Slot), (9 * p1.toInt - v2_2.toInt : Int) < n → 0 ≤ v2_2.toInt ∧ v2_2.toInt ≤ 9 * p1.toInt → (∀ c j : Nat, c ≠ 84 → g3 c j = g c j) → (g3 84 = fz (g 84) 0 dp_N v2_2.toInt.toNat) → ty_ok (dC, dI) vwCl Γ (TP dA Γ g3) sz X H → va_S (ty_A sz) s.heap H locs → lv_has ls 3 [(2, .int v2_2), (0, .ref h0), (1, .int p1)] → W p l e (headSpec (.code yX5_forgetBefore cX5_forgetBefore 3 (Option.none : Option Jvm.ClassFile.FieldType) :: AL) ({ frames := 0, cells := 0, slots := 0, locals := 0 })).room s m ([.ref h0, .int p1] : List Value).toArray below meth c H locs 0 0 (MQ below (va_Qv (fun (u : gh) => (∀ c j : Nat, c ≠ 84 → c ≠ 85 → u c j = g c j) ∧ (u 84 = fz (g 84) 0 dp_N (9 * p1.toInt.toNat)) ∧ (u 85 = fz (g 85) 0 dp_N p1.toInt.toNat)) (okb dC dI dA sz X Γ) (ty_A sz)) ([.ref h0, .int p1] : List Value).toArray s 0 0 (ty_A sz)) (F0 m 2 ls []) := by
    intro n
    induction n with
    | zero => intro v2_2 g3 H locs ls hm hi0 hf4 ha0 hG hS hl; exfalso; omega
    | succ n ih_2 =>
      intro v2_2 g3 H locs ls hm hi0 hf4 ha0 hG hS hl
      refine lv_iload_n hx hb dX5_forgetBefore_2 rfl (lv_at hl 0 rfl) ?_
      refine lv_iload_n hx hb dX5_forgetBefore_3 rfl (lv_at hl 2 rfl) ?_
      refine ty_bipush hx hb (9) dX5_forgetBefore_4 (by decide) (fun x5 h6 => ?_)
      refine ty_imul hx hb dX5_forgetBefore_6 (fun x7 h8 => ?_)
      try have h9 : x7.toInt = p1.toInt * 9 := ty_mulr h8 (by omega) (by omega) (by omega)
      refine ty_icmp_ge (tgt := 24) hx hb dX5_forgetBefore_7 (by decide) (fun c10 => ?_) (fun c10 => ?_)
      · skip
        refine ty_iconst hx hb (0) dX5_forgetBefore_24 (by decide) (fun x11 h12 => ?_)
        refine lv_istore_n (lv' := [(2, .int x11), (0, .ref h0), (1, .int p1)]) hx hb dX5_forgetBefore_25 rfl hl (by decide) rfl (fun ls hl => ?_)
        have L_26 : ∀ (n : Nat) (v2_26 : Int32) (g13 : gh) (H : Heap) (locs : List Loc) (ls : Array Slot), (p1.toInt - v2_26.toInt : Int) < n → 0 ≤ v2_26.toInt ∧ v2_26.toInt ≤ p1.toInt → (∀ c j : Nat, c ≠ 85 → g13 c j = g3 c j) → (g13 85 = fz (g 85) 0 dp_N v2_26.toInt.toNat) → ty_ok (dC, dI) vwCl Γ (TP dA Γ g13) sz X H → va_S (ty_A sz) s.heap H locs → lv_has ls 3 [(2, .int v2_26), (0, .ref h0), (1, .int p1)] → W p l e (headSpec (.code yX5_forgetBefore cX5_forgetBefore 3 (Option.none : Option Jvm.ClassFile.FieldType) :: AL) ({ frames := 0, cells := 0, slots := 0, locals := 0 })).room s m ([.ref h0, .int p1] : List Value).toArray below meth c H locs 0 0 (MQ below (va_Qv (fun (u : gh) => (∀ c j : Nat, c ≠ 84 → c ≠ 85 → u c j = g c j) ∧ (u 84 = fz (g 84) 0 dp_N (9 * p1.toInt.toNat)) ∧ (u 85 = fz (g 85) 0 dp_N p1.toInt.toNat)) (okb dC dI dA sz X Γ) (ty_A sz)) ([.ref h0, .int p1] : List Value).toArray s 0 0 (ty_A sz)) (F0 m 26 ls []) := by
          intro n
          induction n with
          | zero => intro v2_26 g13 H locs ls hm hi0 hf14 hq0 hG hS hl; exfalso; omega
          | succ n ih_26 =>
            intro v2_26 g13 H locs ls hm hi0 hf14 hq0 hG hS hl
            refine lv_iload_n hx hb dX5_forgetBefore_26 rfl (lv_at hl 0 rfl) ?_
            refine lv_iload_n hx hb dX5_forgetBefore_27 rfl (lv_at hl 2 rfl) ?_
            refine ty_icmp_ge (tgt := 45) hx hb dX5_forgetBefore_28 (by decide) (fun c15 => ?_) (fun c15 => ?_)
            · skip
              exact W.vret hx hb hr (fun t ht hW => ⟨⟨g13, rfl, ⟨(fun c j h84 h85 => by rw [hf14 c j h85, hf4 c j h84]), (by rw [(show g13 84 = g3 84 from funext fun j => hf14 84 j (by decide)), ha0, show v2_2.toInt.toNat = 9 * p1.toInt.toNat by omega]), (by rw [hq0, show v2_26.toInt.toNat = p1.toInt.toNat by omega])⟩, ok1 ht hG⟩, hS.F ht⟩) hS.2.2 dX5_forgetBefore_45
            · skip
              refine lv_aload_n hx hb dX5_forgetBefore_31 rfl (lv_at hl 1 rfl) ?_
              refine get_X5_4 hx hb hA hown hE hG t_h0 wd_1_111 dX5_forgetBefore_32 (fun b16 (t_b16 : ty Γ b16 22) => ?_)
              refine lv_iload_n hx hb dX5_forgetBefore_35 rfl (lv_at hl 0 rfl) ?_
              refine ty_ldc hx hb (2147483647) hown (hA _ wd_3_135) dX5_forgetBefore_36 (by decide) (fun x17 h18 => ?_)
              refine ast_22 hx hb hE hG hS hU t_b16 (by omega) dX5_forgetBefore_38 (fun H locs hG hS => ?_)
              obtain ⟨x19, h20⟩ : ∃ y : Int32, y = v2_26 + Int32.ofInt (1) := ⟨_, rfl⟩
              try have h21 : x19.toInt = v2_26.toInt + (1) := ty_inc h20 (by decide) (by omega) (by omega)
              refine lv_iinc (v := x19) (lv' := [(2, .int x19), (0, .ref h0), (1, .int p1)]) hx hb dX5_forgetBefore_39 hl (k := 0) rfl h20.symm (by decide) rfl (fun ls hl => ?_)
              refine lv_goto (tgt := 26) hx hb dX5_forgetBefore_42 (by decide) ?_
              exact ih_26 x19 (gs g13 85 (v2_26.toInt.toNat) x17.toInt) _ _ ls (by omega) (by omega) (fun c j h85 => by rw [gs_c _ _ _ _ h85, hf14 c j h85]) (by rw [pz_gs]; exact fz_s hq0 (by omega) (by omega) (by unfold dp_N; omega)) hG hS (lv_sub hl [0, 1, 2] rfl)
        exact L_26 ((p1.toInt - x11.toInt) + 1).toNat x11 g3 _ _ ls (by omega) (by omega) (fun c j _ => rfl) (by rw [(show g3 85 = g 85 from funext fun j => hf4 85 j (by decide))]; exact fz_0 (by omega)) hG hS (lv_sub hl [0, 1, 2] rfl)
      · skip
        refine lv_aload_n hx hb dX5_forgetBefore_10 rfl (lv_at hl 1 rfl) ?_
        refine get_X5_3 hx hb hA hown hE hG t_h0 wd_1_110 dX5_forgetBefore_11 (fun b22 (t_b22 : ty Γ b22 21) => ?_)
        refine lv_iload_n hx hb dX5_forgetBefore_14 rfl (lv_at hl 0 rfl) ?_
        refine ty_ldc hx hb (2147483647) hown (hA _ wd_3_135) dX5_forgetBefore_15 (by decide) (fun x23 h24 => ?_)
        refine ast_21 hx hb hE hG hS hU t_b22 (by omega) dX5_forgetBefore_17 (fun H locs hG hS => ?_)
        obtain ⟨x25, h26⟩ : ∃ y : Int32, y = v2_2 + Int32.ofInt (1) := ⟨_, rfl⟩
        try have h27 : x25.toInt = v2_2.toInt + (1) := ty_inc h26 (by decide) (by omega) (by omega)
        refine lv_iinc (v := x25) (lv' := [(2, .int x25), (0, .ref h0), (1, .int p1)]) hx hb dX5_forgetBefore_18 hl (k := 0) rfl h26.symm (by decide) rfl (fun ls hl => ?_)
        refine lv_goto (tgt := 2) hx hb dX5_forgetBefore_21 (by decide) ?_
        exact ih_2 x25 (gs g3 84 (v2_2.toInt.toNat) x23.toInt) _ _ ls (by omega) (by omega) (fun c j h84 => by rw [gs_c _ _ _ _ h84, hf4 c j h84]) (by rw [pz_gs]; exact fz_s ha0 (by omega) (by omega) (by unfold dp_N; omega)) hG hS (lv_sub hl [0, 1, 2] rfl)
  exact L_2 ((9 * p1.toInt - x1.toInt) + 1).toNat x1 g _ _ ls (by omega) (by omega) (fun c j _ => rfl) (fz_0 (by omega)) hG hS (lv_sub hl [0, 1, 2] rfl)

set_option maxHeartbeats 4000000 in
set_option maxRecDepth 100000 in
/-- WeekBank$RingSearch.lengthen:  -/
theorem k_X5_lengthen (l : Launch) (dC : Nat → ClassId) (dI : Nat → Nat → Nat) (dA : Nat → ClassId) (sz : Nat) (X : va_W) (Γ : ty_G) (hU : Un Γ) (g : gh) (h0 : Nat) (t_h0 : ty Γ h0 8) (p1 : Int32) (p2 : Int32) (p3 : Int32) (hs : 0 ≤ g 7 0 ∧ g 7 0 ≤ 9) (hf : 0 ≤ p1.toInt ∧ p1.toInt ≤ 511 ∧ 0 ≤ p2.toInt ∧ p2.toInt ≤ 8 ∧ 0 ≤ p3.toInt ∧ p3.toInt ≤ 8) (hR : 0 ≤ g 83 p3.toInt.toNat ∧ g 83 p3.toInt.toNat ≤ 511) (hV : 0 ≤ g 84 (p1.toInt.toNat * 9 + p3.toInt.toNat) ∧ g 84 (p1.toInt.toNat * 9 + p3.toInt.toNat) ≤ 888888888) : Met l yX5_lengthen (.code yX5_lengthen cX5_lengthen 8 (Option.none : Option Jvm.ClassFile.FieldType) :: AL) ({ frames := 1, cells := 0, slots := 0, locals := 21 }) (PCx dC dI dA sz X Γ g [.ref h0, .int p1, .int p2, .int p3]) (va_Qv (fun (u : gh) => (∀ c j : Nat, c ≠ 84 → u c j = g c j) ∧ (u 84 = dd_le (fun x y => ((g 83) x).toNat.testBit y) (g 84) p1.toInt.toNat p2.toInt.toNat p3.toInt.toNat ((g 84) (p1.toInt.toNat * 9 + p3.toInt.toNat)) (g 7 0).toNat)) (okb dC dI dA sz X Γ) (ty_A sz)) 0 0 (ty_A sz) := by
  refine Met.ofW (cc := cX5_lengthen) (maxL := 8) (ret := (Option.none : Option Jvm.ClassFile.FieldType)) (by decide) rfl ?_
  intro p e s m args below meth c s₁ B hml hv
  obtain ⟨rfl, hG, hE⟩ := hv
  have hx := B.exec
  have hb := B.bytes
  have hr := B.returns
  have hts := atoms_spec B.pre
  have hA : ∀ w ∈ AL, w.before _ s = true := fun w h => hts w (List.mem_cons_of_mem _ h)
  have hown : s.vm.findClass RX5 = some m.cls := findClass_of_methodNamed B.named
  have hlocks := B.notSynchronized
  have hS : va_S (ty_A sz) s.heap s.heap [] := va_S.rf
  have hES := hE.2.1.2.2.2.2.2.2
  have hl := lv_entry ([.ref h0, .int p1, .int p2, .int p3]) (n := 8) (Nat.le_of_ble_eq_true rfl)
  rw [lg_entry_eq]
  generalize (lg_sl ([.ref h0, .int p1, .int p2, .int p3]) ++ List.replicate (8 - (lg_sl ([.ref h0, .int p1, .int p2, .int p3])).length) Slot.unset).toArray = ls at hl ⊢
  have hl : lv_has ls 8 [(0, .ref h0), (1, .int p1), (2, .int p2), (3, .int p3)] := hl
  refine lv_aload_n hx hb dX5_lengthen_0 rfl (lv_at hl 0 rfl) ?_
  refine get_X5_3 hx hb hA hown hE hG t_h0 wd_1_110 dX5_lengthen_1 (fun b1 (t_b1 : ty Γ b1 21) => ?_)
  refine lv_iload_n hx hb dX5_lengthen_4 rfl (lv_at hl 1 rfl) ?_
  refine ty_bipush hx hb (9) dX5_lengthen_5 (by decide) (fun x2 h3 => ?_)
  refine ty_imul hx hb dX5_lengthen_7 (fun x4 h5 => ?_)
  try have h6 : x4.toInt = p1.toInt * 9 := ty_mulr h5 (by omega) (by omega) (by omega)
  refine lv_iload_n hx hb dX5_lengthen_8 rfl (lv_at hl 3 rfl) ?_
  refine ty_iadd hx hb dX5_lengthen_9 (fun x7 h8 => ?_)
  try have h9 : x7.toInt = x4.toInt + p3.toInt := ty_add h8 (by omega) (by omega)
  refine ald_21 hx hb hE hG t_b1 (by omega) dX5_lengthen_10 (fun j11 x10 h12 h13 => ?_)
  obtain rfl : j11 = x7.toInt.toNat := by omega
  rw [show x7.toInt.toNat = (p1.toInt.toNat * 9 + p3.toInt.toNat) by omega] at h13
  refine lv_istore (lv' := [(4, .int x10), (0, .ref h0), (1, .int p1), (2, .int p2), (3, .int p3)]) hx hb dX5_lengthen_11 hl (by decide) rfl (fun ls hl => ?_)
  refine lv_aload_n hx hb dX5_lengthen_13 rfl (lv_at hl 1 rfl) ?_
  refine get_X5_2 hx hb hA hown hE hG t_h0 wd_1_109 dX5_lengthen_14 (fun b14 (t_b14 : ty Γ b14 20) => ?_)
  refine lv_iload_n hx hb dX5_lengthen_17 rfl (lv_at hl 4 rfl) ?_
  refine ald_20 hx hb hE hG t_b14 (by omega) dX5_lengthen_18 (fun j16 x15 h17 h18 => ?_)
  obtain rfl : j16 = p3.toInt.toNat := by omega
  refine lv_iload_n hx hb dX5_lengthen_19 rfl (lv_at hl 2 rfl) ?_
  refine ty_iconst hx hb (-1) dX5_lengthen_20 (by decide) (fun x19 h20 => ?_)
  refine ty_ixor hx hb dX5_lengthen_21 (fun x21 h22 => ?_)
  refine ty_iand hx hb dX5_lengthen_22 (fun x23 h24 => ?_)
  have hop9 := sd_c h22 h24 (by omega) (by omega) (by omega)
  rw [show x15.toInt.toNat = (g 83 p3.toInt.toNat).toNat by omega] at hop9
  have hsl9 := sd_lt (s := (g 83 p3.toInt.toNat).toNat) (r := p1.toInt.toNat) (by omega)
  refine lv_istore (lv' := [(5, .int x23), (4, .int x10), (0, .ref h0), (1, .int p1), (2, .int p2), (3, .int p3)]) hx hb dX5_lengthen_23 hl (by decide) rfl (fun ls hl => ?_)
  refine lv_iload_n hx hb dX5_lengthen_25 rfl (lv_at hl 4 rfl) ?_
  refine ty_iconst hx hb (1) dX5_lengthen_26 (by decide) (fun x25 h26 => ?_)
  refine ty_iadd hx hb dX5_lengthen_27 (fun x27 h28 => ?_)
  try have h29 : x27.toInt = p2.toInt + x25.toInt := ty_add h28 (by omega) (by omega)
  refine lv_istore (lv' := [(6, .int x27), (5, .int x23), (4, .int x10), (0, .ref h0), (1, .int p1), (2, .int p2), (3, .int p3)]) hx hb dX5_lengthen_28 hl (by decide) rfl (fun ls hl => ?_)
  have L_30 : ∀ (n : Nat) (v6_30 : Int32) (g30 : gh) (H : Heap) (locs : List Loc) (ls : Array Slot), (65 - v6_30.toInt : Int) < n → 0 ≤ v6_30.toInt ∧ v6_30.toInt ≤ 64 ∧ p2.toInt + 1 ≤ v6_30.toInt ∧ (v6_30.toInt ≤ g 7 0 ∨ v6_30.toInt = p2.toInt + 1) → (∀ c j : Nat, c ≠ 84 → g30 c j = g c j) → (g30 84 = dd_le (fun x y => ((g 83) x).toNat.testBit y) (g 84) p1.toInt.toNat p2.toInt.toNat p3.toInt.toNat ((g 84) (p1.toInt.toNat * 9 + p3.toInt.toNat)) v6_30.toInt.toNat) → ty_ok (dC, dI) vwCl Γ (TP dA Γ g30) sz X H → va_S (ty_A sz) s.heap H locs → lv_has ls 8 [(6, .int v6_30), (5, .int x23), (4, .int x10), (0, .ref h0), (1, .int p1), (2, .int p2), (3, .int p3)] → W p l e (headSpec (.code yX5_lengthen cX5_lengthen 8 (Option.none : Option Jvm.ClassFile.FieldType) :: AL) ({ frames := 1, cells := 0, slots := 0, locals := 21 })).room s m ([.ref h0, .int p1, .int p2, .int p3] : List Value).toArray below meth c H locs 0 0 (MQ below (va_Qv (fun (u : gh) => (∀ c j : Nat, c ≠ 84 → u c j = g c j) ∧ (u 84 = dd_le (fun x y => ((g 83) x).toNat.testBit y) (g 84) p1.toInt.toNat p2.toInt.toNat p3.toInt.toNat ((g 84) (p1.toInt.toNat * 9 + p3.toInt.toNat)) (g 7 0).toNat)) (okb dC dI dA sz X Γ) (ty_A sz)) ([.ref h0, .int p1, .int p2, .int p3] : List Value).toArray s 0 0 (ty_A sz)) (F0 m 30 ls []) := by
    intro n
    induction n with
    | zero => intro v6_30 g30 H locs ls hm hi0 hf31 hq0 hG hS hl; exfalso; omega
    | succ n ih_30 =>
      intro v6_30 g30 H locs ls hm hi0 hf31 hq0 hG hS hl
      refine lv_iload hx hb dX5_lengthen_30 (lv_at hl 0 rfl) ?_
      refine lv_aload_n hx hb dX5_lengthen_32 rfl (lv_at hl 3 rfl) ?_
      refine get_X5_1 hx hb hA hown hE hG t_h0 wd_1_108 dX5_lengthen_33 (fun x32 h33 => ?_)
      have hk35 : g30 7 0 = g 7 0 := hf31 7 0 (by decide)
      refine ty_icmp_ge (tgt := 97) hx hb dX5_lengthen_36 (by decide) (fun c36 => ?_) (fun c36 => ?_)
      · skip
        exact W.vret hx hb hr (fun t ht hW => ⟨⟨g30, rfl, ⟨(fun c j h84 => by rw [hf31 c j h84]), (by rw [hq0]; by_cases h9 : v6_30.toInt = g 7 0; (rw [show v6_30.toInt.toNat = (g 7 0).toNat by omega]); (rw [dd_le_0 _ (by omega), dd_le_0 _ (by omega)]))⟩, ok1 ht hG⟩, hS.F ht⟩) hS.2.2 dX5_lengthen_97
      · skip
        refine lv_iload hx hb dX5_lengthen_39 (lv_at hl 1 rfl) ?_
        refine lv_iload hx hb dX5_lengthen_41 (lv_at hl 0 rfl) ?_
        refine cI (va_runS (As := [.int x23, .int v6_30]) (rest := []) ⟨hx, hb, hml, hown, hA⟩ (k_X5_has l dC dI dA sz X Γ hU g30 x23 v6_30   (by omega)) ⟨callB_of 2 hA (al_A wd_3_151) rfl rfl rfl (hA _ wd_1_5) (hA _ wd_3_149) (by decide +kernel) ⟨Nat.le_of_ble_eq_true rfl, Nat.le_of_ble_eq_true rfl⟩, hA _ wd_3_150⟩ ⟨bl, fun U hU9 hW9 => ⟨rfl, by rw [hU9]; exact hG, hE.go hS hU9 hW9⟩⟩ rfl rfl hl.1 rfl (lv_room (Nat.le_of_ble_eq_true rfl)) dX5_lengthen_43 ⟨Nat.zero_le _, Nat.zero_le _⟩) hS (fun x39 u37 H locs w38 hG hS => ?_)
        obtain ⟨eu40, w38⟩ := w38
        rw [eu40] at hG
        have htz9 := tbz_01 x23.toInt v6_30.toInt
        refine ty_if_eq (tgt := 91) hx hb dX5_lengthen_46 (by decide) (fun c41 => ?_) (fun c41 => ?_)
        · skip
          obtain ⟨x42, h43⟩ : ∃ y : Int32, y = v6_30 + Int32.ofInt (1) := ⟨_, rfl⟩
          try have h44 : x42.toInt = v6_30.toInt + (1) := ty_inc h43 (by decide) (by omega) (by omega)
          refine lv_iinc (v := x42) (lv' := [(6, .int x42), (5, .int x23), (4, .int x10), (0, .ref h0), (1, .int p1), (2, .int p2), (3, .int p3)]) hx hb dX5_lengthen_91 hl (k := 0) rfl h43.symm (by decide) rfl (fun ls hl => ?_)
          refine lv_goto (tgt := 30) hx hb dX5_lengthen_94 (by decide) ?_
          exact ih_30 x42 g30 _ _ ls (by omega) (by omega) (fun c j h84 => by rw [hf31 c j h84]) (by rw [hq0, show x42.toInt.toNat = v6_30.toInt.toNat + 1 by omega]; exact (dd_le_n (su := (fun x y => ((g 83) x).toNat.testBit y)) (x := p3.toInt.toNat) (fun q => sd_no (z := x23.toInt) (i := v6_30.toInt) (by omega) hop9 ⟨q.2.1, q.2.2⟩)).symm) hG hS (lv_sub hl [0, 1, 2, 3, 4, 5, 6] rfl)
        · skip
          refine lv_iload_n hx hb dX5_lengthen_49 rfl (lv_at hl 4 rfl) ?_
          refine ty_iconst hx hb (1) dX5_lengthen_50 (by decide) (fun x45 h46 => ?_)
          refine lv_iload hx hb dX5_lengthen_51 (lv_at hl 0 rfl) ?_
          refine lv_ishl hx hb dX5_lengthen_53 ?_
          refine lv_topi (fun x47 h48 => ?_)
          have h49 := shl_pw h48 (by omega) (by omega) (by omega)
          refine ty_ior hx hb dX5_lengthen_54 (fun x50 h51 => ?_)
          have hpn9 := pw_n (z := v6_30.toInt)
          have hp8 := p2_le8 (z := v6_30.toInt.toNat) (by omega)
          have hor9 := or_n (a := p1.toInt.toNat) (b := 2 ^ v6_30.toInt.toNat) h51 (by omega) (by omega) (by omega) (by omega)
          have hol9 : (p1.toInt.toNat ||| 2 ^ v6_30.toInt.toNat) < 512 := Nat.or_lt_two_pow (n := 9) (by omega) (by omega)
          refine ty_bipush hx hb (9) dX5_lengthen_55 (by decide) (fun x52 h53 => ?_)
          refine ty_imul hx hb dX5_lengthen_57 (fun x54 h55 => ?_)
          try have h56 : x54.toInt = x50.toInt * 9 := ty_mulr h55 (by omega) (by omega) (by omega)
          refine lv_iload hx hb dX5_lengthen_58 (lv_at hl 0 rfl) ?_
          refine ty_iadd hx hb dX5_lengthen_60 (fun x57 h58 => ?_)
          try have h59 : x57.toInt = x54.toInt + v6_30.toInt := ty_add h58 (by omega) (by omega)
          refine lv_istore (lv' := [(7, .int x57), (6, .int v6_30), (5, .int x23), (4, .int x10), (0, .ref h0), (1, .int p1), (2, .int p2), (3, .int p3)]) hx hb dX5_lengthen_61 hl (by decide) rfl (fun ls hl => ?_)
          refine lv_aload_n hx hb dX5_lengthen_63 rfl (lv_at hl 4 rfl) ?_
          refine get_X5_3 hx hb hA hown hE hG t_h0 wd_1_110 dX5_lengthen_64 (fun b60 (t_b60 : ty Γ b60 21) => ?_)
          refine lv_iload hx hb dX5_lengthen_67 (lv_at hl 0 rfl) ?_
          refine lv_aload_n hx hb dX5_lengthen_69 rfl (lv_at hl 4 rfl) ?_
          refine get_X5_3 hx hb hA hown hE hG t_h0 wd_1_110 dX5_lengthen_70 (fun b61 (t_b61 : ty Γ b61 21) => ?_)
          refine lv_iload hx hb dX5_lengthen_73 (lv_at hl 0 rfl) ?_
          refine ald_21 hx hb hE hG t_b61 (by omega) dX5_lengthen_75 (fun j63 x62 h64 h65 => ?_)
          obtain rfl : j63 = x57.toInt.toNat := by omega
          rw [show x57.toInt.toNat = ((p1.toInt.toNat ||| 2 ^ v6_30.toInt.toNat) * 9 + v6_30.toInt.toNat) by omega] at h65
          refine lv_iload hx hb dX5_lengthen_76 (lv_at hl 3 rfl) ?_
          refine lv_iload hx hb dX5_lengthen_78 (lv_at hl 1 rfl) ?_
          refine va_gets hx hb hES.2.2.2.1 hS hown (hA _ wd_3_152) (fun _ h => h) dX5_lengthen_80 ?_
          refine lv_iload_n hx hb dX5_lengthen_83 rfl (lv_at hl 7 rfl) ?_
          refine va_ti hx hb hES.2.2.2.2 hS (i := p3) (ty_ix (by omega)) rfl dX5_lengthen_84 ?_
          refine lv_topi (fun x66 h67 => ?_)
          replace h67 : x66.toInt = dp_D p3.toInt.toNat := dW_ix h67 (by omega)
          refine ty_imul hx hb dX5_lengthen_85 (fun x68 h69 => ?_)
          have h70 := mulD h69 h67 (by omega)
          have h71 := mulDr v6_30.toInt p3.toInt.toNat (by omega)
          refine ty_iadd hx hb dX5_lengthen_86 (fun x72 h73 => ?_)
          try have h74 : x72.toInt = x10.toInt + x68.toInt := ty_add h73 (by omega) (by omega)
          refine va_mmin hx hb (hml.trans hl.1.symm) hown (hA _ wd_3_154) (hA _ wd_2_239) (hA _ wd_1_14) (hA _ wd_3_0) (Nat.le_of_ble_eq_true rfl) (Nat.le_of_ble_eq_true rfl) (Nat.zero_le _) (Nat.zero_le _) dX5_lengthen_87 ?_
          refine lv_topi (fun x75 h76 => ?_)
          have h76 : x75.toInt = if x72.toInt < x62.toInt then x72.toInt else x62.toInt := by rw [h76]; simp only [ty_lt32]; split <;> rfl
          refine ast_21 hx hb hE hG hS hU t_b60 (by omega) dX5_lengthen_90 (fun H locs hG hS => ?_)
          rw [show x57.toInt.toNat = ((p1.toInt.toNat ||| 2 ^ v6_30.toInt.toNat) * 9 + v6_30.toInt.toNat) by omega] at hG
          obtain ⟨x77, h78⟩ : ∃ y : Int32, y = v6_30 + Int32.ofInt (1) := ⟨_, rfl⟩
          try have h79 : x77.toInt = v6_30.toInt + (1) := ty_inc h78 (by decide) (by omega) (by omega)
          refine lv_iinc (v := x77) (lv' := [(6, .int x77), (7, .int x57), (5, .int x23), (4, .int x10), (0, .ref h0), (1, .int p1), (2, .int p2), (3, .int p3)]) hx hb dX5_lengthen_91 hl (k := 1) rfl h78.symm (by decide) rfl (fun ls hl => ?_)
          refine lv_goto (tgt := 30) hx hb dX5_lengthen_94 (by decide) ?_
          exact ih_30 x77 (gs g30 84 ((p1.toInt.toNat ||| 2 ^ v6_30.toInt.toNat) * 9 + v6_30.toInt.toNat) x75.toInt) _ _ ls (by omega) (by omega) (fun c j h84 => by rw [gs_c _ _ _ _ h84, hf31 c j h84]) (by rw [pz_gs]; have hy9 := sd_y (z := x23.toInt) (i := v6_30.toInt) (by omega) hop9; rw [hq0, show x77.toInt.toNat = v6_30.toInt.toNat + 1 by omega, dd_le_y (su := (fun x y => ((g 83) x).toNat.testBit y)) (x := p3.toInt.toNat) ⟨by omega, hy9.1, hy9.2⟩]; refine pz_upc rfl ?_; rw [show (((v6_30.toInt.toNat : Nat)) : Int) = v6_30.toInt by omega, ← hq0]; omega) hG hS (lv_sub hl [0, 2, 3, 4, 5, 6, 7] rfl)
  exact L_30 ((65 - x27.toInt) + 1).toNat x27 g _ _ ls (by omega) (by omega) (fun c j _ => rfl) ((dd_le_0 _ (by omega)).symm) hG hS (lv_sub hl [0, 1, 2, 3, 4, 5, 6] rfl)
