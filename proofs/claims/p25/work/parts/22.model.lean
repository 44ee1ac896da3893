set_option maxHeartbeats 4000000 in
set_option maxRecDepth 100000 in
/-- WeekBankModel.flat:  -/
theorem k_X9_flat (l : Launch) (dC : Nat → ClassId) (dI : Nat → Nat → Nat) (dA : Nat → ClassId) (sz : Nat) (X : va_W) (Γ : ty_G) (hU : Un Γ) (g : gh) (h0 : Nat) (t_h0 : ty Γ h0 30) (p1 : Int32) (p2 : Int32) (g1 : 0 ≤ g 101 0 ∧ g 101 0 ≤ 6) : Met l yX9_flat (.code yX9_flat cX9_flat 3 (Option.some Jvm.ClassFile.FieldType.int) :: AL) ({ frames := 1, cells := 0, slots := 0, locals := 22 }) (PCx dC dI dA sz X Γ g [.ref h0, .int p1, .int p2]) (va_Qi (fun (r : Int32) (u : gh) => (∀ c j : Nat, c ≠ 100 → c ≠ 101 → c ≠ 102 → c ≠ 103 → u c j = g c j) ∧ ((0 ≤ p1.toInt ∧ p1.toInt ≤ 3 ∧ 1 ≤ p2.toInt ∧ p2.toInt ≤ 4 ∧ g 101 0 < 6 → r.toInt = g 101 0 ∧ u 101 0 = g 101 0 + 1) ∧ (¬ (0 ≤ p1.toInt ∧ p1.toInt ≤ 3 ∧ 1 ≤ p2.toInt ∧ p2.toInt ≤ 4 ∧ g 101 0 < 6) → r.toInt = -1 ∧ u 101 0 = g 101 0)) ∧ (((0 ≤ p1.toInt ∧ p1.toInt ≤ 3 ∧ 1 ≤ p2.toInt ∧ p2.toInt ≤ 4 ∧ g 101 0 < 6) → u 102 = pz_up (g 102) (g 101 0).toNat p1.toInt ∧ u 103 = pz_up (g 103) (g 101 0).toNat p2.toInt) ∧ (¬ ((0 ≤ p1.toInt ∧ p1.toInt ≤ 3 ∧ 1 ≤ p2.toInt ∧ p2.toInt ≤ 4 ∧ g 101 0 < 6)) → u 102 = g 102 ∧ u 103 = g 103))) (okb dC dI dA sz X Γ) (ty_A sz)) 0 0 (ty_A sz) := by
  refine Met.ofW (cc := cX9_flat) (maxL := 3) (ret := (Option.some Jvm.ClassFile.FieldType.int)) (by decide) rfl ?_
  intro p e s m args below meth c s₁ B hml hv
  obtain ⟨rfl, hG, hE⟩ := hv
  have hx := B.exec
  have hb := B.bytes
  have hr := B.returns
  have hts := atoms_spec B.pre
  have hA : ∀ w ∈ AL, w.before _ s = true := fun w h => hts w (List.mem_cons_of_mem _ h)
  have hown : s.vm.findClass RX9 = some m.cls := findClass_of_methodNamed B.named
  have hlocks := B.notSynchronized
  have hS : va_S (ty_A sz) s.heap s.heap [] := va_S.rf
  have hl := lv_entry ([.ref h0, .int p1, .int p2]) (n := 3) (Nat.le_of_ble_eq_true rfl)
  rw [lg_entry_eq]
  generalize (lg_sl ([.ref h0, .int p1, .int p2]) ++ List.replicate (3 - (lg_sl ([.ref h0, .int p1, .int p2])).length) Slot.unset).toArray = ls at hl ⊢
  have hl : lv_has ls 3 [(0, .ref h0), (1, .int p1), (2, .int p2)] := hl
  refine lv_aload_n hx hb dX9_flat_0 rfl (lv_at hl 0 rfl) ?_
  refine ty_iconst hx hb (0) dX9_flat_1 (by decide) (fun x1 h2 => ?_)
  refine put_X9_0 hx hb hA hown hE hG hS hU t_h0 wd_4_130 dX9_flat_2 (fun H locs hG hS => ?_)
  refine lv_iload_n hx hb dX9_flat_5 rfl (lv_at hl 1 rfl) ?_
  refine ty_iconst hx hb (0) dX9_flat_6 (by decide) (fun x3 h4 => ?_)
  refine ty_iconst hx hb (3) dX9_flat_7 (by decide) (fun x5 h6 => ?_)
  refine cI (va_runS (As := [.int p1, .int x3, .int x5]) (rest := []) ⟨hx, hb, hml, hown, hA⟩ (k_X9_within l dC dI dA sz X Γ hU (gs g 100 0 x1.toInt) p1 x3 x5   ) ⟨callB_of 3 hA (al_A wd_5_38) rfl rfl rfl (hA _ wd_1_7) (hA _ wd_5_36) (by decide +kernel) ⟨Nat.le_of_ble_eq_true rfl, Nat.le_of_ble_eq_true rfl⟩, hA _ wd_5_37⟩ ⟨bl, fun U hU9 hW9 => ⟨rfl, by rw [hU9]; exact hG, hE.go hS hU9 hW9⟩⟩ rfl rfl hl.1 rfl (lv_room (Nat.le_of_ble_eq_true rfl)) dX9_flat_8 ⟨Nat.zero_le _, Nat.zero_le _⟩) hS (fun x9 u7 H locs w8 hG hS => ?_)
  obtain ⟨eu10, w8⟩ := w8
  rw [eu10] at hG
  refine ty_if_eq (tgt := 32) hx hb dX9_flat_11 (by decide) (fun c11 => ?_) (fun c11 => ?_)
  · skip
    refine ty_iconst hx hb (-1) dX9_flat_32 (by decide) (fun x12 h13 => ?_)
    have e14 : (gs g 100 0 x1.toInt) 101 0 = g 101 0 := by rw [gs_c _ _ _ _ (by decide)]
    exact W.iret (v := x12) hx hb hr (fun t ht hW => ⟨⟨x12, (gs g 100 0 x1.toInt), rfl, ⟨(fun c j h100 h101 h102 h103 => by rw [gs_c _ _ _ _ h100]), (by omega), (⟨fun q => absurd q (by omega), fun _ => ⟨(by rw [gs_r _ _ _ (by decide)]), (by rw [gs_r _ _ _ (by decide)])⟩⟩)⟩, ok1 ht hG⟩, hS.F ht⟩) hS.2.2 dX9_flat_33
  · skip
    refine lv_iload_n hx hb dX9_flat_14 rfl (lv_at hl 2 rfl) ?_
    refine ty_iconst hx hb (1) dX9_flat_15 (by decide) (fun x15 h16 => ?_)
    refine ty_iconst hx hb (4) dX9_flat_16 (by decide) (fun x17 h18 => ?_)
    refine cI (va_runS (As := [.int p2, .int x15, .int x17]) (rest := []) ⟨hx, hb, hml, hown, hA⟩ (k_X9_within l dC dI dA sz X Γ hU (gs g 100 0 x1.toInt) p2 x15 x17   ) ⟨callB_of 3 hA (al_A wd_5_38) rfl rfl rfl (hA _ wd_1_7) (hA _ wd_5_36) (by decide +kernel) ⟨Nat.le_of_ble_eq_true rfl, Nat.le_of_ble_eq_true rfl⟩, hA _ wd_5_37⟩ ⟨bl, fun U hU9 hW9 => ⟨rfl, by rw [hU9]; exact hG, hE.go hS hU9 hW9⟩⟩ rfl rfl hl.1 rfl (lv_room (Nat.le_of_ble_eq_true rfl)) dX9_flat_17 ⟨Nat.zero_le _, Nat.zero_le _⟩) hS (fun x21 u19 H locs w20 hG hS => ?_)
    obtain ⟨eu22, w20⟩ := w20
    rw [eu22] at hG
    refine ty_if_eq (tgt := 32) hx hb dX9_flat_20 (by decide) (fun c23 => ?_) (fun c23 => ?_)
    · skip
      refine ty_iconst hx hb (-1) dX9_flat_32 (by decide) (fun x24 h25 => ?_)
      have e26 : (gs g 100 0 x1.toInt) 101 0 = g 101 0 := by rw [gs_c _ _ _ _ (by decide)]
      exact W.iret (v := x24) hx hb hr (fun t ht hW => ⟨⟨x24, (gs g 100 0 x1.toInt), rfl, ⟨(fun c j h100 h101 h102 h103 => by rw [gs_c _ _ _ _ h100]), (by omega), (⟨fun q => absurd q (by omega), fun _ => ⟨(by rw [gs_r _ _ _ (by decide)]), (by rw [gs_r _ _ _ (by decide)])⟩⟩)⟩, ok1 ht hG⟩, hS.F ht⟩) hS.2.2 dX9_flat_33
    · skip
      refine lv_aload_n hx hb dX9_flat_23 rfl (lv_at hl 0 rfl) ?_
      refine get_X9_1 hx hb hA hown hE hG t_h0 wd_4_131 dX9_flat_24 (fun x27 h28 => ?_)
      replace h28 : x27.toInt = g 101 0 := by rw [h28, gs_c _ _ _ _ (by decide)]
      refine ty_bipush hx hb (6) dX9_flat_27 (by decide) (fun x30 h31 => ?_)
      refine ty_icmp_ne (tgt := 34) hx hb dX9_flat_29 (by decide) (fun c32 => ?_) (fun c32 => ?_)
      · skip
        refine lv_aload_n hx hb dX9_flat_34 rfl (lv_at hl 0 rfl) ?_
        refine get_X9_2 hx hb hA hown hE hG t_h0 wd_4_132 dX9_flat_35 (fun b33 (t_b33 : ty Γ b33 102) => ?_)
        refine lv_aload_n hx hb dX9_flat_38 rfl (lv_at hl 0 rfl) ?_
        refine get_X9_1 hx hb hA hown hE hG t_h0 wd_4_131 dX9_flat_39 (fun x34 h35 => ?_)
        replace h35 : x34.toInt = g 101 0 := by rw [h35, gs_c _ _ _ _ (by decide)]
        refine lv_iload_n hx hb dX9_flat_42 rfl (lv_at hl 1 rfl) ?_
        refine ast_mI hx hb hE hG hS hU 2 rfl (n := 6) rfl (lo := -2147483648) (hi := 2147483647) rfl rfl rfl t_b33 (rgD _) (by omega) dX9_flat_43 (fun H locs hG hS => ?_)
        rw [show x34.toInt.toNat = ((g 101 0).toNat) by omega] at hG
        refine lv_aload_n hx hb dX9_flat_44 rfl (lv_at hl 0 rfl) ?_
        refine get_X9_3 hx hb hA hown hE hG t_h0 wd_4_133 dX9_flat_45 (fun b37 (t_b37 : ty Γ b37 103) => ?_)
        refine lv_aload_n hx hb dX9_flat_48 rfl (lv_at hl 0 rfl) ?_
        refine get_X9_1 hx hb hA hown hE hG t_h0 wd_4_131 dX9_flat_49 (fun x38 h39 => ?_)
        replace h39 : x38.toInt = g 101 0 := by rw [h39, gs_c _ _ _ _ (by decide), gs_c _ _ _ _ (by decide)]
        refine lv_iload_n hx hb dX9_flat_52 rfl (lv_at hl 2 rfl) ?_
        refine ast_mI hx hb hE hG hS hU 3 rfl (n := 6) rfl (lo := -2147483648) (hi := 2147483647) rfl rfl rfl t_b37 (rgD _) (by omega) dX9_flat_53 (fun H locs hG hS => ?_)
        rw [show x38.toInt.toNat = ((g 101 0).toNat) by omega] at hG
        generalize eg42 : (gs (gs (gs g 100 0 x1.toInt) 102 ((g 101 0).toNat) p1.toInt) 103 ((g 101 0).toNat) p2.toInt) = g41 at hG
        have hf43 : ∀ c j : Nat, c ≠ 100 → c ≠ 102 → c ≠ 103 → g41 c j = g c j := fun c j h100 h102 h103 => by rw [← eg42, gs_c _ _ _ _ h103, gs_c _ _ _ _ h102, gs_c _ _ _ _ h100]
        have v44 : g41 100 0 = x1.toInt := by rw [← eg42, gs_c _ _ _ _ (by decide), gs_c _ _ _ _ (by decide), gs_self]
        have v45 : g41 102 ((g 101 0).toNat) = p1.toInt := by rw [← eg42, gs_c _ _ _ _ (by decide), gs_self]
        have hw46 : g41 102 = (pz_up (g 102) ((g 101 0).toNat) p1.toInt) := by rw [← eg42, gs_r _ _ _ (by decide), pz_gs, gs_r _ _ _ (by decide)]
        have v47 : g41 103 ((g 101 0).toNat) = p2.toInt := by rw [← eg42, gs_self]
        have hw48 : g41 103 = (pz_up (g 103) ((g 101 0).toNat) p2.toInt) := by rw [← eg42, pz_gs, gs_r _ _ _ (by decide), gs_r _ _ _ (by decide)]
        refine lv_aload_n hx hb dX9_flat_54 rfl (lv_at hl 0 rfl) ?_
        refine lv_dup hx hb dX9_flat_55 rfl ?_
        refine get_X9_1 hx hb hA hown hE hG t_h0 wd_4_131 dX9_flat_56 (fun x49 h50 => ?_)
        have hk52 : g41 101 0 = g 101 0 := hf43 101 0 (by decide) (by decide) (by decide)
        refine ty_iconst hx hb (1) dX9_flat_59 (by decide) (fun x53 h54 => ?_)
        refine ty_iadd hx hb dX9_flat_60 (fun x55 h56 => ?_)
        try have h57 : x55.toInt = x49.toInt + x53.toInt := ty_add h56 (by omega) (by omega)
        refine put_X9_1 hx hb hA hown hE hG hS hU t_h0 wd_4_131 dX9_flat_61 (fun H locs hG hS => ?_)
        refine lv_aload_n hx hb dX9_flat_64 rfl (lv_at hl 0 rfl) ?_
        refine get_X9_1 hx hb hA hown hE hG t_h0 wd_4_131 dX9_flat_65 (fun x58 h59 => ?_)
        replace h59 : x58.toInt = x55.toInt := by rw [h59, gs_self]
        refine ty_iconst hx hb (1) dX9_flat_68 (by decide) (fun x61 h62 => ?_)
        refine ty_isub hx hb dX9_flat_69 (fun x63 h64 => ?_)
        try have h65 : x63.toInt = x58.toInt - x61.toInt := ty_sub h64 (by omega) (by omega)
        have e66 : (gs g41 101 0 x55.toInt) 101 0 = x55.toInt := by rw [gs_self]
        exact W.iret (v := x63) hx hb hr (fun t ht hW => ⟨⟨x63, (gs g41 101 0 x55.toInt), rfl, ⟨(fun c j h100 h101 h102 h103 => by rw [gs_c _ _ _ _ h101, hf43 c j h100 h102 h103]), (by omega), (⟨fun _ => ⟨(by rw [gs_r _ _ _ (by decide), hw46] <;> exact pz_upc (by omega) (by omega)), (by rw [gs_r _ _ _ (by decide), hw48] <;> exact pz_upc (by omega) (by omega))⟩, fun q => absurd (by omega) q⟩)⟩, ok1 ht hG⟩, hS.F ht⟩) hS.2.2 dX9_flat_70
      · skip
        refine ty_iconst hx hb (-1) dX9_flat_32 (by decide) (fun x67 h68 => ?_)
        have e69 : (gs g 100 0 x1.toInt) 101 0 = g 101 0 := by rw [gs_c _ _ _ _ (by decide)]
        exact W.iret (v := x67) hx hb hr (fun t ht hW => ⟨⟨x67, (gs g 100 0 x1.toInt), rfl, ⟨(fun c j h100 h101 h102 h103 => by rw [gs_c _ _ _ _ h100]), (by omega), (⟨fun q => absurd q (by omega), fun _ => ⟨(by rw [gs_r _ _ _ (by decide)]), (by rw [gs_r _ _ _ (by decide)])⟩⟩)⟩, ok1 ht hG⟩, hS.F ht⟩) hS.2.2 dX9_flat_33

set_option maxHeartbeats 4000000 in
set_option maxRecDepth 100000 in
/-- WeekBankModel.owner:  -/
theorem k_X9_owner (l : Launch) (dC : Nat → ClassId) (dI : Nat → Nat → Nat) (dA : Nat → ClassId) (sz : Nat) (X : va_W) (Γ : ty_G) (hU : Un Γ) (g : gh) (h0 : Nat) (t_h0 : ty Γ h0 30) (p1 : Int32) (g1 : 0 ≤ g 104 0 ∧ g 104 0 ≤ 10) : Met l yX9_owner (.code yX9_owner cX9_owner 2 (Option.some Jvm.ClassFile.FieldType.int) :: AL) ({ frames := 1, cells := 0, slots := 0, locals := 22 }) (PCx dC dI dA sz X Γ g [.ref h0, .int p1]) (va_Qi (fun (r : Int32) (u : gh) => (∀ c j : Nat, c ≠ 100 → c ≠ 104 → c ≠ 105 → u c j = g c j) ∧ ((0 ≤ p1.toInt ∧ p1.toInt ≤ 9999 ∧ g 104 0 < 10 → r.toInt = g 104 0 ∧ u 104 0 = g 104 0 + 1) ∧ (¬ (0 ≤ p1.toInt ∧ p1.toInt ≤ 9999 ∧ g 104 0 < 10) → r.toInt = -1 ∧ u 104 0 = g 104 0)) ∧ (((0 ≤ p1.toInt ∧ p1.toInt ≤ 9999 ∧ g 104 0 < 10) → u 105 = pz_up (g 105) (g 104 0).toNat p1.toInt) ∧ (¬ ((0 ≤ p1.toInt ∧ p1.toInt ≤ 9999 ∧ g 104 0 < 10)) → u 105 = g 105))) (okb dC dI dA sz X Γ) (ty_A sz)) 0 0 (ty_A sz) := by
  refine Met.ofW (cc := cX9_owner) (maxL := 2) (ret := (Option.some Jvm.ClassFile.FieldType.int)) (by decide) rfl ?_
  intro p e s m args below meth c s₁ B hml hv
  obtain ⟨rfl, hG, hE⟩ := hv
  have hx := B.exec
  have hb := B.bytes
  have hr := B.returns
  have hts := atoms_spec B.pre
  have hA : ∀ w ∈ AL, w.before _ s = true := fun w h => hts w (List.mem_cons_of_mem _ h)
  have hown : s.vm.findClass RX9 = some m.cls := findClass_of_methodNamed B.named
  have hlocks := B.notSynchronized
  have hS : va_S (ty_A sz) s.heap s.heap [] := va_S.rf
  have hl := lv_entry ([.ref h0, .int p1]) (n := 2) (Nat.le_of_ble_eq_true rfl)
  rw [lg_entry_eq]
  generalize (lg_sl ([.ref h0, .int p1]) ++ List.replicate (2 - (lg_sl ([.ref h0, .int p1])).length) Slot.unset).toArray = ls at hl ⊢
  have hl : lv_has ls 2 [(0, .ref h0), (1, .int p1)] := hl
  refine lv_aload_n hx hb dX9_owner_0 rfl (lv_at hl 0 rfl) ?_
  refine ty_iconst hx hb (0) dX9_owner_1 (by decide) (fun x1 h2 => ?_)
  refine put_X9_0 hx hb hA hown hE hG hS hU t_h0 wd_4_130 dX9_owner_2 (fun H locs hG hS => ?_)
  refine lv_iload_n hx hb dX9_owner_5 rfl (lv_at hl 1 rfl) ?_
  refine ty_iconst hx hb (0) dX9_owner_6 (by decide) (fun x3 h4 => ?_)
  refine ty_sipush hx hb (9999) dX9_owner_7 (by decide) (fun x5 h6 => ?_)
  refine cI (va_runS (As := [.int p1, .int x3, .int x5]) (rest := []) ⟨hx, hb, hml, hown, hA⟩ (k_X9_within l dC dI dA sz X Γ hU (gs g 100 0 x1.toInt) p1 x3 x5   ) ⟨callB_of 3 hA (al_A wd_5_38) rfl rfl rfl (hA _ wd_1_7) (hA _ wd_5_36) (by decide +kernel) ⟨Nat.le_of_ble_eq_true rfl, Nat.le_of_ble_eq_true rfl⟩, hA _ wd_5_37⟩ ⟨bl, fun U hU9 hW9 => ⟨rfl, by rw [hU9]; exact hG, hE.go hS hU9 hW9⟩⟩ rfl rfl hl.1 rfl (lv_room (Nat.le_of_ble_eq_true rfl)) dX9_owner_10 ⟨Nat.zero_le _, Nat.zero_le _⟩) hS (fun x9 u7 H locs w8 hG hS => ?_)
  obtain ⟨eu10, w8⟩ := w8
  rw [eu10] at hG
  refine ty_if_eq (tgt := 25) hx hb dX9_owner_13 (by decide) (fun c11 => ?_) (fun c11 => ?_)
  · skip
    refine ty_iconst hx hb (-1) dX9_owner_25 (by decide) (fun x12 h13 => ?_)
    have e14 : (gs g 100 0 x1.toInt) 104 0 = g 104 0 := by rw [gs_c _ _ _ _ (by decide)]
    exact W.iret (v := x12) hx hb hr (fun t ht hW => ⟨⟨x12, (gs g 100 0 x1.toInt), rfl, ⟨(fun c j h100 h104 h105 => by rw [gs_c _ _ _ _ h100]), (by omega), (⟨fun q => absurd q (by omega), fun _ => (by rw [gs_r _ _ _ (by decide)])⟩)⟩, ok1 ht hG⟩, hS.F ht⟩) hS.2.2 dX9_owner_26
  · skip
    refine lv_aload_n hx hb dX9_owner_16 rfl (lv_at hl 0 rfl) ?_
    refine get_X9_4 hx hb hA hown hE hG t_h0 wd_4_134 dX9_owner_17 (fun x15 h16 => ?_)
    replace h16 : x15.toInt = g 104 0 := by rw [h16, gs_c _ _ _ _ (by decide)]
    refine ty_bipush hx hb (10) dX9_owner_20 (by decide) (fun x18 h19 => ?_)
    refine ty_icmp_ne (tgt := 27) hx hb dX9_owner_22 (by decide) (fun c20 => ?_) (fun c20 => ?_)
    · skip
      refine lv_aload_n hx hb dX9_owner_27 rfl (lv_at hl 0 rfl) ?_
      refine get_X9_5 hx hb hA hown hE hG t_h0 wd_4_135 dX9_owner_28 (fun b21 (t_b21 : ty Γ b21 105) => ?_)
      refine lv_aload_n hx hb dX9_owner_31 rfl (lv_at hl 0 rfl) ?_
      refine get_X9_4 hx hb hA hown hE hG t_h0 wd_4_134 dX9_owner_32 (fun x22 h23 => ?_)
      replace h23 : x22.toInt = g 104 0 := by rw [h23, gs_c _ _ _ _ (by decide)]
      refine lv_iload_n hx hb dX9_owner_35 rfl (lv_at hl 1 rfl) ?_
      refine ast_mI hx hb hE hG hS hU 5 rfl (n := 10) rfl (lo := -2147483648) (hi := 2147483647) rfl rfl rfl t_b21 (rgD _) (by omega) dX9_owner_36 (fun H locs hG hS => ?_)
      rw [show x22.toInt.toNat = ((g 104 0).toNat) by omega] at hG
      refine lv_aload_n hx hb dX9_owner_37 rfl (lv_at hl 0 rfl) ?_
      refine lv_dup hx hb dX9_owner_38 rfl ?_
      refine get_X9_4 hx hb hA hown hE hG t_h0 wd_4_134 dX9_owner_39 (fun x25 h26 => ?_)
      replace h26 : x25.toInt = g 104 0 := by rw [h26, gs_c _ _ _ _ (by decide), gs_c _ _ _ _ (by decide)]
      refine ty_iconst hx hb (1) dX9_owner_42 (by decide) (fun x28 h29 => ?_)
      refine ty_iadd hx hb dX9_owner_43 (fun x30 h31 => ?_)
      try have h32 : x30.toInt = x25.toInt + x28.toInt := ty_add h31 (by omega) (by omega)
      refine put_X9_4 hx hb hA hown hE hG hS hU t_h0 wd_4_134 dX9_owner_44 (fun H locs hG hS => ?_)
      generalize eg34 : (gs (gs (gs g 100 0 x1.toInt) 105 ((g 104 0).toNat) p1.toInt) 104 0 x30.toInt) = g33 at hG
      have hf35 : ∀ c j : Nat, c ≠ 100 → c ≠ 105 → c ≠ 104 → g33 c j = g c j := fun c j h100 h105 h104 => by rw [← eg34, gs_c _ _ _ _ h104, gs_c _ _ _ _ h105, gs_c _ _ _ _ h100]
      have v36 : g33 100 0 = x1.toInt := by rw [← eg34, gs_c _ _ _ _ (by decide), gs_c _ _ _ _ (by decide), gs_self]
      have v37 : g33 105 ((g 104 0).toNat) = p1.toInt := by rw [← eg34, gs_c _ _ _ _ (by decide), gs_self]
      have hw38 : g33 105 = (pz_up (g 105) ((g 104 0).toNat) p1.toInt) := by rw [← eg34, gs_r _ _ _ (by decide), pz_gs, gs_r _ _ _ (by decide)]
      have v39 : g33 104 0 = x30.toInt := by rw [← eg34, gs_self]
      refine lv_aload_n hx hb dX9_owner_47 rfl (lv_at hl 0 rfl) ?_
      refine get_X9_4 hx hb hA hown hE hG t_h0 wd_4_134 dX9_owner_48 (fun x40 h41 => ?_)
      refine ty_iconst hx hb (1) dX9_owner_51 (by decide) (fun x43 h44 => ?_)
      refine ty_isub hx hb dX9_owner_52 (fun x45 h46 => ?_)
      try have h47 : x45.toInt = x40.toInt - x43.toInt := ty_sub h46 (by omega) (by omega)
      exact W.iret (v := x45) hx hb hr (fun t ht hW => ⟨⟨x45, g33, rfl, ⟨(fun c j h100 h104 h105 => by rw [hf35 c j h100 h105 h104]), (by omega), (⟨fun _ => (by rw [hw38] <;> exact pz_upc (by omega) (by omega)), fun q => absurd (by omega) q⟩)⟩, ok1 ht hG⟩, hS.F ht⟩) hS.2.2 dX9_owner_53
    · skip
      refine ty_iconst hx hb (-1) dX9_owner_25 (by decide) (fun x48 h49 => ?_)
      have e50 : (gs g 100 0 x1.toInt) 104 0 = g 104 0 := by rw [gs_c _ _ _ _ (by decide)]
      exact W.iret (v := x48) hx hb hr (fun t ht hW => ⟨⟨x48, (gs g 100 0 x1.toInt), rfl, ⟨(fun c j h100 h104 h105 => by rw [gs_c _ _ _ _ h100]), (by omega), (⟨fun q => absurd q (by omega), fun _ => (by rw [gs_r _ _ _ (by decide)])⟩)⟩, ok1 ht hG⟩, hS.F ht⟩) hS.2.2 dX9_owner_26

set_option maxHeartbeats 4000000 in
set_option maxRecDepth 100000 in
/-- WeekBankModel.isPlace:  -/
theorem k_X9_isPlace (l : Launch) (dC : Nat → ClassId) (dI : Nat → Nat → Nat) (dA : Nat → ClassId) (sz : Nat) (X : va_W) (Γ : ty_G) (hU : Un Γ) (g : gh) (h0 : Nat) (t_h0 : ty Γ h0 30) (p1 : Int32) (p2 : Int32) : Met l yX9_isPlace (.code yX9_isPlace cX9_isPlace 3 (Option.some Jvm.ClassFile.FieldType.boolean) :: AL) ({ frames := 1, cells := 0, slots := 0, locals := 22 }) (PCx dC dI dA sz X Γ g [.ref h0, .int p1, .int p2]) (va_Qi (fun (r : Int32) (u : gh) => u = g ∧ (((0 ≤ p1.toInt ∧ p1.toInt < g 101 0 ∧ 0 ≤ p2.toInt ∧ p2.toInt ≤ 52 → r.toInt = 1) ∧ (¬ (0 ≤ p1.toInt ∧ p1.toInt < g 101 0 ∧ 0 ≤ p2.toInt ∧ p2.toInt ≤ 52) → r.toInt = 0)))) (okb dC dI dA sz X Γ) (ty_A sz)) 0 0 (ty_A sz) := by
  refine Met.ofW (cc := cX9_isPlace) (maxL := 3) (ret := (Option.some Jvm.ClassFile.FieldType.boolean)) (by decide) rfl ?_
  intro p e s m args below meth c s₁ B hml hv
  obtain ⟨rfl, hG, hE⟩ := hv
  have hx := B.exec
  have hb := B.bytes
  have hr := B.returns
  have hts := atoms_spec B.pre
  have hA : ∀ w ∈ AL, w.before _ s = true := fun w h => hts w (List.mem_cons_of_mem _ h)
  have hown : s.vm.findClass RX9 = some m.cls := findClass_of_methodNamed B.named
  have hlocks := B.notSynchronized
  have hS : va_S (ty_A sz) s.heap s.heap [] := va_S.rf
  have hl := lv_entry ([.ref h0, .int p1, .int p2]) (n := 3) (Nat.le_of_ble_eq_true rfl)
  rw [lg_entry_eq]
  generalize (lg_sl ([.ref h0, .int p1, .int p2]) ++ List.replicate (3 - (lg_sl ([.ref h0, .int p1, .int p2])).length) Slot.unset).toArray = ls at hl ⊢
  have hl : lv_has ls 3 [(0, .ref h0), (1, .int p1), (2, .int p2)] := hl
  refine lv_iload_n hx hb dX9_isPlace_0 rfl (lv_at hl 1 rfl) ?_
  refine ty_if_lt (tgt := 26) hx hb dX9_isPlace_1 (by decide) (fun c1 => ?_) (fun c1 => ?_)
  · skip
    refine ty_iconst hx hb (0) dX9_isPlace_26 (by decide) (fun x2 h3 => ?_)
    exact W.zret (v := x2) hx hb hr (ty_nb (by omega)).1 (fun t ht hW => ⟨⟨x2, g, rfl, ⟨rfl, (by omega)⟩, ok1 ht hG⟩, hS.F ht⟩) hS.2.2 dX9_isPlace_27
  · skip
    refine lv_iload_n hx hb dX9_isPlace_4 rfl (lv_at hl 1 rfl) ?_
    refine lv_aload_n hx hb dX9_isPlace_5 rfl (lv_at hl 0 rfl) ?_
    refine get_X9_1 hx hb hA hown hE hG t_h0 wd_4_131 dX9_isPlace_6 (fun x4 h5 => ?_)
    refine ty_icmp_ge (tgt := 26) hx hb dX9_isPlace_9 (by decide) (fun c7 => ?_) (fun c7 => ?_)
    · skip
      refine ty_iconst hx hb (0) dX9_isPlace_26 (by decide) (fun x8 h9 => ?_)
      exact W.zret (v := x8) hx hb hr (ty_nb (by omega)).1 (fun t ht hW => ⟨⟨x8, g, rfl, ⟨rfl, (by omega)⟩, ok1 ht hG⟩, hS.F ht⟩) hS.2.2 dX9_isPlace_27
    · skip
      refine lv_iload_n hx hb dX9_isPlace_12 rfl (lv_at hl 2 rfl) ?_
      refine ty_iconst hx hb (0) dX9_isPlace_13 (by decide) (fun x10 h11 => ?_)
      refine ty_bipush hx hb (52) dX9_isPlace_14 (by decide) (fun x12 h13 => ?_)
      refine cI (va_runS (As := [.int p2, .int x10, .int x12]) (rest := []) ⟨hx, hb, hml, hown, hA⟩ (k_X9_within l dC dI dA sz X Γ hU g p2 x10 x12   ) ⟨callB_of 3 hA (al_A wd_5_38) rfl rfl rfl (hA _ wd_1_7) (hA _ wd_5_36) (by decide +kernel) ⟨Nat.le_of_ble_eq_true rfl, Nat.le_of_ble_eq_true rfl⟩, hA _ wd_5_37⟩ ⟨bl, fun U hU9 hW9 => ⟨rfl, by rw [hU9]; exact hG, hE.go hS hU9 hW9⟩⟩ rfl rfl hl.1 rfl (lv_room (Nat.le_of_ble_eq_true rfl)) dX9_isPlace_16 ⟨Nat.zero_le _, Nat.zero_le _⟩) hS (fun x16 u14 H locs w15 hG hS => ?_)
      obtain ⟨eu17, w15⟩ := w15
      rw [eu17] at hG
      refine ty_if_eq (tgt := 26) hx hb dX9_isPlace_19 (by decide) (fun c18 => ?_) (fun c18 => ?_)
      · skip
        refine ty_iconst hx hb (0) dX9_isPlace_26 (by decide) (fun x19 h20 => ?_)
        exact W.zret (v := x19) hx hb hr (ty_nb (by omega)).1 (fun t ht hW => ⟨⟨x19, g, rfl, ⟨rfl, (by omega)⟩, ok1 ht hG⟩, hS.F ht⟩) hS.2.2 dX9_isPlace_27
      · skip
        refine ty_iconst hx hb (1) dX9_isPlace_22 (by decide) (fun x21 h22 => ?_)
        refine lv_goto (tgt := 27) hx hb dX9_isPlace_23 (by decide) ?_
        exact W.zret (v := x21) hx hb hr (ty_nb (by omega)).1 (fun t ht hW => ⟨⟨x21, g, rfl, ⟨rfl, (by omega)⟩, ok1 ht hG⟩, hS.F ht⟩) hS.2.2 dX9_isPlace_27

set_option maxHeartbeats 4000000 in
set_option maxRecDepth 100000 in
/-- WeekBankModel.isAlive:  -/
theorem k_X9_isAlive (l : Launch) (dC : Nat → ClassId) (dI : Nat → Nat → Nat) (dA : Nat → ClassId) (sz : Nat) (X : va_W) (Γ : ty_G) (hU : Un Γ) (g : gh) (h0 : Nat) (t_h0 : ty Γ h0 30) (p1 : Int32) (g1 : 0 ≤ g 104 0 ∧ g 104 0 ≤ 10) : Met l yX9_isAlive (.code yX9_isAlive cX9_isAlive 2 (Option.some Jvm.ClassFile.FieldType.boolean) :: AL) ({ frames := 0, cells := 0, slots := 0, locals := 0 }) (PCx dC dI dA sz X Γ g [.ref h0, .int p1]) (va_Qi (fun (r : Int32) (u : gh) => u = g ∧ (((0 ≤ p1.toInt ∧ p1.toInt < g 104 0 ∧ g 108 p1.toInt.toNat = 0 → r.toInt = 1) ∧ (¬ (0 ≤ p1.toInt ∧ p1.toInt < g 104 0 ∧ g 108 p1.toInt.toNat = 0) → r.toInt = 0)))) (okb dC dI dA sz X Γ) (ty_A sz)) 0 0 (ty_A sz) := by
  refine Met.ofW (cc := cX9_isAlive) (maxL := 2) (ret := (Option.some Jvm.ClassFile.FieldType.boolean)) (by decide) rfl ?_
  intro p e s m args below meth c s₁ B hml hv
  obtain ⟨rfl, hG, hE⟩ := hv
  have hx := B.exec
  have hb := B.bytes
  have hr := B.returns
  have hts := atoms_spec B.pre
  have hA : ∀ w ∈ AL, w.before _ s = true := fun w h => hts w (List.mem_cons_of_mem _ h)
  have hown : s.vm.findClass RX9 = some m.cls := findClass_of_methodNamed B.named
  have hlocks := B.notSynchronized
  have hS : va_S (ty_A sz) s.heap s.heap [] := va_S.rf
  have hl := lv_entry ([.ref h0, .int p1]) (n := 2) (Nat.le_of_ble_eq_true rfl)
  rw [lg_entry_eq]
  generalize (lg_sl ([.ref h0, .int p1]) ++ List.replicate (2 - (lg_sl ([.ref h0, .int p1])).length) Slot.unset).toArray = ls at hl ⊢
  have hl : lv_has ls 2 [(0, .ref h0), (1, .int p1)] := hl
  refine lv_iload_n hx hb dX9_isAlive_0 rfl (lv_at hl 1 rfl) ?_
  refine ty_if_lt (tgt := 25) hx hb dX9_isAlive_1 (by decide) (fun c1 => ?_) (fun c1 => ?_)
  · skip
    refine ty_iconst hx hb (0) dX9_isAlive_25 (by decide) (fun x2 h3 => ?_)
    exact W.zret (v := x2) hx hb hr (ty_nb (by omega)).1 (fun t ht hW => ⟨⟨x2, g, rfl, ⟨rfl, (by omega)⟩, ok1 ht hG⟩, hS.F ht⟩) hS.2.2 dX9_isAlive_26
  · skip
    refine lv_iload_n hx hb dX9_isAlive_4 rfl (lv_at hl 1 rfl) ?_
    refine lv_aload_n hx hb dX9_isAlive_5 rfl (lv_at hl 0 rfl) ?_
    refine get_X9_4 hx hb hA hown hE hG t_h0 wd_4_134 dX9_isAlive_6 (fun x4 h5 => ?_)
    refine ty_icmp_ge (tgt := 25) hx hb dX9_isAlive_9 (by decide) (fun c7 => ?_) (fun c7 => ?_)
    · skip
      refine ty_iconst hx hb (0) dX9_isAlive_25 (by decide) (fun x8 h9 => ?_)
      exact W.zret (v := x8) hx hb hr (ty_nb (by omega)).1 (fun t ht hW => ⟨⟨x8, g, rfl, ⟨rfl, (by omega)⟩, ok1 ht hG⟩, hS.F ht⟩) hS.2.2 dX9_isAlive_26
    · skip
      refine lv_aload_n hx hb dX9_isAlive_12 rfl (lv_at hl 0 rfl) ?_
      refine get_X9_8 hx hb hA hown hE hG t_h0 wd_4_138 dX9_isAlive_13 (fun b10 (t_b10 : ty Γ b10 108) => ?_)
      refine lv_iload_n hx hb dX9_isAlive_16 rfl (lv_at hl 1 rfl) ?_
      refine ald_mZ hx hb hE hG 8 rfl (n := 10) rfl (lo := 0) (hi := 1) rfl rfl t_b10 (by omega) dX9_isAlive_17 (fun j12 x11 h13 h14 h15 => ?_)
      obtain rfl : j12 = p1.toInt.toNat := by omega
      replace h14 : x11.toInt = g 108 p1.toInt.toNat := h14
      refine ty_if_ne (tgt := 25) hx hb dX9_isAlive_18 (by decide) (fun c16 => ?_) (fun c16 => ?_)
      · skip
        refine ty_iconst hx hb (0) dX9_isAlive_25 (by decide) (fun x17 h18 => ?_)
        exact W.zret (v := x17) hx hb hr (ty_nb (by omega)).1 (fun t ht hW => ⟨⟨x17, g, rfl, ⟨rfl, (by omega)⟩, ok1 ht hG⟩, hS.F ht⟩) hS.2.2 dX9_isAlive_26
      · skip
        refine ty_iconst hx hb (1) dX9_isAlive_21 (by decide) (fun x19 h20 => ?_)
        refine lv_goto (tgt := 26) hx hb dX9_isAlive_22 (by decide) ?_
        exact W.zret (v := x19) hx hb hr (ty_nb (by omega)).1 (fun t ht hW => ⟨⟨x19, g, rfl, ⟨rfl, (by omega)⟩, ok1 ht hG⟩, hS.F ht⟩) hS.2.2 dX9_isAlive_26

set_option maxHeartbeats 4000000 in
set_option maxRecDepth 100000 in
/-- WeekBankModel.isGift:  -/
theorem k_X9_isGift (l : Launch) (dC : Nat → ClassId) (dI : Nat → Nat → Nat) (dA : Nat → ClassId) (sz : Nat) (X : va_W) (Γ : ty_G) (hU : Un Γ) (g : gh) (h0 : Nat) (t_h0 : ty Γ h0 30) (p1 : Int32) (p2 : Int32) (g1 : 0 ≤ g 126 0 ∧ g 126 0 ≤ 200) : Met l yX9_isGift (.code yX9_isGift cX9_isGift 3 (Option.some Jvm.ClassFile.FieldType.boolean) :: AL) ({ frames := 0, cells := 0, slots := 0, locals := 0 }) (PCx dC dI dA sz X Γ g [.ref h0, .int p1, .int p2]) (va_Qi (fun (r : Int32) (u : gh) => u = g ∧ (((0 ≤ p1.toInt ∧ p1.toInt < g 126 0 ∧ g 132 p1.toInt.toNat = p2.toInt → r.toInt = 1) ∧ (¬ (0 ≤ p1.toInt ∧ p1.toInt < g 126 0 ∧ g 132 p1.toInt.toNat = p2.toInt) → r.toInt = 0)))) (okb dC dI dA sz X Γ) (ty_A sz)) 0 0 (ty_A sz) := by
  refine Met.ofW (cc := cX9_isGift) (maxL := 3) (ret := (Option.some Jvm.ClassFile.FieldType.boolean)) (by decide) rfl ?_
  intro p e s m args below meth c s₁ B hml hv
  obtain ⟨rfl, hG, hE⟩ := hv
  have hx := B.exec
  have hb := B.bytes
  have hr := B.returns
  have hts := atoms_spec B.pre
  have hA : ∀ w ∈ AL, w.before _ s = true := fun w h => hts w (List.mem_cons_of_mem _ h)
  have hown : s.vm.findClass RX9 = some m.cls := findClass_of_methodNamed B.named
  have hlocks := B.notSynchronized
  have hS : va_S (ty_A sz) s.heap s.heap [] := va_S.rf
  have hl := lv_entry ([.ref h0, .int p1, .int p2]) (n := 3) (Nat.le_of_ble_eq_true rfl)
  rw [lg_entry_eq]
  generalize (lg_sl ([.ref h0, .int p1, .int p2]) ++ List.replicate (3 - (lg_sl ([.ref h0, .int p1, .int p2])).length) Slot.unset).toArray = ls at hl ⊢
  have hl : lv_has ls 3 [(0, .ref h0), (1, .int p1), (2, .int p2)] := hl
  refine lv_iload_n hx hb dX9_isGift_0 rfl (lv_at hl 1 rfl) ?_
  refine ty_if_lt (tgt := 26) hx hb dX9_isGift_1 (by decide) (fun c1 => ?_) (fun c1 => ?_)
  · skip
    refine ty_iconst hx hb (0) dX9_isGift_26 (by decide) (fun x2 h3 => ?_)
    exact W.zret (v := x2) hx hb hr (ty_nb (by omega)).1 (fun t ht hW => ⟨⟨x2, g, rfl, ⟨rfl, (by omega)⟩, ok1 ht hG⟩, hS.F ht⟩) hS.2.2 dX9_isGift_27
  · skip
    refine lv_iload_n hx hb dX9_isGift_4 rfl (lv_at hl 1 rfl) ?_
    refine lv_aload_n hx hb dX9_isGift_5 rfl (lv_at hl 0 rfl) ?_
    refine get_X9_26 hx hb hA hown hE hG t_h0 wd_4_156 dX9_isGift_6 (fun x4 h5 => ?_)
    refine ty_icmp_ge (tgt := 26) hx hb dX9_isGift_9 (by decide) (fun c7 => ?_) (fun c7 => ?_)
    · skip
      refine ty_iconst hx hb (0) dX9_isGift_26 (by decide) (fun x8 h9 => ?_)
      exact W.zret (v := x8) hx hb hr (ty_nb (by omega)).1 (fun t ht hW => ⟨⟨x8, g, rfl, ⟨rfl, (by omega)⟩, ok1 ht hG⟩, hS.F ht⟩) hS.2.2 dX9_isGift_27
    · skip
      refine lv_aload_n hx hb dX9_isGift_12 rfl (lv_at hl 0 rfl) ?_
      refine get_X9_32 hx hb hA hown hE hG t_h0 wd_4_162 dX9_isGift_13 (fun b10 (t_b10 : ty Γ b10 132) => ?_)
      refine lv_iload_n hx hb dX9_isGift_16 rfl (lv_at hl 1 rfl) ?_
      refine ald_mI hx hb hE hG 32 rfl (n := 200) rfl (lo := 0) (hi := 5) rfl rfl t_b10 (by omega) dX9_isGift_17 (fun j12 x11 h13 h14 h15 => ?_)
      obtain rfl : j12 = p1.toInt.toNat := by omega
      replace h14 : x11.toInt = g 132 p1.toInt.toNat := h14
      refine lv_iload_n hx hb dX9_isGift_18 rfl (lv_at hl 2 rfl) ?_
      refine ty_icmp_ne (tgt := 26) hx hb dX9_isGift_19 (by decide) (fun c16 => ?_) (fun c16 => ?_)
      · skip
        refine ty_iconst hx hb (0) dX9_isGift_26 (by decide) (fun x17 h18 => ?_)
        exact W.zret (v := x17) hx hb hr (ty_nb (by omega)).1 (fun t ht hW => ⟨⟨x17, g, rfl, ⟨rfl, (by omega)⟩, ok1 ht hG⟩, hS.F ht⟩) hS.2.2 dX9_isGift_27
      · skip
        refine ty_iconst hx hb (1) dX9_isGift_22 (by decide) (fun x19 h20 => ?_)
        refine lv_goto (tgt := 27) hx hb dX9_isGift_23 (by decide) ?_
        exact W.zret (v := x19) hx hb hr (ty_nb (by omega)).1 (fun t ht hW => ⟨⟨x19, g, rfl, ⟨rfl, (by omega)⟩, ok1 ht hG⟩, hS.F ht⟩) hS.2.2 dX9_isGift_27

set_option maxHeartbeats 4000000 in
set_option maxRecDepth 100000 in
/-- WeekBankModel.end:  -/
theorem k_X9_end (l : Launch) (dC : Nat → ClassId) (dI : Nat → Nat → Nat) (dA : Nat → ClassId) (sz : Nat) (X : va_W) (Γ : ty_G) (hU : Un Γ) (g : gh) (h0 : Nat) (t_h0 : ty Γ h0 30) (p1 : Int32) (g1 : 0 ≤ g 114 0 ∧ g 114 0 ≤ 300) : Met l yX9_end (.code yX9_end cX9_end 2 (Option.some Jvm.ClassFile.FieldType.int) :: AL) ({ frames := 0, cells := 0, slots := 0, locals := 0 }) (PCx dC dI dA sz X Γ g [.ref h0, .int p1]) (va_Qi (fun (r : Int32) (u : gh) => (∀ c j : Nat, c ≠ 100 → c ≠ 114 → u c j = g c j) ∧ ((0 ≤ p1.toInt ∧ p1.toInt ≤ g 114 0 → r.toInt = p1.toInt ∧ u 114 0 = p1.toInt) ∧ (¬ (0 ≤ p1.toInt ∧ p1.toInt ≤ g 114 0) → r.toInt = -1 ∧ u 114 0 = g 114 0))) (okb dC dI dA sz X Γ) (ty_A sz)) 0 0 (ty_A sz) := by
  refine Met.ofW (cc := cX9_end) (maxL := 2) (ret := (Option.some Jvm.ClassFile.FieldType.int)) (by decide) rfl ?_
  intro p e s m args below meth c s₁ B hml hv
  obtain ⟨rfl, hG, hE⟩ := hv
  have hx := B.exec
  have hb := B.bytes
  have hr := B.returns
  have hts := atoms_spec B.pre
  have hA : ∀ w ∈ AL, w.before _ s = true := fun w h => hts w (List.mem_cons_of_mem _ h)
  have hown : s.vm.findClass RX9 = some m.cls := findClass_of_methodNamed B.named
  have hlocks := B.notSynchronized
  have hS : va_S (ty_A sz) s.heap s.heap [] := va_S.rf
  have hl := lv_entry ([.ref h0, .int p1]) (n := 2) (Nat.le_of_ble_eq_true rfl)
  rw [lg_entry_eq]
  generalize (lg_sl ([.ref h0, .int p1]) ++ List.replicate (2 - (lg_sl ([.ref h0, .int p1])).length) Slot.unset).toArray = ls at hl ⊢
  have hl : lv_has ls 2 [(0, .ref h0), (1, .int p1)] := hl
  refine lv_aload_n hx hb dX9_end_0 rfl (lv_at hl 0 rfl) ?_
  refine ty_iconst hx hb (0) dX9_end_1 (by decide) (fun x1 h2 => ?_)
  refine put_X9_0 hx hb hA hown hE hG hS hU t_h0 wd_4_130 dX9_end_2 (fun H locs hG hS => ?_)
  refine lv_iload_n hx hb dX9_end_5 rfl (lv_at hl 1 rfl) ?_
  refine ty_if_lt (tgt := 17) hx hb dX9_end_6 (by decide) (fun c3 => ?_) (fun c3 => ?_)
  · skip
    refine ty_iconst hx hb (-1) dX9_end_17 (by decide) (fun x4 h5 => ?_)
    have e6 : (gs g 100 0 x1.toInt) 114 0 = g 114 0 := by rw [gs_c _ _ _ _ (by decide)]
    exact W.iret (v := x4) hx hb hr (fun t ht hW => ⟨⟨x4, (gs g 100 0 x1.toInt), rfl, ⟨(fun c j h100 h114 => by rw [gs_c _ _ _ _ h100]), (by omega)⟩, ok1 ht hG⟩, hS.F ht⟩) hS.2.2 dX9_end_18
  · skip
    refine lv_iload_n hx hb dX9_end_9 rfl (lv_at hl 1 rfl) ?_
    refine lv_aload_n hx hb dX9_end_10 rfl (lv_at hl 0 rfl) ?_
    refine get_X9_14 hx hb hA hown hE hG t_h0 wd_4_144 dX9_end_11 (fun x7 h8 => ?_)
    replace h8 : x7.toInt = g 114 0 := by rw [h8, gs_c _ _ _ _ (by decide)]
    refine ty_icmp_le (tgt := 19) hx hb dX9_end_14 (by decide) (fun c10 => ?_) (fun c10 => ?_)
    · skip
      refine lv_aload_n hx hb dX9_end_19 rfl (lv_at hl 0 rfl) ?_
      refine lv_iload_n hx hb dX9_end_20 rfl (lv_at hl 1 rfl) ?_
      refine put_X9_14 hx hb hA hown hE hG hS hU t_h0 wd_4_144 dX9_end_21 (fun H locs hG hS => ?_)
      refine lv_iload_n hx hb dX9_end_24 rfl (lv_at hl 1 rfl) ?_
      have e11 : (gs (gs g 100 0 x1.toInt) 114 0 p1.toInt) 114 0 = p1.toInt := by rw [gs_self]
      exact W.iret (v := p1) hx hb hr (fun t ht hW => ⟨⟨p1, (gs (gs g 100 0 x1.toInt) 114 0 p1.toInt), rfl, ⟨(fun c j h100 h114 => by rw [gs_c _ _ _ _ h114, gs_c _ _ _ _ h100]), (by omega)⟩, ok1 ht hG⟩, hS.F ht⟩) hS.2.2 dX9_end_25
    · skip
      refine ty_iconst hx hb (-1) dX9_end_17 (by decide) (fun x12 h13 => ?_)
      have e14 : (gs g 100 0 x1.toInt) 114 0 = g 114 0 := by rw [gs_c _ _ _ _ (by decide)]
      exact W.iret (v := x12) hx hb hr (fun t ht hW => ⟨⟨x12, (gs g 100 0 x1.toInt), rfl, ⟨(fun c j h100 h114 => by rw [gs_c _ _ _ _ h100]), (by omega)⟩, ok1 ht hG⟩, hS.F ht⟩) hS.2.2 dX9_end_18

set_option maxHeartbeats 4000000 in
set_option maxRecDepth 100000 in
/-- WeekBankModel.place:  -/
theorem k_X9_place (l : Launch) (dC : Nat → ClassId) (dI : Nat → Nat → Nat) (dA : Nat → ClassId) (sz : Nat) (X : va_W) (Γ : ty_G) (hU : Un Γ) (g : gh) (h0 : Nat) (t_h0 : ty Γ h0 30) : Met l yX9_place (.code yX9_place cX9_place 1 (Option.some Jvm.ClassFile.FieldType.int) :: AL) ({ frames := 0, cells := 0, slots := 0, locals := 0 }) (PCx dC dI dA sz X Γ g [.ref h0]) (va_Qi (fun (r : Int32) (u : gh) => (∀ c j : Nat, c ≠ 100 → u c j = g c j) ∧ ((r.toInt = g 121 0))) (okb dC dI dA sz X Γ) (ty_A sz)) 0 0 (ty_A sz) := by
  refine Met.ofW (cc := cX9_place) (maxL := 1) (ret := (Option.some Jvm.ClassFile.FieldType.int)) (by decide) rfl ?_
  intro p e s m args below meth c s₁ B hml hv
  obtain ⟨rfl, hG, hE⟩ := hv
  have hx := B.exec
  have hb := B.bytes
  have hr := B.returns
  have hts := atoms_spec B.pre
  have hA : ∀ w ∈ AL, w.before _ s = true := fun w h => hts w (List.mem_cons_of_mem _ h)
  have hown : s.vm.findClass RX9 = some m.cls := findClass_of_methodNamed B.named
  have hlocks := B.notSynchronized
  have hS : va_S (ty_A sz) s.heap s.heap [] := va_S.rf
  have hl := lv_entry ([.ref h0]) (n := 1) (Nat.le_of_ble_eq_true rfl)
  rw [lg_entry_eq]
  generalize (lg_sl ([.ref h0]) ++ List.replicate (1 - (lg_sl ([.ref h0])).length) Slot.unset).toArray = ls at hl ⊢
  have hl : lv_has ls 1 [(0, .ref h0)] := hl
  refine lv_aload_n hx hb dX9_place_0 rfl (lv_at hl 0 rfl) ?_
  refine ty_iconst hx hb (0) dX9_place_1 (by decide) (fun x1 h2 => ?_)
  refine put_X9_0 hx hb hA hown hE hG hS hU t_h0 wd_4_130 dX9_place_2 (fun H locs hG hS => ?_)
  refine lv_aload_n hx hb dX9_place_5 rfl (lv_at hl 0 rfl) ?_
  refine get_X9_21 hx hb hA hown hE hG t_h0 wd_4_151 dX9_place_6 (fun x3 h4 => ?_)
  replace h4 : x3.toInt = g 121 0 := by rw [h4, gs_c _ _ _ _ (by decide)]
  exact W.iret (v := x3) hx hb hr (fun t ht hW => ⟨⟨x3, (gs g 100 0 x1.toInt), rfl, ⟨(fun c j h100 => by rw [gs_c _ _ _ _ h100]), (by omega)⟩, ok1 ht hG⟩, hS.F ht⟩) hS.2.2 dX9_place_9
