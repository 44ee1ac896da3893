set_option maxHeartbeats 4000000 in
set_option maxRecDepth 100000 in
/-- WeekBankModel.wishes:  -/
theorem k_X9_wishes (l : Launch) (dC : Nat → ClassId) (dI : Nat → Nat → Nat) (dA : Nat → ClassId) (sz : Nat) (X : va_W) (Γ : ty_G) (hU : Un Γ) (g : gh) (h0 : Nat) (t_h0 : ty Γ h0 30) (p1 : Int32) (p2 : Int32) (p3 : Int32) (p4 : Int32) (p5 : Int32) (hf : 0 ≤ p1.toInt ∧ p1.toInt ≤ 209) : Met l yX9_wishes (.code yX9_wishes cX9_wishes 6 (Option.some Jvm.ClassFile.FieldType.boolean) :: AL) ({ frames := 1, cells := 0, slots := 0, locals := 22 }) (PCx dC dI dA sz X Γ g [.ref h0, .int p1, .int p2, .int p3, .int p4, .int p5]) (va_Qi (fun (r : Int32) (u : gh) => (∀ c j : Nat, c ≠ 135 → u c j = g c j) ∧ (((-1 ≤ p2.toInt ∧ p2.toInt ≤ 3 ∧ 0 ≤ p3.toInt ∧ p3.toInt ≤ 52 ∧ p3.toInt ≤ p4.toInt ∧ p4.toInt ≤ 52 ∧ 1 ≤ p5.toInt ∧ p5.toInt ≤ 4 → r.toInt = 1) ∧ (¬ (-1 ≤ p2.toInt ∧ p2.toInt ≤ 3 ∧ 0 ≤ p3.toInt ∧ p3.toInt ≤ 52 ∧ p3.toInt ≤ p4.toInt ∧ p4.toInt ≤ 52 ∧ 1 ≤ p5.toInt ∧ p5.toInt ≤ 4) → r.toInt = 0))) ∧ ((r.toInt = 1 → u 135 = w4_f (g 135) p1.toInt.toNat p2.toInt p3.toInt p4.toInt p5.toInt) ∧ (r.toInt ≠ 1 → u 135 = g 135))) (okb dC dI dA sz X Γ) (ty_A sz)) 0 0 (ty_A sz) := by
  refine Met.ofW (cc := cX9_wishes) (maxL := 6) (ret := (Option.some Jvm.ClassFile.FieldType.boolean)) (by decide) rfl ?_
  intro p e s m args below meth c s₁ B hml hv
  obtain ⟨rfl, hG, hE⟩ := hv
  have hx := B.exec
  have hb := B.bytes
  have hr := B.returns
  have hts := atoms_spec B.pre
  have hA : ∀ w ∈ AL, w.before _ s = true := fun w h => hts w (List.mem_cons_of_mem _ h)
  have hown : s.vm.findClass RX9 = some m.cls := findClass_of_methodNamed B.named
  have hlocks := B.notSynchronized
  have hS : va_S (ty_A sz) s.heap s.heap [] := va_S.rf
  have hl := lv_entry ([.ref h0, .int p1, .int p2, .int p3, .int p4, .int p5]) (n := 6) (Nat.le_of_ble_eq_true rfl)
  rw [lg_entry_eq]
  generalize (lg_sl ([.ref h0, .int p1, .int p2, .int p3, .int p4, .int p5]) ++ List.replicate (6 - (lg_sl ([.ref h0, .int p1, .int p2, .int p3, .int p4, .int p5])).length) Slot.unset).toArray = ls at hl ⊢
  have hl : lv_has ls 6 [(0, .ref h0), (1, .int p1), (2, .int p2), (3, .int p3), (4, .int p4), (5, .int p5)] := hl
  refine lv_iload_n hx hb dX9_wishes_0 rfl (lv_at hl 2 rfl) ?_
  refine ty_iconst hx hb (-1) dX9_wishes_1 (by decide) (fun x1 h2 => ?_)
  refine ty_iconst hx hb (3) dX9_wishes_2 (by decide) (fun x3 h4 => ?_)
  refine cI (va_runS (As := [.int p2, .int x1, .int x3]) (rest := []) ⟨hx, hb, hml, hown, hA⟩ (k_X9_within l dC dI dA sz X Γ hU g p2 x1 x3   ) ⟨callB_of 3 hA (al_A wd_5_38) rfl rfl rfl (hA _ wd_1_7) (hA _ wd_5_36) (by decide +kernel) ⟨Nat.le_of_ble_eq_true rfl, Nat.le_of_ble_eq_true rfl⟩, hA _ wd_5_37⟩ ⟨bl, fun U hU9 hW9 => ⟨rfl, by rw [hU9]; exact hG, hE.go hS hU9 hW9⟩⟩ rfl rfl hl.1 rfl (lv_room (Nat.le_of_ble_eq_true rfl)) dX9_wishes_3 ⟨Nat.zero_le _, Nat.zero_le _⟩) hS (fun x7 u5 H locs w6 hG hS => ?_)
  obtain ⟨eu8, w6⟩ := w6
  rw [eu8] at hG
  refine ty_if_eq (tgt := 40) hx hb dX9_wishes_6 (by decide) (fun c9 => ?_) (fun c9 => ?_)
  · skip
    refine ty_iconst hx hb (0) dX9_wishes_40 (by decide) (fun x10 h11 => ?_)
    exact W.zret (v := x10) hx hb hr (ty_nb (by omega)).1 (fun t ht hW => ⟨⟨x10, g, rfl, ⟨(fun c j h135 => by rfl), (by omega), (⟨fun q => absurd q (by omega), fun _ => rfl⟩)⟩, ok1 ht hG⟩, hS.F ht⟩) hS.2.2 dX9_wishes_41
  · skip
    refine lv_iload_n hx hb dX9_wishes_9 rfl (lv_at hl 3 rfl) ?_
    refine ty_iconst hx hb (0) dX9_wishes_10 (by decide) (fun x12 h13 => ?_)
    refine ty_bipush hx hb (52) dX9_wishes_11 (by decide) (fun x14 h15 => ?_)
    refine cI (va_runS (As := [.int p3, .int x12, .int x14]) (rest := []) ⟨hx, hb, hml, hown, hA⟩ (k_X9_within l dC dI dA sz X Γ hU g p3 x12 x14   ) ⟨callB_of 3 hA (al_A wd_5_38) rfl rfl rfl (hA _ wd_1_7) (hA _ wd_5_36) (by decide +kernel) ⟨Nat.le_of_ble_eq_true rfl, Nat.le_of_ble_eq_true rfl⟩, hA _ wd_5_37⟩ ⟨bl, fun U hU9 hW9 => ⟨rfl, by rw [hU9]; exact hG, hE.go hS hU9 hW9⟩⟩ rfl rfl hl.1 rfl (lv_room (Nat.le_of_ble_eq_true rfl)) dX9_wishes_13 ⟨Nat.zero_le _, Nat.zero_le _⟩) hS (fun x18 u16 H locs w17 hG hS => ?_)
    obtain ⟨eu19, w17⟩ := w17
    rw [eu19] at hG
    refine ty_if_eq (tgt := 40) hx hb dX9_wishes_16 (by decide) (fun c20 => ?_) (fun c20 => ?_)
    · skip
      refine ty_iconst hx hb (0) dX9_wishes_40 (by decide) (fun x21 h22 => ?_)
      exact W.zret (v := x21) hx hb hr (ty_nb (by omega)).1 (fun t ht hW => ⟨⟨x21, g, rfl, ⟨(fun c j h135 => by rfl), (by omega), (⟨fun q => absurd q (by omega), fun _ => rfl⟩)⟩, ok1 ht hG⟩, hS.F ht⟩) hS.2.2 dX9_wishes_41
    · skip
      refine lv_iload hx hb dX9_wishes_19 (lv_at hl 4 rfl) ?_
      refine lv_iload_n hx hb dX9_wishes_21 rfl (lv_at hl 3 rfl) ?_
      refine ty_bipush hx hb (52) dX9_wishes_22 (by decide) (fun x23 h24 => ?_)
      refine cI (va_runS (As := [.int p4, .int p3, .int x23]) (rest := []) ⟨hx, hb, hml, hown, hA⟩ (k_X9_within l dC dI dA sz X Γ hU g p4 p3 x23   ) ⟨callB_of 3 hA (al_A wd_5_38) rfl rfl rfl (hA _ wd_1_7) (hA _ wd_5_36) (by decide +kernel) ⟨Nat.le_of_ble_eq_true rfl, Nat.le_of_ble_eq_true rfl⟩, hA _ wd_5_37⟩ ⟨bl, fun U hU9 hW9 => ⟨rfl, by rw [hU9]; exact hG, hE.go hS hU9 hW9⟩⟩ rfl rfl hl.1 rfl (lv_room (Nat.le_of_ble_eq_true rfl)) dX9_wishes_24 ⟨Nat.zero_le _, Nat.zero_le _⟩) hS (fun x27 u25 H locs w26 hG hS => ?_)
      obtain ⟨eu28, w26⟩ := w26
      rw [eu28] at hG
      refine ty_if_eq (tgt := 40) hx hb dX9_wishes_27 (by decide) (fun c29 => ?_) (fun c29 => ?_)
      · skip
        refine ty_iconst hx hb (0) dX9_wishes_40 (by decide) (fun x30 h31 => ?_)
        exact W.zret (v := x30) hx hb hr (ty_nb (by omega)).1 (fun t ht hW => ⟨⟨x30, g, rfl, ⟨(fun c j h135 => by rfl), (by omega), (⟨fun q => absurd q (by omega), fun _ => rfl⟩)⟩, ok1 ht hG⟩, hS.F ht⟩) hS.2.2 dX9_wishes_41
      · skip
        refine lv_iload hx hb dX9_wishes_30 (lv_at hl 5 rfl) ?_
        refine ty_iconst hx hb (1) dX9_wishes_32 (by decide) (fun x32 h33 => ?_)
        refine ty_iconst hx hb (4) dX9_wishes_33 (by decide) (fun x34 h35 => ?_)
        refine cI (va_runS (As := [.int p5, .int x32, .int x34]) (rest := []) ⟨hx, hb, hml, hown, hA⟩ (k_X9_within l dC dI dA sz X Γ hU g p5 x32 x34   ) ⟨callB_of 3 hA (al_A wd_5_38) rfl rfl rfl (hA _ wd_1_7) (hA _ wd_5_36) (by decide +kernel) ⟨Nat.le_of_ble_eq_true rfl, Nat.le_of_ble_eq_true rfl⟩, hA _ wd_5_37⟩ ⟨bl, fun U hU9 hW9 => ⟨rfl, by rw [hU9]; exact hG, hE.go hS hU9 hW9⟩⟩ rfl rfl hl.1 rfl (lv_room (Nat.le_of_ble_eq_true rfl)) dX9_wishes_34 ⟨Nat.zero_le _, Nat.zero_le _⟩) hS (fun x38 u36 H locs w37 hG hS => ?_)
        obtain ⟨eu39, w37⟩ := w37
        rw [eu39] at hG
        refine ty_if_ne (tgt := 42) hx hb dX9_wishes_37 (by decide) (fun c40 => ?_) (fun c40 => ?_)
        · skip
          refine lv_aload_n hx hb dX9_wishes_42 rfl (lv_at hl 0 rfl) ?_
          refine get_X9_35 hx hb hA hown hE hG t_h0 wd_4_165 dX9_wishes_43 (fun b41 (t_b41 : ty Γ b41 135) => ?_)
          refine ty_iconst hx hb (4) dX9_wishes_46 (by decide) (fun x42 h43 => ?_)
          refine lv_iload_n hx hb dX9_wishes_47 rfl (lv_at hl 1 rfl) ?_
          refine ty_imul hx hb dX9_wishes_48 (fun x44 h45 => ?_)
          try have h46 : x44.toInt = 4 * p1.toInt := ty_mull h45 (by omega) (by omega) (by omega)
          refine lv_iload_n hx hb dX9_wishes_49 rfl (lv_at hl 2 rfl) ?_
          refine ast_mI hx hb hE hG hS hU 35 rfl (n := 840) rfl (lo := -2147483648) (hi := 2147483647) rfl rfl rfl t_b41 (rgD _) (by omega) dX9_wishes_50 (fun H locs hG hS => ?_)
          rw [show x44.toInt.toNat = (4 * p1.toInt.toNat) by omega] at hG
          refine lv_aload_n hx hb dX9_wishes_51 rfl (lv_at hl 0 rfl) ?_
          refine get_X9_35 hx hb hA hown hE hG t_h0 wd_4_165 dX9_wishes_52 (fun b47 (t_b47 : ty Γ b47 135) => ?_)
          refine ty_iconst hx hb (4) dX9_wishes_55 (by decide) (fun x48 h49 => ?_)
          refine lv_iload_n hx hb dX9_wishes_56 rfl (lv_at hl 1 rfl) ?_
          refine ty_imul hx hb dX9_wishes_57 (fun x50 h51 => ?_)
          try have h52 : x50.toInt = 4 * p1.toInt := ty_mull h51 (by omega) (by omega) (by omega)
          refine ty_iconst hx hb (1) dX9_wishes_58 (by decide) (fun x53 h54 => ?_)
          refine ty_iadd hx hb dX9_wishes_59 (fun x55 h56 => ?_)
          try have h57 : x55.toInt = x50.toInt + x53.toInt := ty_add h56 (by omega) (by omega)
          refine lv_iload_n hx hb dX9_wishes_60 rfl (lv_at hl 3 rfl) ?_
          refine ast_mI hx hb hE hG hS hU 35 rfl (n := 840) rfl (lo := -2147483648) (hi := 2147483647) rfl rfl rfl t_b47 (rgD _) (by omega) dX9_wishes_61 (fun H locs hG hS => ?_)
          rw [show x55.toInt.toNat = (4 * p1.toInt.toNat + 1) by omega] at hG
          refine lv_aload_n hx hb dX9_wishes_62 rfl (lv_at hl 0 rfl) ?_
          refine get_X9_35 hx hb hA hown hE hG t_h0 wd_4_165 dX9_wishes_63 (fun b58 (t_b58 : ty Γ b58 135) => ?_)
          refine ty_iconst hx hb (4) dX9_wishes_66 (by decide) (fun x59 h60 => ?_)
          refine lv_iload_n hx hb dX9_wishes_67 rfl (lv_at hl 1 rfl) ?_
          refine ty_imul hx hb dX9_wishes_68 (fun x61 h62 => ?_)
          try have h63 : x61.toInt = 4 * p1.toInt := ty_mull h62 (by omega) (by omega) (by omega)
          refine ty_iconst hx hb (2) dX9_wishes_69 (by decide) (fun x64 h65 => ?_)
          refine ty_iadd hx hb dX9_wishes_70 (fun x66 h67 => ?_)
          try have h68 : x66.toInt = x61.toInt + x64.toInt := ty_add h67 (by omega) (by omega)
          refine lv_iload hx hb dX9_wishes_71 (lv_at hl 4 rfl) ?_
          refine ast_mI hx hb hE hG hS hU 35 rfl (n := 840) rfl (lo := -2147483648) (hi := 2147483647) rfl rfl rfl t_b58 (rgD _) (by omega) dX9_wishes_73 (fun H locs hG hS => ?_)
          rw [show x66.toInt.toNat = (4 * p1.toInt.toNat + 2) by omega] at hG
          generalize eg70 : (gs (gs (gs g 135 (4 * p1.toInt.toNat) p2.toInt) 135 (4 * p1.toInt.toNat + 1) p3.toInt) 135 (4 * p1.toInt.toNat + 2) p4.toInt) = g69 at hG
          have hf71 : ∀ c j : Nat, c ≠ 135 → g69 c j = g c j := fun c j h135 => by rw [← eg70, gs_c _ _ _ _ h135, gs_c _ _ _ _ h135, gs_c _ _ _ _ h135]
          have v72 : g69 135 (4 * p1.toInt.toNat + 2) = p4.toInt := by rw [← eg70, gs_self]
          have hw73 : g69 135 = (pz_up (pz_up (pz_up (g 135) (4 * p1.toInt.toNat) p2.toInt) (4 * p1.toInt.toNat + 1) p3.toInt) (4 * p1.toInt.toNat + 2) p4.toInt) := by rw [← eg70, pz_gs, pz_gs, pz_gs]
          refine lv_aload_n hx hb dX9_wishes_74 rfl (lv_at hl 0 rfl) ?_
          refine get_X9_35 hx hb hA hown hE hG t_h0 wd_4_165 dX9_wishes_75 (fun b74 (t_b74 : ty Γ b74 135) => ?_)
          refine ty_iconst hx hb (4) dX9_wishes_78 (by decide) (fun x75 h76 => ?_)
          refine lv_iload_n hx hb dX9_wishes_79 rfl (lv_at hl 1 rfl) ?_
          refine ty_imul hx hb dX9_wishes_80 (fun x77 h78 => ?_)
          try have h79 : x77.toInt = 4 * p1.toInt := ty_mull h78 (by omega) (by omega) (by omega)
          refine ty_iconst hx hb (3) dX9_wishes_81 (by decide) (fun x80 h81 => ?_)
          refine ty_iadd hx hb dX9_wishes_82 (fun x82 h83 => ?_)
          try have h84 : x82.toInt = x77.toInt + x80.toInt := ty_add h83 (by omega) (by omega)
          refine lv_iload hx hb dX9_wishes_83 (lv_at hl 5 rfl) ?_
          refine ast_mI hx hb hE hG hS hU 35 rfl (n := 840) rfl (lo := -2147483648) (hi := 2147483647) rfl rfl rfl t_b74 (rgD _) (by omega) dX9_wishes_85 (fun H locs hG hS => ?_)
          rw [show x82.toInt.toNat = (4 * p1.toInt.toNat + 3) by omega] at hG
          refine ty_iconst hx hb (1) dX9_wishes_86 (by decide) (fun x85 h86 => ?_)
          exact W.zret (v := x85) hx hb hr (ty_nb (by omega)).1 (fun t ht hW => ⟨⟨x85, (gs g69 135 (4 * p1.toInt.toNat + 3) p5.toInt), rfl, ⟨(fun c j h135 => by rw [gs_c _ _ _ _ h135, hf71 c j h135]), (by omega), (⟨fun _ => by unfold w4_f; rw [pz_gs, hw73], fun q => absurd (by omega) q⟩)⟩, ok1 ht hG⟩, hS.F ht⟩) hS.2.2 dX9_wishes_87
        · skip
          refine ty_iconst hx hb (0) dX9_wishes_40 (by decide) (fun x87 h88 => ?_)
          exact W.zret (v := x87) hx hb hr (ty_nb (by omega)).1 (fun t ht hW => ⟨⟨x87, g, rfl, ⟨(fun c j h135 => by rfl), (by omega), (⟨fun q => absurd q (by omega), fun _ => rfl⟩)⟩, ok1 ht hG⟩, hS.F ht⟩) hS.2.2 dX9_wishes_41

set_option maxHeartbeats 4000000 in
set_option maxRecDepth 100000 in
/-- WeekBankModel.wish:  -/
theorem k_X9_wish (l : Launch) (dC : Nat → ClassId) (dI : Nat → Nat → Nat) (dA : Nat → ClassId) (sz : Nat) (X : va_W) (Γ : ty_G) (hU : Un Γ) (g : gh) (h0 : Nat) (t_h0 : ty Γ h0 30) (p1 : Int32) (p2 : Int32) (p3 : Int32) (p4 : Int32) (p5 : Int32) (m26 : 0 ≤ g 126 0 ∧ g 126 0 ≤ 200) : Met l yX9_wish (.code yX9_wish cX9_wish 6 (Option.some Jvm.ClassFile.FieldType.boolean) :: AL) ({ frames := 2, cells := 0, slots := 0, locals := 47 }) (PCx dC dI dA sz X Γ g [.ref h0, .int p1, .int p2, .int p3, .int p4, .int p5]) (va_Qi (fun (r : Int32) (u : gh) => (∀ c j : Nat, c ≠ 100 → c ≠ 135 → u c j = g c j) ∧ (((0 ≤ p1.toInt ∧ p1.toInt < g 126 0 ∧ g 132 p1.toInt.toNat = 0 ∧ ok_wi p2.toInt p3.toInt p4.toInt p5.toInt) → r.toInt = 1 ∧ u 135 = w4_f (g 135) p1.toInt.toNat p2.toInt p3.toInt p4.toInt p5.toInt) ∧ (¬ ((0 ≤ p1.toInt ∧ p1.toInt < g 126 0 ∧ g 132 p1.toInt.toNat = 0 ∧ ok_wi p2.toInt p3.toInt p4.toInt p5.toInt)) → r.toInt = 0 ∧ u 135 = g 135))) (okb dC dI dA sz X Γ) (ty_A sz)) 0 0 (ty_A sz) := by
  refine Met.ofW (cc := cX9_wish) (maxL := 6) (ret := (Option.some Jvm.ClassFile.FieldType.boolean)) (by decide) rfl ?_
  intro p e s m args below meth c s₁ B hml hv
  obtain ⟨rfl, hG, hE⟩ := hv
  have hx := B.exec
  have hb := B.bytes
  have hr := B.returns
  have hts := atoms_spec B.pre
  have hA : ∀ w ∈ AL, w.before _ s = true := fun w h => hts w (List.mem_cons_of_mem _ h)
  have hown : s.vm.findClass RX9 = some m.cls := findClass_of_methodNamed B.named
  have hlocks := B.notSynchronized
  have hS : va_S (ty_A sz) s.heap s.heap [] := va_S.rf
  have hl := lv_entry ([.ref h0, .int p1, .int p2, .int p3, .int p4, .int p5]) (n := 6) (Nat.le_of_ble_eq_true rfl)
  rw [lg_entry_eq]
  generalize (lg_sl ([.ref h0, .int p1, .int p2, .int p3, .int p4, .int p5]) ++ List.replicate (6 - (lg_sl ([.ref h0, .int p1, .int p2, .int p3, .int p4, .int p5])).length) Slot.unset).toArray = ls at hl ⊢
  have hl : lv_has ls 6 [(0, .ref h0), (1, .int p1), (2, .int p2), (3, .int p3), (4, .int p4), (5, .int p5)] := hl
  refine lv_aload_n hx hb dX9_wish_0 rfl (lv_at hl 0 rfl) ?_
  refine ty_iconst hx hb (0) dX9_wish_1 (by decide) (fun x1 h2 => ?_)
  refine put_X9_0 hx hb hA hown hE hG hS hU t_h0 wd_4_130 dX9_wish_2 (fun H locs hG hS => ?_)
  refine lv_aload_n hx hb dX9_wish_5 rfl (lv_at hl 0 rfl) ?_
  refine lv_iload_n hx hb dX9_wish_6 rfl (lv_at hl 1 rfl) ?_
  refine ty_iconst hx hb (0) dX9_wish_7 (by decide) (fun x3 h4 => ?_)
  have e5 : (gs g 100 0 x1.toInt) 126 0 = g 126 0 := by rw [gs_c _ _ _ _ (by decide)]
  have e6 : (gs g 100 0 x1.toInt) 126 0 = g 126 0 := by rw [gs_c _ _ _ _ (by decide)]
  have e7 : (gs g 100 0 x1.toInt) 132 p1.toInt.toNat = g 132 p1.toInt.toNat := by rw [gs_c _ _ _ _ (by decide)]
  refine cI (va_runV (C := RX9) (As := [.int p1, .int x3]) (rest := []) ⟨hx, hb, hml, hown, hA⟩ (k_X9_isGift l dC dI dA sz X Γ hU (gs g 100 0 x1.toInt) h0 t_h0 p1 x3   (by omega)) ⟨callB_of 2 hA (al_A wd_5_136) rfl rfl rfl (hA _ wd_1_7) (hA _ wd_5_133) (by decide +kernel) ⟨Nat.le_of_ble_eq_true rfl, Nat.le_of_ble_eq_true rfl⟩, hA _ wd_5_135, hA _ ws_47⟩ ⟨bl, recv_X9 hE hG t_h0, fun U hU9 hW9 => ⟨rfl, by rw [hU9]; exact hG, hE.go hS hU9 hW9⟩⟩ rfl rfl hl.1 rfl (lv_room (Nat.le_of_ble_eq_true rfl)) dX9_wish_8 ⟨Nat.zero_le _, Nat.zero_le _⟩) hS (fun x10 u8 H locs w9 hG hS => ?_)
  obtain ⟨eu11, w9⟩ := w9
  rw [eu11] at hG
  rcases pz_or w9 with w9 | w9
  · skip
    refine ty_if_eq (tgt := 32) hx hb dX9_wish_11 (by decide) (fun c12 => ?_) (fun c12 => ?_)
    · exfalso; omega
    · skip
      refine lv_aload_n hx hb dX9_wish_14 rfl (lv_at hl 0 rfl) ?_
      refine lv_iload_n hx hb dX9_wish_15 rfl (lv_at hl 1 rfl) ?_
      refine lv_iload_n hx hb dX9_wish_16 rfl (lv_at hl 2 rfl) ?_
      refine lv_iload_n hx hb dX9_wish_17 rfl (lv_at hl 3 rfl) ?_
      refine lv_iload hx hb dX9_wish_18 (lv_at hl 4 rfl) ?_
      refine lv_iload hx hb dX9_wish_20 (lv_at hl 5 rfl) ?_
      refine cI (va_runV (C := RX9) (As := [.int p1, .int p2, .int p3, .int p4, .int p5]) (rest := []) ⟨hx, hb, hml, hown, hA⟩ (k_X9_wishes l dC dI dA sz X Γ hU (gs g 100 0 x1.toInt) h0 t_h0 p1 p2 p3 p4 p5   (by omega)) ⟨callB_of 5 hA (al_A wd_5_140) rfl rfl rfl (hA _ wd_1_7) (hA _ wd_5_137) (by decide +kernel) ⟨Nat.le_of_ble_eq_true rfl, Nat.le_of_ble_eq_true rfl⟩, hA _ wd_5_139, hA _ ws_48⟩ ⟨bl, recv_X9 hE hG t_h0, fun U hU9 hW9 => ⟨rfl, by rw [hU9]; exact hG, hE.go hS hU9 hW9⟩⟩ rfl rfl hl.1 rfl (lv_room (Nat.le_of_ble_eq_true rfl)) dX9_wish_22 ⟨Nat.zero_le _, Nat.zero_le _⟩) hS (fun x15 u13 H locs w14 hG hS => ?_)
      obtain ⟨hf17, w14, hq16⟩ := w14
      rcases pz_or w14 with w14 | w14
      · skip
        refine ty_if_eq (tgt := 32) hx hb dX9_wish_25 (by decide) (fun c18 => ?_) (fun c18 => ?_)
        · exfalso; omega
        · skip
          refine ty_iconst hx hb (1) dX9_wish_28 (by decide) (fun x19 h20 => ?_)
          refine lv_goto (tgt := 33) hx hb dX9_wish_29 (by decide) ?_
          exact W.zret (v := x19) hx hb hr (ty_nb (by omega)).1 (fun t ht hW => ⟨⟨x19, u13, rfl, ⟨(fun c j h100 h135 => by rw [hf17 c j h135, gs_c _ _ _ _ h100]), (⟨fun _ => ⟨(by omega), (by rw [hq16.1 (by omega), gs_r _ _ _ (by decide)])⟩, fun q => absurd (by unfold ok_wi; omega) q⟩)⟩, ok1 ht hG⟩, hS.F ht⟩) hS.2.2 dX9_wish_33
      · skip
        refine ty_if_eq (tgt := 32) hx hb dX9_wish_25 (by decide) (fun c21 => ?_) (fun c21 => ?_)
        · skip
          refine ty_iconst hx hb (0) dX9_wish_32 (by decide) (fun x22 h23 => ?_)
          exact W.zret (v := x22) hx hb hr (ty_nb (by omega)).1 (fun t ht hW => ⟨⟨x22, u13, rfl, ⟨(fun c j h100 h135 => by rw [hf17 c j h135, gs_c _ _ _ _ h100]), (⟨fun q => absurd q (by unfold ok_wi; omega), fun _ => ⟨(by omega), (by rw [hq16.2 (by omega), gs_r _ _ _ (by decide)])⟩⟩)⟩, ok1 ht hG⟩, hS.F ht⟩) hS.2.2 dX9_wish_33
        · exfalso; omega
  · skip
    refine ty_if_eq (tgt := 32) hx hb dX9_wish_11 (by decide) (fun c24 => ?_) (fun c24 => ?_)
    · skip
      refine ty_iconst hx hb (0) dX9_wish_32 (by decide) (fun x25 h26 => ?_)
      exact W.zret (v := x25) hx hb hr (ty_nb (by omega)).1 (fun t ht hW => ⟨⟨x25, (gs g 100 0 x1.toInt), rfl, ⟨(fun c j h100 h135 => by rw [gs_c _ _ _ _ h100]), (⟨fun q => absurd q (by unfold ok_wi; omega), fun _ => ⟨(by omega), (by rw [gs_r _ _ _ (by decide)])⟩⟩)⟩, ok1 ht hG⟩, hS.F ht⟩) hS.2.2 dX9_wish_33
    · exfalso; omega

set_option maxHeartbeats 4000000 in
set_option maxRecDepth 100000 in
/-- WeekBankModel.rushWish:  -/
theorem k_X9_rushWish (l : Launch) (dC : Nat → ClassId) (dI : Nat → Nat → Nat) (dA : Nat → ClassId) (sz : Nat) (X : va_W) (Γ : ty_G) (hU : Un Γ) (g : gh) (h0 : Nat) (t_h0 : ty Γ h0 30) (p1 : Int32) (p2 : Int32) (p3 : Int32) (p4 : Int32) (p5 : Int32) (m4 : 0 ≤ g 104 0 ∧ g 104 0 ≤ 10) : Met l yX9_rushWish (.code yX9_rushWish cX9_rushWish 6 (Option.some Jvm.ClassFile.FieldType.boolean) :: AL) ({ frames := 2, cells := 0, slots := 0, locals := 47 }) (PCx dC dI dA sz X Γ g [.ref h0, .int p1, .int p2, .int p3, .int p4, .int p5]) (va_Qi (fun (r : Int32) (u : gh) => (∀ c j : Nat, c ≠ 100 → c ≠ 135 → u c j = g c j) ∧ (((0 ≤ p1.toInt ∧ p1.toInt < g 104 0 ∧ g 108 p1.toInt.toNat = 0 ∧ ok_wi p2.toInt p3.toInt p4.toInt p5.toInt) → r.toInt = 1 ∧ u 135 = w4_f (g 135) (200 + p1.toInt.toNat) p2.toInt p3.toInt p4.toInt p5.toInt) ∧ (¬ ((0 ≤ p1.toInt ∧ p1.toInt < g 104 0 ∧ g 108 p1.toInt.toNat = 0 ∧ ok_wi p2.toInt p3.toInt p4.toInt p5.toInt)) → r.toInt = 0 ∧ u 135 = g 135))) (okb dC dI dA sz X Γ) (ty_A sz)) 0 0 (ty_A sz) := by
  refine Met.ofW (cc := cX9_rushWish) (maxL := 6) (ret := (Option.some Jvm.ClassFile.FieldType.boolean)) (by decide) rfl ?_
  intro p e s m args below meth c s₁ B hml hv
  obtain ⟨rfl, hG, hE⟩ := hv
  have hx := B.exec
  have hb := B.bytes
  have hr := B.returns
  have hts := atoms_spec B.pre
  have hA : ∀ w ∈ AL, w.before _ s = true := fun w h => hts w (List.mem_cons_of_mem _ h)
  have hown : s.vm.findClass RX9 = some m.cls := findClass_of_methodNamed B.named
  have hlocks := B.notSynchronized
  have hS : va_S (ty_A sz) s.heap s.heap [] := va_S.rf
  have hl := lv_entry ([.ref h0, .int p1, .int p2, .int p3, .int p4, .int p5]) (n := 6) (Nat.le_of_ble_eq_true rfl)
  rw [lg_entry_eq]
  generalize (lg_sl ([.ref h0, .int p1, .int p2, .int p3, .int p4, .int p5]) ++ List.replicate (6 - (lg_sl ([.ref h0, .int p1, .int p2, .int p3, .int p4, .int p5])).length) Slot.unset).toArray = ls at hl ⊢
  have hl : lv_has ls 6 [(0, .ref h0), (1, .int p1), (2, .int p2), (3, .int p3), (4, .int p4), (5, .int p5)] := hl
  refine lv_aload_n hx hb dX9_rushWish_0 rfl (lv_at hl 0 rfl) ?_
  refine ty_iconst hx hb (0) dX9_rushWish_1 (by decide) (fun x1 h2 => ?_)
  refine put_X9_0 hx hb hA hown hE hG hS hU t_h0 wd_4_130 dX9_rushWish_2 (fun H locs hG hS => ?_)
  refine lv_aload_n hx hb dX9_rushWish_5 rfl (lv_at hl 0 rfl) ?_
  refine lv_iload_n hx hb dX9_rushWish_6 rfl (lv_at hl 1 rfl) ?_
  have e3 : (gs g 100 0 x1.toInt) 104 0 = g 104 0 := by rw [gs_c _ _ _ _ (by decide)]
  have e4 : (gs g 100 0 x1.toInt) 104 0 = g 104 0 := by rw [gs_c _ _ _ _ (by decide)]
  have e5 : (gs g 100 0 x1.toInt) 108 p1.toInt.toNat = g 108 p1.toInt.toNat := by rw [gs_c _ _ _ _ (by decide)]
  refine cI (va_runV (C := RX9) (As := [.int p1]) (rest := []) ⟨hx, hb, hml, hown, hA⟩ (k_X9_isAlive l dC dI dA sz X Γ hU (gs g 100 0 x1.toInt) h0 t_h0 p1   (by omega)) ⟨callB_of 1 hA (al_A wd_5_54) rfl rfl rfl (hA _ wd_1_7) (hA _ wd_5_51) (by decide +kernel) ⟨Nat.le_of_ble_eq_true rfl, Nat.le_of_ble_eq_true rfl⟩, hA _ wd_5_53, hA _ ws_37⟩ ⟨bl, recv_X9 hE hG t_h0, fun U hU9 hW9 => ⟨rfl, by rw [hU9]; exact hG, hE.go hS hU9 hW9⟩⟩ rfl rfl hl.1 rfl (lv_room (Nat.le_of_ble_eq_true rfl)) dX9_rushWish_7 ⟨Nat.zero_le _, Nat.zero_le _⟩) hS (fun x8 u6 H locs w7 hG hS => ?_)
  obtain ⟨eu9, w7⟩ := w7
  rw [eu9] at hG
  rcases pz_or w7 with w7 | w7
  · skip
    refine ty_if_eq (tgt := 35) hx hb dX9_rushWish_10 (by decide) (fun c10 => ?_) (fun c10 => ?_)
    · exfalso; omega
    · skip
      refine lv_aload_n hx hb dX9_rushWish_13 rfl (lv_at hl 0 rfl) ?_
      refine ty_sipush hx hb (200) dX9_rushWish_14 (by decide) (fun x11 h12 => ?_)
      refine lv_iload_n hx hb dX9_rushWish_17 rfl (lv_at hl 1 rfl) ?_
      refine ty_iadd hx hb dX9_rushWish_18 (fun x13 h14 => ?_)
      try have h15 : x13.toInt = x11.toInt + p1.toInt := ty_add h14 (by omega) (by omega)
      refine lv_iload_n hx hb dX9_rushWish_19 rfl (lv_at hl 2 rfl) ?_
      refine lv_iload_n hx hb dX9_rushWish_20 rfl (lv_at hl 3 rfl) ?_
      refine lv_iload hx hb dX9_rushWish_21 (lv_at hl 4 rfl) ?_
      refine lv_iload hx hb dX9_rushWish_23 (lv_at hl 5 rfl) ?_
      refine cI (va_runV (C := RX9) (As := [.int x13, .int p2, .int p3, .int p4, .int p5]) (rest := []) ⟨hx, hb, hml, hown, hA⟩ (k_X9_wishes l dC dI dA sz X Γ hU (gs g 100 0 x1.toInt) h0 t_h0 x13 p2 p3 p4 p5   (by omega)) ⟨callB_of 5 hA (al_A wd_5_140) rfl rfl rfl (hA _ wd_1_7) (hA _ wd_5_137) (by decide +kernel) ⟨Nat.le_of_ble_eq_true rfl, Nat.le_of_ble_eq_true rfl⟩, hA _ wd_5_139, hA _ ws_48⟩ ⟨bl, recv_X9 hE hG t_h0, fun U hU9 hW9 => ⟨rfl, by rw [hU9]; exact hG, hE.go hS hU9 hW9⟩⟩ rfl rfl hl.1 rfl (lv_room (Nat.le_of_ble_eq_true rfl)) dX9_rushWish_25 ⟨Nat.zero_le _, Nat.zero_le _⟩) hS (fun x18 u16 H locs w17 hG hS => ?_)
      obtain ⟨hf20, w17, hq19⟩ := w17
      rcases pz_or w17 with w17 | w17
      · skip
        refine ty_if_eq (tgt := 35) hx hb dX9_rushWish_28 (by decide) (fun c21 => ?_) (fun c21 => ?_)
        · exfalso; omega
        · skip
          refine ty_iconst hx hb (1) dX9_rushWish_31 (by decide) (fun x22 h23 => ?_)
          refine lv_goto (tgt := 36) hx hb dX9_rushWish_32 (by decide) ?_
          exact W.zret (v := x22) hx hb hr (ty_nb (by omega)).1 (fun t ht hW => ⟨⟨x22, u16, rfl, ⟨(fun c j h100 h135 => by rw [hf20 c j h135, gs_c _ _ _ _ h100]), (⟨fun _ => ⟨(by omega), (by rw [hq19.1 (by omega), gs_r _ _ _ (by decide), show x13.toInt.toNat = 200 + p1.toInt.toNat by omega])⟩, fun q => absurd (by unfold ok_wi; omega) q⟩)⟩, ok1 ht hG⟩, hS.F ht⟩) hS.2.2 dX9_rushWish_36
      · skip
        refine ty_if_eq (tgt := 35) hx hb dX9_rushWish_28 (by decide) (fun c24 => ?_) (fun c24 => ?_)
        · skip
          refine ty_iconst hx hb (0) dX9_rushWish_35 (by decide) (fun x25 h26 => ?_)
          exact W.zret (v := x25) hx hb hr (ty_nb (by omega)).1 (fun t ht hW => ⟨⟨x25, u16, rfl, ⟨(fun c j h100 h135 => by rw [hf20 c j h135, gs_c _ _ _ _ h100]), (⟨fun q => absurd q (by unfold ok_wi; omega), fun _ => ⟨(by omega), (by rw [hq19.2 (by omega), gs_r _ _ _ (by decide)])⟩⟩)⟩, ok1 ht hG⟩, hS.F ht⟩) hS.2.2 dX9_rushWish_36
        · exfalso; omega
  · skip
    refine ty_if_eq (tgt := 35) hx hb dX9_rushWish_10 (by decide) (fun c27 => ?_) (fun c27 => ?_)
    · skip
      refine ty_iconst hx hb (0) dX9_rushWish_35 (by decide) (fun x28 h29 => ?_)
      exact W.zret (v := x28) hx hb hr (ty_nb (by omega)).1 (fun t ht hW => ⟨⟨x28, (gs g 100 0 x1.toInt), rfl, ⟨(fun c j h100 h135 => by rw [gs_c _ _ _ _ h100]), (⟨fun q => absurd q (by unfold ok_wi; omega), fun _ => ⟨(by omega), (by rw [gs_r _ _ _ (by decide)])⟩⟩)⟩, ok1 ht hG⟩, hS.F ht⟩) hS.2.2 dX9_rushWish_36
    · exfalso; omega

set_option maxHeartbeats 4000000 in
set_option maxRecDepth 100000 in
/-- WeekBankModel.meets:  -/
theorem k_X9_meets (l : Launch) (dC : Nat → ClassId) (dI : Nat → Nat → Nat) (dA : Nat → ClassId) (sz : Nat) (X : va_W) (Γ : ty_G) (hU : Un Γ) (g : gh) (h0 : Nat) (t_h0 : ty Γ h0 30) (p1 : Int32) (p2 : Int32) (hf : 0 ≤ p1.toInt ∧ p1.toInt ≤ 199 ∧ 0 ≤ p2.toInt ∧ p2.toInt ≤ 209) : Met l yX9_meets (.code yX9_meets cX9_meets 4 (Option.some Jvm.ClassFile.FieldType.boolean) :: AL) ({ frames := 1, cells := 0, slots := 0, locals := 22 }) (PCx dC dI dA sz X Γ g [.ref h0, .int p1, .int p2]) (va_Qi (fun (r : Int32) (u : gh) => u = g ∧ ((r.toInt = 0 ∨ r.toInt = 1) ∧ (r.toInt = mm_b (g 135) p2.toInt.toNat ((g 102) ((g 128) p1.toInt.toNat).toNat) ((g 103) ((g 128) p1.toInt.toNat).toNat) ((g 129) p1.toInt.toNat)))) (okb dC dI dA sz X Γ) (ty_A sz)) 0 0 (ty_A sz) := by
  refine Met.ofW (cc := cX9_meets) (maxL := 4) (ret := (Option.some Jvm.ClassFile.FieldType.boolean)) (by decide) rfl ?_
  intro p e s m args below meth c s₁ B hml hv
  obtain ⟨rfl, hG, hE⟩ := hv
  have hx := B.exec
  have hb := B.bytes
  have hr := B.returns
  have hts := atoms_spec B.pre
  have hA : ∀ w ∈ AL, w.before _ s = true := fun w h => hts w (List.mem_cons_of_mem _ h)
  have hown : s.vm.findClass RX9 = some m.cls := findClass_of_methodNamed B.named
  have hlocks := B.notSynchronized
  have hS : va_S (ty_A sz) s.heap s.heap [] := va_S.rf
  have hl := lv_entry ([.ref h0, .int p1, .int p2]) (n := 4) (Nat.le_of_ble_eq_true rfl)
  rw [lg_entry_eq]
  generalize (lg_sl ([.ref h0, .int p1, .int p2]) ++ List.replicate (4 - (lg_sl ([.ref h0, .int p1, .int p2])).length) Slot.unset).toArray = ls at hl ⊢
  have hl : lv_has ls 4 [(0, .ref h0), (1, .int p1), (2, .int p2)] := hl
  refine ty_iconst hx hb (4) dX9_meets_0 (by decide) (fun x1 h2 => ?_)
  refine lv_iload_n hx hb dX9_meets_1 rfl (lv_at hl 2 rfl) ?_
  refine ty_imul hx hb dX9_meets_2 (fun x3 h4 => ?_)
  try have h5 : x3.toInt = 4 * p2.toInt := ty_mull h4 (by omega) (by omega) (by omega)
  refine lv_istore_n (lv' := [(3, .int x3), (0, .ref h0), (1, .int p1), (2, .int p2)]) hx hb dX9_meets_3 rfl hl (by decide) rfl (fun ls hl => ?_)
  refine lv_aload_n hx hb dX9_meets_4 rfl (lv_at hl 1 rfl) ?_
  refine get_X9_35 hx hb hA hown hE hG t_h0 wd_4_165 dX9_meets_5 (fun b6 (t_b6 : ty Γ b6 135) => ?_)
  refine lv_iload_n hx hb dX9_meets_8 rfl (lv_at hl 0 rfl) ?_
  refine ty_iconst hx hb (3) dX9_meets_9 (by decide) (fun x7 h8 => ?_)
  refine ty_iadd hx hb dX9_meets_10 (fun x9 h10 => ?_)
  try have h11 : x9.toInt = x3.toInt + x7.toInt := ty_add h10 (by omega) (by omega)
  refine ald_mI hx hb hE hG 35 rfl (n := 840) rfl (lo := -2147483648) (hi := 2147483647) rfl rfl t_b6 (by omega) dX9_meets_11 (fun j13 x12 h14 h15 h16 => ?_)
  clear h16
  obtain rfl : j13 = x9.toInt.toNat := by omega
  replace h15 : x12.toInt = g 135 x9.toInt.toNat := h15
  replace h15 : x12.toInt = g 135 (4 * p2.toInt.toNat + 3) := by rw [h15, show x9.toInt.toNat = (4 * p2.toInt.toNat + 3) by omega]
  refine ty_if_eq (tgt := 37) hx hb dX9_meets_12 (by decide) (fun c17 => ?_) (fun c17 => ?_)
  · skip
    refine ty_iconst hx hb (0) dX9_meets_37 (by decide) (fun x18 h19 => ?_)
    exact W.zret (v := x18) hx hb hr (ty_nb (by omega)).1 (fun t ht hW => ⟨⟨x18, g, rfl, ⟨rfl, (⟨by omega, by unfold mm_b; split <;> omega⟩)⟩, ok1 ht hG⟩, hS.F ht⟩) hS.2.2 dX9_meets_38
  · skip
    refine lv_aload_n hx hb dX9_meets_15 rfl (lv_at hl 1 rfl) ?_
    refine get_X9_3 hx hb hA hown hE hG t_h0 wd_4_133 dX9_meets_16 (fun b20 (t_b20 : ty Γ b20 103) => ?_)
    refine lv_aload_n hx hb dX9_meets_19 rfl (lv_at hl 1 rfl) ?_
    refine get_X9_28 hx hb hA hown hE hG t_h0 wd_4_158 dX9_meets_20 (fun b21 (t_b21 : ty Γ b21 128) => ?_)
    refine lv_iload_n hx hb dX9_meets_23 rfl (lv_at hl 2 rfl) ?_
    refine ald_mI hx hb hE hG 28 rfl (n := 200) rfl (lo := 0) (hi := 5) rfl rfl t_b21 (by omega) dX9_meets_24 (fun j23 x22 h24 h25 h26 => ?_)
    obtain rfl : j23 = p1.toInt.toNat := by omega
    replace h25 : x22.toInt = g 128 p1.toInt.toNat := h25
    refine ald_mI hx hb hE hG 3 rfl (n := 6) rfl (lo := -2147483648) (hi := 2147483647) rfl rfl t_b20 (by omega) dX9_meets_25 (fun j28 x27 h29 h30 h31 => ?_)
    clear h31
    obtain rfl : j28 = x22.toInt.toNat := by omega
    replace h30 : x27.toInt = g 103 x22.toInt.toNat := h30
    replace h30 : x27.toInt = g 103 ((g 128 p1.toInt.toNat).toNat) := by rw [h30, show x22.toInt.toNat = ((g 128 p1.toInt.toNat).toNat) by omega]
    refine lv_aload_n hx hb dX9_meets_26 rfl (lv_at hl 1 rfl) ?_
    refine get_X9_35 hx hb hA hown hE hG t_h0 wd_4_165 dX9_meets_27 (fun b32 (t_b32 : ty Γ b32 135) => ?_)
    refine lv_iload_n hx hb dX9_meets_30 rfl (lv_at hl 0 rfl) ?_
    refine ty_iconst hx hb (3) dX9_meets_31 (by decide) (fun x33 h34 => ?_)
    refine ty_iadd hx hb dX9_meets_32 (fun x35 h36 => ?_)
    try have h37 : x35.toInt = x3.toInt + x33.toInt := ty_add h36 (by omega) (by omega)
    refine ald_mI hx hb hE hG 35 rfl (n := 840) rfl (lo := -2147483648) (hi := 2147483647) rfl rfl t_b32 (by omega) dX9_meets_33 (fun j39 x38 h40 h41 h42 => ?_)
    clear h42
    obtain rfl : j39 = x35.toInt.toNat := by omega
    replace h41 : x38.toInt = g 135 x35.toInt.toNat := h41
    replace h41 : x38.toInt = g 135 (4 * p2.toInt.toNat + 3) := by rw [h41, show x35.toInt.toNat = (4 * p2.toInt.toNat + 3) by omega]
    refine ty_icmp_ge (tgt := 39) hx hb dX9_meets_34 (by decide) (fun c43 => ?_) (fun c43 => ?_)
    · skip
      refine lv_aload_n hx hb dX9_meets_39 rfl (lv_at hl 1 rfl) ?_
      refine get_X9_35 hx hb hA hown hE hG t_h0 wd_4_165 dX9_meets_40 (fun b44 (t_b44 : ty Γ b44 135) => ?_)
      refine lv_iload_n hx hb dX9_meets_43 rfl (lv_at hl 0 rfl) ?_
      refine ald_mI hx hb hE hG 35 rfl (n := 840) rfl (lo := -2147483648) (hi := 2147483647) rfl rfl t_b44 (by omega) dX9_meets_44 (fun j46 x45 h47 h48 h49 => ?_)
      clear h49
      obtain rfl : j46 = x3.toInt.toNat := by omega
      replace h48 : x45.toInt = g 135 x3.toInt.toNat := h48
      replace h48 : x45.toInt = g 135 (4 * p2.toInt.toNat) := by rw [h48, show x3.toInt.toNat = (4 * p2.toInt.toNat) by omega]
      refine ty_iconst hx hb (-1) dX9_meets_45 (by decide) (fun x50 h51 => ?_)
      refine ty_icmp_eq (tgt := 71) hx hb dX9_meets_46 (by decide) (fun c52 => ?_) (fun c52 => ?_)
      · skip
        refine lv_aload_n hx hb dX9_meets_71 rfl (lv_at hl 1 rfl) ?_
        refine get_X9_29 hx hb hA hown hE hG t_h0 wd_4_159 dX9_meets_72 (fun b53 (t_b53 : ty Γ b53 129) => ?_)
        refine lv_iload_n hx hb dX9_meets_75 rfl (lv_at hl 2 rfl) ?_
        refine ald_mI hx hb hE hG 29 rfl (n := 200) rfl (lo := -2147483648) (hi := 2147483647) rfl rfl t_b53 (by omega) dX9_meets_76 (fun j55 x54 h56 h57 h58 => ?_)
        clear h58
        obtain rfl : j55 = p1.toInt.toNat := by omega
        replace h57 : x54.toInt = g 129 p1.toInt.toNat := h57
        refine lv_aload_n hx hb dX9_meets_77 rfl (lv_at hl 1 rfl) ?_
        refine get_X9_35 hx hb hA hown hE hG t_h0 wd_4_165 dX9_meets_78 (fun b59 (t_b59 : ty Γ b59 135) => ?_)
        refine lv_iload_n hx hb dX9_meets_81 rfl (lv_at hl 0 rfl) ?_
        refine ty_iconst hx hb (1) dX9_meets_82 (by decide) (fun x60 h61 => ?_)
        refine ty_iadd hx hb dX9_meets_83 (fun x62 h63 => ?_)
        try have h64 : x62.toInt = x3.toInt + x60.toInt := ty_add h63 (by omega) (by omega)
        refine ald_mI hx hb hE hG 35 rfl (n := 840) rfl (lo := -2147483648) (hi := 2147483647) rfl rfl t_b59 (by omega) dX9_meets_84 (fun j66 x65 h67 h68 h69 => ?_)
        clear h69
        obtain rfl : j66 = x62.toInt.toNat := by omega
        replace h68 : x65.toInt = g 135 x62.toInt.toNat := h68
        replace h68 : x65.toInt = g 135 (4 * p2.toInt.toNat + 1) := by rw [h68, show x62.toInt.toNat = (4 * p2.toInt.toNat + 1) by omega]
        refine lv_aload_n hx hb dX9_meets_85 rfl (lv_at hl 1 rfl) ?_
        refine get_X9_35 hx hb hA hown hE hG t_h0 wd_4_165 dX9_meets_86 (fun b70 (t_b70 : ty Γ b70 135) => ?_)
        refine lv_iload_n hx hb dX9_meets_89 rfl (lv_at hl 0 rfl) ?_
        refine ty_iconst hx hb (2) dX9_meets_90 (by decide) (fun x71 h72 => ?_)
        refine ty_iadd hx hb dX9_meets_91 (fun x73 h74 => ?_)
        try have h75 : x73.toInt = x3.toInt + x71.toInt := ty_add h74 (by omega) (by omega)
        refine ald_mI hx hb hE hG 35 rfl (n := 840) rfl (lo := -2147483648) (hi := 2147483647) rfl rfl t_b70 (by omega) dX9_meets_92 (fun j77 x76 h78 h79 h80 => ?_)
        clear h80
        obtain rfl : j77 = x73.toInt.toNat := by omega
        replace h79 : x76.toInt = g 135 x73.toInt.toNat := h79
        replace h79 : x76.toInt = g 135 (4 * p2.toInt.toNat + 2) := by rw [h79, show x73.toInt.toNat = (4 * p2.toInt.toNat + 2) by omega]
        refine cI (va_runS (As := [.int x54, .int x65, .int x76]) (rest := []) ⟨hx, hb, hml, hown, hA⟩ (k_X9_within l dC dI dA sz X Γ hU g x54 x65 x76   ) ⟨callB_of 3 hA (al_A wd_5_38) rfl rfl rfl (hA _ wd_1_7) (hA _ wd_5_36) (by decide +kernel) ⟨Nat.le_of_ble_eq_true rfl, Nat.le_of_ble_eq_true rfl⟩, hA _ wd_5_37⟩ ⟨bl, fun U hU9 hW9 => ⟨rfl, by rw [hU9]; exact hG, hE.go hS hU9 hW9⟩⟩ rfl rfl hl.1 rfl (lv_room (Nat.le_of_ble_eq_true rfl)) dX9_meets_93 ⟨Nat.zero_le _, Nat.zero_le _⟩) hS (fun x83 u81 H locs w82 hG hS => ?_)
        obtain ⟨eu84, w82⟩ := w82
        rw [eu84] at hG
        exact W.zret (v := x83) hx hb hr (ty_nb (by omega)).1 (fun t ht hW => ⟨⟨x83, g, rfl, ⟨rfl, (⟨by omega, by unfold mm_b; split <;> omega⟩)⟩, ok1 ht hG⟩, hS.F ht⟩) hS.2.2 dX9_meets_96
      · skip
        refine lv_aload_n hx hb dX9_meets_49 rfl (lv_at hl 1 rfl) ?_
        refine get_X9_35 hx hb hA hown hE hG t_h0 wd_4_165 dX9_meets_50 (fun b85 (t_b85 : ty Γ b85 135) => ?_)
        refine lv_iload_n hx hb dX9_meets_53 rfl (lv_at hl 0 rfl) ?_
        refine ald_mI hx hb hE hG 35 rfl (n := 840) rfl (lo := -2147483648) (hi := 2147483647) rfl rfl t_b85 (by omega) dX9_meets_54 (fun j87 x86 h88 h89 h90 => ?_)
        clear h90
        obtain rfl : j87 = x3.toInt.toNat := by omega
        replace h89 : x86.toInt = g 135 x3.toInt.toNat := h89
        replace h89 : x86.toInt = g 135 (4 * p2.toInt.toNat) := by rw [h89, show x3.toInt.toNat = (4 * p2.toInt.toNat) by omega]
        refine lv_aload_n hx hb dX9_meets_55 rfl (lv_at hl 1 rfl) ?_
        refine get_X9_2 hx hb hA hown hE hG t_h0 wd_4_132 dX9_meets_56 (fun b91 (t_b91 : ty Γ b91 102) => ?_)
        refine lv_aload_n hx hb dX9_meets_59 rfl (lv_at hl 1 rfl) ?_
        refine get_X9_28 hx hb hA hown hE hG t_h0 wd_4_158 dX9_meets_60 (fun b92 (t_b92 : ty Γ b92 128) => ?_)
        refine lv_iload_n hx hb dX9_meets_63 rfl (lv_at hl 2 rfl) ?_
        refine ald_mI hx hb hE hG 28 rfl (n := 200) rfl (lo := 0) (hi := 5) rfl rfl t_b92 (by omega) dX9_meets_64 (fun j94 x93 h95 h96 h97 => ?_)
        obtain rfl : j94 = p1.toInt.toNat := by omega
        replace h96 : x93.toInt = g 128 p1.toInt.toNat := h96
        refine ald_mI hx hb hE hG 2 rfl (n := 6) rfl (lo := -2147483648) (hi := 2147483647) rfl rfl t_b91 (by omega) dX9_meets_65 (fun j99 x98 h100 h101 h102 => ?_)
        clear h102
        obtain rfl : j99 = x93.toInt.toNat := by omega
        replace h101 : x98.toInt = g 102 x93.toInt.toNat := h101
        replace h101 : x98.toInt = g 102 ((g 128 p1.toInt.toNat).toNat) := by rw [h101, show x93.toInt.toNat = ((g 128 p1.toInt.toNat).toNat) by omega]
        refine ty_icmp_eq (tgt := 71) hx hb dX9_meets_66 (by decide) (fun c103 => ?_) (fun c103 => ?_)
        · skip
          refine lv_aload_n hx hb dX9_meets_71 rfl (lv_at hl 1 rfl) ?_
          refine get_X9_29 hx hb hA hown hE hG t_h0 wd_4_159 dX9_meets_72 (fun b104 (t_b104 : ty Γ b104 129) => ?_)
          refine lv_iload_n hx hb dX9_meets_75 rfl (lv_at hl 2 rfl) ?_
          refine ald_mI hx hb hE hG 29 rfl (n := 200) rfl (lo := -2147483648) (hi := 2147483647) rfl rfl t_b104 (by omega) dX9_meets_76 (fun j106 x105 h107 h108 h109 => ?_)
          clear h109
          obtain rfl : j106 = p1.toInt.toNat := by omega
          replace h108 : x105.toInt = g 129 p1.toInt.toNat := h108
          refine lv_aload_n hx hb dX9_meets_77 rfl (lv_at hl 1 rfl) ?_
          refine get_X9_35 hx hb hA hown hE hG t_h0 wd_4_165 dX9_meets_78 (fun b110 (t_b110 : ty Γ b110 135) => ?_)
          refine lv_iload_n hx hb dX9_meets_81 rfl (lv_at hl 0 rfl) ?_
          refine ty_iconst hx hb (1) dX9_meets_82 (by decide) (fun x111 h112 => ?_)
          refine ty_iadd hx hb dX9_meets_83 (fun x113 h114 => ?_)
          try have h115 : x113.toInt = x3.toInt + x111.toInt := ty_add h114 (by omega) (by omega)
          refine ald_mI hx hb hE hG 35 rfl (n := 840) rfl (lo := -2147483648) (hi := 2147483647) rfl rfl t_b110 (by omega) dX9_meets_84 (fun j117 x116 h118 h119 h120 => ?_)
          clear h120
          obtain rfl : j117 = x113.toInt.toNat := by omega
          replace h119 : x116.toInt = g 135 x113.toInt.toNat := h119
          replace h119 : x116.toInt = g 135 (4 * p2.toInt.toNat + 1) := by rw [h119, show x113.toInt.toNat = (4 * p2.toInt.toNat + 1) by omega]
          refine lv_aload_n hx hb dX9_meets_85 rfl (lv_at hl 1 rfl) ?_
          refine get_X9_35 hx hb hA hown hE hG t_h0 wd_4_165 dX9_meets_86 (fun b121 (t_b121 : ty Γ b121 135) => ?_)
          refine lv_iload_n hx hb dX9_meets_89 rfl (lv_at hl 0 rfl) ?_
          refine ty_iconst hx hb (2) dX9_meets_90 (by decide) (fun x122 h123 => ?_)
          refine ty_iadd hx hb dX9_meets_91 (fun x124 h125 => ?_)
          try have h126 : x124.toInt = x3.toInt + x122.toInt := ty_add h125 (by omega) (by omega)
          refine ald_mI hx hb hE hG 35 rfl (n := 840) rfl (lo := -2147483648) (hi := 2147483647) rfl rfl t_b121 (by omega) dX9_meets_92 (fun j128 x127 h129 h130 h131 => ?_)
          clear h131
          obtain rfl : j128 = x124.toInt.toNat := by omega
          replace h130 : x127.toInt = g 135 x124.toInt.toNat := h130
          replace h130 : x127.toInt = g 135 (4 * p2.toInt.toNat + 2) := by rw [h130, show x124.toInt.toNat = (4 * p2.toInt.toNat + 2) by omega]
          refine cI (va_runS (As := [.int x105, .int x116, .int x127]) (rest := []) ⟨hx, hb, hml, hown, hA⟩ (k_X9_within l dC dI dA sz X Γ hU g x105 x116 x127   ) ⟨callB_of 3 hA (al_A wd_5_38) rfl rfl rfl (hA _ wd_1_7) (hA _ wd_5_36) (by decide +kernel) ⟨Nat.le_of_ble_eq_true rfl, Nat.le_of_ble_eq_true rfl⟩, hA _ wd_5_37⟩ ⟨bl, fun U hU9 hW9 => ⟨rfl, by rw [hU9]; exact hG, hE.go hS hU9 hW9⟩⟩ rfl rfl hl.1 rfl (lv_room (Nat.le_of_ble_eq_true rfl)) dX9_meets_93 ⟨Nat.zero_le _, Nat.zero_le _⟩) hS (fun x134 u132 H locs w133 hG hS => ?_)
          obtain ⟨eu135, w133⟩ := w133
          rw [eu135] at hG
          exact W.zret (v := x134) hx hb hr (ty_nb (by omega)).1 (fun t ht hW => ⟨⟨x134, g, rfl, ⟨rfl, (⟨by omega, by unfold mm_b; split <;> omega⟩)⟩, ok1 ht hG⟩, hS.F ht⟩) hS.2.2 dX9_meets_96
        · skip
          refine ty_iconst hx hb (0) dX9_meets_69 (by decide) (fun x136 h137 => ?_)
          exact W.zret (v := x136) hx hb hr (ty_nb (by omega)).1 (fun t ht hW => ⟨⟨x136, g, rfl, ⟨rfl, (⟨by omega, by unfold mm_b; split <;> omega⟩)⟩, ok1 ht hG⟩, hS.F ht⟩) hS.2.2 dX9_meets_70
    · skip
      refine ty_iconst hx hb (0) dX9_meets_37 (by decide) (fun x138 h139 => ?_)
      exact W.zret (v := x138) hx hb hr (ty_nb (by omega)).1 (fun t ht hW => ⟨⟨x138, g, rfl, ⟨rfl, (⟨by omega, by unfold mm_b; split <;> omega⟩)⟩, ok1 ht hG⟩, hS.F ht⟩) hS.2.2 dX9_meets_38

set_option maxHeartbeats 4000000 in
set_option maxRecDepth 100000 in
/-- WeekBankModel.bank:  -/
theorem k_X9_bank (l : Launch) (dC : Nat → ClassId) (dI : Nat → Nat → Nat) (dA : Nat → ClassId) (sz : Nat) (X : va_W) (Γ : ty_G) (hU : Un Γ) (g : gh) (h0 : Nat) (t_h0 : ty Γ h0 30) (p1 : Int32) (m26 : 0 ≤ g 126 0 ∧ g 126 0 ≤ 200) (hIJ : IJ g) : Met l yX9_bank (.code yX9_bank cX9_bank 2 (Option.some Jvm.ClassFile.FieldType.int) :: AL) ({ frames := 1, cells := 0, slots := 0, locals := 22 }) (PCx dC dI dA sz X Γ g [.ref h0, .int p1]) (va_Qi (fun (r : Int32) (u : gh) => (∀ c j : Nat, c ≠ 100 → c ≠ 106 → c ≠ 132 → u c j = g c j) ∧ (IJ u) ∧ (((0 ≤ p1.toInt ∧ p1.toInt < g 126 0 ∧ g 132 p1.toInt.toNat = 0) → r.toInt = (wa (g 106 (g 127 p1.toInt.toNat).toNat) (g 131 p1.toInt.toNat)) ∧ u 132 = pz_up (g 132) p1.toInt.toNat 2 ∧ u 106 = pz_up (g 106) (g 127 p1.toInt.toNat).toNat (wa (g 106 (g 127 p1.toInt.toNat).toNat) (g 131 p1.toInt.toNat))) ∧ (¬ ((0 ≤ p1.toInt ∧ p1.toInt < g 126 0 ∧ g 132 p1.toInt.toNat = 0)) → r.toInt = -1 ∧ u 132 = g 132 ∧ u 106 = g 106))) (okb dC dI dA sz X Γ) (ty_A sz)) 0 0 (ty_A sz) := by
  refine Met.ofW (cc := cX9_bank) (maxL := 2) (ret := (Option.some Jvm.ClassFile.FieldType.int)) (by decide) rfl ?_
  intro p e s m args below meth c s₁ B hml hv
  obtain ⟨rfl, hG, hE⟩ := hv
  have hx := B.exec
  have hb := B.bytes
  have hr := B.returns
  have hts := atoms_spec B.pre
  have hA : ∀ w ∈ AL, w.before _ s = true := fun w h => hts w (List.mem_cons_of_mem _ h)
  have hown : s.vm.findClass RX9 = some m.cls := findClass_of_methodNamed B.named
  have hlocks := B.notSynchronized
  have hS : va_S (ty_A sz) s.heap s.heap [] := va_S.rf
  have hl := lv_entry ([.ref h0, .int p1]) (n := 2) (Nat.le_of_ble_eq_true rfl)
  rw [lg_entry_eq]
  generalize (lg_sl ([.ref h0, .int p1]) ++ List.replicate (2 - (lg_sl ([.ref h0, .int p1])).length) Slot.unset).toArray = ls at hl ⊢
  have hl : lv_has ls 2 [(0, .ref h0), (1, .int p1)] := hl
  refine lv_aload_n hx hb dX9_bank_0 rfl (lv_at hl 0 rfl) ?_
  refine ty_iconst hx hb (0) dX9_bank_1 (by decide) (fun x1 h2 => ?_)
  refine put_X9_0 hx hb hA hown hE hG hS hU t_h0 wd_4_130 dX9_bank_2 (fun H locs hG hS => ?_)
  refine lv_aload_n hx hb dX9_bank_5 rfl (lv_at hl 0 rfl) ?_
  refine lv_iload_n hx hb dX9_bank_6 rfl (lv_at hl 1 rfl) ?_
  refine ty_iconst hx hb (0) dX9_bank_7 (by decide) (fun x3 h4 => ?_)
  have e5 : (gs g 100 0 x1.toInt) 126 0 = g 126 0 := by rw [gs_c _ _ _ _ (by decide)]
  have e6 : (gs g 100 0 x1.toInt) 126 0 = g 126 0 := by rw [gs_c _ _ _ _ (by decide)]
  have e7 : (gs g 100 0 x1.toInt) 132 p1.toInt.toNat = g 132 p1.toInt.toNat := by rw [gs_c _ _ _ _ (by decide)]
  refine cI (va_runV (C := RX9) (As := [.int p1, .int x3]) (rest := []) ⟨hx, hb, hml, hown, hA⟩ (k_X9_isGift l dC dI dA sz X Γ hU (gs g 100 0 x1.toInt) h0 t_h0 p1 x3   (by omega)) ⟨callB_of 2 hA (al_A wd_5_136) rfl rfl rfl (hA _ wd_1_7) (hA _ wd_5_133) (by decide +kernel) ⟨Nat.le_of_ble_eq_true rfl, Nat.le_of_ble_eq_true rfl⟩, hA _ wd_5_135, hA _ ws_47⟩ ⟨bl, recv_X9 hE hG t_h0, fun U hU9 hW9 => ⟨rfl, by rw [hU9]; exact hG, hE.go hS hU9 hW9⟩⟩ rfl rfl hl.1 rfl (lv_room (Nat.le_of_ble_eq_true rfl)) dX9_bank_8 ⟨Nat.zero_le _, Nat.zero_le _⟩) hS (fun x10 u8 H locs w9 hG hS => ?_)
  obtain ⟨eu11, w9⟩ := w9
  rw [eu11] at hG
  rcases pz_or w9 with w9 | w9
  · skip
    refine ty_if_ne (tgt := 16) hx hb dX9_bank_11 (by decide) (fun c12 => ?_) (fun c12 => ?_)
    · skip
      refine lv_aload_n hx hb dX9_bank_16 rfl (lv_at hl 0 rfl) ?_
      refine get_X9_32 hx hb hA hown hE hG t_h0 wd_4_162 dX9_bank_17 (fun b13 (t_b13 : ty Γ b13 132) => ?_)
      refine lv_iload_n hx hb dX9_bank_20 rfl (lv_at hl 1 rfl) ?_
      refine ty_iconst hx hb (2) dX9_bank_21 (by decide) (fun x14 h15 => ?_)
      refine ast_mI hx hb hE hG hS hU 32 rfl (n := 200) rfl (lo := 0) (hi := 5) rfl rfl rfl t_b13 (by omega) (by omega) dX9_bank_22 (fun H locs hG hS => ?_)
      refine lv_aload_n hx hb dX9_bank_23 rfl (lv_at hl 0 rfl) ?_
      refine get_X9_6 hx hb hA hown hE hG t_h0 wd_4_136 dX9_bank_24 (fun b16 (t_b16 : ty Γ b16 106) => ?_)
      refine lv_aload_n hx hb dX9_bank_27 rfl (lv_at hl 0 rfl) ?_
      refine get_X9_27 hx hb hA hown hE hG t_h0 wd_4_157 dX9_bank_28 (fun b17 (t_b17 : ty Γ b17 127) => ?_)
      refine lv_iload_n hx hb dX9_bank_31 rfl (lv_at hl 1 rfl) ?_
      refine ald_mI hx hb hE hG 27 rfl (n := 200) rfl (lo := 0) (hi := 9) rfl rfl t_b17 (by omega) dX9_bank_32 (fun j19 x18 h20 h21 h22 => ?_)
      obtain rfl : j19 = p1.toInt.toNat := by omega
      rw [gs_c _ _ _ _ (by decide)] at h21
      rw [gs_c _ _ _ _ (by decide)] at h21
      replace h21 : x18.toInt = g 127 p1.toInt.toNat := h21
      refine lv_dup2_11 hx hb dX9_bank_33 rfl rfl ?_
      refine ald_mI hx hb hE hG 6 rfl (n := 10) rfl (lo := -2147483648) (hi := 2147483647) rfl rfl t_b16 (by omega) dX9_bank_34 (fun j24 x23 h25 h26 h27 => ?_)
      clear h27
      obtain rfl : j24 = x18.toInt.toNat := by omega
      rw [gs_c _ _ _ _ (by decide)] at h26
      rw [gs_c _ _ _ _ (by decide)] at h26
      replace h26 : x23.toInt = g 106 x18.toInt.toNat := h26
      replace h26 : x23.toInt = g 106 ((g 127 p1.toInt.toNat).toNat) := by rw [h26, show x18.toInt.toNat = ((g 127 p1.toInt.toNat).toNat) by omega]
      refine lv_aload_n hx hb dX9_bank_35 rfl (lv_at hl 0 rfl) ?_
      refine get_X9_31 hx hb hA hown hE hG t_h0 wd_4_161 dX9_bank_36 (fun b28 (t_b28 : ty Γ b28 131) => ?_)
      refine lv_iload_n hx hb dX9_bank_39 rfl (lv_at hl 1 rfl) ?_
      refine ald_mI hx hb hE hG 31 rfl (n := 200) rfl (lo := -2147483648) (hi := 2147483647) rfl rfl t_b28 (by omega) dX9_bank_40 (fun j30 x29 h31 h32 h33 => ?_)
      clear h33
      obtain rfl : j30 = p1.toInt.toNat := by omega
      rw [gs_c _ _ _ _ (by decide)] at h32
      rw [gs_c _ _ _ _ (by decide)] at h32
      replace h32 : x29.toInt = g 131 p1.toInt.toNat := h32
      refine ty_iadd hx hb dX9_bank_41 (fun x34 h35 => ?_)
      have h36 : x34.toInt = wa (g 106 ((g 127 p1.toInt.toNat).toNat)) (g 131 p1.toInt.toNat) := by rw [ty_wa h35, h26, h32]
      refine ast_mI hx hb hE hG hS hU 6 rfl (n := 10) rfl (lo := -2147483648) (hi := 2147483647) rfl rfl rfl t_b16 (rgD _) (by omega) dX9_bank_42 (fun H locs hG hS => ?_)
      rw [show x18.toInt.toNat = ((g 127 p1.toInt.toNat).toNat) by omega] at hG
      generalize eg38 : (gs (gs (gs g 100 0 x1.toInt) 132 p1.toInt.toNat x14.toInt) 106 ((g 127 p1.toInt.toNat).toNat) x34.toInt) = g37 at hG
      have hf39 : ∀ c j : Nat, c ≠ 100 → c ≠ 132 → c ≠ 106 → g37 c j = g c j := fun c j h100 h132 h106 => by rw [← eg38, gs_c _ _ _ _ h106, gs_c _ _ _ _ h132, gs_c _ _ _ _ h100]
      have v40 : g37 100 0 = x1.toInt := by rw [← eg38, gs_c _ _ _ _ (by decide), gs_c _ _ _ _ (by decide), gs_self]
      have v41 : g37 132 p1.toInt.toNat = x14.toInt := by rw [← eg38, gs_c _ _ _ _ (by decide), gs_self]
      have hw42 : g37 132 = (pz_up (g 132) p1.toInt.toNat x14.toInt) := by rw [← eg38, gs_r _ _ _ (by decide), pz_gs, gs_r _ _ _ (by decide)]
      have v43 : g37 106 ((g 127 p1.toInt.toNat).toNat) = x34.toInt := by rw [← eg38, gs_self]
      have hw44 : g37 106 = (pz_up (g 106) ((g 127 p1.toInt.toNat).toNat) x34.toInt) := by rw [← eg38, pz_gs, gs_r _ _ _ (by decide), gs_r _ _ _ (by decide)]
      try have hj45 : IJ g37 := by rw [← eg38]; (repeat (first | with_reducible assumption | (refine IJ_c (by decide) (by decide) (by decide) ?_) | (refine IJ_take (by omega) (by omega) ?_) | (refine IJ_how (by omega) ?_) | (refine IJ_by (by omega) ?_)))
      refine lv_aload_n hx hb dX9_bank_43 rfl (lv_at hl 0 rfl) ?_
      refine get_X9_6 hx hb hA hown hE hG t_h0 wd_4_136 dX9_bank_44 (fun b46 (t_b46 : ty Γ b46 106) => ?_)
      refine lv_aload_n hx hb dX9_bank_47 rfl (lv_at hl 0 rfl) ?_
      refine get_X9_27 hx hb hA hown hE hG t_h0 wd_4_157 dX9_bank_48 (fun b47 (t_b47 : ty Γ b47 127) => ?_)
      refine lv_iload_n hx hb dX9_bank_51 rfl (lv_at hl 1 rfl) ?_
      refine ald_mI hx hb hE hG 27 rfl (n := 200) rfl (lo := 0) (hi := 9) rfl rfl t_b47 (by omega) dX9_bank_52 (fun j49 x48 h50 h51 h52 => ?_)
      obtain rfl : j49 = p1.toInt.toNat := by omega
      replace h51 : x48.toInt = g37 127 p1.toInt.toNat := h51
      have hk53 : g37 127 p1.toInt.toNat = g 127 p1.toInt.toNat := hf39 127 p1.toInt.toNat (by decide) (by decide) (by decide)
      replace h51 : x48.toInt = g 127 p1.toInt.toNat := by rw [h51, hf39 127 p1.toInt.toNat (by decide) (by decide) (by decide)]
      refine ald_mI hx hb hE hG 6 rfl (n := 10) rfl (lo := -2147483648) (hi := 2147483647) rfl rfl t_b46 (by omega) dX9_bank_53 (fun j55 x54 h56 h57 h58 => ?_)
      clear h58
      obtain rfl : j55 = x48.toInt.toNat := by omega
      replace h57 : x54.toInt = g37 106 x48.toInt.toNat := h57
      replace h57 : x54.toInt = g37 106 ((g 127 p1.toInt.toNat).toNat) := by rw [h57, show x48.toInt.toNat = ((g 127 p1.toInt.toNat).toNat) by omega]
      exact W.iret (v := x54) hx hb hr (fun t ht hW => ⟨⟨x54, g37, rfl, ⟨(fun c j h100 h106 h132 => by rw [hf39 c j h100 h132 h106]), (by (repeat (first | with_reducible assumption | (refine IJ_c (by decide) (by decide) (by decide) ?_) | (refine IJ_take (by omega) (by omega) ?_) | (refine IJ_how (by omega) ?_) | (refine IJ_by (by omega) ?_)))), (⟨fun _ => ⟨(by omega), (by rw [hw42] <;> exact pz_upc (by omega) (by omega)), (by rw [hw44] <;> exact pz_upc (by omega) (by omega))⟩, fun q => absurd (by omega) q⟩)⟩, ok1 ht hG⟩, hS.F ht⟩) hS.2.2 dX9_bank_54
    · exfalso; omega
  · skip
    refine ty_if_ne (tgt := 16) hx hb dX9_bank_11 (by decide) (fun c59 => ?_) (fun c59 => ?_)
    · exfalso; omega
    · skip
      refine ty_iconst hx hb (-1) dX9_bank_14 (by decide) (fun x60 h61 => ?_)
      exact W.iret (v := x60) hx hb hr (fun t ht hW => ⟨⟨x60, (gs g 100 0 x1.toInt), rfl, ⟨(fun c j h100 h106 h132 => by rw [gs_c _ _ _ _ h100]), (by (repeat (first | with_reducible assumption | (refine IJ_c (by decide) (by decide) (by decide) ?_) | (refine IJ_take (by omega) (by omega) ?_) | (refine IJ_how (by omega) ?_) | (refine IJ_by (by omega) ?_)))), (⟨fun q => absurd q (by omega), fun _ => ⟨(by omega), (by rw [gs_r _ _ _ (by decide)]), (by rw [gs_r _ _ _ (by decide)])⟩⟩)⟩, ok1 ht hG⟩, hS.F ht⟩) hS.2.2 dX9_bank_15

set_option maxHeartbeats 4000000 in
set_option maxRecDepth 100000 in
/-- WeekBankModel.goesTo:  -/
theorem k_X9_goesTo (l : Launch) (dC : Nat → ClassId) (dI : Nat → Nat → Nat) (dA : Nat → ClassId) (sz : Nat) (X : va_W) (Γ : ty_G) (hU : Un Γ) (g : gh) (h0 : Nat) (t_h0 : ty Γ h0 30) (p1 : Int32) (p2 : Int32) (hf : 0 ≤ p1.toInt ∧ p1.toInt ≤ 199 ∧ 0 ≤ p2.toInt ∧ p2.toInt ≤ 9) (hIJ : IJ g) : Met l yX9_goesTo (.code yX9_goesTo cX9_goesTo 3 (Option.none : Option Jvm.ClassFile.FieldType) :: AL) ({ frames := 0, cells := 0, slots := 0, locals := 0 }) (PCx dC dI dA sz X Γ g [.ref h0, .int p1, .int p2]) (va_Qv (fun (u : gh) => (∀ c j : Nat, c ≠ 106 → c ≠ 132 → c ≠ 134 → u c j = g c j) ∧ (IJ u) ∧ (u 132 = pz_up (g 132) p1.toInt.toNat 3) ∧ (u 134 = pz_up (g 134) p1.toInt.toNat p2.toInt) ∧ (u 106 = pz_up (g 106) p2.toInt.toNat (ws (g 106 p2.toInt.toNat) (g 131 p1.toInt.toNat)))) (okb dC dI dA sz X Γ) (ty_A sz)) 0 0 (ty_A sz) := by
  refine Met.ofW (cc := cX9_goesTo) (maxL := 3) (ret := (Option.none : Option Jvm.ClassFile.FieldType)) (by decide) rfl ?_
  intro p e s m args below meth c s₁ B hml hv
  obtain ⟨rfl, hG, hE⟩ := hv
  have hx := B.exec
  have hb := B.bytes
  have hr := B.returns
  have hts := atoms_spec B.pre
  have hA : ∀ w ∈ AL, w.before _ s = true := fun w h => hts w (List.mem_cons_of_mem _ h)
  have hown : s.vm.findClass RX9 = some m.cls := findClass_of_methodNamed B.named
  have hlocks := B.notSynchronized
  have hS : va_S (ty_A sz) s.heap s.heap [] := va_S.rf
  have hl := lv_entry ([.ref h0, .int p1, .int p2]) (n := 3) (Nat.le_of_ble_eq_true rfl)
  rw [lg_entry_eq]
  generalize (lg_sl ([.ref h0, .int p1, .int p2]) ++ List.replicate (3 - (lg_sl ([.ref h0, .int p1, .int p2])).length) Slot.unset).toArray = ls at hl ⊢
  have hl : lv_has ls 3 [(0, .ref h0), (1, .int p1), (2, .int p2)] := hl
  refine lv_aload_n hx hb dX9_goesTo_0 rfl (lv_at hl 0 rfl) ?_
  refine get_X9_32 hx hb hA hown hE hG t_h0 wd_4_162 dX9_goesTo_1 (fun b1 (t_b1 : ty Γ b1 132) => ?_)
  refine lv_iload_n hx hb dX9_goesTo_4 rfl (lv_at hl 1 rfl) ?_
  refine ty_iconst hx hb (3) dX9_goesTo_5 (by decide) (fun x2 h3 => ?_)
  refine ast_mI hx hb hE hG hS hU 32 rfl (n := 200) rfl (lo := 0) (hi := 5) rfl rfl rfl t_b1 (by omega) (by omega) dX9_goesTo_6 (fun H locs hG hS => ?_)
  refine lv_aload_n hx hb dX9_goesTo_7 rfl (lv_at hl 0 rfl) ?_
  refine get_X9_34 hx hb hA hown hE hG t_h0 wd_4_164 dX9_goesTo_8 (fun b4 (t_b4 : ty Γ b4 134) => ?_)
  refine lv_iload_n hx hb dX9_goesTo_11 rfl (lv_at hl 1 rfl) ?_
  refine lv_iload_n hx hb dX9_goesTo_12 rfl (lv_at hl 2 rfl) ?_
  refine ast_mI hx hb hE hG hS hU 34 rfl (n := 200) rfl (lo := -1) (hi := 9) rfl rfl rfl t_b4 (by omega) (by omega) dX9_goesTo_13 (fun H locs hG hS => ?_)
  refine lv_aload_n hx hb dX9_goesTo_14 rfl (lv_at hl 0 rfl) ?_
  refine get_X9_6 hx hb hA hown hE hG t_h0 wd_4_136 dX9_goesTo_15 (fun b5 (t_b5 : ty Γ b5 106) => ?_)
  refine lv_iload_n hx hb dX9_goesTo_18 rfl (lv_at hl 2 rfl) ?_
  refine lv_dup2_11 hx hb dX9_goesTo_19 rfl rfl ?_
  refine ald_mI hx hb hE hG 6 rfl (n := 10) rfl (lo := -2147483648) (hi := 2147483647) rfl rfl t_b5 (by omega) dX9_goesTo_20 (fun j7 x6 h8 h9 h10 => ?_)
  clear h10
  obtain rfl : j7 = p2.toInt.toNat := by omega
  rw [gs_c _ _ _ _ (by decide)] at h9
  rw [gs_c _ _ _ _ (by decide)] at h9
  replace h9 : x6.toInt = g 106 p2.toInt.toNat := h9
  refine lv_aload_n hx hb dX9_goesTo_21 rfl (lv_at hl 0 rfl) ?_
  refine get_X9_31 hx hb hA hown hE hG t_h0 wd_4_161 dX9_goesTo_22 (fun b11 (t_b11 : ty Γ b11 131) => ?_)
  refine lv_iload_n hx hb dX9_goesTo_25 rfl (lv_at hl 1 rfl) ?_
  refine ald_mI hx hb hE hG 31 rfl (n := 200) rfl (lo := -2147483648) (hi := 2147483647) rfl rfl t_b11 (by omega) dX9_goesTo_26 (fun j13 x12 h14 h15 h16 => ?_)
  clear h16
  obtain rfl : j13 = p1.toInt.toNat := by omega
  rw [gs_c _ _ _ _ (by decide)] at h15
  rw [gs_c _ _ _ _ (by decide)] at h15
  replace h15 : x12.toInt = g 131 p1.toInt.toNat := h15
  refine ty_isub hx hb dX9_goesTo_27 (fun x17 h18 => ?_)
  have h19 : x17.toInt = ws (g 106 p2.toInt.toNat) (g 131 p1.toInt.toNat) := by rw [ty_ws h18, h9, h15]
  refine ast_mI hx hb hE hG hS hU 6 rfl (n := 10) rfl (lo := -2147483648) (hi := 2147483647) rfl rfl rfl t_b5 (rgD _) (by omega) dX9_goesTo_28 (fun H locs hG hS => ?_)
  generalize eg21 : (gs (gs (gs g 132 p1.toInt.toNat x2.toInt) 134 p1.toInt.toNat p2.toInt) 106 p2.toInt.toNat x17.toInt) = g20 at hG
  have hf22 : ∀ c j : Nat, c ≠ 132 → c ≠ 134 → c ≠ 106 → g20 c j = g c j := fun c j h132 h134 h106 => by rw [← eg21, gs_c _ _ _ _ h106, gs_c _ _ _ _ h134, gs_c _ _ _ _ h132]
  have v23 : g20 132 p1.toInt.toNat = x2.toInt := by rw [← eg21, gs_c _ _ _ _ (by decide), gs_c _ _ _ _ (by decide), gs_self]
  have hw24 : g20 132 = (pz_up (g 132) p1.toInt.toNat x2.toInt) := by rw [← eg21, gs_r _ _ _ (by decide), gs_r _ _ _ (by decide), pz_gs]
  have v25 : g20 134 p1.toInt.toNat = p2.toInt := by rw [← eg21, gs_c _ _ _ _ (by decide), gs_self]
  have hw26 : g20 134 = (pz_up (g 134) p1.toInt.toNat p2.toInt) := by rw [← eg21, gs_r _ _ _ (by decide), pz_gs, gs_r _ _ _ (by decide)]
  have v27 : g20 106 p2.toInt.toNat = x17.toInt := by rw [← eg21, gs_self]
  have hw28 : g20 106 = (pz_up (g 106) p2.toInt.toNat x17.toInt) := by rw [← eg21, pz_gs, gs_r _ _ _ (by decide), gs_r _ _ _ (by decide)]
  try have hj29 : IJ g20 := by rw [← eg21]; (repeat (first | with_reducible assumption | (refine IJ_c (by decide) (by decide) (by decide) ?_) | (refine IJ_take (by omega) (by omega) ?_) | (refine IJ_how (by omega) ?_) | (refine IJ_by (by omega) ?_)))
  exact W.vret hx hb hr (fun t ht hW => ⟨⟨g20, rfl, ⟨(fun c j h106 h132 h134 => by rw [hf22 c j h132 h134 h106]), (by (repeat (first | with_reducible assumption | (refine IJ_c (by decide) (by decide) (by decide) ?_) | (refine IJ_take (by omega) (by omega) ?_) | (refine IJ_how (by omega) ?_) | (refine IJ_by (by omega) ?_)))), (by rw [hw24] <;> exact pz_upc (by omega) (by omega)), (by rw [hw26] <;> exact pz_upc (by omega) (by omega)), (by rw [hw28] <;> exact pz_upc (by omega) (by omega))⟩, ok1 ht hG⟩, hS.F ht⟩) hS.2.2 dX9_goesTo_29

set_option maxHeartbeats 4000000 in
set_option maxRecDepth 100000 in
/-- WeekBankModel.take:  -/
theorem k_X9_take (l : Launch) (dC : Nat → ClassId) (dI : Nat → Nat → Nat) (dA : Nat → ClassId) (sz : Nat) (X : va_W) (Γ : ty_G) (hU : Un Γ) (g : gh) (h0 : Nat) (t_h0 : ty Γ h0 30) (p1 : Int32) (p2 : Int32) (m4 : 0 ≤ g 104 0 ∧ g 104 0 ≤ 10) (m26 : 0 ≤ g 126 0 ∧ g 126 0 ≤ 200) (hIJ : IJ g) : Met l yX9_take (.code yX9_take cX9_take 3 (Option.some Jvm.ClassFile.FieldType.int) :: AL) ({ frames := 1, cells := 0, slots := 0, locals := 22 }) (PCx dC dI dA sz X Γ g [.ref h0, .int p1, .int p2]) (va_Qi (fun (r : Int32) (u : gh) => (∀ c j : Nat, c ≠ 100 → c ≠ 106 → c ≠ 132 → c ≠ 134 → u c j = g c j) ∧ (IJ u) ∧ ((tk_c (g 104 0) (g 126 0) (g 108) (g 106) (g 132) (g 131) p1.toInt p2.toInt = 0 → r.toInt = (ws (g 106 p1.toInt.toNat) (g 131 p2.toInt.toNat)) ∧ u 132 = pz_up (g 132) p2.toInt.toNat 3 ∧ u 134 = pz_up (g 134) p2.toInt.toNat p1.toInt ∧ u 106 = pz_up (g 106) p1.toInt.toNat (ws (g 106 p1.toInt.toNat) (g 131 p2.toInt.toNat))) ∧ (tk_c (g 104 0) (g 126 0) (g 108) (g 106) (g 132) (g 131) p1.toInt p2.toInt ≠ 0 → r.toInt = tk_c (g 104 0) (g 126 0) (g 108) (g 106) (g 132) (g 131) p1.toInt p2.toInt ∧ u 132 = g 132 ∧ u 134 = g 134 ∧ u 106 = g 106))) (okb dC dI dA sz X Γ) (ty_A sz)) 0 0 (ty_A sz) := by
  refine Met.ofW (cc := cX9_take) (maxL := 3) (ret := (Option.some Jvm.ClassFile.FieldType.int)) (by decide) rfl ?_
  intro p e s m args below meth c s₁ B hml hv
  obtain ⟨rfl, hG, hE⟩ := hv
  have hx := B.exec
  have hb := B.bytes
  have hr := B.returns
  have hts := atoms_spec B.pre
  have hA : ∀ w ∈ AL, w.before _ s = true := fun w h => hts w (List.mem_cons_of_mem _ h)
  have hown : s.vm.findClass RX9 = some m.cls := findClass_of_methodNamed B.named
  have hlocks := B.notSynchronized
  have hS : va_S (ty_A sz) s.heap s.heap [] := va_S.rf
  have hl := lv_entry ([.ref h0, .int p1, .int p2]) (n := 3) (Nat.le_of_ble_eq_true rfl)
  rw [lg_entry_eq]
  generalize (lg_sl ([.ref h0, .int p1, .int p2]) ++ List.replicate (3 - (lg_sl ([.ref h0, .int p1, .int p2])).length) Slot.unset).toArray = ls at hl ⊢
  have hl : lv_has ls 3 [(0, .ref h0), (1, .int p1), (2, .int p2)] := hl
  refine lv_aload_n hx hb dX9_take_0 rfl (lv_at hl 0 rfl) ?_
  refine ty_iconst hx hb (0) dX9_take_1 (by decide) (fun x1 h2 => ?_)
  refine put_X9_0 hx hb hA hown hE hG hS hU t_h0 wd_4_130 dX9_take_2 (fun H locs hG hS => ?_)
  refine lv_aload_n hx hb dX9_take_5 rfl (lv_at hl 0 rfl) ?_
  refine lv_iload_n hx hb dX9_take_6 rfl (lv_at hl 1 rfl) ?_
  have e3 : (gs g 100 0 x1.toInt) 104 0 = g 104 0 := by rw [gs_c _ _ _ _ (by decide)]
  have e4 : (gs g 100 0 x1.toInt) 104 0 = g 104 0 := by rw [gs_c _ _ _ _ (by decide)]
  have e5 : (gs g 100 0 x1.toInt) 108 p1.toInt.toNat = g 108 p1.toInt.toNat := by rw [gs_c _ _ _ _ (by decide)]
  refine cI (va_runV (C := RX9) (As := [.int p1]) (rest := []) ⟨hx, hb, hml, hown, hA⟩ (k_X9_isAlive l dC dI dA sz X Γ hU (gs g 100 0 x1.toInt) h0 t_h0 p1   (by omega)) ⟨callB_of 1 hA (al_A wd_5_54) rfl rfl rfl (hA _ wd_1_7) (hA _ wd_5_51) (by decide +kernel) ⟨Nat.le_of_ble_eq_true rfl, Nat.le_of_ble_eq_true rfl⟩, hA _ wd_5_53, hA _ ws_37⟩ ⟨bl, recv_X9 hE hG t_h0, fun U hU9 hW9 => ⟨rfl, by rw [hU9]; exact hG, hE.go hS hU9 hW9⟩⟩ rfl rfl hl.1 rfl (lv_room (Nat.le_of_ble_eq_true rfl)) dX9_take_7 ⟨Nat.zero_le _, Nat.zero_le _⟩) hS (fun x8 u6 H locs w7 hG hS => ?_)
  obtain ⟨eu9, w7⟩ := w7
  rw [eu9] at hG
  rcases pz_or w7 with w7 | w7
  · skip
    refine ty_if_eq (tgt := 22) hx hb dX9_take_10 (by decide) (fun c10 => ?_) (fun c10 => ?_)
    · exfalso; omega
    · skip
      refine lv_aload_n hx hb dX9_take_13 rfl (lv_at hl 0 rfl) ?_
      refine lv_iload_n hx hb dX9_take_14 rfl (lv_at hl 2 rfl) ?_
      refine ty_iconst hx hb (2) dX9_take_15 (by decide) (fun x11 h12 => ?_)
      have e13 : (gs g 100 0 x1.toInt) 126 0 = g 126 0 := by rw [gs_c _ _ _ _ (by decide)]
      have e14 : (gs g 100 0 x1.toInt) 126 0 = g 126 0 := by rw [gs_c _ _ _ _ (by decide)]
      have e15 : (gs g 100 0 x1.toInt) 132 p2.toInt.toNat = g 132 p2.toInt.toNat := by rw [gs_c _ _ _ _ (by decide)]
      refine cI (va_runV (C := RX9) (As := [.int p2, .int x11]) (rest := []) ⟨hx, hb, hml, hown, hA⟩ (k_X9_isGift l dC dI dA sz X Γ hU (gs g 100 0 x1.toInt) h0 t_h0 p2 x11   (by omega)) ⟨callB_of 2 hA (al_A wd_5_136) rfl rfl rfl (hA _ wd_1_7) (hA _ wd_5_133) (by decide +kernel) ⟨Nat.le_of_ble_eq_true rfl, Nat.le_of_ble_eq_true rfl⟩, hA _ wd_5_135, hA _ ws_47⟩ ⟨bl, recv_X9 hE hG t_h0, fun U hU9 hW9 => ⟨rfl, by rw [hU9]; exact hG, hE.go hS hU9 hW9⟩⟩ rfl rfl hl.1 rfl (lv_room (Nat.le_of_ble_eq_true rfl)) dX9_take_16 ⟨Nat.zero_le _, Nat.zero_le _⟩) hS (fun x18 u16 H locs w17 hG hS => ?_)
      obtain ⟨eu19, w17⟩ := w17
      rw [eu19] at hG
      rcases pz_or w17 with w17 | w17
      · skip
        refine ty_if_ne (tgt := 24) hx hb dX9_take_19 (by decide) (fun c20 => ?_) (fun c20 => ?_)
        · skip
          refine lv_aload_n hx hb dX9_take_24 rfl (lv_at hl 0 rfl) ?_
          refine get_X9_6 hx hb hA hown hE hG t_h0 wd_4_136 dX9_take_25 (fun b21 (t_b21 : ty Γ b21 106) => ?_)
          refine lv_iload_n hx hb dX9_take_28 rfl (lv_at hl 1 rfl) ?_
          refine ald_mI hx hb hE hG 6 rfl (n := 10) rfl (lo := -2147483648) (hi := 2147483647) rfl rfl t_b21 (by omega) dX9_take_29 (fun j23 x22 h24 h25 h26 => ?_)
          clear h26
          obtain rfl : j23 = p1.toInt.toNat := by omega
          rw [gs_c _ _ _ _ (by decide)] at h25
          replace h25 : x22.toInt = g 106 p1.toInt.toNat := h25
          refine lv_aload_n hx hb dX9_take_30 rfl (lv_at hl 0 rfl) ?_
          refine get_X9_31 hx hb hA hown hE hG t_h0 wd_4_161 dX9_take_31 (fun b27 (t_b27 : ty Γ b27 131) => ?_)
          refine lv_iload_n hx hb dX9_take_34 rfl (lv_at hl 2 rfl) ?_
          refine ald_mI hx hb hE hG 31 rfl (n := 200) rfl (lo := -2147483648) (hi := 2147483647) rfl rfl t_b27 (by omega) dX9_take_35 (fun j29 x28 h30 h31 h32 => ?_)
          clear h32
          obtain rfl : j29 = p2.toInt.toNat := by omega
          rw [gs_c _ _ _ _ (by decide)] at h31
          replace h31 : x28.toInt = g 131 p2.toInt.toNat := h31
          refine ty_icmp_ge (tgt := 42) hx hb dX9_take_36 (by decide) (fun c33 => ?_) (fun c33 => ?_)
          · skip
            refine lv_aload_n hx hb dX9_take_42 rfl (lv_at hl 0 rfl) ?_
            refine lv_iload_n hx hb dX9_take_43 rfl (lv_at hl 2 rfl) ?_
            refine lv_iload_n hx hb dX9_take_44 rfl (lv_at hl 1 rfl) ?_
            refine cV (va_runV (C := RX9) (As := [.int p2, .int p1]) (rest := []) ⟨hx, hb, hml, hown, hA⟩ (k_X9_goesTo l dC dI dA sz X Γ hU (gs g 100 0 x1.toInt) h0 t_h0 p2 p1   (by omega) (by (repeat (first | with_reducible assumption | (refine IJ_c (by decide) (by decide) (by decide) ?_) | (refine IJ_take (by omega) (by omega) ?_) | (refine IJ_how (by omega) ?_) | (refine IJ_by (by omega) ?_))))) ⟨callB_of 2 hA (al_A wd_5_176) rfl rfl rfl (hA _ wd_1_7) (hA _ wd_5_173) (by decide +kernel) ⟨Nat.le_of_ble_eq_true rfl, Nat.le_of_ble_eq_true rfl⟩, hA _ wd_5_175, hA _ ws_53⟩ ⟨bl, recv_X9 hE hG t_h0, fun U hU9 hW9 => ⟨rfl, by rw [hU9]; exact hG, hE.go hS hU9 hW9⟩⟩ rfl rfl hl.1 rfl (lv_room (Nat.le_of_ble_eq_true rfl)) dX9_take_45 ⟨Nat.zero_le _, Nat.zero_le _⟩) hS (fun u34 H locs w35 hG hS => ?_)
            obtain ⟨hf40, hq36, hq37, hq38, hq39⟩ := w35
            have hn41 : (gs g 100 0 x1.toInt) 132 = (g 132) := by rw [gs_r _ _ _ (by decide)]
            rw [hn41] at hq37
            have hn42 : (gs g 100 0 x1.toInt) 134 = (g 134) := by rw [gs_r _ _ _ (by decide)]
            rw [hn42] at hq38
            have hn43 : (gs g 100 0 x1.toInt) 106 = (g 106) := by rw [gs_r _ _ _ (by decide)]
            rw [hn43] at hq39
            have hn44 : (gs g 100 0 x1.toInt) 106 p1.toInt.toNat = g 106 p1.toInt.toNat := by rw [gs_c _ _ _ _ (by decide)]
            try rw [hn44] at hq39
            have hn45 : (gs g 100 0 x1.toInt) 131 p2.toInt.toNat = g 131 p2.toInt.toNat := by rw [gs_c _ _ _ _ (by decide)]
            try rw [hn45] at hq39
            refine lv_aload_n hx hb dX9_take_48 rfl (lv_at hl 0 rfl) ?_
            refine get_X9_6 hx hb hA hown hE hG t_h0 wd_4_136 dX9_take_49 (fun b46 (t_b46 : ty Γ b46 106) => ?_)
            refine lv_iload_n hx hb dX9_take_52 rfl (lv_at hl 1 rfl) ?_
            refine ald_mI hx hb hE hG 6 rfl (n := 10) rfl (lo := -2147483648) (hi := 2147483647) rfl rfl t_b46 (by omega) dX9_take_53 (fun j48 x47 h49 h50 h51 => ?_)
            clear h51
            obtain rfl : j48 = p1.toInt.toNat := by omega
            replace h50 : x47.toInt = u34 106 p1.toInt.toNat := h50
            exact W.iret (v := x47) hx hb hr (fun t ht hW => ⟨⟨x47, u34, rfl, ⟨(fun c j h100 h106 h132 h134 => by rw [hf40 c j h106 h132 h134, gs_c _ _ _ _ h100]), (by (repeat (first | with_reducible assumption | (refine IJ_c (by decide) (by decide) (by decide) ?_) | (refine IJ_take (by omega) (by omega) ?_) | (refine IJ_how (by omega) ?_) | (refine IJ_by (by omega) ?_)))), (by have hcd : tk_c (g 104 0) (g 126 0) (g 108) (g 106) (g 132) (g 131) p1.toInt p2.toInt = 0 := (by unfold tk_c; rw [if_neg (by omega), if_neg (by omega)]); exact ⟨fun _ => ⟨(by rw [show x47.toInt = u34 106 p1.toInt.toNat by omega, hq39]; exact pz_up_s), (by rw [hq37] <;> exact pz_upc (by omega) (by omega)), (by rw [hq38] <;> exact pz_upc (by omega) (by omega)), (by rw [hq39] <;> exact pz_upc (by omega) (by omega))⟩, fun q => absurd hcd q⟩)⟩, ok1 ht hG⟩, hS.F ht⟩) hS.2.2 dX9_take_54
          · skip
            refine ty_bipush hx hb (-2) dX9_take_39 (by decide) (fun x52 h53 => ?_)
            exact W.iret (v := x52) hx hb hr (fun t ht hW => ⟨⟨x52, (gs g 100 0 x1.toInt), rfl, ⟨(fun c j h100 h106 h132 h134 => by rw [gs_c _ _ _ _ h100]), (by (repeat (first | with_reducible assumption | (refine IJ_c (by decide) (by decide) (by decide) ?_) | (refine IJ_take (by omega) (by omega) ?_) | (refine IJ_how (by omega) ?_) | (refine IJ_by (by omega) ?_)))), (by have hcd : tk_c (g 104 0) (g 126 0) (g 108) (g 106) (g 132) (g 131) p1.toInt p2.toInt = -2 := (by unfold tk_c; rw [if_neg (by omega), if_pos (by omega)]); exact ⟨fun q => absurd (hcd.symm.trans q) (by decide), fun _ => ⟨(by rw [hcd]; omega), (by rw [gs_r _ _ _ (by decide)]), (by rw [gs_r _ _ _ (by decide)]), (by rw [gs_r _ _ _ (by decide)])⟩⟩)⟩, ok1 ht hG⟩, hS.F ht⟩) hS.2.2 dX9_take_41
        · exfalso; omega
      · skip
        refine ty_if_ne (tgt := 24) hx hb dX9_take_19 (by decide) (fun c54 => ?_) (fun c54 => ?_)
        · exfalso; omega
        · skip
          refine ty_iconst hx hb (-1) dX9_take_22 (by decide) (fun x55 h56 => ?_)
          exact W.iret (v := x55) hx hb hr (fun t ht hW => ⟨⟨x55, (gs g 100 0 x1.toInt), rfl, ⟨(fun c j h100 h106 h132 h134 => by rw [gs_c _ _ _ _ h100]), (by (repeat (first | with_reducible assumption | (refine IJ_c (by decide) (by decide) (by decide) ?_) | (refine IJ_take (by omega) (by omega) ?_) | (refine IJ_how (by omega) ?_) | (refine IJ_by (by omega) ?_)))), (by have hcd : tk_c (g 104 0) (g 126 0) (g 108) (g 106) (g 132) (g 131) p1.toInt p2.toInt = -1 := (by unfold tk_c; rw [if_pos (by omega)]); exact ⟨fun q => absurd (hcd.symm.trans q) (by decide), fun _ => ⟨(by rw [hcd]; omega), (by rw [gs_r _ _ _ (by decide)]), (by rw [gs_r _ _ _ (by decide)]), (by rw [gs_r _ _ _ (by decide)])⟩⟩)⟩, ok1 ht hG⟩, hS.F ht⟩) hS.2.2 dX9_take_23
  · skip
    refine ty_if_eq (tgt := 22) hx hb dX9_take_10 (by decide) (fun c57 => ?_) (fun c57 => ?_)
    · skip
      refine ty_iconst hx hb (-1) dX9_take_22 (by decide) (fun x58 h59 => ?_)
      exact W.iret (v := x58) hx hb hr (fun t ht hW => ⟨⟨x58, (gs g 100 0 x1.toInt), rfl, ⟨(fun c j h100 h106 h132 h134 => by rw [gs_c _ _ _ _ h100]), (by (repeat (first | with_reducible assumption | (refine IJ_c (by decide) (by decide) (by decide) ?_) | (refine IJ_take (by omega) (by omega) ?_) | (refine IJ_how (by omega) ?_) | (refine IJ_by (by omega) ?_)))), (by have hcd : tk_c (g 104 0) (g 126 0) (g 108) (g 106) (g 132) (g 131) p1.toInt p2.toInt = -1 := (by unfold tk_c; rw [if_pos (by omega)]); exact ⟨fun q => absurd (hcd.symm.trans q) (by decide), fun _ => ⟨(by rw [hcd]; omega), (by rw [gs_r _ _ _ (by decide)]), (by rw [gs_r _ _ _ (by decide)]), (by rw [gs_r _ _ _ (by decide)])⟩⟩)⟩, ok1 ht hG⟩, hS.F ht⟩) hS.2.2 dX9_take_23
    · exfalso; omega
