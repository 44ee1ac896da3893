set_option maxHeartbeats 4000000 in
set_option maxRecDepth 100000 in
/-- WeekBankModel.wishes:  -/
theorem k_X9_wishes (l : Launch) (dC : Nat → ClassId) (dI : Nat → Nat → Nat) (dA : Nat → ClassId) (sz : Nat) (X : va_W) (Γ : ty_G) (hU : Un Γ) (g : gh) (h0 : Nat) (t_h0 : ty Γ h0 30) (p1 : Int32) (p2 : Int32) (p3 : Int32) (p4 : Int32) (p5 : Int32) (hf : 0 ≤ p1.toInt ∧ p1.toInt ≤ 209) : Met l yX9_wishes (.code yX9_wishes cX9_wishes 6 (Option.some Jvm.ClassFile.FieldType.boolean) :: AL) ({ frames := 1, cells := 0, slots := 0, locals := 22 }) (PCx dC dI dA sz X Γ g [.ref h0, .int p1, .int p2, .int p3, .int p4, .int p5]) (va_Qi (fun (r : Int32) (u : gh) => (∀ c j : Nat, c ≠ 135 → u c j = g c j) ∧ ((r.toInt = 0 ∨ r.toInt = 1))) (okb dC dI dA sz X Γ) (ty_A sz)) 0 0 (ty_A sz) := by
  refine Met.ofW (cc := cX9_wishes) (maxL := 6) (ret := (Option.some Jvm.ClassFile.FieldType.boolean)) (by decide) rfl ?_
  intro p e s m args below meth c s₁ B hml hv
  obtain ⟨rfl, hG, hE⟩ := hv
  have hx := B.exec
  have hb := B.bytes
  have hr := B.returns
  have hts := atoms_spec B.pre
  have hA : ∀ w ∈ AL, w.before _ s = true := fun w h => hts w (List.mem_cons_of_mem _ h)
  have hown : s.vm.findClass RX9 = some m.cls := findClass_of_methodNamed B.named
  have hlocks := B.notSynchronized
  have hS : va_S (ty_A sz) s.heap s.heap [] := va_S.rf
  have hl := lv_entry ([.ref h0, .int p1, .int p2, .int p3, .int p4, .int p5]) (n := 6) (Nat.le_of_ble_eq_true rfl)
  rw [lg_entry_eq]
  generalize (lg_sl ([.ref h0, .int p1, .int p2, .int p3, .int p4, .int p5]) ++ List.replicate (6 - (lg_sl ([.ref h0, .int p1, .int p2, .int p3, .int p4, .int p5])).length) Slot.unset).toArray = ls at hl ⊢
  have hl : lv_has ls 6 [(0, .ref h0), (1, .int p1), (2, .int p2), (3, .int p3), (4, .int p4), (5, .int p5)] := hl
  refine lv_iload_n hx hb dX9_wishes_0 rfl (lv_at hl 2 rfl) ?_
  refine ty_iconst hx hb (-1) dX9_wishes_1 (by decide) (fun x1 h2 => ?_)
  refine ty_iconst hx hb (3) dX9_wishes_2 (by decide) (fun x3 h4 => ?_)
  refine cI (va_runS (As := [.int p2, .int x1, .int x3]) (rest := []) ⟨hx, hb, hml, hown, hA⟩ (k_X9_within l dC dI dA sz X Γ hU g p2 x1 x3   ) ⟨callB_of 3 hA (al_A wd_5_38) rfl rfl rfl (hA _ wd_1_7) (hA _ wd_5_36) (by decide +kernel) ⟨Nat.le_of_ble_eq_true rfl, Nat.le_of_ble_eq_true rfl⟩, hA _ wd_5_37⟩ ⟨bl, fun U hU9 hW9 => ⟨rfl, by rw [hU9]; exact hG, hE.go hS hU9 hW9⟩⟩ rfl rfl hl.1 rfl (lv_room (Nat.le_of_ble_eq_true rfl)) dX9_wishes_3 ⟨Nat.zero_le _, Nat.zero_le _⟩) hS (fun x7 u5 H locs w6 hG hS => ?_)
  obtain ⟨eu8, w6⟩ := w6
  rw [eu8] at hG
  refine ty_if_eq (tgt := 40) hx hb dX9_wishes_6 (by decide) (fun c9 => ?_) (fun c9 => ?_)
  · skip
    refine ty_iconst hx hb (0) dX9_wishes_40 (by decide) (fun x10 h11 => ?_)
    exact W.zret (v := x10) hx hb hr (ty_nb (by omega)).1 (fun t ht hW => ⟨⟨x10, g, rfl, ⟨(fun c j h135 => by rfl), (by omega)⟩, ok1 ht hG⟩, hS.F ht⟩) hS.2.2 dX9_wishes_41
  · skip
    refine lv_iload_n hx hb dX9_wishes_9 rfl (lv_at hl 3 rfl) ?_
    refine ty_iconst hx hb (0) dX9_wishes_10 (by decide) (fun x12 h13 => ?_)
    refine ty_bipush hx hb (52) dX9_wishes_11 (by decide) (fun x14 h15 => ?_)
    refine cI (va_runS (As := [.int p3, .int x12, .int x14]) (rest := []) ⟨hx, hb, hml, hown, hA⟩ (k_X9_within l dC dI dA sz X Γ hU g p3 x12 x14   ) ⟨callB_of 3 hA (al_A wd_5_38) rfl rfl rfl (hA _ wd_1_7) (hA _ wd_5_36) (by decide +kernel) ⟨Nat.le_of_ble_eq_true rfl, Nat.le_of_ble_eq_true rfl⟩, hA _ wd_5_37⟩ ⟨bl, fun U hU9 hW9 => ⟨rfl, by rw [hU9]; exact hG, hE.go hS hU9 hW9⟩⟩ rfl rfl hl.1 rfl (lv_room (Nat.le_of_ble_eq_true rfl)) dX9_wishes_13 ⟨Nat.zero_le _, Nat.zero_le _⟩) hS (fun x18 u16 H locs w17 hG hS => ?_)
    obtain ⟨eu19, w17⟩ := w17
    rw [eu19] at hG
    refine ty_if_eq (tgt := 40) hx hb dX9_wishes_16 (by decide) (fun c20 => ?_) (fun c20 => ?_)
    · skip
      refine ty_iconst hx hb (0) dX9_wishes_40 (by decide) (fun x21 h22 => ?_)
      exact W.zret (v := x21) hx hb hr (ty_nb (by omega)).1 (fun t ht hW => ⟨⟨x21, g, rfl, ⟨(fun c j h135 => by rfl), (by omega)⟩, ok1 ht hG⟩, hS.F ht⟩) hS.2.2 dX9_wishes_41
    · skip
      refine lv_iload hx hb dX9_wishes_19 (lv_at hl 4 rfl) ?_
      refine lv_iload_n hx hb dX9_wishes_21 rfl (lv_at hl 3 rfl) ?_
      refine ty_bipush hx hb (52) dX9_wishes_22 (by decide) (fun x23 h24 => ?_)
      refine cI (va_runS (As := [.int p4, .int p3, .int x23]) (rest := []) ⟨hx, hb, hml, hown, hA⟩ (k_X9_within l dC dI dA sz X Γ hU g p4 p3 x23   ) ⟨callB_of 3 hA (al_A wd_5_38) rfl rfl rfl (hA _ wd_1_7) (hA _ wd_5_36) (by decide +kernel) ⟨Nat.le_of_ble_eq_true rfl, Nat.le_of_ble_eq_true rfl⟩, hA _ wd_5_37⟩ ⟨bl, fun U hU9 hW9 => ⟨rfl, by rw [hU9]; exact hG, hE.go hS hU9 hW9⟩⟩ rfl rfl hl.1 rfl (lv_room (Nat.le_of_ble_eq_true rfl)) dX9_wishes_24 ⟨Nat.zero_le _, Nat.zero_le _⟩) hS (fun x27 u25 H locs w26 hG hS => ?_)
      obtain ⟨eu28, w26⟩ := w26
      rw [eu28] at hG
      refine ty_if_eq (tgt := 40) hx hb dX9_wishes_27 (by decide) (fun c29 => ?_) (fun c29 => ?_)
      · skip
        refine ty_iconst hx hb (0) dX9_wishes_40 (by decide) (fun x30 h31 => ?_)
        exact W.zret (v := x30) hx hb hr (ty_nb (by omega)).1 (fun t ht hW => ⟨⟨x30, g, rfl, ⟨(fun c j h135 => by rfl), (by omega)⟩, ok1 ht hG⟩, hS.F ht⟩) hS.2.2 dX9_wishes_41
      · skip
        refine lv_iload hx hb dX9_wishes_30 (lv_at hl 5 rfl) ?_
        refine ty_iconst hx hb (1) dX9_wishes_32 (by decide) (fun x32 h33 => ?_)
        refine ty_iconst hx hb (4) dX9_wishes_33 (by decide) (fun x34 h35 => ?_)
        refine cI (va_runS (As := [.int p5, .int x32, .int x34]) (rest := []) ⟨hx, hb, hml, hown, hA⟩ (k_X9_within l dC dI dA sz X Γ hU g p5 x32 x34   ) ⟨callB_of 3 hA (al_A wd_5_38) rfl rfl rfl (hA _ wd_1_7) (hA _ wd_5_36) (by decide +kernel) ⟨Nat.le_of_ble_eq_true rfl, Nat.le_of_ble_eq_true rfl⟩, hA _ wd_5_37⟩ ⟨bl, fun U hU9 hW9 => ⟨rfl, by rw [hU9]; exact hG, hE.go hS hU9 hW9⟩⟩ rfl rfl hl.1 rfl (lv_room (Nat.le_of_ble_eq_true rfl)) dX9_wishes_34 ⟨Nat.zero_le _, Nat.zero_le _⟩) hS (fun x38 u36 H locs w37 hG hS => ?_)
        obtain ⟨eu39, w37⟩ := w37
        rw [eu39] at hG
        refine ty_if_ne (tgt := 42) hx hb dX9_wishes_37 (by decide) (fun c40 => ?_) (fun c40 => ?_)
        · skip
          refine lv_aload_n hx hb dX9_wishes_42 rfl (lv_at hl 0 rfl) ?_
          refine get_X9_35 hx hb hA hown hE hG t_h0 wd_4_165 dX9_wishes_43 (fun b41 (t_b41 : ty Γ b41 135) => ?_)
          refine ty_iconst hx hb (4) dX9_wishes_46 (by decide) (fun x42 h43 => ?_)
          refine lv_iload_n hx hb dX9_wishes_47 rfl (lv_at hl 1 rfl) ?_
          refine ty_imul hx hb dX9_wishes_48 (fun x44 h45 => ?_)
          try have h46 : x44.toInt = 4 * p1.toInt := ty_mull h45 (by omega) (by omega) (by omega)
          refine lv_iload_n hx hb dX9_wishes_49 rfl (lv_at hl 2 rfl) ?_
          refine ast_mI hx hb hE hG hS hU 35 rfl (n := 840) rfl (lo := -2147483648) (hi := 2147483647) rfl rfl rfl t_b41 (rgD _) (by omega) dX9_wishes_50 (fun H locs hG hS => ?_)
          refine lv_aload_n hx hb dX9_wishes_51 rfl (lv_at hl 0 rfl) ?_
          refine get_X9_35 hx hb hA hown hE hG t_h0 wd_4_165 dX9_wishes_52 (fun b47 (t_b47 : ty Γ b47 135) => ?_)
          refine ty_iconst hx hb (4) dX9_wishes_55 (by decide) (fun x48 h49 => ?_)
          refine lv_iload_n hx hb dX9_wishes_56 rfl (lv_at hl 1 rfl) ?_
          refine ty_imul hx hb dX9_wishes_57 (fun x50 h51 => ?_)
          try have h52 : x50.toInt = 4 * p1.toInt := ty_mull h51 (by omega) (by omega) (by omega)
          refine ty_iconst hx hb (1) dX9_wishes_58 (by decide) (fun x53 h54 => ?_)
          refine ty_iadd hx hb dX9_wishes_59 (fun x55 h56 => ?_)
          try have h57 : x55.toInt = x50.toInt + x53.toInt := ty_add h56 (by omega) (by omega)
          refine lv_iload_n hx hb dX9_wishes_60 rfl (lv_at hl 3 rfl) ?_
          refine ast_mI hx hb hE hG hS hU 35 rfl (n := 840) rfl (lo := -2147483648) (hi := 2147483647) rfl rfl rfl t_b47 (rgD _) (by omega) dX9_wishes_61 (fun H locs hG hS => ?_)
          refine lv_aload_n hx hb dX9_wishes_62 rfl (lv_at hl 0 rfl) ?_
          refine get_X9_35 hx hb hA hown hE hG t_h0 wd_4_165 dX9_wishes_63 (fun b58 (t_b58 : ty Γ b58 135) => ?_)
          refine ty_iconst hx hb (4) dX9_wishes_66 (by decide) (fun x59 h60 => ?_)
          refine lv_iload_n hx hb dX9_wishes_67 rfl (lv_at hl 1 rfl) ?_
          refine ty_imul hx hb dX9_wishes_68 (fun x61 h62 => ?_)
          try have h63 : x61.toInt = 4 * p1.toInt := ty_mull h62 (by omega) (by omega) (by omega)
          refine ty_iconst hx hb (2) dX9_wishes_69 (by decide) (fun x64 h65 => ?_)
          refine ty_iadd hx hb dX9_wishes_70 (fun x66 h67 => ?_)
          try have h68 : x66.toInt = x61.toInt + x64.toInt := ty_add h67 (by omega) (by omega)
          refine lv_iload hx hb dX9_wishes_71 (lv_at hl 4 rfl) ?_
          refine ast_mI hx hb hE hG hS hU 35 rfl (n := 840) rfl (lo := -2147483648) (hi := 2147483647) rfl rfl rfl t_b58 (rgD _) (by omega) dX9_wishes_73 (fun H locs hG hS => ?_)
          generalize eg70 : (gs (gs (gs g 135 x44.toInt.toNat p2.toInt) 135 x55.toInt.toNat p3.toInt) 135 x66.toInt.toNat p4.toInt) = g69 at hG
          have hf71 : ∀ c j : Nat, c ≠ 135 → g69 c j = g c j := fun c j h135 => by rw [← eg70, gs_c _ _ _ _ h135, gs_c _ _ _ _ h135, gs_c _ _ _ _ h135]
          have v72 : g69 135 x66.toInt.toNat = p4.toInt := by rw [← eg70, gs_self]
          refine lv_aload_n hx hb dX9_wishes_74 rfl (lv_at hl 0 rfl) ?_
          refine get_X9_35 hx hb hA hown hE hG t_h0 wd_4_165 dX9_wishes_75 (fun b73 (t_b73 : ty Γ b73 135) => ?_)
          refine ty_iconst hx hb (4) dX9_wishes_78 (by decide) (fun x74 h75 => ?_)
          refine lv_iload_n hx hb dX9_wishes_79 rfl (lv_at hl 1 rfl) ?_
          refine ty_imul hx hb dX9_wishes_80 (fun x76 h77 => ?_)
          try have h78 : x76.toInt = 4 * p1.toInt := ty_mull h77 (by omega) (by omega) (by omega)
          refine ty_iconst hx hb (3) dX9_wishes_81 (by decide) (fun x79 h80 => ?_)
          refine ty_iadd hx hb dX9_wishes_82 (fun x81 h82 => ?_)
          try have h83 : x81.toInt = x76.toInt + x79.toInt := ty_add h82 (by omega) (by omega)
          refine lv_iload hx hb dX9_wishes_83 (lv_at hl 5 rfl) ?_
          refine ast_mI hx hb hE hG hS hU 35 rfl (n := 840) rfl (lo := -2147483648) (hi := 2147483647) rfl rfl rfl t_b73 (rgD _) (by omega) dX9_wishes_85 (fun H locs hG hS => ?_)
          refine ty_iconst hx hb (1) dX9_wishes_86 (by decide) (fun x84 h85 => ?_)
          exact W.zret (v := x84) hx hb hr (ty_nb (by omega)).1 (fun t ht hW => ⟨⟨x84, (gs g69 135 x81.toInt.toNat p5.toInt), rfl, ⟨(fun c j h135 => by rw [gs_c _ _ _ _ h135, hf71 c j h135]), (by omega)⟩, ok1 ht hG⟩, hS.F ht⟩) hS.2.2 dX9_wishes_87
        · skip
          refine ty_iconst hx hb (0) dX9_wishes_40 (by decide) (fun x86 h87 => ?_)
          exact W.zret (v := x86) hx hb hr (ty_nb (by omega)).1 (fun t ht hW => ⟨⟨x86, g, rfl, ⟨(fun c j h135 => by rfl), (by omega)⟩, ok1 ht hG⟩, hS.F ht⟩) hS.2.2 dX9_wishes_41

set_option maxHeartbeats 4000000 in
set_option maxRecDepth 100000 in
/-- WeekBankModel.wish:  -/
theorem k_X9_wish (l : Launch) (dC : Nat → ClassId) (dI : Nat → Nat → Nat) (dA : Nat → ClassId) (sz : Nat) (X : va_W) (Γ : ty_G) (hU : Un Γ) (g : gh) (h0 : Nat) (t_h0 : ty Γ h0 30) (p1 : Int32) (p2 : Int32) (p3 : Int32) (p4 : Int32) (p5 : Int32) (m26 : 0 ≤ g 126 0 ∧ g 126 0 ≤ 200) : Met l yX9_wish (.code yX9_wish cX9_wish 6 (Option.some Jvm.ClassFile.FieldType.boolean) :: AL) ({ frames := 2, cells := 0, slots := 0, locals := 47 }) (PCx dC dI dA sz X Γ g [.ref h0, .int p1, .int p2, .int p3, .int p4, .int p5]) (va_Qi (fun (r : Int32) (u : gh) => (∀ c j : Nat, c ≠ 100 → c ≠ 135 → u c j = g c j)) (okb dC dI dA sz X Γ) (ty_A sz)) 0 0 (ty_A sz) := by
  refine Met.ofW (cc := cX9_wish) (maxL := 6) (ret := (Option.some Jvm.ClassFile.FieldType.boolean)) (by decide) rfl ?_
  intro p e s m args below meth c s₁ B hml hv
  obtain ⟨rfl, hG, hE⟩ := hv
  have hx := B.exec
  have hb := B.bytes
  have hr := B.returns
  have hts := atoms_spec B.pre
  have hA : ∀ w ∈ AL, w.before _ s = true := fun w h => hts w (List.mem_cons_of_mem _ h)
  have hown : s.vm.findClass RX9 = some m.cls := findClass_of_methodNamed B.named
  have hlocks := B.notSynchronized
  have hS : va_S (ty_A sz) s.heap s.heap [] := va_S.rf
  have hl := lv_entry ([.ref h0, .int p1, .int p2, .int p3, .int p4, .int p5]) (n := 6) (Nat.le_of_ble_eq_true rfl)
  rw [lg_entry_eq]
  generalize (lg_sl ([.ref h0, .int p1, .int p2, .int p3, .int p4, .int p5]) ++ List.replicate (6 - (lg_sl ([.ref h0, .int p1, .int p2, .int p3, .int p4, .int p5])).length) Slot.unset).toArray = ls at hl ⊢
  have hl : lv_has ls 6 [(0, .ref h0), (1, .int p1), (2, .int p2), (3, .int p3), (4, .int p4), (5, .int p5)] := hl
  refine lv_aload_n hx hb dX9_wish_0 rfl (lv_at hl 0 rfl) ?_
  refine ty_iconst hx hb (0) dX9_wish_1 (by decide) (fun x1 h2 => ?_)
  refine put_X9_0 hx hb hA hown hE hG hS hU t_h0 wd_4_130 dX9_wish_2 (fun H locs hG hS => ?_)
  refine lv_aload_n hx hb dX9_wish_5 rfl (lv_at hl 0 rfl) ?_
  refine lv_iload_n hx hb dX9_wish_6 rfl (lv_at hl 1 rfl) ?_
  refine ty_iconst hx hb (0) dX9_wish_7 (by decide) (fun x3 h4 => ?_)
  have e5 : (gs g 100 0 x1.toInt) 126 0 = g 126 0 := by simp [gs]
  have e6 : (gs g 100 0 x1.toInt) 126 0 = g 126 0 := by simp [gs]
  refine cI (va_runV (C := RX9) (As := [.int p1, .int x3]) (rest := []) ⟨hx, hb, hml, hown, hA⟩ (k_X9_isGift l dC dI dA sz X Γ hU (gs g 100 0 x1.toInt) h0 t_h0 p1 x3   (by omega)) ⟨callB_of 2 hA (al_A wd_5_136) rfl rfl rfl (hA _ wd_1_7) (hA _ wd_5_133) (by decide +kernel) ⟨Nat.le_of_ble_eq_true rfl, Nat.le_of_ble_eq_true rfl⟩, hA _ wd_5_135, hA _ ws_47⟩ ⟨bl, recv_X9 hE hG t_h0, fun U hU9 hW9 => ⟨rfl, by rw [hU9]; exact hG, hE.go hS hU9 hW9⟩⟩ rfl rfl hl.1 rfl (lv_room (Nat.le_of_ble_eq_true rfl)) dX9_wish_8 ⟨Nat.zero_le _, Nat.zero_le _⟩) hS (fun x9 u7 H locs w8 hG hS => ?_)
  obtain ⟨eu10, w8⟩ := w8
  rw [eu10] at hG
  refine ty_if_eq (tgt := 32) hx hb dX9_wish_11 (by decide) (fun c11 => ?_) (fun c11 => ?_)
  · skip
    refine ty_iconst hx hb (0) dX9_wish_32 (by decide) (fun x12 h13 => ?_)
    exact W.zret (v := x12) hx hb hr (ty_nb (by omega)).1 (fun t ht hW => ⟨⟨x12, (gs g 100 0 x1.toInt), rfl, (fun c j h100 h135 => by rw [gs_c _ _ _ _ h100]), ok1 ht hG⟩, hS.F ht⟩) hS.2.2 dX9_wish_33
  · skip
    refine lv_aload_n hx hb dX9_wish_14 rfl (lv_at hl 0 rfl) ?_
    refine lv_iload_n hx hb dX9_wish_15 rfl (lv_at hl 1 rfl) ?_
    refine lv_iload_n hx hb dX9_wish_16 rfl (lv_at hl 2 rfl) ?_
    refine lv_iload_n hx hb dX9_wish_17 rfl (lv_at hl 3 rfl) ?_
    refine lv_iload hx hb dX9_wish_18 (lv_at hl 4 rfl) ?_
    refine lv_iload hx hb dX9_wish_20 (lv_at hl 5 rfl) ?_
    refine cI (va_runV (C := RX9) (As := [.int p1, .int p2, .int p3, .int p4, .int p5]) (rest := []) ⟨hx, hb, hml, hown, hA⟩ (k_X9_wishes l dC dI dA sz X Γ hU (gs g 100 0 x1.toInt) h0 t_h0 p1 p2 p3 p4 p5   (by omega)) ⟨callB_of 5 hA (al_A wd_5_140) rfl rfl rfl (hA _ wd_1_7) (hA _ wd_5_137) (by decide +kernel) ⟨Nat.le_of_ble_eq_true rfl, Nat.le_of_ble_eq_true rfl⟩, hA _ wd_5_139, hA _ ws_48⟩ ⟨bl, recv_X9 hE hG t_h0, fun U hU9 hW9 => ⟨rfl, by rw [hU9]; exact hG, hE.go hS hU9 hW9⟩⟩ rfl rfl hl.1 rfl (lv_room (Nat.le_of_ble_eq_true rfl)) dX9_wish_22 ⟨Nat.zero_le _, Nat.zero_le _⟩) hS (fun x16 u14 H locs w15 hG hS => ?_)
    obtain ⟨hf17, w15⟩ := w15
    refine ty_if_eq (tgt := 32) hx hb dX9_wish_25 (by decide) (fun c18 => ?_) (fun c18 => ?_)
    · skip
      refine ty_iconst hx hb (0) dX9_wish_32 (by decide) (fun x19 h20 => ?_)
      exact W.zret (v := x19) hx hb hr (ty_nb (by omega)).1 (fun t ht hW => ⟨⟨x19, u14, rfl, (fun c j h100 h135 => by rw [hf17 c j h135, gs_c _ _ _ _ h100]), ok1 ht hG⟩, hS.F ht⟩) hS.2.2 dX9_wish_33
    · skip
      refine ty_iconst hx hb (1) dX9_wish_28 (by decide) (fun x21 h22 => ?_)
      refine lv_goto (tgt := 33) hx hb dX9_wish_29 (by decide) ?_
      exact W.zret (v := x21) hx hb hr (ty_nb (by omega)).1 (fun t ht hW => ⟨⟨x21, u14, rfl, (fun c j h100 h135 => by rw [hf17 c j h135, gs_c _ _ _ _ h100]), ok1 ht hG⟩, hS.F ht⟩) hS.2.2 dX9_wish_33

set_option maxHeartbeats 4000000 in
set_option maxRecDepth 100000 in
/-- WeekBankModel.rushWish:  -/
theorem k_X9_rushWish (l : Launch) (dC : Nat → ClassId) (dI : Nat → Nat → Nat) (dA : Nat → ClassId) (sz : Nat) (X : va_W) (Γ : ty_G) (hU : Un Γ) (g : gh) (h0 : Nat) (t_h0 : ty Γ h0 30) (p1 : Int32) (p2 : Int32) (p3 : Int32) (p4 : Int32) (p5 : Int32) (m4 : 0 ≤ g 104 0 ∧ g 104 0 ≤ 10) : Met l yX9_rushWish (.code yX9_rushWish cX9_rushWish 6 (Option.some Jvm.ClassFile.FieldType.boolean) :: AL) ({ frames := 2, cells := 0, slots := 0, locals := 47 }) (PCx dC dI dA sz X Γ g [.ref h0, .int p1, .int p2, .int p3, .int p4, .int p5]) (va_Qi (fun (r : Int32) (u : gh) => (∀ c j : Nat, c ≠ 100 → c ≠ 135 → u c j = g c j)) (okb dC dI dA sz X Γ) (ty_A sz)) 0 0 (ty_A sz) := by
  refine Met.ofW (cc := cX9_rushWish) (maxL := 6) (ret := (Option.some Jvm.ClassFile.FieldType.boolean)) (by decide) rfl ?_
  intro p e s m args below meth c s₁ B hml hv
  obtain ⟨rfl, hG, hE⟩ := hv
  have hx := B.exec
  have hb := B.bytes
  have hr := B.returns
  have hts := atoms_spec B.pre
  have hA : ∀ w ∈ AL, w.before _ s = true := fun w h => hts w (List.mem_cons_of_mem _ h)
  have hown : s.vm.findClass RX9 = some m.cls := findClass_of_methodNamed B.named
  have hlocks := B.notSynchronized
  have hS : va_S (ty_A sz) s.heap s.heap [] := va_S.rf
  have hl := lv_entry ([.ref h0, .int p1, .int p2, .int p3, .int p4, .int p5]) (n := 6) (Nat.le_of_ble_eq_true rfl)
  rw [lg_entry_eq]
  generalize (lg_sl ([.ref h0, .int p1, .int p2, .int p3, .int p4, .int p5]) ++ List.replicate (6 - (lg_sl ([.ref h0, .int p1, .int p2, .int p3, .int p4, .int p5])).length) Slot.unset).toArray = ls at hl ⊢
  have hl : lv_has ls 6 [(0, .ref h0), (1, .int p1), (2, .int p2), (3, .int p3), (4, .int p4), (5, .int p5)] := hl
  refine lv_aload_n hx hb dX9_rushWish_0 rfl (lv_at hl 0 rfl) ?_
  refine ty_iconst hx hb (0) dX9_rushWish_1 (by decide) (fun x1 h2 => ?_)
  refine put_X9_0 hx hb hA hown hE hG hS hU t_h0 wd_4_130 dX9_rushWish_2 (fun H locs hG hS => ?_)
  refine lv_aload_n hx hb dX9_rushWish_5 rfl (lv_at hl 0 rfl) ?_
  refine lv_iload_n hx hb dX9_rushWish_6 rfl (lv_at hl 1 rfl) ?_
  have e3 : (gs g 100 0 x1.toInt) 104 0 = g 104 0 := by simp [gs]
  have e4 : (gs g 100 0 x1.toInt) 104 0 = g 104 0 := by simp [gs]
  refine cI (va_runV (C := RX9) (As := [.int p1]) (rest := []) ⟨hx, hb, hml, hown, hA⟩ (k_X9_isAlive l dC dI dA sz X Γ hU (gs g 100 0 x1.toInt) h0 t_h0 p1   (by omega)) ⟨callB_of 1 hA (al_A wd_5_54) rfl rfl rfl (hA _ wd_1_7) (hA _ wd_5_51) (by decide +kernel) ⟨Nat.le_of_ble_eq_true rfl, Nat.le_of_ble_eq_true rfl⟩, hA _ wd_5_53, hA _ ws_37⟩ ⟨bl, recv_X9 hE hG t_h0, fun U hU9 hW9 => ⟨rfl, by rw [hU9]; exact hG, hE.go hS hU9 hW9⟩⟩ rfl rfl hl.1 rfl (lv_room (Nat.le_of_ble_eq_true rfl)) dX9_rushWish_7 ⟨Nat.zero_le _, Nat.zero_le _⟩) hS (fun x7 u5 H locs w6 hG hS => ?_)
  obtain ⟨eu8, w6⟩ := w6
  rw [eu8] at hG
  refine ty_if_eq (tgt := 35) hx hb dX9_rushWish_10 (by decide) (fun c9 => ?_) (fun c9 => ?_)
  · skip
    refine ty_iconst hx hb (0) dX9_rushWish_35 (by decide) (fun x10 h11 => ?_)
    exact W.zret (v := x10) hx hb hr (ty_nb (by omega)).1 (fun t ht hW => ⟨⟨x10, (gs g 100 0 x1.toInt), rfl, (fun c j h100 h135 => by rw [gs_c _ _ _ _ h100]), ok1 ht hG⟩, hS.F ht⟩) hS.2.2 dX9_rushWish_36
  · skip
    refine lv_aload_n hx hb dX9_rushWish_13 rfl (lv_at hl 0 rfl) ?_
    refine ty_sipush hx hb (200) dX9_rushWish_14 (by decide) (fun x12 h13 => ?_)
    refine lv_iload_n hx hb dX9_rushWish_17 rfl (lv_at hl 1 rfl) ?_
    refine ty_iadd hx hb dX9_rushWish_18 (fun x14 h15 => ?_)
    try have h16 : x14.toInt = x12.toInt + p1.toInt := ty_add h15 (by omega) (by omega)
    refine lv_iload_n hx hb dX9_rushWish_19 rfl (lv_at hl 2 rfl) ?_
    refine lv_iload_n hx hb dX9_rushWish_20 rfl (lv_at hl 3 rfl) ?_
    refine lv_iload hx hb dX9_rushWish_21 (lv_at hl 4 rfl) ?_
    refine lv_iload hx hb dX9_rushWish_23 (lv_at hl 5 rfl) ?_
    refine cI (va_runV (C := RX9) (As := [.int x14, .int p2, .int p3, .int p4, .int p5]) (rest := []) ⟨hx, hb, hml, hown, hA⟩ (k_X9_wishes l dC dI dA sz X Γ hU (gs g 100 0 x1.toInt) h0 t_h0 x14 p2 p3 p4 p5   (by omega)) ⟨callB_of 5 hA (al_A wd_5_140) rfl rfl rfl (hA _ wd_1_7) (hA _ wd_5_137) (by decide +kernel) ⟨Nat.le_of_ble_eq_true rfl, Nat.le_of_ble_eq_true rfl⟩, hA _ wd_5_139, hA _ ws_48⟩ ⟨bl, recv_X9 hE hG t_h0, fun U hU9 hW9 => ⟨rfl, by rw [hU9]; exact hG, hE.go hS hU9 hW9⟩⟩ rfl rfl hl.1 rfl (lv_room (Nat.le_of_ble_eq_true rfl)) dX9_rushWish_25 ⟨Nat.zero_le _, Nat.zero_le _⟩) hS (fun x19 u17 H locs w18 hG hS => ?_)
    obtain ⟨hf20, w18⟩ := w18
    refine ty_if_eq (tgt := 35) hx hb dX9_rushWish_28 (by decide) (fun c21 => ?_) (fun c21 => ?_)
    · skip
      refine ty_iconst hx hb (0) dX9_rushWish_35 (by decide) (fun x22 h23 => ?_)
      exact W.zret (v := x22) hx hb hr (ty_nb (by omega)).1 (fun t ht hW => ⟨⟨x22, u17, rfl, (fun c j h100 h135 => by rw [hf20 c j h135, gs_c _ _ _ _ h100]), ok1 ht hG⟩, hS.F ht⟩) hS.2.2 dX9_rushWish_36
    · skip
      refine ty_iconst hx hb (1) dX9_rushWish_31 (by decide) (fun x24 h25 => ?_)
      refine lv_goto (tgt := 36) hx hb dX9_rushWish_32 (by decide) ?_
      exact W.zret (v := x24) hx hb hr (ty_nb (by omega)).1 (fun t ht hW => ⟨⟨x24, u17, rfl, (fun c j h100 h135 => by rw [hf20 c j h135, gs_c _ _ _ _ h100]), ok1 ht hG⟩, hS.F ht⟩) hS.2.2 dX9_rushWish_36

set_option maxHeartbeats 4000000 in
set_option maxRecDepth 100000 in
/-- WeekBankModel.meets:  -/
theorem k_X9_meets (l : Launch) (dC : Nat → ClassId) (dI : Nat → Nat → Nat) (dA : Nat → ClassId) (sz : Nat) (X : va_W) (Γ : ty_G) (hU : Un Γ) (g : gh) (h0 : Nat) (t_h0 : ty Γ h0 30) (p1 : Int32) (p2 : Int32) (hf : 0 ≤ p1.toInt ∧ p1.toInt ≤ 199 ∧ 0 ≤ p2.toInt ∧ p2.toInt ≤ 209) : Met l yX9_meets (.code yX9_meets cX9_meets 4 (Option.some Jvm.ClassFile.FieldType.boolean) :: AL) ({ frames := 1, cells := 0, slots := 0, locals := 22 }) (PCx dC dI dA sz X Γ g [.ref h0, .int p1, .int p2]) (va_Qi (fun (r : Int32) (u : gh) => u = g ∧ ((r.toInt = 0 ∨ r.toInt = 1))) (okb dC dI dA sz X Γ) (ty_A sz)) 0 0 (ty_A sz) := by
  refine Met.ofW (cc := cX9_meets) (maxL := 4) (ret := (Option.some Jvm.ClassFile.FieldType.boolean)) (by decide) rfl ?_
  intro p e s m args below meth c s₁ B hml hv
  obtain ⟨rfl, hG, hE⟩ := hv
  have hx := B.exec
  have hb := B.bytes
  have hr := B.returns
  have hts := atoms_spec B.pre
  have hA : ∀ w ∈ AL, w.before _ s = true := fun w h => hts w (List.mem_cons_of_mem _ h)
  have hown : s.vm.findClass RX9 = some m.cls := findClass_of_methodNamed B.named
  have hlocks := B.notSynchronized
  have hS : va_S (ty_A sz) s.heap s.heap [] := va_S.rf
  have hl := lv_entry ([.ref h0, .int p1, .int p2]) (n := 4) (Nat.le_of_ble_eq_true rfl)
  rw [lg_entry_eq]
  generalize (lg_sl ([.ref h0, .int p1, .int p2]) ++ List.replicate (4 - (lg_sl ([.ref h0, .int p1, .int p2])).length) Slot.unset).toArray = ls at hl ⊢
  have hl : lv_has ls 4 [(0, .ref h0), (1, .int p1), (2, .int p2)] := hl
  refine ty_iconst hx hb (4) dX9_meets_0 (by decide) (fun x1 h2 => ?_)
  refine lv_iload_n hx hb dX9_meets_1 rfl (lv_at hl 2 rfl) ?_
  refine ty_imul hx hb dX9_meets_2 (fun x3 h4 => ?_)
  try have h5 : x3.toInt = 4 * p2.toInt := ty_mull h4 (by omega) (by omega) (by omega)
  refine lv_istore_n (lv' := [(3, .int x3), (0, .ref h0), (1, .int p1), (2, .int p2)]) hx hb dX9_meets_3 rfl hl (by decide) rfl (fun ls hl => ?_)
  refine lv_aload_n hx hb dX9_meets_4 rfl (lv_at hl 1 rfl) ?_
  refine get_X9_35 hx hb hA hown hE hG t_h0 wd_4_165 dX9_meets_5 (fun b6 (t_b6 : ty Γ b6 135) => ?_)
  refine lv_iload_n hx hb dX9_meets_8 rfl (lv_at hl 0 rfl) ?_
  refine ty_iconst hx hb (3) dX9_meets_9 (by decide) (fun x7 h8 => ?_)
  refine ty_iadd hx hb dX9_meets_10 (fun x9 h10 => ?_)
  try have h11 : x9.toInt = x3.toInt + x7.toInt := ty_add h10 (by omega) (by omega)
  refine ald_mI hx hb hE hG 35 rfl (n := 840) rfl (lo := -2147483648) (hi := 2147483647) rfl rfl t_b6 (by omega) dX9_meets_11 (fun j13 x12 h14 h15 h16 => ?_)
  clear h16
  refine ty_if_eq (tgt := 37) hx hb dX9_meets_12 (by decide) (fun c17 => ?_) (fun c17 => ?_)
  · skip
    refine ty_iconst hx hb (0) dX9_meets_37 (by decide) (fun x18 h19 => ?_)
    exact W.zret (v := x18) hx hb hr (ty_nb (by omega)).1 (fun t ht hW => ⟨⟨x18, g, rfl, ⟨rfl, (by omega)⟩, ok1 ht hG⟩, hS.F ht⟩) hS.2.2 dX9_meets_38
  · skip
    refine lv_aload_n hx hb dX9_meets_15 rfl (lv_at hl 1 rfl) ?_
    refine get_X9_3 hx hb hA hown hE hG t_h0 wd_4_133 dX9_meets_16 (fun b20 (t_b20 : ty Γ b20 103) => ?_)
    refine lv_aload_n hx hb dX9_meets_19 rfl (lv_at hl 1 rfl) ?_
    refine get_X9_28 hx hb hA hown hE hG t_h0 wd_4_158 dX9_meets_20 (fun b21 (t_b21 : ty Γ b21 128) => ?_)
    refine lv_iload_n hx hb dX9_meets_23 rfl (lv_at hl 2 rfl) ?_
    refine ald_mI hx hb hE hG 28 rfl (n := 200) rfl (lo := 0) (hi := 5) rfl rfl t_b21 (by omega) dX9_meets_24 (fun j23 x22 h24 h25 h26 => ?_)
    refine ald_mI hx hb hE hG 3 rfl (n := 6) rfl (lo := -2147483648) (hi := 2147483647) rfl rfl t_b20 (by omega) dX9_meets_25 (fun j28 x27 h29 h30 h31 => ?_)
    clear h31
    refine lv_aload_n hx hb dX9_meets_26 rfl (lv_at hl 1 rfl) ?_
    refine get_X9_35 hx hb hA hown hE hG t_h0 wd_4_165 dX9_meets_27 (fun b32 (t_b32 : ty Γ b32 135) => ?_)
    refine lv_iload_n hx hb dX9_meets_30 rfl (lv_at hl 0 rfl) ?_
    refine ty_iconst hx hb (3) dX9_meets_31 (by decide) (fun x33 h34 => ?_)
    refine ty_iadd hx hb dX9_meets_32 (fun x35 h36 => ?_)
    try have h37 : x35.toInt = x3.toInt + x33.toInt := ty_add h36 (by omega) (by omega)
    refine ald_mI hx hb hE hG 35 rfl (n := 840) rfl (lo := -2147483648) (hi := 2147483647) rfl rfl t_b32 (by omega) dX9_meets_33 (fun j39 x38 h40 h41 h42 => ?_)
    clear h42
    refine ty_icmp_ge (tgt := 39) hx hb dX9_meets_34 (by decide) (fun c43 => ?_) (fun c43 => ?_)
    · skip
      refine lv_aload_n hx hb dX9_meets_39 rfl (lv_at hl 1 rfl) ?_
      refine get_X9_35 hx hb hA hown hE hG t_h0 wd_4_165 dX9_meets_40 (fun b44 (t_b44 : ty Γ b44 135) => ?_)
      refine lv_iload_n hx hb dX9_meets_43 rfl (lv_at hl 0 rfl) ?_
      refine ald_mI hx hb hE hG 35 rfl (n := 840) rfl (lo := -2147483648) (hi := 2147483647) rfl rfl t_b44 (by omega) dX9_meets_44 (fun j46 x45 h47 h48 h49 => ?_)
      clear h49
      refine ty_iconst hx hb (-1) dX9_meets_45 (by decide) (fun x50 h51 => ?_)
      refine ty_icmp_eq (tgt := 71) hx hb dX9_meets_46 (by decide) (fun c52 => ?_) (fun c52 => ?_)
      · skip
        refine lv_aload_n hx hb dX9_meets_71 rfl (lv_at hl 1 rfl) ?_
        refine get_X9_29 hx hb hA hown hE hG t_h0 wd_4_159 dX9_meets_72 (fun b53 (t_b53 : ty Γ b53 129) => ?_)
        refine lv_iload_n hx hb dX9_meets_75 rfl (lv_at hl 2 rfl) ?_
        refine ald_mI hx hb hE hG 29 rfl (n := 200) rfl (lo := -2147483648) (hi := 2147483647) rfl rfl t_b53 (by omega) dX9_meets_76 (fun j55 x54 h56 h57 h58 => ?_)
        clear h58
        refine lv_aload_n hx hb dX9_meets_77 rfl (lv_at hl 1 rfl) ?_
        refine get_X9_35 hx hb hA hown hE hG t_h0 wd_4_165 dX9_meets_78 (fun b59 (t_b59 : ty Γ b59 135) => ?_)
        refine lv_iload_n hx hb dX9_meets_81 rfl (lv_at hl 0 rfl) ?_
        refine ty_iconst hx hb (1) dX9_meets_82 (by decide) (fun x60 h61 => ?_)
        refine ty_iadd hx hb dX9_meets_83 (fun x62 h63 => ?_)
        try have h64 : x62.toInt = x3.toInt + x60.toInt := ty_add h63 (by omega) (by omega)
        refine ald_mI hx hb hE hG 35 rfl (n := 840) rfl (lo := -2147483648) (hi := 2147483647) rfl rfl t_b59 (by omega) dX9_meets_84 (fun j66 x65 h67 h68 h69 => ?_)
        clear h69
        refine lv_aload_n hx hb dX9_meets_85 rfl (lv_at hl 1 rfl) ?_
        refine get_X9_35 hx hb hA hown hE hG t_h0 wd_4_165 dX9_meets_86 (fun b70 (t_b70 : ty Γ b70 135) => ?_)
        refine lv_iload_n hx hb dX9_meets_89 rfl (lv_at hl 0 rfl) ?_
        refine ty_iconst hx hb (2) dX9_meets_90 (by decide) (fun x71 h72 => ?_)
        refine ty_iadd hx hb dX9_meets_91 (fun x73 h74 => ?_)
        try have h75 : x73.toInt = x3.toInt + x71.toInt := ty_add h74 (by omega) (by omega)
        refine ald_mI hx hb hE hG 35 rfl (n := 840) rfl (lo := -2147483648) (hi := 2147483647) rfl rfl t_b70 (by omega) dX9_meets_92 (fun j77 x76 h78 h79 h80 => ?_)
        clear h80
        refine cI (va_runS (As := [.int x54, .int x65, .int x76]) (rest := []) ⟨hx, hb, hml, hown, hA⟩ (k_X9_within l dC dI dA sz X Γ hU g x54 x65 x76   ) ⟨callB_of 3 hA (al_A wd_5_38) rfl rfl rfl (hA _ wd_1_7) (hA _ wd_5_36) (by decide +kernel) ⟨Nat.le_of_ble_eq_true rfl, Nat.le_of_ble_eq_true rfl⟩, hA _ wd_5_37⟩ ⟨bl, fun U hU9 hW9 => ⟨rfl, by rw [hU9]; exact hG, hE.go hS hU9 hW9⟩⟩ rfl rfl hl.1 rfl (lv_room (Nat.le_of_ble_eq_true rfl)) dX9_meets_93 ⟨Nat.zero_le _, Nat.zero_le _⟩) hS (fun x83 u81 H locs w82 hG hS => ?_)
        obtain ⟨eu84, w82⟩ := w82
        rw [eu84] at hG
        exact W.zret (v := x83) hx hb hr (ty_nb (by omega)).1 (fun t ht hW => ⟨⟨x83, g, rfl, ⟨rfl, (by omega)⟩, ok1 ht hG⟩, hS.F ht⟩) hS.2.2 dX9_meets_96
      · skip
        refine lv_aload_n hx hb dX9_meets_49 rfl (lv_at hl 1 rfl) ?_
        refine get_X9_35 hx hb hA hown hE hG t_h0 wd_4_165 dX9_meets_50 (fun b85 (t_b85 : ty Γ b85 135) => ?_)
        refine lv_iload_n hx hb dX9_meets_53 rfl (lv_at hl 0 rfl) ?_
        refine ald_mI hx hb hE hG 35 rfl (n := 840) rfl (lo := -2147483648) (hi := 2147483647) rfl rfl t_b85 (by omega) dX9_meets_54 (fun j87 x86 h88 h89 h90 => ?_)
        clear h90
        refine lv_aload_n hx hb dX9_meets_55 rfl (lv_at hl 1 rfl) ?_
        refine get_X9_2 hx hb hA hown hE hG t_h0 wd_4_132 dX9_meets_56 (fun b91 (t_b91 : ty Γ b91 102) => ?_)
        refine lv_aload_n hx hb dX9_meets_59 rfl (lv_at hl 1 rfl) ?_
        refine get_X9_28 hx hb hA hown hE hG t_h0 wd_4_158 dX9_meets_60 (fun b92 (t_b92 : ty Γ b92 128) => ?_)
        refine lv_iload_n hx hb dX9_meets_63 rfl (lv_at hl 2 rfl) ?_
        refine ald_mI hx hb hE hG 28 rfl (n := 200) rfl (lo := 0) (hi := 5) rfl rfl t_b92 (by omega) dX9_meets_64 (fun j94 x93 h95 h96 h97 => ?_)
        refine ald_mI hx hb hE hG 2 rfl (n := 6) rfl (lo := -2147483648) (hi := 2147483647) rfl rfl t_b91 (by omega) dX9_meets_65 (fun j99 x98 h100 h101 h102 => ?_)
        clear h102
        refine ty_icmp_eq (tgt := 71) hx hb dX9_meets_66 (by decide) (fun c103 => ?_) (fun c103 => ?_)
        · skip
          refine lv_aload_n hx hb dX9_meets_71 rfl (lv_at hl 1 rfl) ?_
          refine get_X9_29 hx hb hA hown hE hG t_h0 wd_4_159 dX9_meets_72 (fun b104 (t_b104 : ty Γ b104 129) => ?_)
          refine lv_iload_n hx hb dX9_meets_75 rfl (lv_at hl 2 rfl) ?_
          refine ald_mI hx hb hE hG 29 rfl (n := 200) rfl (lo := -2147483648) (hi := 2147483647) rfl rfl t_b104 (by omega) dX9_meets_76 (fun j106 x105 h107 h108 h109 => ?_)
          clear h109
          refine lv_aload_n hx hb dX9_meets_77 rfl (lv_at hl 1 rfl) ?_
          refine get_X9_35 hx hb hA hown hE hG t_h0 wd_4_165 dX9_meets_78 (fun b110 (t_b110 : ty Γ b110 135) => ?_)
          refine lv_iload_n hx hb dX9_meets_81 rfl (lv_at hl 0 rfl) ?_
          refine ty_iconst hx hb (1) dX9_meets_82 (by decide) (fun x111 h112 => ?_)
          refine ty_iadd hx hb dX9_meets_83 (fun x113 h114 => ?_)
          try have h115 : x113.toInt = x3.toInt + x111.toInt := ty_add h114 (by omega) (by omega)
          refine ald_mI hx hb hE hG 35 rfl (n := 840) rfl (lo := -2147483648) (hi := 2147483647) rfl rfl t_b110 (by omega) dX9_meets_84 (fun j117 x116 h118 h119 h120 => ?_)
          clear h120
          refine lv_aload_n hx hb dX9_meets_85 rfl (lv_at hl 1 rfl) ?_
          refine get_X9_35 hx hb hA hown hE hG t_h0 wd_4_165 dX9_meets_86 (fun b121 (t_b121 : ty Γ b121 135) => ?_)
          refine lv_iload_n hx hb dX9_meets_89 rfl (lv_at hl 0 rfl) ?_
          refine ty_iconst hx hb (2) dX9_meets_90 (by decide) (fun x122 h123 => ?_)
          refine ty_iadd hx hb dX9_meets_91 (fun x124 h125 => ?_)
          try have h126 : x124.toInt = x3.toInt + x122.toInt := ty_add h125 (by omega) (by omega)
          refine ald_mI hx hb hE hG 35 rfl (n := 840) rfl (lo := -2147483648) (hi := 2147483647) rfl rfl t_b121 (by omega) dX9_meets_92 (fun j128 x127 h129 h130 h131 => ?_)
          clear h131
          refine cI (va_runS (As := [.int x105, .int x116, .int x127]) (rest := []) ⟨hx, hb, hml, hown, hA⟩ (k_X9_within l dC dI dA sz X Γ hU g x105 x116 x127   ) ⟨callB_of 3 hA (al_A wd_5_38) rfl rfl rfl (hA _ wd_1_7) (hA _ wd_5_36) (by decide +kernel) ⟨Nat.le_of_ble_eq_true rfl, Nat.le_of_ble_eq_true rfl⟩, hA _ wd_5_37⟩ ⟨bl, fun U hU9 hW9 => ⟨rfl, by rw [hU9]; exact hG, hE.go hS hU9 hW9⟩⟩ rfl rfl hl.1 rfl (lv_room (Nat.le_of_ble_eq_true rfl)) dX9_meets_93 ⟨Nat.zero_le _, Nat.zero_le _⟩) hS (fun x134 u132 H locs w133 hG hS => ?_)
          obtain ⟨eu135, w133⟩ := w133
          rw [eu135] at hG
          exact W.zret (v := x134) hx hb hr (ty_nb (by omega)).1 (fun t ht hW => ⟨⟨x134, g, rfl, ⟨rfl, (by omega)⟩, ok1 ht hG⟩, hS.F ht⟩) hS.2.2 dX9_meets_96
        · skip
          refine ty_iconst hx hb (0) dX9_meets_69 (by decide) (fun x136 h137 => ?_)
          exact W.zret (v := x136) hx hb hr (ty_nb (by omega)).1 (fun t ht hW => ⟨⟨x136, g, rfl, ⟨rfl, (by omega)⟩, ok1 ht hG⟩, hS.F ht⟩) hS.2.2 dX9_meets_70
    · skip
      refine ty_iconst hx hb (0) dX9_meets_37 (by decide) (fun x138 h139 => ?_)
      exact W.zret (v := x138) hx hb hr (ty_nb (by omega)).1 (fun t ht hW => ⟨⟨x138, g, rfl, ⟨rfl, (by omega)⟩, ok1 ht hG⟩, hS.F ht⟩) hS.2.2 dX9_meets_38

set_option maxHeartbeats 4000000 in
set_option maxRecDepth 100000 in
/-- WeekBankModel.bank:  -/
theorem k_X9_bank (l : Launch) (dC : Nat → ClassId) (dI : Nat → Nat → Nat) (dA : Nat → ClassId) (sz : Nat) (X : va_W) (Γ : ty_G) (hU : Un Γ) (g : gh) (h0 : Nat) (t_h0 : ty Γ h0 30) (p1 : Int32) (m26 : 0 ≤ g 126 0 ∧ g 126 0 ≤ 200) (hIJ : IJ g) : Met l yX9_bank (.code yX9_bank cX9_bank 2 (Option.some Jvm.ClassFile.FieldType.int) :: AL) ({ frames := 1, cells := 0, slots := 0, locals := 22 }) (PCx dC dI dA sz X Γ g [.ref h0, .int p1]) (va_Qi (fun (r : Int32) (u : gh) => (∀ c j : Nat, c ≠ 100 → c ≠ 106 → c ≠ 132 → u c j = g c j) ∧ (IJ u)) (okb dC dI dA sz X Γ) (ty_A sz)) 0 0 (ty_A sz) := by
  refine Met.ofW (cc := cX9_bank) (maxL := 2) (ret := (Option.some Jvm.ClassFile.FieldType.int)) (by decide) rfl ?_
  intro p e s m args below meth c s₁ B hml hv
  obtain ⟨rfl, hG, hE⟩ := hv
  have hx := B.exec
  have hb := B.bytes
  have hr := B.returns
  have hts := atoms_spec B.pre
  have hA : ∀ w ∈ AL, w.before _ s = true := fun w h => hts w (List.mem_cons_of_mem _ h)
  have hown : s.vm.findClass RX9 = some m.cls := findClass_of_methodNamed B.named
  have hlocks := B.notSynchronized
  have hS : va_S (ty_A sz) s.heap s.heap [] := va_S.rf
  have hl := lv_entry ([.ref h0, .int p1]) (n := 2) (Nat.le_of_ble_eq_true rfl)
  rw [lg_entry_eq]
  generalize (lg_sl ([.ref h0, .int p1]) ++ List.replicate (2 - (lg_sl ([.ref h0, .int p1])).length) Slot.unset).toArray = ls at hl ⊢
  have hl : lv_has ls 2 [(0, .ref h0), (1, .int p1)] := hl
  refine lv_aload_n hx hb dX9_bank_0 rfl (lv_at hl 0 rfl) ?_
  refine ty_iconst hx hb (0) dX9_bank_1 (by decide) (fun x1 h2 => ?_)
  refine put_X9_0 hx hb hA hown hE hG hS hU t_h0 wd_4_130 dX9_bank_2 (fun H locs hG hS => ?_)
  refine lv_aload_n hx hb dX9_bank_5 rfl (lv_at hl 0 rfl) ?_
  refine lv_iload_n hx hb dX9_bank_6 rfl (lv_at hl 1 rfl) ?_
  refine ty_iconst hx hb (0) dX9_bank_7 (by decide) (fun x3 h4 => ?_)
  have e5 : (gs g 100 0 x1.toInt) 126 0 = g 126 0 := by simp [gs]
  have e6 : (gs g 100 0 x1.toInt) 126 0 = g 126 0 := by simp [gs]
  refine cI (va_runV (C := RX9) (As := [.int p1, .int x3]) (rest := []) ⟨hx, hb, hml, hown, hA⟩ (k_X9_isGift l dC dI dA sz X Γ hU (gs g 100 0 x1.toInt) h0 t_h0 p1 x3   (by omega)) ⟨callB_of 2 hA (al_A wd_5_136) rfl rfl rfl (hA _ wd_1_7) (hA _ wd_5_133) (by decide +kernel) ⟨Nat.le_of_ble_eq_true rfl, Nat.le_of_ble_eq_true rfl⟩, hA _ wd_5_135, hA _ ws_47⟩ ⟨bl, recv_X9 hE hG t_h0, fun U hU9 hW9 => ⟨rfl, by rw [hU9]; exact hG, hE.go hS hU9 hW9⟩⟩ rfl rfl hl.1 rfl (lv_room (Nat.le_of_ble_eq_true rfl)) dX9_bank_8 ⟨Nat.zero_le _, Nat.zero_le _⟩) hS (fun x9 u7 H locs w8 hG hS => ?_)
  obtain ⟨eu10, w8⟩ := w8
  rw [eu10] at hG
  refine ty_if_ne (tgt := 16) hx hb dX9_bank_11 (by decide) (fun c11 => ?_) (fun c11 => ?_)
  · skip
    refine lv_aload_n hx hb dX9_bank_16 rfl (lv_at hl 0 rfl) ?_
    refine get_X9_32 hx hb hA hown hE hG t_h0 wd_4_162 dX9_bank_17 (fun b12 (t_b12 : ty Γ b12 132) => ?_)
    refine lv_iload_n hx hb dX9_bank_20 rfl (lv_at hl 1 rfl) ?_
    refine ty_iconst hx hb (2) dX9_bank_21 (by decide) (fun x13 h14 => ?_)
    refine ast_mI hx hb hE hG hS hU 32 rfl (n := 200) rfl (lo := -2147483648) (hi := 2147483647) rfl rfl rfl t_b12 (rgD _) (by omega) dX9_bank_22 (fun H locs hG hS => ?_)
    refine lv_aload_n hx hb dX9_bank_23 rfl (lv_at hl 0 rfl) ?_
    refine get_X9_6 hx hb hA hown hE hG t_h0 wd_4_136 dX9_bank_24 (fun b15 (t_b15 : ty Γ b15 106) => ?_)
    refine lv_aload_n hx hb dX9_bank_27 rfl (lv_at hl 0 rfl) ?_
    refine get_X9_27 hx hb hA hown hE hG t_h0 wd_4_157 dX9_bank_28 (fun b16 (t_b16 : ty Γ b16 127) => ?_)
    refine lv_iload_n hx hb dX9_bank_31 rfl (lv_at hl 1 rfl) ?_
    refine ald_mI hx hb hE hG 27 rfl (n := 200) rfl (lo := 0) (hi := 9) rfl rfl t_b16 (by omega) dX9_bank_32 (fun j18 x17 h19 h20 h21 => ?_)
    refine lv_dup2_11 hx hb dX9_bank_33 rfl rfl ?_
    refine ald_mI hx hb hE hG 6 rfl (n := 10) rfl (lo := -2147483648) (hi := 2147483647) rfl rfl t_b15 (by omega) dX9_bank_34 (fun j23 x22 h24 h25 h26 => ?_)
    clear h26
    refine lv_aload_n hx hb dX9_bank_35 rfl (lv_at hl 0 rfl) ?_
    refine get_X9_31 hx hb hA hown hE hG t_h0 wd_4_161 dX9_bank_36 (fun b27 (t_b27 : ty Γ b27 131) => ?_)
    refine lv_iload_n hx hb dX9_bank_39 rfl (lv_at hl 1 rfl) ?_
    refine ald_mI hx hb hE hG 31 rfl (n := 200) rfl (lo := -2147483648) (hi := 2147483647) rfl rfl t_b27 (by omega) dX9_bank_40 (fun j29 x28 h30 h31 h32 => ?_)
    clear h32
    refine ty_iadd hx hb dX9_bank_41 (fun x33 h34 => ?_)
    refine ast_mI hx hb hE hG hS hU 6 rfl (n := 10) rfl (lo := -2147483648) (hi := 2147483647) rfl rfl rfl t_b15 (rgD _) (by omega) dX9_bank_42 (fun H locs hG hS => ?_)
    generalize eg37 : (gs (gs (gs g 100 0 x1.toInt) 132 p1.toInt.toNat x13.toInt) 106 x17.toInt.toNat x33.toInt) = g36 at hG
    have hf38 : ∀ c j : Nat, c ≠ 100 → c ≠ 132 → c ≠ 106 → g36 c j = g c j := fun c j h100 h132 h106 => by rw [← eg37, gs_c _ _ _ _ h106, gs_c _ _ _ _ h132, gs_c _ _ _ _ h100]
    have v39 : g36 100 0 = x1.toInt := by rw [← eg37, gs_c _ _ _ _ (by decide), gs_c _ _ _ _ (by decide), gs_self]
    have v40 : g36 132 p1.toInt.toNat = x13.toInt := by rw [← eg37, gs_c _ _ _ _ (by decide), gs_self]
    have hw41 : g36 132 = gs g 132 p1.toInt.toNat x13.toInt 132 := funext fun j => by rw [← eg37, gs_c _ _ _ _ (by decide)]; exact gs_in (by rw [gs_c _ _ _ _ (by decide)])
    have v42 : g36 106 x17.toInt.toNat = x33.toInt := by rw [← eg37, gs_self]
    have hw43 : g36 106 = gs g 106 x17.toInt.toNat x33.toInt 106 := funext fun j => by rw [← eg37]; exact gs_in (by rw [gs_c _ _ _ _ (by decide), gs_c _ _ _ _ (by decide)])
    try have hj44 : IJ g36 := by rw [← eg37]; (repeat (first | with_reducible assumption | (refine IJ_c (by decide) (by decide) (by decide) ?_) | (refine IJ_take (by omega) (by omega) ?_) | (refine IJ_how (by omega) ?_) | (refine IJ_by (by omega) ?_)))
    refine lv_aload_n hx hb dX9_bank_43 rfl (lv_at hl 0 rfl) ?_
    refine get_X9_6 hx hb hA hown hE hG t_h0 wd_4_136 dX9_bank_44 (fun b45 (t_b45 : ty Γ b45 106) => ?_)
    refine lv_aload_n hx hb dX9_bank_47 rfl (lv_at hl 0 rfl) ?_
    refine get_X9_27 hx hb hA hown hE hG t_h0 wd_4_157 dX9_bank_48 (fun b46 (t_b46 : ty Γ b46 127) => ?_)
    refine lv_iload_n hx hb dX9_bank_51 rfl (lv_at hl 1 rfl) ?_
    refine ald_mI hx hb hE hG 27 rfl (n := 200) rfl (lo := 0) (hi := 9) rfl rfl t_b46 (by omega) dX9_bank_52 (fun j48 x47 h49 h50 h51 => ?_)
    refine ald_mI hx hb hE hG 6 rfl (n := 10) rfl (lo := -2147483648) (hi := 2147483647) rfl rfl t_b45 (by omega) dX9_bank_53 (fun j53 x52 h54 h55 h56 => ?_)
    clear h56
    exact W.iret (v := x52) hx hb hr (fun t ht hW => ⟨⟨x52, g36, rfl, ⟨(fun c j h100 h106 h132 => by rw [hf38 c j h100 h132 h106]), (by (repeat (first | with_reducible assumption | (refine IJ_c (by decide) (by decide) (by decide) ?_) | (refine IJ_take (by omega) (by omega) ?_) | (refine IJ_how (by omega) ?_) | (refine IJ_by (by omega) ?_))))⟩, ok1 ht hG⟩, hS.F ht⟩) hS.2.2 dX9_bank_54
  · skip
    refine ty_iconst hx hb (-1) dX9_bank_14 (by decide) (fun x57 h58 => ?_)
    exact W.iret (v := x57) hx hb hr (fun t ht hW => ⟨⟨x57, (gs g 100 0 x1.toInt), rfl, ⟨(fun c j h100 h106 h132 => by rw [gs_c _ _ _ _ h100]), (by (repeat (first | with_reducible assumption | (refine IJ_c (by decide) (by decide) (by decide) ?_) | (refine IJ_take (by omega) (by omega) ?_) | (refine IJ_how (by omega) ?_) | (refine IJ_by (by omega) ?_))))⟩, ok1 ht hG⟩, hS.F ht⟩) hS.2.2 dX9_bank_15

set_option maxHeartbeats 4000000 in
set_option maxRecDepth 100000 in
/-- WeekBankModel.goesTo:  -/
theorem k_X9_goesTo (l : Launch) (dC : Nat → ClassId) (dI : Nat → Nat → Nat) (dA : Nat → ClassId) (sz : Nat) (X : va_W) (Γ : ty_G) (hU : Un Γ) (g : gh) (h0 : Nat) (t_h0 : ty Γ h0 30) (p1 : Int32) (p2 : Int32) (hf : 0 ≤ p1.toInt ∧ p1.toInt ≤ 199 ∧ 0 ≤ p2.toInt ∧ p2.toInt ≤ 9) (hIJ : IJ g) : Met l yX9_goesTo (.code yX9_goesTo cX9_goesTo 3 (Option.none : Option Jvm.ClassFile.FieldType) :: AL) ({ frames := 0, cells := 0, slots := 0, locals := 0 }) (PCx dC dI dA sz X Γ g [.ref h0, .int p1, .int p2]) (va_Qv (fun (u : gh) => (∀ c j : Nat, c ≠ 106 → c ≠ 132 → c ≠ 134 → u c j = g c j) ∧ (IJ u)) (okb dC dI dA sz X Γ) (ty_A sz)) 0 0 (ty_A sz) := by
  refine Met.ofW (cc := cX9_goesTo) (maxL := 3) (ret := (Option.none : Option Jvm.ClassFile.FieldType)) (by decide) rfl ?_
  intro p e s m args below meth c s₁ B hml hv
  obtain ⟨rfl, hG, hE⟩ := hv
  have hx := B.exec
  have hb := B.bytes
  have hr := B.returns
  have hts := atoms_spec B.pre
  have hA : ∀ w ∈ AL, w.before _ s = true := fun w h => hts w (List.mem_cons_of_mem _ h)
  have hown : s.vm.findClass RX9 = some m.cls := findClass_of_methodNamed B.named
  have hlocks := B.notSynchronized
  have hS : va_S (ty_A sz) s.heap s.heap [] := va_S.rf
  have hl := lv_entry ([.ref h0, .int p1, .int p2]) (n := 3) (Nat.le_of_ble_eq_true rfl)
  rw [lg_entry_eq]
  generalize (lg_sl ([.ref h0, .int p1, .int p2]) ++ List.replicate (3 - (lg_sl ([.ref h0, .int p1, .int p2])).length) Slot.unset).toArray = ls at hl ⊢
  have hl : lv_has ls 3 [(0, .ref h0), (1, .int p1), (2, .int p2)] := hl
  refine lv_aload_n hx hb dX9_goesTo_0 rfl (lv_at hl 0 rfl) ?_
  refine get_X9_32 hx hb hA hown hE hG t_h0 wd_4_162 dX9_goesTo_1 (fun b1 (t_b1 : ty Γ b1 132) => ?_)
  refine lv_iload_n hx hb dX9_goesTo_4 rfl (lv_at hl 1 rfl) ?_
  refine ty_iconst hx hb (3) dX9_goesTo_5 (by decide) (fun x2 h3 => ?_)
  refine ast_mI hx hb hE hG hS hU 32 rfl (n := 200) rfl (lo := -2147483648) (hi := 2147483647) rfl rfl rfl t_b1 (rgD _) (by omega) dX9_goesTo_6 (fun H locs hG hS => ?_)
  refine lv_aload_n hx hb dX9_goesTo_7 rfl (lv_at hl 0 rfl) ?_
  refine get_X9_34 hx hb hA hown hE hG t_h0 wd_4_164 dX9_goesTo_8 (fun b4 (t_b4 : ty Γ b4 134) => ?_)
  refine lv_iload_n hx hb dX9_goesTo_11 rfl (lv_at hl 1 rfl) ?_
  refine lv_iload_n hx hb dX9_goesTo_12 rfl (lv_at hl 2 rfl) ?_
  refine ast_mI hx hb hE hG hS hU 34 rfl (n := 200) rfl (lo := -1) (hi := 9) rfl rfl rfl t_b4 (by omega) (by omega) dX9_goesTo_13 (fun H locs hG hS => ?_)
  refine lv_aload_n hx hb dX9_goesTo_14 rfl (lv_at hl 0 rfl) ?_
  refine get_X9_6 hx hb hA hown hE hG t_h0 wd_4_136 dX9_goesTo_15 (fun b5 (t_b5 : ty Γ b5 106) => ?_)
  refine lv_iload_n hx hb dX9_goesTo_18 rfl (lv_at hl 2 rfl) ?_
  refine lv_dup2_11 hx hb dX9_goesTo_19 rfl rfl ?_
  refine ald_mI hx hb hE hG 6 rfl (n := 10) rfl (lo := -2147483648) (hi := 2147483647) rfl rfl t_b5 (by omega) dX9_goesTo_20 (fun j7 x6 h8 h9 h10 => ?_)
  clear h10
  refine lv_aload_n hx hb dX9_goesTo_21 rfl (lv_at hl 0 rfl) ?_
  refine get_X9_31 hx hb hA hown hE hG t_h0 wd_4_161 dX9_goesTo_22 (fun b11 (t_b11 : ty Γ b11 131) => ?_)
  refine lv_iload_n hx hb dX9_goesTo_25 rfl (lv_at hl 1 rfl) ?_
  refine ald_mI hx hb hE hG 31 rfl (n := 200) rfl (lo := -2147483648) (hi := 2147483647) rfl rfl t_b11 (by omega) dX9_goesTo_26 (fun j13 x12 h14 h15 h16 => ?_)
  clear h16
  refine ty_isub hx hb dX9_goesTo_27 (fun x17 h18 => ?_)
  refine ast_mI hx hb hE hG hS hU 6 rfl (n := 10) rfl (lo := -2147483648) (hi := 2147483647) rfl rfl rfl t_b5 (rgD _) (by omega) dX9_goesTo_28 (fun H locs hG hS => ?_)
  generalize eg21 : (gs (gs (gs g 132 p1.toInt.toNat x2.toInt) 134 p1.toInt.toNat p2.toInt) 106 p2.toInt.toNat x17.toInt) = g20 at hG
  have hf22 : ∀ c j : Nat, c ≠ 132 → c ≠ 134 → c ≠ 106 → g20 c j = g c j := fun c j h132 h134 h106 => by rw [← eg21, gs_c _ _ _ _ h106, gs_c _ _ _ _ h134, gs_c _ _ _ _ h132]
  have v23 : g20 132 p1.toInt.toNat = x2.toInt := by rw [← eg21, gs_c _ _ _ _ (by decide), gs_c _ _ _ _ (by decide), gs_self]
  have hw24 : g20 132 = gs g 132 p1.toInt.toNat x2.toInt 132 := funext fun j => by rw [← eg21, gs_c _ _ _ _ (by decide), gs_c _ _ _ _ (by decide)]
  have v25 : g20 134 p1.toInt.toNat = p2.toInt := by rw [← eg21, gs_c _ _ _ _ (by decide), gs_self]
  have hw26 : g20 134 = gs g 134 p1.toInt.toNat p2.toInt 134 := funext fun j => by rw [← eg21, gs_c _ _ _ _ (by decide)]; exact gs_in (by rw [gs_c _ _ _ _ (by decide)])
  have v27 : g20 106 p2.toInt.toNat = x17.toInt := by rw [← eg21, gs_self]
  have hw28 : g20 106 = gs g 106 p2.toInt.toNat x17.toInt 106 := funext fun j => by rw [← eg21]; exact gs_in (by rw [gs_c _ _ _ _ (by decide), gs_c _ _ _ _ (by decide)])
  try have hj29 : IJ g20 := by rw [← eg21]; (repeat (first | with_reducible assumption | (refine IJ_c (by decide) (by decide) (by decide) ?_) | (refine IJ_take (by omega) (by omega) ?_) | (refine IJ_how (by omega) ?_) | (refine IJ_by (by omega) ?_)))
  exact W.vret hx hb hr (fun t ht hW => ⟨⟨g20, rfl, ⟨(fun c j h106 h132 h134 => by rw [hf22 c j h132 h134 h106]), (by (repeat (first | with_reducible assumption | (refine IJ_c (by decide) (by decide) (by decide) ?_) | (refine IJ_take (by omega) (by omega) ?_) | (refine IJ_how (by omega) ?_) | (refine IJ_by (by omega) ?_))))⟩, ok1 ht hG⟩, hS.F ht⟩) hS.2.2 dX9_goesTo_29

set_option maxHeartbeats 4000000 in
set_option maxRecDepth 100000 in
/-- WeekBankModel.take:  -/
theorem k_X9_take (l : Launch) (dC : Nat → ClassId) (dI : Nat → Nat → Nat) (dA : Nat → ClassId) (sz : Nat) (X : va_W) (Γ : ty_G) (hU : Un Γ) (g : gh) (h0 : Nat) (t_h0 : ty Γ h0 30) (p1 : Int32) (p2 : Int32) (m4 : 0 ≤ g 104 0 ∧ g 104 0 ≤ 10) (m26 : 0 ≤ g 126 0 ∧ g 126 0 ≤ 200) (hIJ : IJ g) : Met l yX9_take (.code yX9_take cX9_take 3 (Option.some Jvm.ClassFile.FieldType.int) :: AL) ({ frames := 1, cells := 0, slots := 0, locals := 22 }) (PCx dC dI dA sz X Γ g [.ref h0, .int p1, .int p2]) (va_Qi (fun (r : Int32) (u : gh) => (∀ c j : Nat, c ≠ 100 → c ≠ 106 → c ≠ 132 → c ≠ 134 → u c j = g c j) ∧ (IJ u)) (okb dC dI dA sz X Γ) (ty_A sz)) 0 0 (ty_A sz) := by
  refine Met.ofW (cc := cX9_take) (maxL := 3) (ret := (Option.some Jvm.ClassFile.FieldType.int)) (by decide) rfl ?_
  intro p e s m args below meth c s₁ B hml hv
  obtain ⟨rfl, hG, hE⟩ := hv
  have hx := B.exec
  have hb := B.bytes
  have hr := B.returns
  have hts := atoms_spec B.pre
  have hA : ∀ w ∈ AL, w.before _ s = true := fun w h => hts w (List.mem_cons_of_mem _ h)
  have hown : s.vm.findClass RX9 = some m.cls := findClass_of_methodNamed B.named
  have hlocks := B.notSynchronized
  have hS : va_S (ty_A sz) s.heap s.heap [] := va_S.rf
  have hl := lv_entry ([.ref h0, .int p1, .int p2]) (n := 3) (Nat.le_of_ble_eq_true rfl)
  rw [lg_entry_eq]
  generalize (lg_sl ([.ref h0, .int p1, .int p2]) ++ List.replicate (3 - (lg_sl ([.ref h0, .int p1, .int p2])).length) Slot.unset).toArray = ls at hl ⊢
  have hl : lv_has ls 3 [(0, .ref h0), (1, .int p1), (2, .int p2)] := hl
  refine lv_aload_n hx hb dX9_take_0 rfl (lv_at hl 0 rfl) ?_
  refine ty_iconst hx hb (0) dX9_take_1 (by decide) (fun x1 h2 => ?_)
  refine put_X9_0 hx hb hA hown hE hG hS hU t_h0 wd_4_130 dX9_take_2 (fun H locs hG hS => ?_)
  refine lv_aload_n hx hb dX9_take_5 rfl (lv_at hl 0 rfl) ?_
  refine lv_iload_n hx hb dX9_take_6 rfl (lv_at hl 1 rfl) ?_
  have e3 : (gs g 100 0 x1.toInt) 104 0 = g 104 0 := by simp [gs]
  have e4 : (gs g 100 0 x1.toInt) 104 0 = g 104 0 := by simp [gs]
  refine cI (va_runV (C := RX9) (As := [.int p1]) (rest := []) ⟨hx, hb, hml, hown, hA⟩ (k_X9_isAlive l dC dI dA sz X Γ hU (gs g 100 0 x1.toInt) h0 t_h0 p1   (by omega)) ⟨callB_of 1 hA (al_A wd_5_54) rfl rfl rfl (hA _ wd_1_7) (hA _ wd_5_51) (by decide +kernel) ⟨Nat.le_of_ble_eq_true rfl, Nat.le_of_ble_eq_true rfl⟩, hA _ wd_5_53, hA _ ws_37⟩ ⟨bl, recv_X9 hE hG t_h0, fun U hU9 hW9 => ⟨rfl, by rw [hU9]; exact hG, hE.go hS hU9 hW9⟩⟩ rfl rfl hl.1 rfl (lv_room (Nat.le_of_ble_eq_true rfl)) dX9_take_7 ⟨Nat.zero_le _, Nat.zero_le _⟩) hS (fun x7 u5 H locs w6 hG hS => ?_)
  obtain ⟨eu8, w6⟩ := w6
  rw [eu8] at hG
  refine ty_if_eq (tgt := 22) hx hb dX9_take_10 (by decide) (fun c9 => ?_) (fun c9 => ?_)
  · skip
    refine ty_iconst hx hb (-1) dX9_take_22 (by decide) (fun x10 h11 => ?_)
    exact W.iret (v := x10) hx hb hr (fun t ht hW => ⟨⟨x10, (gs g 100 0 x1.toInt), rfl, ⟨(fun c j h100 h106 h132 h134 => by rw [gs_c _ _ _ _ h100]), (by (repeat (first | with_reducible assumption | (refine IJ_c (by decide) (by decide) (by decide) ?_) | (refine IJ_take (by omega) (by omega) ?_) | (refine IJ_how (by omega) ?_) | (refine IJ_by (by omega) ?_))))⟩, ok1 ht hG⟩, hS.F ht⟩) hS.2.2 dX9_take_23
  · skip
    refine lv_aload_n hx hb dX9_take_13 rfl (lv_at hl 0 rfl) ?_
    refine lv_iload_n hx hb dX9_take_14 rfl (lv_at hl 2 rfl) ?_
    refine ty_iconst hx hb (2) dX9_take_15 (by decide) (fun x12 h13 => ?_)
    have e14 : (gs g 100 0 x1.toInt) 126 0 = g 126 0 := by simp [gs]
    have e15 : (gs g 100 0 x1.toInt) 126 0 = g 126 0 := by simp [gs]
    refine cI (va_runV (C := RX9) (As := [.int p2, .int x12]) (rest := []) ⟨hx, hb, hml, hown, hA⟩ (k_X9_isGift l dC dI dA sz X Γ hU (gs g 100 0 x1.toInt) h0 t_h0 p2 x12   (by omega)) ⟨callB_of 2 hA (al_A wd_5_136) rfl rfl rfl (hA _ wd_1_7) (hA _ wd_5_133) (by decide +kernel) ⟨Nat.le_of_ble_eq_true rfl, Nat.le_of_ble_eq_true rfl⟩, hA _ wd_5_135, hA _ ws_47⟩ ⟨bl, recv_X9 hE hG t_h0, fun U hU9 hW9 => ⟨rfl, by rw [hU9]; exact hG, hE.go hS hU9 hW9⟩⟩ rfl rfl hl.1 rfl (lv_room (Nat.le_of_ble_eq_true rfl)) dX9_take_16 ⟨Nat.zero_le _, Nat.zero_le _⟩) hS (fun x18 u16 H locs w17 hG hS => ?_)
    obtain ⟨eu19, w17⟩ := w17
    rw [eu19] at hG
    refine ty_if_ne (tgt := 24) hx hb dX9_take_19 (by decide) (fun c20 => ?_) (fun c20 => ?_)
    · skip
      refine lv_aload_n hx hb dX9_take_24 rfl (lv_at hl 0 rfl) ?_
      refine get_X9_6 hx hb hA hown hE hG t_h0 wd_4_136 dX9_take_25 (fun b21 (t_b21 : ty Γ b21 106) => ?_)
      refine lv_iload_n hx hb dX9_take_28 rfl (lv_at hl 1 rfl) ?_
      refine ald_mI hx hb hE hG 6 rfl (n := 10) rfl (lo := -2147483648) (hi := 2147483647) rfl rfl t_b21 (by omega) dX9_take_29 (fun j23 x22 h24 h25 h26 => ?_)
      clear h26
      refine lv_aload_n hx hb dX9_take_30 rfl (lv_at hl 0 rfl) ?_
      refine get_X9_31 hx hb hA hown hE hG t_h0 wd_4_161 dX9_take_31 (fun b27 (t_b27 : ty Γ b27 131) => ?_)
      refine lv_iload_n hx hb dX9_take_34 rfl (lv_at hl 2 rfl) ?_
      refine ald_mI hx hb hE hG 31 rfl (n := 200) rfl (lo := -2147483648) (hi := 2147483647) rfl rfl t_b27 (by omega) dX9_take_35 (fun j29 x28 h30 h31 h32 => ?_)
      clear h32
      refine ty_icmp_ge (tgt := 42) hx hb dX9_take_36 (by decide) (fun c33 => ?_) (fun c33 => ?_)
      · skip
        refine lv_aload_n hx hb dX9_take_42 rfl (lv_at hl 0 rfl) ?_
        refine lv_iload_n hx hb dX9_take_43 rfl (lv_at hl 2 rfl) ?_
        refine lv_iload_n hx hb dX9_take_44 rfl (lv_at hl 1 rfl) ?_
        refine cV (va_runV (C := RX9) (As := [.int p2, .int p1]) (rest := []) ⟨hx, hb, hml, hown, hA⟩ (k_X9_goesTo l dC dI dA sz X Γ hU (gs g 100 0 x1.toInt) h0 t_h0 p2 p1   (by omega) (by (repeat (first | with_reducible assumption | (refine IJ_c (by decide) (by decide) (by decide) ?_) | (refine IJ_take (by omega) (by omega) ?_) | (refine IJ_how (by omega) ?_) | (refine IJ_by (by omega) ?_))))) ⟨callB_of 2 hA (al_A wd_5_176) rfl rfl rfl (hA _ wd_1_7) (hA _ wd_5_173) (by decide +kernel) ⟨Nat.le_of_ble_eq_true rfl, Nat.le_of_ble_eq_true rfl⟩, hA _ wd_5_175, hA _ ws_53⟩ ⟨bl, recv_X9 hE hG t_h0, fun U hU9 hW9 => ⟨rfl, by rw [hU9]; exact hG, hE.go hS hU9 hW9⟩⟩ rfl rfl hl.1 rfl (lv_room (Nat.le_of_ble_eq_true rfl)) dX9_take_45 ⟨Nat.zero_le _, Nat.zero_le _⟩) hS (fun u34 H locs w35 hG hS => ?_)
        obtain ⟨hf37, hq36⟩ := w35
        refine lv_aload_n hx hb dX9_take_48 rfl (lv_at hl 0 rfl) ?_
        refine get_X9_6 hx hb hA hown hE hG t_h0 wd_4_136 dX9_take_49 (fun b38 (t_b38 : ty Γ b38 106) => ?_)
        refine lv_iload_n hx hb dX9_take_52 rfl (lv_at hl 1 rfl) ?_
        refine ald_mI hx hb hE hG 6 rfl (n := 10) rfl (lo := -2147483648) (hi := 2147483647) rfl rfl t_b38 (by omega) dX9_take_53 (fun j40 x39 h41 h42 h43 => ?_)
        clear h43
        exact W.iret (v := x39) hx hb hr (fun t ht hW => ⟨⟨x39, u34, rfl, ⟨(fun c j h100 h106 h132 h134 => by rw [hf37 c j h106 h132 h134, gs_c _ _ _ _ h100]), (by (repeat (first | with_reducible assumption | (refine IJ_c (by decide) (by decide) (by decide) ?_) | (refine IJ_take (by omega) (by omega) ?_) | (refine IJ_how (by omega) ?_) | (refine IJ_by (by omega) ?_))))⟩, ok1 ht hG⟩, hS.F ht⟩) hS.2.2 dX9_take_54
      · skip
        refine ty_bipush hx hb (-2) dX9_take_39 (by decide) (fun x44 h45 => ?_)
        exact W.iret (v := x44) hx hb hr (fun t ht hW => ⟨⟨x44, (gs g 100 0 x1.toInt), rfl, ⟨(fun c j h100 h106 h132 h134 => by rw [gs_c _ _ _ _ h100]), (by (repeat (first | with_reducible assumption | (refine IJ_c (by decide) (by decide) (by decide) ?_) | (refine IJ_take (by omega) (by omega) ?_) | (refine IJ_how (by omega) ?_) | (refine IJ_by (by omega) ?_))))⟩, ok1 ht hG⟩, hS.F ht⟩) hS.2.2 dX9_take_41
    · skip
      refine ty_iconst hx hb (-1) dX9_take_22 (by decide) (fun x46 h47 => ?_)
      exact W.iret (v := x46) hx hb hr (fun t ht hW => ⟨⟨x46, (gs g 100 0 x1.toInt), rfl, ⟨(fun c j h100 h106 h132 h134 => by rw [gs_c _ _ _ _ h100]), (by (repeat (first | with_reducible assumption | (refine IJ_c (by decide) (by decide) (by decide) ?_) | (refine IJ_take (by omega) (by omega) ?_) | (refine IJ_how (by omega) ?_) | (refine IJ_by (by omega) ?_))))⟩, ok1 ht hG⟩, hS.F ht⟩) hS.2.2 dX9_take_23

set_option maxHeartbeats 4000000 in
set_option maxRecDepth 100000 in
/-- WeekBankModel.nextInRush:  -/
theorem k_X9_nextInRush (l : Launch) (dC : Nat → ClassId) (dI : Nat → Nat → Nat) (dA : Nat → ClassId) (sz : Nat) (X : va_W) (Γ : ty_G) (hU : Un Γ) (g : gh) (h0 : Nat) (t_h0 : ty Γ h0 30) (m4 : 0 ≤ g 104 0 ∧ g 104 0 ≤ 10) : Met l yX9_nextInRush (.code yX9_nextInRush cX9_nextInRush 3 (Option.some Jvm.ClassFile.FieldType.int) :: AL) ({ frames := 0, cells := 0, slots := 0, locals := 0 }) (PCx dC dI dA sz X Γ g [.ref h0]) (va_Qi (fun (r : Int32) (u : gh) => u = g ∧ ((r.toInt = -1 ∨ (0 ≤ r.toInt ∧ r.toInt < g 104 0 ∧ g 144 r.toInt.toNat = 0)))) (okb dC dI dA sz X Γ) (ty_A sz)) 0 0 (ty_A sz) := by
  refine Met.ofW (cc := cX9_nextInRush) (maxL := 3) (ret := (Option.some Jvm.ClassFile.FieldType.int)) (by decide) rfl ?_
  intro p e s m args below meth c s₁ B hml hv
  obtain ⟨rfl, hG, hE⟩ := hv
  have hx := B.exec
  have hb := B.bytes
  have hr := B.returns
  have hts := atoms_spec B.pre
  have hA : ∀ w ∈ AL, w.before _ s = true := fun w h => hts w (List.mem_cons_of_mem _ h)
  have hown : s.vm.findClass RX9 = some m.cls := findClass_of_methodNamed B.named
  have hlocks := B.notSynchronized
  have hS : va_S (ty_A sz) s.heap s.heap [] := va_S.rf
  have hl := lv_entry ([.ref h0]) (n := 3) (Nat.le_of_ble_eq_true rfl)
  rw [lg_entry_eq]
  generalize (lg_sl ([.ref h0]) ++ List.replicate (3 - (lg_sl ([.ref h0])).length) Slot.unset).toArray = ls at hl ⊢
  have hl : lv_has ls 3 [(0, .ref h0)] := hl
  refine ty_iconst hx hb (-1) dX9_nextInRush_0 (by decide) (fun x1 h2 => ?_)
  refine lv_istore_n (lv' := [(1, .int x1), (0, .ref h0)]) hx hb dX9_nextInRush_1 rfl hl (by decide) rfl (fun ls hl => ?_)
  refine ty_iconst hx hb (0) dX9_nextInRush_2 (by decide) (fun x3 h4 => ?_)
  refine lv_istore_n (lv' := [(2, .int x3), (1, .int x1), (0, .ref h0)]) hx hb dX9_nextInRush_3 rfl hl (by decide) rfl (fun ls hl => ?_)
  have L_4 : ∀ (n : Nat) (v2_4 : Int32) (v1_4 : Int32) (H : Heap) (locs : List Loc) (ls : Array Slot), (g 104 0 - v2_4.toInt : Int) < n → 0 ≤ v2_4.toInt ∧ v2_4.toInt ≤ g 104 0 → v1_4.toInt = -1 ∨ (0 ≤ v1_4.toInt ∧ v1_4.toInt < v2_4.toInt ∧ g 144 v1_4.toInt.toNat = 0) → ty_ok (dC, dI) vwCl Γ (TP dA Γ g) sz X H → va_S (ty_A sz) s.heap H locs → lv_has ls 3 [(2, .int v2_4), (1, .int v1_4), (0, .ref h0)] → W p l e (headSpec (.code yX9_nextInRush cX9_nextInRush 3 (Option.some Jvm.ClassFile.FieldType.int) :: AL) ({ frames := 0, cells := 0, slots := 0, locals := 0 })).room s m ([.ref h0] : List Value).toArray below meth c H locs 0 0 (MQ below (va_Qi (fun (r : Int32) (u : gh) => u = g ∧ ((r.toInt = -1 ∨ (0 ≤ r.toInt ∧ r.toInt < g 104 0 ∧ g 144 r.toInt.toNat = 0)))) (okb dC dI dA sz X Γ) (ty_A sz)) ([.ref h0] : List Value).toArray s 0 0 (ty_A sz)) (F0 m 4 ls []) := by
    intro n
    induction n with
    | zero => intro v2_4 v1_4 H locs ls hm hi0 hi1 hG hS hl; exfalso; omega
    | succ n ih_4 =>
      intro v2_4 v1_4 H locs ls hm hi0 hi1 hG hS hl
      refine lv_iload_n hx hb dX9_nextInRush_4 rfl (lv_at hl 0 rfl) ?_
      refine lv_aload_n hx hb dX9_nextInRush_5 rfl (lv_at hl 2 rfl) ?_
      refine get_X9_4 hx hb hA hown hE hG t_h0 wd_4_134 dX9_nextInRush_6 (fun x6 h7 => ?_)
      refine ty_icmp_ge (tgt := 78) hx hb dX9_nextInRush_9 (by decide) (fun c9 => ?_) (fun c9 => ?_)
      · skip
        refine lv_iload_n hx hb dX9_nextInRush_78 rfl (lv_at hl 1 rfl) ?_
        exact W.iret (v := v1_4) hx hb hr (fun t ht hW => ⟨⟨v1_4, g, rfl, ⟨rfl, (by omega)⟩, ok1 ht hG⟩, hS.F ht⟩) hS.2.2 dX9_nextInRush_79
      · skip
        refine lv_aload_n hx hb dX9_nextInRush_12 rfl (lv_at hl 2 rfl) ?_
        refine get_X9_44 hx hb hA hown hE hG t_h0 wd_4_174 dX9_nextInRush_13 (fun b10 (t_b10 : ty Γ b10 144) => ?_)
        refine lv_iload_n hx hb dX9_nextInRush_16 rfl (lv_at hl 0 rfl) ?_
        refine ald_mZ hx hb hE hG 44 rfl (n := 10) rfl (lo := 0) (hi := 1) rfl rfl t_b10 (by omega) dX9_nextInRush_17 (fun j12 x11 h13 h14 h15 => ?_)
        obtain rfl : j12 = v2_4.toInt.toNat := by omega
        replace h14 : x11.toInt = g 144 v2_4.toInt.toNat := h14
        refine ty_if_ne (tgt := 72) hx hb dX9_nextInRush_18 (by decide) (fun c16 => ?_) (fun c16 => ?_)
        · skip
          obtain ⟨x17, h18⟩ : ∃ y : Int32, y = v2_4 + Int32.ofInt (1) := ⟨_, rfl⟩
          try have h19 : x17.toInt = v2_4.toInt + (1) := ty_inc h18 (by decide) (by omega) (by omega)
          refine lv_iinc (v := x17) (lv' := [(2, .int x17), (1, .int v1_4), (0, .ref h0)]) hx hb dX9_nextInRush_72 hl (k := 0) rfl h18.symm (by decide) rfl (fun ls hl => ?_)
          refine lv_goto (tgt := 4) hx hb dX9_nextInRush_75 (by decide) ?_
          exact ih_4 x17 v1_4 _ _ ls (by omega) (by omega) (by omega) hG hS (lv_sub hl [0, 1, 2] rfl)
        · skip
          refine lv_aload_n hx hb dX9_nextInRush_21 rfl (lv_at hl 2 rfl) ?_
          refine get_X9_8 hx hb hA hown hE hG t_h0 wd_4_138 dX9_nextInRush_22 (fun b20 (t_b20 : ty Γ b20 108) => ?_)
          refine lv_iload_n hx hb dX9_nextInRush_25 rfl (lv_at hl 0 rfl) ?_
          refine ald_mZ hx hb hE hG 8 rfl (n := 10) rfl (lo := 0) (hi := 1) rfl rfl t_b20 (by omega) dX9_nextInRush_26 (fun j22 x21 h23 h24 h25 => ?_)
          obtain rfl : j22 = v2_4.toInt.toNat := by omega
          replace h24 : x21.toInt = g 108 v2_4.toInt.toNat := h24
          refine ty_if_ne (tgt := 72) hx hb dX9_nextInRush_27 (by decide) (fun c26 => ?_) (fun c26 => ?_)
          · skip
            obtain ⟨x27, h28⟩ : ∃ y : Int32, y = v2_4 + Int32.ofInt (1) := ⟨_, rfl⟩
            try have h29 : x27.toInt = v2_4.toInt + (1) := ty_inc h28 (by decide) (by omega) (by omega)
            refine lv_iinc (v := x27) (lv' := [(2, .int x27), (1, .int v1_4), (0, .ref h0)]) hx hb dX9_nextInRush_72 hl (k := 0) rfl h28.symm (by decide) rfl (fun ls hl => ?_)
            refine lv_goto (tgt := 4) hx hb dX9_nextInRush_75 (by decide) ?_
            exact ih_4 x27 v1_4 _ _ ls (by omega) (by omega) (by omega) hG hS (lv_sub hl [0, 1, 2] rfl)
          · skip
            refine lv_aload_n hx hb dX9_nextInRush_30 rfl (lv_at hl 2 rfl) ?_
            refine get_X9_35 hx hb hA hown hE hG t_h0 wd_4_165 dX9_nextInRush_31 (fun b30 (t_b30 : ty Γ b30 135) => ?_)
            refine ty_iconst hx hb (4) dX9_nextInRush_34 (by decide) (fun x31 h32 => ?_)
            refine ty_sipush hx hb (200) dX9_nextInRush_35 (by decide) (fun x33 h34 => ?_)
            refine lv_iload_n hx hb dX9_nextInRush_38 rfl (lv_at hl 0 rfl) ?_
            refine ty_iadd hx hb dX9_nextInRush_39 (fun x35 h36 => ?_)
            try have h37 : x35.toInt = x33.toInt + v2_4.toInt := ty_add h36 (by omega) (by omega)
            refine ty_imul hx hb dX9_nextInRush_40 (fun x38 h39 => ?_)
            try have h40 : x38.toInt = 4 * x35.toInt := ty_mull h39 (by omega) (by omega) (by omega)
            refine ty_iconst hx hb (3) dX9_nextInRush_41 (by decide) (fun x41 h42 => ?_)
            refine ty_iadd hx hb dX9_nextInRush_42 (fun x43 h44 => ?_)
            try have h45 : x43.toInt = x38.toInt + x41.toInt := ty_add h44 (by omega) (by omega)
            refine ald_mI hx hb hE hG 35 rfl (n := 840) rfl (lo := -2147483648) (hi := 2147483647) rfl rfl t_b30 (by omega) dX9_nextInRush_43 (fun j47 x46 h48 h49 h50 => ?_)
            clear h50
            obtain rfl : j47 = x43.toInt.toNat := by omega
            replace h49 : x46.toInt = g 135 x43.toInt.toNat := h49
            refine ty_if_ne (tgt := 50) hx hb dX9_nextInRush_44 (by decide) (fun c51 => ?_) (fun c51 => ?_)
            · skip
              refine lv_iload_n hx hb dX9_nextInRush_50 rfl (lv_at hl 1 rfl) ?_
              refine ty_iconst hx hb (-1) dX9_nextInRush_51 (by decide) (fun x52 h53 => ?_)
              refine ty_icmp_eq (tgt := 70) hx hb dX9_nextInRush_52 (by decide) (fun c54 => ?_) (fun c54 => ?_)
              · skip
                refine lv_iload_n hx hb dX9_nextInRush_70 rfl (lv_at hl 0 rfl) ?_
                refine lv_istore_n (lv' := [(1, .int v2_4), (2, .int v2_4), (0, .ref h0)]) hx hb dX9_nextInRush_71 rfl hl (by decide) rfl (fun ls hl => ?_)
                obtain ⟨x55, h56⟩ : ∃ y : Int32, y = v2_4 + Int32.ofInt (1) := ⟨_, rfl⟩
                try have h57 : x55.toInt = v2_4.toInt + (1) := ty_inc h56 (by decide) (by omega) (by omega)
                refine lv_iinc (v := x55) (lv' := [(2, .int x55), (1, .int v2_4), (0, .ref h0)]) hx hb dX9_nextInRush_72 hl (k := 1) rfl h56.symm (by decide) rfl (fun ls hl => ?_)
                refine lv_goto (tgt := 4) hx hb dX9_nextInRush_75 (by decide) ?_
                exact ih_4 x55 v2_4 _ _ ls (by omega) (by omega) (by omega) hG hS (lv_sub hl [0, 1, 2] rfl)
              · skip
                refine lv_aload_n hx hb dX9_nextInRush_55 rfl (lv_at hl 2 rfl) ?_
                refine get_X9_45 hx hb hA hown hE hG t_h0 wd_4_175 dX9_nextInRush_56 (fun b58 (t_b58 : ty Γ b58 145) => ?_)
                refine lv_iload_n hx hb dX9_nextInRush_59 rfl (lv_at hl 0 rfl) ?_
                refine ald_mI hx hb hE hG 45 rfl (n := 10) rfl (lo := -2147483648) (hi := 2147483647) rfl rfl t_b58 (by omega) dX9_nextInRush_60 (fun j60 x59 h61 h62 h63 => ?_)
                clear h63
                obtain rfl : j60 = v2_4.toInt.toNat := by omega
                replace h62 : x59.toInt = g 145 v2_4.toInt.toNat := h62
                refine lv_aload_n hx hb dX9_nextInRush_61 rfl (lv_at hl 2 rfl) ?_
                refine get_X9_45 hx hb hA hown hE hG t_h0 wd_4_175 dX9_nextInRush_62 (fun b64 (t_b64 : ty Γ b64 145) => ?_)
                refine lv_iload_n hx hb dX9_nextInRush_65 rfl (lv_at hl 1 rfl) ?_
                refine ald_mI hx hb hE hG 45 rfl (n := 10) rfl (lo := -2147483648) (hi := 2147483647) rfl rfl t_b64 (by omega) dX9_nextInRush_66 (fun j66 x65 h67 h68 h69 => ?_)
                clear h69
                obtain rfl : j66 = v1_4.toInt.toNat := by omega
                replace h68 : x65.toInt = g 145 v1_4.toInt.toNat := h68
                refine ty_icmp_ge (tgt := 72) hx hb dX9_nextInRush_67 (by decide) (fun c70 => ?_) (fun c70 => ?_)
                · skip
                  obtain ⟨x71, h72⟩ : ∃ y : Int32, y = v2_4 + Int32.ofInt (1) := ⟨_, rfl⟩
                  try have h73 : x71.toInt = v2_4.toInt + (1) := ty_inc h72 (by decide) (by omega) (by omega)
                  refine lv_iinc (v := x71) (lv' := [(2, .int x71), (1, .int v1_4), (0, .ref h0)]) hx hb dX9_nextInRush_72 hl (k := 0) rfl h72.symm (by decide) rfl (fun ls hl => ?_)
                  refine lv_goto (tgt := 4) hx hb dX9_nextInRush_75 (by decide) ?_
                  exact ih_4 x71 v1_4 _ _ ls (by omega) (by omega) (by omega) hG hS (lv_sub hl [0, 1, 2] rfl)
                · skip
                  refine lv_iload_n hx hb dX9_nextInRush_70 rfl (lv_at hl 0 rfl) ?_
                  refine lv_istore_n (lv' := [(1, .int v2_4), (2, .int v2_4), (0, .ref h0)]) hx hb dX9_nextInRush_71 rfl hl (by decide) rfl (fun ls hl => ?_)
                  obtain ⟨x74, h75⟩ : ∃ y : Int32, y = v2_4 + Int32.ofInt (1) := ⟨_, rfl⟩
                  try have h76 : x74.toInt = v2_4.toInt + (1) := ty_inc h75 (by decide) (by omega) (by omega)
                  refine lv_iinc (v := x74) (lv' := [(2, .int x74), (1, .int v2_4), (0, .ref h0)]) hx hb dX9_nextInRush_72 hl (k := 1) rfl h75.symm (by decide) rfl (fun ls hl => ?_)
                  refine lv_goto (tgt := 4) hx hb dX9_nextInRush_75 (by decide) ?_
                  exact ih_4 x74 v2_4 _ _ ls (by omega) (by omega) (by omega) hG hS (lv_sub hl [0, 1, 2] rfl)
            · skip
              refine lv_goto (tgt := 72) hx hb dX9_nextInRush_47 (by decide) ?_
              obtain ⟨x77, h78⟩ : ∃ y : Int32, y = v2_4 + Int32.ofInt (1) := ⟨_, rfl⟩
              try have h79 : x77.toInt = v2_4.toInt + (1) := ty_inc h78 (by decide) (by omega) (by omega)
              refine lv_iinc (v := x77) (lv' := [(2, .int x77), (1, .int v1_4), (0, .ref h0)]) hx hb dX9_nextInRush_72 hl (k := 0) rfl h78.symm (by decide) rfl (fun ls hl => ?_)
              refine lv_goto (tgt := 4) hx hb dX9_nextInRush_75 (by decide) ?_
              exact ih_4 x77 v1_4 _ _ ls (by omega) (by omega) (by omega) hG hS (lv_sub hl [0, 1, 2] rfl)
  exact L_4 ((g 104 0 - x3.toInt) + 1).toNat x3 x1 _ _ ls (by omega) (by omega) (by omega) hG hS (lv_sub hl [0, 1, 2] rfl)
