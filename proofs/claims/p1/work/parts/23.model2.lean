set_option maxHeartbeats 4000000 in
set_option maxRecDepth 100000 in
/-- WeekBankModel.own:  -/
theorem f_X9_own (l : Launch) (dC : Nat → ClassId) (dI : Nat → Nat → Nat) (dA : Nat → ClassId) (sz : Nat) (X : va_W) (Γ : ty_G) (hU : Un Γ) (g : gh) (h0 : Nat) (t_h0 : ty Γ h0 30) (p1 : Int32) (p2 : Int32) (p3 : Int32) (f1 : g 101 0 = 0) : Met l yX9_own (.code yX9_own cX9_own 5 (Option.some Jvm.ClassFile.FieldType.boolean) :: AL) ({ frames := 2, cells := 0, slots := 0, locals := 44 }) (PCx dC dI dA sz X Γ g [.ref h0, .int p1, .int p2, .int p3]) (va_Qi (fun (r : Int32) (u : gh) => (∀ c j : Nat, c ≠ 100 → u c j = g c j) ∧ ((r.toInt = 0))) (okb dC dI dA sz X Γ) (ty_A sz)) 0 0 (ty_A sz) := by
  refine Met.ofW (cc := cX9_own) (maxL := 5) (ret := (Option.some Jvm.ClassFile.FieldType.boolean)) (by decide) rfl ?_
  intro p e s m args below meth c s₁ B hml hv
  obtain ⟨rfl, hG, hE⟩ := hv
  have hx := B.exec
  have hb := B.bytes
  have hr := B.returns
  have hts := atoms_spec B.pre
  have hA : ∀ w ∈ AL, w.before _ s = true := fun w h => hts w (List.mem_cons_of_mem _ h)
  have hown : s.vm.findClass RX9 = some m.cls := findClass_of_methodNamed B.named
  have hlocks := B.notSynchronized
  have hS : va_S (ty_A sz) s.heap s.heap [] := va_S.rf
  have hl := lv_entry ([.ref h0, .int p1, .int p2, .int p3]) (n := 5) (Nat.le_of_ble_eq_true rfl)
  rw [lg_entry_eq]
  generalize (lg_sl ([.ref h0, .int p1, .int p2, .int p3]) ++ List.replicate (5 - (lg_sl ([.ref h0, .int p1, .int p2, .int p3])).length) Slot.unset).toArray = ls at hl ⊢
  have hl : lv_has ls 5 [(0, .ref h0), (1, .int p1), (2, .int p2), (3, .int p3)] := hl
  refine lv_aload_n hx hb dX9_own_0 rfl (lv_at hl 0 rfl) ?_
  refine ty_iconst hx hb (0) dX9_own_1 (by decide) (fun x1 h2 => ?_)
  refine put_X9_0 hx hb hA hown hE hG hS hU t_h0 wd_4_134 dX9_own_2 (fun H locs hG hS => ?_)
  refine lv_aload_n hx hb dX9_own_5 rfl (lv_at hl 0 rfl) ?_
  refine lv_iload_n hx hb dX9_own_6 rfl (lv_at hl 1 rfl) ?_
  refine lv_iload_n hx hb dX9_own_7 rfl (lv_at hl 2 rfl) ?_
  have e3 : (gs g 100 0 x1.toInt) 101 0 = g 101 0 := by simp [gs]
  refine cI (va_runV (C := RX9) (As := [.int p1, .int p2]) (rest := []) ⟨hx, hb, hml, hown, hA⟩ (k_X9_isPlace l dC dI dA sz X Γ hU (gs g 100 0 x1.toInt) h0 t_h0 p1 p2   ) ⟨callB_of 2 hA (al_A wd_5_54) rfl rfl rfl (hA _ wd_1_7) (hA _ wd_5_51) (by decide +kernel) ⟨Nat.le_of_ble_eq_true rfl, Nat.le_of_ble_eq_true rfl⟩, hA _ wd_5_53, hA _ ws_36⟩ ⟨bl, recv_X9 hE hG t_h0, fun U hU9 hW9 => ⟨rfl, by rw [hU9]; exact hG, hE.go hS hU9 hW9⟩⟩ rfl rfl hl.1 rfl (lv_room (Nat.le_of_ble_eq_true rfl)) dX9_own_8 ⟨Nat.zero_le _, Nat.zero_le _⟩) hS (fun x6 u4 H locs w5 hG hS => ?_)
  obtain ⟨eu7, w5⟩ := w5
  rw [eu7] at hG
  refine ty_if_eq (tgt := 27) hx hb dX9_own_11 (by decide) (fun c8 => ?_) (fun c8 => ?_)
  · skip
    refine ty_iconst hx hb (0) dX9_own_27 (by decide) (fun x9 h10 => ?_)
    exact W.zret (v := x9) hx hb hr (ty_nb (by omega)).1 (fun t ht hW => ⟨⟨x9, (gs g 100 0 x1.toInt), rfl, ⟨(fun c j h100 => by rw [gs_c _ _ _ _ h100]), (by omega)⟩, ok1 ht hG⟩, hS.F ht⟩) hS.2.2 dX9_own_28
  · exfalso; omega

set_option maxHeartbeats 4000000 in
set_option maxRecDepth 100000 in
/-- WeekBankModel.worth:  -/
theorem f_X9_worth (l : Launch) (dC : Nat → ClassId) (dI : Nat → Nat → Nat) (dA : Nat → ClassId) (sz : Nat) (X : va_W) (Γ : ty_G) (hU : Un Γ) (g : gh) (h0 : Nat) (t_h0 : ty Γ h0 30) (p1 : Int32) (p2 : Int32) (f1 : g 101 0 = 0) : Met l yX9_worth (.code yX9_worth cX9_worth 3 (Option.some Jvm.ClassFile.FieldType.int) :: AL) ({ frames := 2, cells := 0, slots := 0, locals := 44 }) (PCx dC dI dA sz X Γ g [.ref h0, .int p1, .int p2]) (va_Qi (fun (r : Int32) (u : gh) => (∀ c j : Nat, c ≠ 100 → u c j = g c j) ∧ ((r.toInt = -1))) (okb dC dI dA sz X Γ) (ty_A sz)) 0 0 (ty_A sz) := by
  refine Met.ofW (cc := cX9_worth) (maxL := 3) (ret := (Option.some Jvm.ClassFile.FieldType.int)) (by decide) rfl ?_
  intro p e s m args below meth c s₁ B hml hv
  obtain ⟨rfl, hG, hE⟩ := hv
  have hx := B.exec
  have hb := B.bytes
  have hr := B.returns
  have hts := atoms_spec B.pre
  have hA : ∀ w ∈ AL, w.before _ s = true := fun w h => hts w (List.mem_cons_of_mem _ h)
  have hown : s.vm.findClass RX9 = some m.cls := findClass_of_methodNamed B.named
  have hlocks := B.notSynchronized
  have hS : va_S (ty_A sz) s.heap s.heap [] := va_S.rf
  have hl := lv_entry ([.ref h0, .int p1, .int p2]) (n := 3) (Nat.le_of_ble_eq_true rfl)
  rw [lg_entry_eq]
  generalize (lg_sl ([.ref h0, .int p1, .int p2]) ++ List.replicate (3 - (lg_sl ([.ref h0, .int p1, .int p2])).length) Slot.unset).toArray = ls at hl ⊢
  have hl : lv_has ls 3 [(0, .ref h0), (1, .int p1), (2, .int p2)] := hl
  refine lv_aload_n hx hb dX9_worth_0 rfl (lv_at hl 0 rfl) ?_
  refine ty_iconst hx hb (0) dX9_worth_1 (by decide) (fun x1 h2 => ?_)
  refine put_X9_0 hx hb hA hown hE hG hS hU t_h0 wd_4_134 dX9_worth_2 (fun H locs hG hS => ?_)
  refine lv_aload_n hx hb dX9_worth_5 rfl (lv_at hl 0 rfl) ?_
  refine lv_iload_n hx hb dX9_worth_6 rfl (lv_at hl 1 rfl) ?_
  refine lv_iload_n hx hb dX9_worth_7 rfl (lv_at hl 2 rfl) ?_
  have e3 : (gs g 100 0 x1.toInt) 101 0 = g 101 0 := by simp [gs]
  refine cI (va_runV (C := RX9) (As := [.int p1, .int p2]) (rest := []) ⟨hx, hb, hml, hown, hA⟩ (k_X9_isPlace l dC dI dA sz X Γ hU (gs g 100 0 x1.toInt) h0 t_h0 p1 p2   ) ⟨callB_of 2 hA (al_A wd_5_54) rfl rfl rfl (hA _ wd_1_7) (hA _ wd_5_51) (by decide +kernel) ⟨Nat.le_of_ble_eq_true rfl, Nat.le_of_ble_eq_true rfl⟩, hA _ wd_5_53, hA _ ws_36⟩ ⟨bl, recv_X9 hE hG t_h0, fun U hU9 hW9 => ⟨rfl, by rw [hU9]; exact hG, hE.go hS hU9 hW9⟩⟩ rfl rfl hl.1 rfl (lv_room (Nat.le_of_ble_eq_true rfl)) dX9_worth_8 ⟨Nat.zero_le _, Nat.zero_le _⟩) hS (fun x6 u4 H locs w5 hG hS => ?_)
  obtain ⟨eu7, w5⟩ := w5
  rw [eu7] at hG
  refine ty_if_eq (tgt := 23) hx hb dX9_worth_11 (by decide) (fun c8 => ?_) (fun c8 => ?_)
  · skip
    refine ty_iconst hx hb (-1) dX9_worth_23 (by decide) (fun x9 h10 => ?_)
    exact W.iret (v := x9) hx hb hr (fun t ht hW => ⟨⟨x9, (gs g 100 0 x1.toInt), rfl, ⟨(fun c j h100 => by rw [gs_c _ _ _ _ h100]), (by omega)⟩, ok1 ht hG⟩, hS.F ht⟩) hS.2.2 dX9_worth_24
  · exfalso; omega

set_option maxHeartbeats 4000000 in
set_option maxRecDepth 100000 in
/-- WeekBankModel.give:  -/
theorem f_X9_give (l : Launch) (dC : Nat → ClassId) (dI : Nat → Nat → Nat) (dA : Nat → ClassId) (sz : Nat) (X : va_W) (Γ : ty_G) (hU : Un Γ) (g : gh) (h0 : Nat) (t_h0 : ty Γ h0 30) (p1 : Int32) (p2 : Int32) (p3 : Int32) (f4 : g 104 0 = 0) : Met l yX9_give (.code yX9_give cX9_give 5 (Option.some Jvm.ClassFile.FieldType.int) :: AL) ({ frames := 1, cells := 0, slots := 0, locals := 21 }) (PCx dC dI dA sz X Γ g [.ref h0, .int p1, .int p2, .int p3]) (va_Qi (fun (r : Int32) (u : gh) => (∀ c j : Nat, c ≠ 100 → u c j = g c j) ∧ ((r.toInt = -1))) (okb dC dI dA sz X Γ) (ty_A sz)) 0 0 (ty_A sz) := by
  refine Met.ofW (cc := cX9_give) (maxL := 5) (ret := (Option.some Jvm.ClassFile.FieldType.int)) (by decide) rfl ?_
  intro p e s m args below meth c s₁ B hml hv
  obtain ⟨rfl, hG, hE⟩ := hv
  have hx := B.exec
  have hb := B.bytes
  have hr := B.returns
  have hts := atoms_spec B.pre
  have hA : ∀ w ∈ AL, w.before _ s = true := fun w h => hts w (List.mem_cons_of_mem _ h)
  have hown : s.vm.findClass RX9 = some m.cls := findClass_of_methodNamed B.named
  have hlocks := B.notSynchronized
  have hS : va_S (ty_A sz) s.heap s.heap [] := va_S.rf
  have hl := lv_entry ([.ref h0, .int p1, .int p2, .int p3]) (n := 5) (Nat.le_of_ble_eq_true rfl)
  rw [lg_entry_eq]
  generalize (lg_sl ([.ref h0, .int p1, .int p2, .int p3]) ++ List.replicate (5 - (lg_sl ([.ref h0, .int p1, .int p2, .int p3])).length) Slot.unset).toArray = ls at hl ⊢
  have hl : lv_has ls 5 [(0, .ref h0), (1, .int p1), (2, .int p2), (3, .int p3)] := hl
  refine lv_aload_n hx hb dX9_give_0 rfl (lv_at hl 0 rfl) ?_
  refine ty_iconst hx hb (0) dX9_give_1 (by decide) (fun x1 h2 => ?_)
  refine put_X9_0 hx hb hA hown hE hG hS hU t_h0 wd_4_134 dX9_give_2 (fun H locs hG hS => ?_)
  refine lv_aload_n hx hb dX9_give_5 rfl (lv_at hl 0 rfl) ?_
  refine lv_iload_n hx hb dX9_give_6 rfl (lv_at hl 1 rfl) ?_
  have e3 : (gs g 100 0 x1.toInt) 104 0 = g 104 0 := by simp [gs]
  have e4 : (gs g 100 0 x1.toInt) 104 0 = g 104 0 := by simp [gs]
  refine cI (va_runV (C := RX9) (As := [.int p1]) (rest := []) ⟨hx, hb, hml, hown, hA⟩ (k_X9_isAlive l dC dI dA sz X Γ hU (gs g 100 0 x1.toInt) h0 t_h0 p1   (by omega)) ⟨callB_of 1 hA (al_A wd_5_58) rfl rfl rfl (hA _ wd_1_7) (hA _ wd_5_55) (by decide +kernel) ⟨Nat.le_of_ble_eq_true rfl, Nat.le_of_ble_eq_true rfl⟩, hA _ wd_5_57, hA _ ws_37⟩ ⟨bl, recv_X9 hE hG t_h0, fun U hU9 hW9 => ⟨rfl, by rw [hU9]; exact hG, hE.go hS hU9 hW9⟩⟩ rfl rfl hl.1 rfl (lv_room (Nat.le_of_ble_eq_true rfl)) dX9_give_7 ⟨Nat.zero_le _, Nat.zero_le _⟩) hS (fun x7 u5 H locs w6 hG hS => ?_)
  obtain ⟨eu8, w6⟩ := w6
  rw [eu8] at hG
  refine ty_if_eq (tgt := 22) hx hb dX9_give_10 (by decide) (fun c9 => ?_) (fun c9 => ?_)
  · skip
    refine ty_iconst hx hb (-1) dX9_give_22 (by decide) (fun x10 h11 => ?_)
    exact W.iret (v := x10) hx hb hr (fun t ht hW => ⟨⟨x10, (gs g 100 0 x1.toInt), rfl, ⟨(fun c j h100 => by rw [gs_c _ _ _ _ h100]), (by omega)⟩, ok1 ht hG⟩, hS.F ht⟩) hS.2.2 dX9_give_23
  · exfalso; omega

set_option maxHeartbeats 4000000 in
set_option maxRecDepth 100000 in
/-- WeekBankModel.wish:  -/
theorem f_X9_wish (l : Launch) (dC : Nat → ClassId) (dI : Nat → Nat → Nat) (dA : Nat → ClassId) (sz : Nat) (X : va_W) (Γ : ty_G) (hU : Un Γ) (g : gh) (h0 : Nat) (t_h0 : ty Γ h0 30) (p1 : Int32) (p2 : Int32) (p3 : Int32) (p4 : Int32) (p5 : Int32) (f6 : g 126 0 = 0) : Met l yX9_wish (.code yX9_wish cX9_wish 6 (Option.some Jvm.ClassFile.FieldType.boolean) :: AL) ({ frames := 1, cells := 0, slots := 0, locals := 22 }) (PCx dC dI dA sz X Γ g [.ref h0, .int p1, .int p2, .int p3, .int p4, .int p5]) (va_Qi (fun (r : Int32) (u : gh) => (∀ c j : Nat, c ≠ 100 → u c j = g c j) ∧ ((r.toInt = 0))) (okb dC dI dA sz X Γ) (ty_A sz)) 0 0 (ty_A sz) := by
  refine Met.ofW (cc := cX9_wish) (maxL := 6) (ret := (Option.some Jvm.ClassFile.FieldType.boolean)) (by decide) rfl ?_
  intro p e s m args below meth c s₁ B hml hv
  obtain ⟨rfl, hG, hE⟩ := hv
  have hx := B.exec
  have hb := B.bytes
  have hr := B.returns
  have hts := atoms_spec B.pre
  have hA : ∀ w ∈ AL, w.before _ s = true := fun w h => hts w (List.mem_cons_of_mem _ h)
  have hown : s.vm.findClass RX9 = some m.cls := findClass_of_methodNamed B.named
  have hlocks := B.notSynchronized
  have hS : va_S (ty_A sz) s.heap s.heap [] := va_S.rf
  have hl := lv_entry ([.ref h0, .int p1, .int p2, .int p3, .int p4, .int p5]) (n := 6) (Nat.le_of_ble_eq_true rfl)
  rw [lg_entry_eq]
  generalize (lg_sl ([.ref h0, .int p1, .int p2, .int p3, .int p4, .int p5]) ++ List.replicate (6 - (lg_sl ([.ref h0, .int p1, .int p2, .int p3, .int p4, .int p5])).length) Slot.unset).toArray = ls at hl ⊢
  have hl : lv_has ls 6 [(0, .ref h0), (1, .int p1), (2, .int p2), (3, .int p3), (4, .int p4), (5, .int p5)] := hl
  refine lv_aload_n hx hb dX9_wish_0 rfl (lv_at hl 0 rfl) ?_
  refine ty_iconst hx hb (0) dX9_wish_1 (by decide) (fun x1 h2 => ?_)
  refine put_X9_0 hx hb hA hown hE hG hS hU t_h0 wd_4_134 dX9_wish_2 (fun H locs hG hS => ?_)
  refine lv_aload_n hx hb dX9_wish_5 rfl (lv_at hl 0 rfl) ?_
  refine lv_iload_n hx hb dX9_wish_6 rfl (lv_at hl 1 rfl) ?_
  refine ty_iconst hx hb (0) dX9_wish_7 (by decide) (fun x3 h4 => ?_)
  have e5 : (gs g 100 0 x1.toInt) 126 0 = g 126 0 := by simp [gs]
  have e6 : (gs g 100 0 x1.toInt) 126 0 = g 126 0 := by simp [gs]
  refine cI (va_runV (C := RX9) (As := [.int p1, .int x3]) (rest := []) ⟨hx, hb, hml, hown, hA⟩ (k_X9_isGift l dC dI dA sz X Γ hU (gs g 100 0 x1.toInt) h0 t_h0 p1 x3   (by omega)) ⟨callB_of 2 hA (al_A wd_5_140) rfl rfl rfl (hA _ wd_1_7) (hA _ wd_5_137) (by decide +kernel) ⟨Nat.le_of_ble_eq_true rfl, Nat.le_of_ble_eq_true rfl⟩, hA _ wd_5_139, hA _ ws_47⟩ ⟨bl, recv_X9 hE hG t_h0, fun U hU9 hW9 => ⟨rfl, by rw [hU9]; exact hG, hE.go hS hU9 hW9⟩⟩ rfl rfl hl.1 rfl (lv_room (Nat.le_of_ble_eq_true rfl)) dX9_wish_8 ⟨Nat.zero_le _, Nat.zero_le _⟩) hS (fun x9 u7 H locs w8 hG hS => ?_)
  obtain ⟨eu10, w8⟩ := w8
  rw [eu10] at hG
  refine ty_if_eq (tgt := 32) hx hb dX9_wish_11 (by decide) (fun c11 => ?_) (fun c11 => ?_)
  · skip
    refine ty_iconst hx hb (0) dX9_wish_32 (by decide) (fun x12 h13 => ?_)
    exact W.zret (v := x12) hx hb hr (ty_nb (by omega)).1 (fun t ht hW => ⟨⟨x12, (gs g 100 0 x1.toInt), rfl, ⟨(fun c j h100 => by rw [gs_c _ _ _ _ h100]), (by omega)⟩, ok1 ht hG⟩, hS.F ht⟩) hS.2.2 dX9_wish_33
  · exfalso; omega

set_option maxHeartbeats 4000000 in
set_option maxRecDepth 100000 in
/-- WeekBankModel.rushWish:  -/
theorem f_X9_rushWish (l : Launch) (dC : Nat → ClassId) (dI : Nat → Nat → Nat) (dA : Nat → ClassId) (sz : Nat) (X : va_W) (Γ : ty_G) (hU : Un Γ) (g : gh) (h0 : Nat) (t_h0 : ty Γ h0 30) (p1 : Int32) (p2 : Int32) (p3 : Int32) (p4 : Int32) (p5 : Int32) (f4 : g 104 0 = 0) : Met l yX9_rushWish (.code yX9_rushWish cX9_rushWish 6 (Option.some Jvm.ClassFile.FieldType.boolean) :: AL) ({ frames := 1, cells := 0, slots := 0, locals := 21 }) (PCx dC dI dA sz X Γ g [.ref h0, .int p1, .int p2, .int p3, .int p4, .int p5]) (va_Qi (fun (r : Int32) (u : gh) => (∀ c j : Nat, c ≠ 100 → u c j = g c j) ∧ ((r.toInt = 0))) (okb dC dI dA sz X Γ) (ty_A sz)) 0 0 (ty_A sz) := by
  refine Met.ofW (cc := cX9_rushWish) (maxL := 6) (ret := (Option.some Jvm.ClassFile.FieldType.boolean)) (by decide) rfl ?_
  intro p e s m args below meth c s₁ B hml hv
  obtain ⟨rfl, hG, hE⟩ := hv
  have hx := B.exec
  have hb := B.bytes
  have hr := B.returns
  have hts := atoms_spec B.pre
  have hA : ∀ w ∈ AL, w.before _ s = true := fun w h => hts w (List.mem_cons_of_mem _ h)
  have hown : s.vm.findClass RX9 = some m.cls := findClass_of_methodNamed B.named
  have hlocks := B.notSynchronized
  have hS : va_S (ty_A sz) s.heap s.heap [] := va_S.rf
  have hl := lv_entry ([.ref h0, .int p1, .int p2, .int p3, .int p4, .int p5]) (n := 6) (Nat.le_of_ble_eq_true rfl)
  rw [lg_entry_eq]
  generalize (lg_sl ([.ref h0, .int p1, .int p2, .int p3, .int p4, .int p5]) ++ List.replicate (6 - (lg_sl ([.ref h0, .int p1, .int p2, .int p3, .int p4, .int p5])).length) Slot.unset).toArray = ls at hl ⊢
  have hl : lv_has ls 6 [(0, .ref h0), (1, .int p1), (2, .int p2), (3, .int p3), (4, .int p4), (5, .int p5)] := hl
  refine lv_aload_n hx hb dX9_rushWish_0 rfl (lv_at hl 0 rfl) ?_
  refine ty_iconst hx hb (0) dX9_rushWish_1 (by decide) (fun x1 h2 => ?_)
  refine put_X9_0 hx hb hA hown hE hG hS hU t_h0 wd_4_134 dX9_rushWish_2 (fun H locs hG hS => ?_)
  refine lv_aload_n hx hb dX9_rushWish_5 rfl (lv_at hl 0 rfl) ?_
  refine lv_iload_n hx hb dX9_rushWish_6 rfl (lv_at hl 1 rfl) ?_
  have e3 : (gs g 100 0 x1.toInt) 104 0 = g 104 0 := by simp [gs]
  have e4 : (gs g 100 0 x1.toInt) 104 0 = g 104 0 := by simp [gs]
  refine cI (va_runV (C := RX9) (As := [.int p1]) (rest := []) ⟨hx, hb, hml, hown, hA⟩ (k_X9_isAlive l dC dI dA sz X Γ hU (gs g 100 0 x1.toInt) h0 t_h0 p1   (by omega)) ⟨callB_of 1 hA (al_A wd_5_58) rfl rfl rfl (hA _ wd_1_7) (hA _ wd_5_55) (by decide +kernel) ⟨Nat.le_of_ble_eq_true rfl, Nat.le_of_ble_eq_true rfl⟩, hA _ wd_5_57, hA _ ws_37⟩ ⟨bl, recv_X9 hE hG t_h0, fun U hU9 hW9 => ⟨rfl, by rw [hU9]; exact hG, hE.go hS hU9 hW9⟩⟩ rfl rfl hl.1 rfl (lv_room (Nat.le_of_ble_eq_true rfl)) dX9_rushWish_7 ⟨Nat.zero_le _, Nat.zero_le _⟩) hS (fun x7 u5 H locs w6 hG hS => ?_)
  obtain ⟨eu8, w6⟩ := w6
  rw [eu8] at hG
  refine ty_if_eq (tgt := 35) hx hb dX9_rushWish_10 (by decide) (fun c9 => ?_) (fun c9 => ?_)
  · skip
    refine ty_iconst hx hb (0) dX9_rushWish_35 (by decide) (fun x10 h11 => ?_)
    exact W.zret (v := x10) hx hb hr (ty_nb (by omega)).1 (fun t ht hW => ⟨⟨x10, (gs g 100 0 x1.toInt), rfl, ⟨(fun c j h100 => by rw [gs_c _ _ _ _ h100]), (by omega)⟩, ok1 ht hG⟩, hS.F ht⟩) hS.2.2 dX9_rushWish_36
  · exfalso; omega

set_option maxHeartbeats 4000000 in
set_option maxRecDepth 100000 in
/-- WeekBankModel.bank:  -/
theorem f_X9_bank (l : Launch) (dC : Nat → ClassId) (dI : Nat → Nat → Nat) (dA : Nat → ClassId) (sz : Nat) (X : va_W) (Γ : ty_G) (hU : Un Γ) (g : gh) (h0 : Nat) (t_h0 : ty Γ h0 30) (p1 : Int32) (f6 : g 126 0 = 0) : Met l yX9_bank (.code yX9_bank cX9_bank 2 (Option.some Jvm.ClassFile.FieldType.int) :: AL) ({ frames := 1, cells := 0, slots := 0, locals := 22 }) (PCx dC dI dA sz X Γ g [.ref h0, .int p1]) (va_Qi (fun (r : Int32) (u : gh) => (∀ c j : Nat, c ≠ 100 → u c j = g c j) ∧ ((r.toInt = -1))) (okb dC dI dA sz X Γ) (ty_A sz)) 0 0 (ty_A sz) := by
  refine Met.ofW (cc := cX9_bank) (maxL := 2) (ret := (Option.some Jvm.ClassFile.FieldType.int)) (by decide) rfl ?_
  intro p e s m args below meth c s₁ B hml hv
  obtain ⟨rfl, hG, hE⟩ := hv
  have hx := B.exec
  have hb := B.bytes
  have hr := B.returns
  have hts := atoms_spec B.pre
  have hA : ∀ w ∈ AL, w.before _ s = true := fun w h => hts w (List.mem_cons_of_mem _ h)
  have hown : s.vm.findClass RX9 = some m.cls := findClass_of_methodNamed B.named
  have hlocks := B.notSynchronized
  have hS : va_S (ty_A sz) s.heap s.heap [] := va_S.rf
  have hl := lv_entry ([.ref h0, .int p1]) (n := 2) (Nat.le_of_ble_eq_true rfl)
  rw [lg_entry_eq]
  generalize (lg_sl ([.ref h0, .int p1]) ++ List.replicate (2 - (lg_sl ([.ref h0, .int p1])).length) Slot.unset).toArray = ls at hl ⊢
  have hl : lv_has ls 2 [(0, .ref h0), (1, .int p1)] := hl
  refine lv_aload_n hx hb dX9_bank_0 rfl (lv_at hl 0 rfl) ?_
  refine ty_iconst hx hb (0) dX9_bank_1 (by decide) (fun x1 h2 => ?_)
  refine put_X9_0 hx hb hA hown hE hG hS hU t_h0 wd_4_134 dX9_bank_2 (fun H locs hG hS => ?_)
  refine lv_aload_n hx hb dX9_bank_5 rfl (lv_at hl 0 rfl) ?_
  refine lv_iload_n hx hb dX9_bank_6 rfl (lv_at hl 1 rfl) ?_
  refine ty_iconst hx hb (0) dX9_bank_7 (by decide) (fun x3 h4 => ?_)
  have e5 : (gs g 100 0 x1.toInt) 126 0 = g 126 0 := by simp [gs]
  have e6 : (gs g 100 0 x1.toInt) 126 0 = g 126 0 := by simp [gs]
  refine cI (va_runV (C := RX9) (As := [.int p1, .int x3]) (rest := []) ⟨hx, hb, hml, hown, hA⟩ (k_X9_isGift l dC dI dA sz X Γ hU (gs g 100 0 x1.toInt) h0 t_h0 p1 x3   (by omega)) ⟨callB_of 2 hA (al_A wd_5_140) rfl rfl rfl (hA _ wd_1_7) (hA _ wd_5_137) (by decide +kernel) ⟨Nat.le_of_ble_eq_true rfl, Nat.le_of_ble_eq_true rfl⟩, hA _ wd_5_139, hA _ ws_47⟩ ⟨bl, recv_X9 hE hG t_h0, fun U hU9 hW9 => ⟨rfl, by rw [hU9]; exact hG, hE.go hS hU9 hW9⟩⟩ rfl rfl hl.1 rfl (lv_room (Nat.le_of_ble_eq_true rfl)) dX9_bank_8 ⟨Nat.zero_le _, Nat.zero_le _⟩) hS (fun x9 u7 H locs w8 hG hS => ?_)
  obtain ⟨eu10, w8⟩ := w8
  rw [eu10] at hG
  refine ty_if_ne (tgt := 16) hx hb dX9_bank_11 (by decide) (fun c11 => ?_) (fun c11 => ?_)
  · exfalso; omega
  · skip
    refine ty_iconst hx hb (-1) dX9_bank_14 (by decide) (fun x12 h13 => ?_)
    exact W.iret (v := x12) hx hb hr (fun t ht hW => ⟨⟨x12, (gs g 100 0 x1.toInt), rfl, ⟨(fun c j h100 => by rw [gs_c _ _ _ _ h100]), (by omega)⟩, ok1 ht hG⟩, hS.F ht⟩) hS.2.2 dX9_bank_15

set_option maxHeartbeats 4000000 in
set_option maxRecDepth 100000 in
/-- WeekBankModel.take:  -/
theorem f_X9_take (l : Launch) (dC : Nat → ClassId) (dI : Nat → Nat → Nat) (dA : Nat → ClassId) (sz : Nat) (X : va_W) (Γ : ty_G) (hU : Un Γ) (g : gh) (h0 : Nat) (t_h0 : ty Γ h0 30) (p1 : Int32) (p2 : Int32) (f4 : g 104 0 = 0) : Met l yX9_take (.code yX9_take cX9_take 3 (Option.some Jvm.ClassFile.FieldType.int) :: AL) ({ frames := 1, cells := 0, slots := 0, locals := 21 }) (PCx dC dI dA sz X Γ g [.ref h0, .int p1, .int p2]) (va_Qi (fun (r : Int32) (u : gh) => (∀ c j : Nat, c ≠ 100 → u c j = g c j) ∧ ((r.toInt = -1))) (okb dC dI dA sz X Γ) (ty_A sz)) 0 0 (ty_A sz) := by
  refine Met.ofW (cc := cX9_take) (maxL := 3) (ret := (Option.some Jvm.ClassFile.FieldType.int)) (by decide) rfl ?_
  intro p e s m args below meth c s₁ B hml hv
  obtain ⟨rfl, hG, hE⟩ := hv
  have hx := B.exec
  have hb := B.bytes
  have hr := B.returns
  have hts := atoms_spec B.pre
  have hA : ∀ w ∈ AL, w.before _ s = true := fun w h => hts w (List.mem_cons_of_mem _ h)
  have hown : s.vm.findClass RX9 = some m.cls := findClass_of_methodNamed B.named
  have hlocks := B.notSynchronized
  have hS : va_S (ty_A sz) s.heap s.heap [] := va_S.rf
  have hl := lv_entry ([.ref h0, .int p1, .int p2]) (n := 3) (Nat.le_of_ble_eq_true rfl)
  rw [lg_entry_eq]
  generalize (lg_sl ([.ref h0, .int p1, .int p2]) ++ List.replicate (3 - (lg_sl ([.ref h0, .int p1, .int p2])).length) Slot.unset).toArray = ls at hl ⊢
  have hl : lv_has ls 3 [(0, .ref h0), (1, .int p1), (2, .int p2)] := hl
  refine lv_aload_n hx hb dX9_take_0 rfl (lv_at hl 0 rfl) ?_
  refine ty_iconst hx hb (0) dX9_take_1 (by decide) (fun x1 h2 => ?_)
  refine put_X9_0 hx hb hA hown hE hG hS hU t_h0 wd_4_134 dX9_take_2 (fun H locs hG hS => ?_)
  refine lv_aload_n hx hb dX9_take_5 rfl (lv_at hl 0 rfl) ?_
  refine lv_iload_n hx hb dX9_take_6 rfl (lv_at hl 1 rfl) ?_
  have e3 : (gs g 100 0 x1.toInt) 104 0 = g 104 0 := by simp [gs]
  have e4 : (gs g 100 0 x1.toInt) 104 0 = g 104 0 := by simp [gs]
  refine cI (va_runV (C := RX9) (As := [.int p1]) (rest := []) ⟨hx, hb, hml, hown, hA⟩ (k_X9_isAlive l dC dI dA sz X Γ hU (gs g 100 0 x1.toInt) h0 t_h0 p1   (by omega)) ⟨callB_of 1 hA (al_A wd_5_58) rfl rfl rfl (hA _ wd_1_7) (hA _ wd_5_55) (by decide +kernel) ⟨Nat.le_of_ble_eq_true rfl, Nat.le_of_ble_eq_true rfl⟩, hA _ wd_5_57, hA _ ws_37⟩ ⟨bl, recv_X9 hE hG t_h0, fun U hU9 hW9 => ⟨rfl, by rw [hU9]; exact hG, hE.go hS hU9 hW9⟩⟩ rfl rfl hl.1 rfl (lv_room (Nat.le_of_ble_eq_true rfl)) dX9_take_7 ⟨Nat.zero_le _, Nat.zero_le _⟩) hS (fun x7 u5 H locs w6 hG hS => ?_)
  obtain ⟨eu8, w6⟩ := w6
  rw [eu8] at hG
  refine ty_if_eq (tgt := 22) hx hb dX9_take_10 (by decide) (fun c9 => ?_) (fun c9 => ?_)
  · skip
    refine ty_iconst hx hb (-1) dX9_take_22 (by decide) (fun x10 h11 => ?_)
    exact W.iret (v := x10) hx hb hr (fun t ht hW => ⟨⟨x10, (gs g 100 0 x1.toInt), rfl, ⟨(fun c j h100 => by rw [gs_c _ _ _ _ h100]), (by omega)⟩, ok1 ht hG⟩, hS.F ht⟩) hS.2.2 dX9_take_23
  · exfalso; omega

set_option maxHeartbeats 4000000 in
set_option maxRecDepth 100000 in
/-- WeekBankModel.shut:  -/
theorem f_X9_shut (l : Launch) (dC : Nat → ClassId) (dI : Nat → Nat → Nat) (dA : Nat → ClassId) (sz : Nat) (X : va_W) (Γ : ty_G) (hU : Un Γ) (g : gh) (h0 : Nat) (t_h0 : ty Γ h0 30) (p1 : Int32) (p2 : Int32) (p3 : Int32) (f1 : g 101 0 = 0) : Met l yX9_shut (.code yX9_shut cX9_shut 6 (Option.some Jvm.ClassFile.FieldType.int) :: AL) ({ frames := 2, cells := 0, slots := 0, locals := 44 }) (PCx dC dI dA sz X Γ g [.ref h0, .int p1, .int p2, .int p3]) (va_Qi (fun (r : Int32) (u : gh) => (∀ c j : Nat, c ≠ 100 → u c j = g c j) ∧ ((r.toInt = -1))) (okb dC dI dA sz X Γ) (ty_A sz)) 0 0 (ty_A sz) := by
  refine Met.ofW (cc := cX9_shut) (maxL := 6) (ret := (Option.some Jvm.ClassFile.FieldType.int)) (by decide) rfl ?_
  intro p e s m args below meth c s₁ B hml hv
  obtain ⟨rfl, hG, hE⟩ := hv
  have hx := B.exec
  have hb := B.bytes
  have hr := B.returns
  have hts := atoms_spec B.pre
  have hA : ∀ w ∈ AL, w.before _ s = true := fun w h => hts w (List.mem_cons_of_mem _ h)
  have hown : s.vm.findClass RX9 = some m.cls := findClass_of_methodNamed B.named
  have hlocks := B.notSynchronized
  have hS : va_S (ty_A sz) s.heap s.heap [] := va_S.rf
  have hl := lv_entry ([.ref h0, .int p1, .int p2, .int p3]) (n := 6) (Nat.le_of_ble_eq_true rfl)
  rw [lg_entry_eq]
  generalize (lg_sl ([.ref h0, .int p1, .int p2, .int p3]) ++ List.replicate (6 - (lg_sl ([.ref h0, .int p1, .int p2, .int p3])).length) Slot.unset).toArray = ls at hl ⊢
  have hl : lv_has ls 6 [(0, .ref h0), (1, .int p1), (2, .int p2), (3, .int p3)] := hl
  refine lv_aload_n hx hb dX9_shut_0 rfl (lv_at hl 0 rfl) ?_
  refine ty_iconst hx hb (0) dX9_shut_1 (by decide) (fun x1 h2 => ?_)
  refine put_X9_0 hx hb hA hown hE hG hS hU t_h0 wd_4_134 dX9_shut_2 (fun H locs hG hS => ?_)
  refine lv_aload_n hx hb dX9_shut_5 rfl (lv_at hl 0 rfl) ?_
  refine lv_iload_n hx hb dX9_shut_6 rfl (lv_at hl 1 rfl) ?_
  refine lv_iload_n hx hb dX9_shut_7 rfl (lv_at hl 2 rfl) ?_
  have e3 : (gs g 100 0 x1.toInt) 101 0 = g 101 0 := by simp [gs]
  refine cI (va_runV (C := RX9) (As := [.int p1, .int p2]) (rest := []) ⟨hx, hb, hml, hown, hA⟩ (k_X9_isPlace l dC dI dA sz X Γ hU (gs g 100 0 x1.toInt) h0 t_h0 p1 p2   ) ⟨callB_of 2 hA (al_A wd_5_54) rfl rfl rfl (hA _ wd_1_7) (hA _ wd_5_51) (by decide +kernel) ⟨Nat.le_of_ble_eq_true rfl, Nat.le_of_ble_eq_true rfl⟩, hA _ wd_5_53, hA _ ws_36⟩ ⟨bl, recv_X9 hE hG t_h0, fun U hU9 hW9 => ⟨rfl, by rw [hU9]; exact hG, hE.go hS hU9 hW9⟩⟩ rfl rfl hl.1 rfl (lv_room (Nat.le_of_ble_eq_true rfl)) dX9_shut_8 ⟨Nat.zero_le _, Nat.zero_le _⟩) hS (fun x6 u4 H locs w5 hG hS => ?_)
  obtain ⟨eu7, w5⟩ := w5
  rw [eu7] at hG
  refine ty_if_eq (tgt := 36) hx hb dX9_shut_11 (by decide) (fun c8 => ?_) (fun c8 => ?_)
  · skip
    refine ty_iconst hx hb (-1) dX9_shut_36 (by decide) (fun x9 h10 => ?_)
    exact W.iret (v := x9) hx hb hr (fun t ht hW => ⟨⟨x9, (gs g 100 0 x1.toInt), rfl, ⟨(fun c j h100 => by rw [gs_c _ _ _ _ h100]), (by omega)⟩, ok1 ht hG⟩, hS.F ht⟩) hS.2.2 dX9_shut_37
  · exfalso; omega

set_option maxHeartbeats 4000000 in
set_option maxRecDepth 100000 in
/-- WeekBankModel.dies:  -/
theorem f_X9_dies (l : Launch) (dC : Nat → ClassId) (dI : Nat → Nat → Nat) (dA : Nat → ClassId) (sz : Nat) (X : va_W) (Γ : ty_G) (hU : Un Γ) (g : gh) (h0 : Nat) (t_h0 : ty Γ h0 30) (p1 : Int32) (p2 : Int32) (p3 : Int32) (f4 : g 104 0 = 0) : Met l yX9_dies (.code yX9_dies cX9_dies 7 (Option.some Jvm.ClassFile.FieldType.int) :: AL) ({ frames := 1, cells := 0, slots := 0, locals := 21 }) (PCx dC dI dA sz X Γ g [.ref h0, .int p1, .int p2, .int p3]) (va_Qi (fun (r : Int32) (u : gh) => (∀ c j : Nat, c ≠ 100 → u c j = g c j) ∧ ((r.toInt = -1))) (okb dC dI dA sz X Γ) (ty_A sz)) 0 0 (ty_A sz) := by
  refine Met.ofW (cc := cX9_dies) (maxL := 7) (ret := (Option.some Jvm.ClassFile.FieldType.int)) (by decide) rfl ?_
  intro p e s m args below meth c s₁ B hml hv
  obtain ⟨rfl, hG, hE⟩ := hv
  have hx := B.exec
  have hb := B.bytes
  have hr := B.returns
  have hts := atoms_spec B.pre
  have hA : ∀ w ∈ AL, w.before _ s = true := fun w h => hts w (List.mem_cons_of_mem _ h)
  have hown : s.vm.findClass RX9 = some m.cls := findClass_of_methodNamed B.named
  have hlocks := B.notSynchronized
  have hS : va_S (ty_A sz) s.heap s.heap [] := va_S.rf
  have hl := lv_entry ([.ref h0, .int p1, .int p2, .int p3]) (n := 7) (Nat.le_of_ble_eq_true rfl)
  rw [lg_entry_eq]
  generalize (lg_sl ([.ref h0, .int p1, .int p2, .int p3]) ++ List.replicate (7 - (lg_sl ([.ref h0, .int p1, .int p2, .int p3])).length) Slot.unset).toArray = ls at hl ⊢
  have hl : lv_has ls 7 [(0, .ref h0), (1, .int p1), (2, .int p2), (3, .int p3)] := hl
  refine lv_aload_n hx hb dX9_dies_0 rfl (lv_at hl 0 rfl) ?_
  refine ty_iconst hx hb (0) dX9_dies_1 (by decide) (fun x1 h2 => ?_)
  refine put_X9_0 hx hb hA hown hE hG hS hU t_h0 wd_4_134 dX9_dies_2 (fun H locs hG hS => ?_)
  refine lv_aload_n hx hb dX9_dies_5 rfl (lv_at hl 0 rfl) ?_
  refine lv_iload_n hx hb dX9_dies_6 rfl (lv_at hl 1 rfl) ?_
  have e3 : (gs g 100 0 x1.toInt) 104 0 = g 104 0 := by simp [gs]
  have e4 : (gs g 100 0 x1.toInt) 104 0 = g 104 0 := by simp [gs]
  refine cI (va_runV (C := RX9) (As := [.int p1]) (rest := []) ⟨hx, hb, hml, hown, hA⟩ (k_X9_isAlive l dC dI dA sz X Γ hU (gs g 100 0 x1.toInt) h0 t_h0 p1   (by omega)) ⟨callB_of 1 hA (al_A wd_5_58) rfl rfl rfl (hA _ wd_1_7) (hA _ wd_5_55) (by decide +kernel) ⟨Nat.le_of_ble_eq_true rfl, Nat.le_of_ble_eq_true rfl⟩, hA _ wd_5_57, hA _ ws_37⟩ ⟨bl, recv_X9 hE hG t_h0, fun U hU9 hW9 => ⟨rfl, by rw [hU9]; exact hG, hE.go hS hU9 hW9⟩⟩ rfl rfl hl.1 rfl (lv_room (Nat.le_of_ble_eq_true rfl)) dX9_dies_7 ⟨Nat.zero_le _, Nat.zero_le _⟩) hS (fun x7 u5 H locs w6 hG hS => ?_)
  obtain ⟨eu8, w6⟩ := w6
  rw [eu8] at hG
  refine ty_if_eq (tgt := 26) hx hb dX9_dies_10 (by decide) (fun c9 => ?_) (fun c9 => ?_)
  · skip
    refine ty_iconst hx hb (-1) dX9_dies_26 (by decide) (fun x10 h11 => ?_)
    exact W.iret (v := x10) hx hb hr (fun t ht hW => ⟨⟨x10, (gs g 100 0 x1.toInt), rfl, ⟨(fun c j h100 => by rw [gs_c _ _ _ _ h100]), (by omega)⟩, ok1 ht hG⟩, hS.F ht⟩) hS.2.2 dX9_dies_27
  · exfalso; omega

set_option maxHeartbeats 4000000 in
set_option maxRecDepth 100000 in
/-- WeekBankModel.party:  -/
theorem f_X9_party (l : Launch) (dC : Nat → ClassId) (dI : Nat → Nat → Nat) (dA : Nat → ClassId) (sz : Nat) (X : va_W) (Γ : ty_G) (hU : Un Γ) (g : gh) (h0 : Nat) (t_h0 : ty Γ h0 30) (p1 : Int32) (p2 : Int32) (f1 : g 101 0 = 0) : Met l yX9_party (.code yX9_party cX9_party 4 (Option.some Jvm.ClassFile.FieldType.int) :: AL) ({ frames := 2, cells := 0, slots := 0, locals := 44 }) (PCx dC dI dA sz X Γ g [.ref h0, .int p1, .int p2]) (va_Qi (fun (r : Int32) (u : gh) => (∀ c j : Nat, c ≠ 100 → u c j = g c j) ∧ ((r.toInt = -1))) (okb dC dI dA sz X Γ) (ty_A sz)) 0 0 (ty_A sz) := by
  refine Met.ofW (cc := cX9_party) (maxL := 4) (ret := (Option.some Jvm.ClassFile.FieldType.int)) (by decide) rfl ?_
  intro p e s m args below meth c s₁ B hml hv
  obtain ⟨rfl, hG, hE⟩ := hv
  have hx := B.exec
  have hb := B.bytes
  have hr := B.returns
  have hts := atoms_spec B.pre
  have hA : ∀ w ∈ AL, w.before _ s = true := fun w h => hts w (List.mem_cons_of_mem _ h)
  have hown : s.vm.findClass RX9 = some m.cls := findClass_of_methodNamed B.named
  have hlocks := B.notSynchronized
  have hS : va_S (ty_A sz) s.heap s.heap [] := va_S.rf
  have hl := lv_entry ([.ref h0, .int p1, .int p2]) (n := 4) (Nat.le_of_ble_eq_true rfl)
  rw [lg_entry_eq]
  generalize (lg_sl ([.ref h0, .int p1, .int p2]) ++ List.replicate (4 - (lg_sl ([.ref h0, .int p1, .int p2])).length) Slot.unset).toArray = ls at hl ⊢
  have hl : lv_has ls 4 [(0, .ref h0), (1, .int p1), (2, .int p2)] := hl
  refine lv_aload_n hx hb dX9_party_0 rfl (lv_at hl 0 rfl) ?_
  refine ty_iconst hx hb (0) dX9_party_1 (by decide) (fun x1 h2 => ?_)
  refine put_X9_0 hx hb hA hown hE hG hS hU t_h0 wd_4_134 dX9_party_2 (fun H locs hG hS => ?_)
  refine lv_aload_n hx hb dX9_party_5 rfl (lv_at hl 0 rfl) ?_
  refine lv_iload_n hx hb dX9_party_6 rfl (lv_at hl 1 rfl) ?_
  refine lv_iload_n hx hb dX9_party_7 rfl (lv_at hl 2 rfl) ?_
  have e3 : (gs g 100 0 x1.toInt) 101 0 = g 101 0 := by simp [gs]
  refine cI (va_runV (C := RX9) (As := [.int p1, .int p2]) (rest := []) ⟨hx, hb, hml, hown, hA⟩ (k_X9_isPlace l dC dI dA sz X Γ hU (gs g 100 0 x1.toInt) h0 t_h0 p1 p2   ) ⟨callB_of 2 hA (al_A wd_5_54) rfl rfl rfl (hA _ wd_1_7) (hA _ wd_5_51) (by decide +kernel) ⟨Nat.le_of_ble_eq_true rfl, Nat.le_of_ble_eq_true rfl⟩, hA _ wd_5_53, hA _ ws_36⟩ ⟨bl, recv_X9 hE hG t_h0, fun U hU9 hW9 => ⟨rfl, by rw [hU9]; exact hG, hE.go hS hU9 hW9⟩⟩ rfl rfl hl.1 rfl (lv_room (Nat.le_of_ble_eq_true rfl)) dX9_party_8 ⟨Nat.zero_le _, Nat.zero_le _⟩) hS (fun x6 u4 H locs w5 hG hS => ?_)
  obtain ⟨eu7, w5⟩ := w5
  rw [eu7] at hG
  refine ty_if_ne (tgt := 16) hx hb dX9_party_11 (by decide) (fun c8 => ?_) (fun c8 => ?_)
  · exfalso; omega
  · skip
    refine ty_iconst hx hb (-1) dX9_party_14 (by decide) (fun x9 h10 => ?_)
    exact W.iret (v := x9) hx hb hr (fun t ht hW => ⟨⟨x9, (gs g 100 0 x1.toInt), rfl, ⟨(fun c j h100 => by rw [gs_c _ _ _ _ h100]), (by omega)⟩, ok1 ht hG⟩, hS.F ht⟩) hS.2.2 dX9_party_15

set_option maxHeartbeats 4000000 in
set_option maxRecDepth 100000 in
/-- WeekBankModel.of:  -/
theorem f_X9_of (l : Launch) (dC : Nat → ClassId) (dI : Nat → Nat → Nat) (dA : Nat → ClassId) (sz : Nat) (X : va_W) (Γ : ty_G) (hU : Un Γ) (g : gh) (h0 : Nat) (t_h0 : ty Γ h0 30) (p1 : Int32) (p2 : Int32) (f6 : g 126 0 = 0) : Met l yX9_of (.code yX9_of cX9_of 3 (Option.some Jvm.ClassFile.FieldType.int) :: AL) ({ frames := 0, cells := 0, slots := 0, locals := 0 }) (PCx dC dI dA sz X Γ g [.ref h0, .int p1, .int p2]) (va_Qi (fun (r : Int32) (u : gh) => (∀ c j : Nat, c ≠ 100 → u c j = g c j) ∧ ((r.toInt = 0) ∧ (u 100 0 = 1))) (okb dC dI dA sz X Γ) (ty_A sz)) 0 0 (ty_A sz) := by
  refine Met.ofW (cc := cX9_of) (maxL := 3) (ret := (Option.some Jvm.ClassFile.FieldType.int)) (by decide) rfl ?_
  intro p e s m args below meth c s₁ B hml hv
  obtain ⟨rfl, hG, hE⟩ := hv
  have hx := B.exec
  have hb := B.bytes
  have hr := B.returns
  have hts := atoms_spec B.pre
  have hA : ∀ w ∈ AL, w.before _ s = true := fun w h => hts w (List.mem_cons_of_mem _ h)
  have hown : s.vm.findClass RX9 = some m.cls := findClass_of_methodNamed B.named
  have hlocks := B.notSynchronized
  have hS : va_S (ty_A sz) s.heap s.heap [] := va_S.rf
  have hl := lv_entry ([.ref h0, .int p1, .int p2]) (n := 3) (Nat.le_of_ble_eq_true rfl)
  rw [lg_entry_eq]
  generalize (lg_sl ([.ref h0, .int p1, .int p2]) ++ List.replicate (3 - (lg_sl ([.ref h0, .int p1, .int p2])).length) Slot.unset).toArray = ls at hl ⊢
  have hl : lv_has ls 3 [(0, .ref h0), (1, .int p1), (2, .int p2)] := hl
  refine lv_aload_n hx hb dX9_of_0 rfl (lv_at hl 0 rfl) ?_
  refine ty_iconst hx hb (0) dX9_of_1 (by decide) (fun x1 h2 => ?_)
  refine put_X9_0 hx hb hA hown hE hG hS hU t_h0 wd_4_134 dX9_of_2 (fun H locs hG hS => ?_)
  refine lv_iload_n hx hb dX9_of_5 rfl (lv_at hl 1 rfl) ?_
  refine ty_if_lt (tgt := 27) hx hb dX9_of_6 (by decide) (fun c3 => ?_) (fun c3 => ?_)
  · skip
    refine lv_aload_n hx hb dX9_of_27 rfl (lv_at hl 0 rfl) ?_
    refine ty_iconst hx hb (1) dX9_of_28 (by decide) (fun x4 h5 => ?_)
    refine put_X9_0 hx hb hA hown hE hG hS hU t_h0 wd_4_134 dX9_of_29 (fun H locs hG hS => ?_)
    refine ty_iconst hx hb (0) dX9_of_32 (by decide) (fun x6 h7 => ?_)
    have e8 : (gs (gs g 100 0 x1.toInt) 100 0 x4.toInt) 100 0 = x4.toInt := by simp [gs]
    exact W.iret (v := x6) hx hb hr (fun t ht hW => ⟨⟨x6, (gs (gs g 100 0 x1.toInt) 100 0 x4.toInt), rfl, ⟨(fun c j h100 => by rw [gs_c _ _ _ _ h100, gs_c _ _ _ _ h100]), (by omega)⟩, ok1 ht hG⟩, hS.F ht⟩) hS.2.2 dX9_of_33
  · skip
    refine lv_iload_n hx hb dX9_of_9 rfl (lv_at hl 1 rfl) ?_
    refine lv_aload_n hx hb dX9_of_10 rfl (lv_at hl 0 rfl) ?_
    refine get_X9_26 hx hb hA hown hE hG t_h0 wd_4_160 dX9_of_11 (fun x9 h10 => ?_)
    have h10 : x9.toInt = g 126 0 := by rw [h10]; simp [gs]
    refine ty_icmp_ge (tgt := 27) hx hb dX9_of_14 (by decide) (fun c12 => ?_) (fun c12 => ?_)
    · skip
      refine lv_aload_n hx hb dX9_of_27 rfl (lv_at hl 0 rfl) ?_
      refine ty_iconst hx hb (1) dX9_of_28 (by decide) (fun x13 h14 => ?_)
      refine put_X9_0 hx hb hA hown hE hG hS hU t_h0 wd_4_134 dX9_of_29 (fun H locs hG hS => ?_)
      refine ty_iconst hx hb (0) dX9_of_32 (by decide) (fun x15 h16 => ?_)
      have e17 : (gs (gs g 100 0 x1.toInt) 100 0 x13.toInt) 100 0 = x13.toInt := by simp [gs]
      exact W.iret (v := x15) hx hb hr (fun t ht hW => ⟨⟨x15, (gs (gs g 100 0 x1.toInt) 100 0 x13.toInt), rfl, ⟨(fun c j h100 => by rw [gs_c _ _ _ _ h100, gs_c _ _ _ _ h100]), (by omega)⟩, ok1 ht hG⟩, hS.F ht⟩) hS.2.2 dX9_of_33
    · exfalso; omega

set_option maxHeartbeats 4000000 in
set_option maxRecDepth 100000 in
/-- WeekBankModel.ownerOf:  -/
theorem f_X9_ownerOf (l : Launch) (dC : Nat → ClassId) (dI : Nat → Nat → Nat) (dA : Nat → ClassId) (sz : Nat) (X : va_W) (Γ : ty_G) (hU : Un Γ) (g : gh) (h0 : Nat) (t_h0 : ty Γ h0 30) (p1 : Int32) (p2 : Int32) (f4 : g 104 0 = 0) : Met l yX9_ownerOf (.code yX9_ownerOf cX9_ownerOf 3 (Option.some Jvm.ClassFile.FieldType.int) :: AL) ({ frames := 0, cells := 0, slots := 0, locals := 0 }) (PCx dC dI dA sz X Γ g [.ref h0, .int p1, .int p2]) (va_Qi (fun (r : Int32) (u : gh) => (∀ c j : Nat, c ≠ 100 → u c j = g c j) ∧ ((r.toInt = -1))) (okb dC dI dA sz X Γ) (ty_A sz)) 0 0 (ty_A sz) := by
  refine Met.ofW (cc := cX9_ownerOf) (maxL := 3) (ret := (Option.some Jvm.ClassFile.FieldType.int)) (by decide) rfl ?_
  intro p e s m args below meth c s₁ B hml hv
  obtain ⟨rfl, hG, hE⟩ := hv
  have hx := B.exec
  have hb := B.bytes
  have hr := B.returns
  have hts := atoms_spec B.pre
  have hA : ∀ w ∈ AL, w.before _ s = true := fun w h => hts w (List.mem_cons_of_mem _ h)
  have hown : s.vm.findClass RX9 = some m.cls := findClass_of_methodNamed B.named
  have hlocks := B.notSynchronized
  have hS : va_S (ty_A sz) s.heap s.heap [] := va_S.rf
  have hl := lv_entry ([.ref h0, .int p1, .int p2]) (n := 3) (Nat.le_of_ble_eq_true rfl)
  rw [lg_entry_eq]
  generalize (lg_sl ([.ref h0, .int p1, .int p2]) ++ List.replicate (3 - (lg_sl ([.ref h0, .int p1, .int p2])).length) Slot.unset).toArray = ls at hl ⊢
  have hl : lv_has ls 3 [(0, .ref h0), (1, .int p1), (2, .int p2)] := hl
  refine lv_aload_n hx hb dX9_ownerOf_0 rfl (lv_at hl 0 rfl) ?_
  refine ty_iconst hx hb (0) dX9_ownerOf_1 (by decide) (fun x1 h2 => ?_)
  refine put_X9_0 hx hb hA hown hE hG hS hU t_h0 wd_4_134 dX9_ownerOf_2 (fun H locs hG hS => ?_)
  refine lv_iload_n hx hb dX9_ownerOf_5 rfl (lv_at hl 1 rfl) ?_
  refine ty_if_lt (tgt := 17) hx hb dX9_ownerOf_6 (by decide) (fun c3 => ?_) (fun c3 => ?_)
  · skip
    refine ty_iconst hx hb (-1) dX9_ownerOf_17 (by decide) (fun x4 h5 => ?_)
    exact W.iret (v := x4) hx hb hr (fun t ht hW => ⟨⟨x4, (gs g 100 0 x1.toInt), rfl, ⟨(fun c j h100 => by rw [gs_c _ _ _ _ h100]), (by omega)⟩, ok1 ht hG⟩, hS.F ht⟩) hS.2.2 dX9_ownerOf_18
  · skip
    refine lv_iload_n hx hb dX9_ownerOf_9 rfl (lv_at hl 1 rfl) ?_
    refine lv_aload_n hx hb dX9_ownerOf_10 rfl (lv_at hl 0 rfl) ?_
    refine get_X9_4 hx hb hA hown hE hG t_h0 wd_4_138 dX9_ownerOf_11 (fun x6 h7 => ?_)
    have h7 : x6.toInt = g 104 0 := by rw [h7]; simp [gs]
    refine ty_icmp_lt (tgt := 19) hx hb dX9_ownerOf_14 (by decide) (fun c9 => ?_) (fun c9 => ?_)
    · exfalso; omega
    · skip
      refine ty_iconst hx hb (-1) dX9_ownerOf_17 (by decide) (fun x10 h11 => ?_)
      exact W.iret (v := x10) hx hb hr (fun t ht hW => ⟨⟨x10, (gs g 100 0 x1.toInt), rfl, ⟨(fun c j h100 => by rw [gs_c _ _ _ _ h100]), (by omega)⟩, ok1 ht hG⟩, hS.F ht⟩) hS.2.2 dX9_ownerOf_18

set_option maxHeartbeats 4000000 in
set_option maxRecDepth 100000 in
/-- WeekBankModel.many:  -/
theorem f_X9_many (l : Launch) (dC : Nat → ClassId) (dI : Nat → Nat → Nat) (dA : Nat → ClassId) (sz : Nat) (X : va_W) (Γ : ty_G) (hU : Un Γ) (g : gh) (h0 : Nat) (t_h0 : ty Γ h0 30) (p1 : Int32) (f6 : g 126 0 = 0) : Met l yX9_many (.code yX9_many cX9_many 4 (Option.some Jvm.ClassFile.FieldType.int) :: AL) ({ frames := 0, cells := 0, slots := 0, locals := 0 }) (PCx dC dI dA sz X Γ g [.ref h0, .int p1]) (va_Qi (fun (r : Int32) (u : gh) => u = g ∧ ((r.toInt = 0))) (okb dC dI dA sz X Γ) (ty_A sz)) 0 0 (ty_A sz) := by
  refine Met.ofW (cc := cX9_many) (maxL := 4) (ret := (Option.some Jvm.ClassFile.FieldType.int)) (by decide) rfl ?_
  intro p e s m args below meth c s₁ B hml hv
  obtain ⟨rfl, hG, hE⟩ := hv
  have hx := B.exec
  have hb := B.bytes
  have hr := B.returns
  have hts := atoms_spec B.pre
  have hA : ∀ w ∈ AL, w.before _ s = true := fun w h => hts w (List.mem_cons_of_mem _ h)
  have hown : s.vm.findClass RX9 = some m.cls := findClass_of_methodNamed B.named
  have hlocks := B.notSynchronized
  have hS : va_S (ty_A sz) s.heap s.heap [] := va_S.rf
  have hl := lv_entry ([.ref h0, .int p1]) (n := 4) (Nat.le_of_ble_eq_true rfl)
  rw [lg_entry_eq]
  generalize (lg_sl ([.ref h0, .int p1]) ++ List.replicate (4 - (lg_sl ([.ref h0, .int p1])).length) Slot.unset).toArray = ls at hl ⊢
  have hl : lv_has ls 4 [(0, .ref h0), (1, .int p1)] := hl
  refine ty_iconst hx hb (0) dX9_many_0 (by decide) (fun x1 h2 => ?_)
  refine lv_istore_n (lv' := [(2, .int x1), (0, .ref h0), (1, .int p1)]) hx hb dX9_many_1 rfl hl (by decide) rfl (fun ls hl => ?_)
  refine ty_iconst hx hb (0) dX9_many_2 (by decide) (fun x3 h4 => ?_)
  refine lv_istore_n (lv' := [(3, .int x3), (2, .int x1), (0, .ref h0), (1, .int p1)]) hx hb dX9_many_3 rfl hl (by decide) rfl (fun ls hl => ?_)
  refine lv_iload_n hx hb dX9_many_4 rfl (lv_at hl 0 rfl) ?_
  refine lv_aload_n hx hb dX9_many_5 rfl (lv_at hl 2 rfl) ?_
  refine get_X9_26 hx hb hA hown hE hG t_h0 wd_4_160 dX9_many_6 (fun x5 h6 => ?_)
  refine ty_icmp_ge (tgt := 31) hx hb dX9_many_9 (by decide) (fun c8 => ?_) (fun c8 => ?_)
  · skip
    refine lv_iload_n hx hb dX9_many_31 rfl (lv_at hl 1 rfl) ?_
    exact W.iret (v := x1) hx hb hr (fun t ht hW => ⟨⟨x1, g, rfl, ⟨rfl, (by omega)⟩, ok1 ht hG⟩, hS.F ht⟩) hS.2.2 dX9_many_32
  · exfalso; omega

set_option maxHeartbeats 4000000 in
set_option maxRecDepth 100000 in
/-- WeekBankModel.isBound:  -/
theorem f_X9_isBound (l : Launch) (dC : Nat → ClassId) (dI : Nat → Nat → Nat) (dA : Nat → ClassId) (sz : Nat) (X : va_W) (Γ : ty_G) (hU : Un Γ) (g : gh) (h0 : Nat) (t_h0 : ty Γ h0 30) (f2 : g 122 0 = 0) : Met l yX9_isBound (.code yX9_isBound cX9_isBound 3 (Option.some Jvm.ClassFile.FieldType.boolean) :: AL) ({ frames := 0, cells := 0, slots := 0, locals := 0 }) (PCx dC dI dA sz X Γ g [.ref h0]) (va_Qi (fun (r : Int32) (u : gh) => u = g ∧ ((r.toInt = 0))) (okb dC dI dA sz X Γ) (ty_A sz)) 0 0 (ty_A sz) := by
  refine Met.ofW (cc := cX9_isBound) (maxL := 3) (ret := (Option.some Jvm.ClassFile.FieldType.boolean)) (by decide) rfl ?_
  intro p e s m args below meth c s₁ B hml hv
  obtain ⟨rfl, hG, hE⟩ := hv
  have hx := B.exec
  have hb := B.bytes
  have hr := B.returns
  have hts := atoms_spec B.pre
  have hA : ∀ w ∈ AL, w.before _ s = true := fun w h => hts w (List.mem_cons_of_mem _ h)
  have hown : s.vm.findClass RX9 = some m.cls := findClass_of_methodNamed B.named
  have hlocks := B.notSynchronized
  have hS : va_S (ty_A sz) s.heap s.heap [] := va_S.rf
  have hl := lv_entry ([.ref h0]) (n := 3) (Nat.le_of_ble_eq_true rfl)
  rw [lg_entry_eq]
  generalize (lg_sl ([.ref h0]) ++ List.replicate (3 - (lg_sl ([.ref h0])).length) Slot.unset).toArray = ls at hl ⊢
  have hl : lv_has ls 3 [(0, .ref h0)] := hl
  refine ty_iconst hx hb (0) dX9_isBound_0 (by decide) (fun x1 h2 => ?_)
  refine lv_istore_n (lv' := [(1, .int x1), (0, .ref h0)]) hx hb dX9_isBound_1 rfl hl (by decide) rfl (fun ls hl => ?_)
  refine ty_iconst hx hb (0) dX9_isBound_2 (by decide) (fun x3 h4 => ?_)
  refine lv_istore_n (lv' := [(2, .int x3), (1, .int x1), (0, .ref h0)]) hx hb dX9_isBound_3 rfl hl (by decide) rfl (fun ls hl => ?_)
  refine lv_iload_n hx hb dX9_isBound_4 rfl (lv_at hl 0 rfl) ?_
  refine lv_aload_n hx hb dX9_isBound_5 rfl (lv_at hl 2 rfl) ?_
  refine get_X9_22 hx hb hA hown hE hG t_h0 wd_4_156 dX9_isBound_6 (fun x5 h6 => ?_)
  refine ty_icmp_ge (tgt := 50) hx hb dX9_isBound_9 (by decide) (fun c8 => ?_) (fun c8 => ?_)
  · skip
    refine lv_iload_n hx hb dX9_isBound_50 rfl (lv_at hl 1 rfl) ?_
    exact W.zret (v := x1) hx hb hr (ty_nb (by omega)).1 (fun t ht hW => ⟨⟨x1, g, rfl, ⟨rfl, (by omega)⟩, ok1 ht hG⟩, hS.F ht⟩) hS.2.2 dX9_isBound_51
  · exfalso; omega

set_option maxHeartbeats 4000000 in
set_option maxRecDepth 100000 in
/-- WeekBankModel.passes:  -/
theorem f_X9_passes (l : Launch) (dC : Nat → ClassId) (dI : Nat → Nat → Nat) (dA : Nat → ClassId) (sz : Nat) (X : va_W) (Γ : ty_G) (hU : Un Γ) (g : gh) (h0 : Nat) (t_h0 : ty Γ h0 30) (p1 : Int32) (f6 : g 126 0 = 0) : Met l yX9_passes (.code yX9_passes cX9_passes 3 (Option.none : Option Jvm.ClassFile.FieldType) :: AL) ({ frames := 0, cells := 0, slots := 0, locals := 0 }) (PCx dC dI dA sz X Γ g [.ref h0, .int p1]) (va_Qv (fun (u : gh) => u = g) (okb dC dI dA sz X Γ) (ty_A sz)) 0 0 (ty_A sz) := by
  refine Met.ofW (cc := cX9_passes) (maxL := 3) (ret := (Option.none : Option Jvm.ClassFile.FieldType)) (by decide) rfl ?_
  intro p e s m args below meth c s₁ B hml hv
  obtain ⟨rfl, hG, hE⟩ := hv
  have hx := B.exec
  have hb := B.bytes
  have hr := B.returns
  have hts := atoms_spec B.pre
  have hA : ∀ w ∈ AL, w.before _ s = true := fun w h => hts w (List.mem_cons_of_mem _ h)
  have hown : s.vm.findClass RX9 = some m.cls := findClass_of_methodNamed B.named
  have hlocks := B.notSynchronized
  have hS : va_S (ty_A sz) s.heap s.heap [] := va_S.rf
  have hl := lv_entry ([.ref h0, .int p1]) (n := 3) (Nat.le_of_ble_eq_true rfl)
  rw [lg_entry_eq]
  generalize (lg_sl ([.ref h0, .int p1]) ++ List.replicate (3 - (lg_sl ([.ref h0, .int p1])).length) Slot.unset).toArray = ls at hl ⊢
  have hl : lv_has ls 3 [(0, .ref h0), (1, .int p1)] := hl
  refine ty_iconst hx hb (0) dX9_passes_0 (by decide) (fun x1 h2 => ?_)
  refine lv_istore_n (lv' := [(2, .int x1), (0, .ref h0), (1, .int p1)]) hx hb dX9_passes_1 rfl hl (by decide) rfl (fun ls hl => ?_)
  refine lv_iload_n hx hb dX9_passes_2 rfl (lv_at hl 0 rfl) ?_
  refine lv_aload_n hx hb dX9_passes_3 rfl (lv_at hl 1 rfl) ?_
  refine get_X9_26 hx hb hA hown hE hG t_h0 wd_4_160 dX9_passes_4 (fun x3 h4 => ?_)
  refine ty_icmp_ge (tgt := 52) hx hb dX9_passes_7 (by decide) (fun c6 => ?_) (fun c6 => ?_)
  · skip
    exact W.vret hx hb hr (fun t ht hW => ⟨⟨g, rfl, rfl, ok1 ht hG⟩, hS.F ht⟩) hS.2.2 dX9_passes_52
  · exfalso; omega

set_option maxHeartbeats 4000000 in
set_option maxRecDepth 100000 in
/-- WeekBankModel.weeks:  -/
theorem f_X9_weeks (l : Launch) (dC : Nat → ClassId) (dI : Nat → Nat → Nat) (dA : Nat → ClassId) (sz : Nat) (X : va_W) (Γ : ty_G) (hU : Un Γ) (g : gh) (h0 : Nat) (t_h0 : ty Γ h0 30) (p1 : Int32) (f6 : g 126 0 = 0) (f7 : 0 ≤ g 112 0 ∧ g 112 0 ≤ 52) : Met l yX9_weeks (.code yX9_weeks cX9_weeks 2 (Option.some Jvm.ClassFile.FieldType.int) :: AL) ({ frames := 1, cells := 0, slots := 0, locals := 22 }) (PCx dC dI dA sz X Γ g [.ref h0, .int p1]) (va_Qi (fun (r : Int32) (u : gh) => (∀ c j : Nat, c ≠ 100 → c ≠ 112 → u c j = g c j) ∧ ((1 ≤ p1.toInt ∧ p1.toInt ≤ 52 - g 112 0 → r.toInt = g 112 0 + p1.toInt ∧ u 112 0 = r.toInt) ∧ (¬ (1 ≤ p1.toInt ∧ p1.toInt ≤ 52 - g 112 0) → r.toInt = -1 ∧ u 112 0 = g 112 0))) (okb dC dI dA sz X Γ) (ty_A sz)) 0 0 (ty_A sz) := by
  refine Met.ofW (cc := cX9_weeks) (maxL := 2) (ret := (Option.some Jvm.ClassFile.FieldType.int)) (by decide) rfl ?_
  intro p e s m args below meth c s₁ B hml hv
  obtain ⟨rfl, hG, hE⟩ := hv
  have hx := B.exec
  have hb := B.bytes
  have hr := B.returns
  have hts := atoms_spec B.pre
  have hA : ∀ w ∈ AL, w.before _ s = true := fun w h => hts w (List.mem_cons_of_mem _ h)
  have hown : s.vm.findClass RX9 = some m.cls := findClass_of_methodNamed B.named
  have hlocks := B.notSynchronized
  have hS : va_S (ty_A sz) s.heap s.heap [] := va_S.rf
  have hl := lv_entry ([.ref h0, .int p1]) (n := 2) (Nat.le_of_ble_eq_true rfl)
  rw [lg_entry_eq]
  generalize (lg_sl ([.ref h0, .int p1]) ++ List.replicate (2 - (lg_sl ([.ref h0, .int p1])).length) Slot.unset).toArray = ls at hl ⊢
  have hl : lv_has ls 2 [(0, .ref h0), (1, .int p1)] := hl
  refine lv_aload_n hx hb dX9_weeks_0 rfl (lv_at hl 0 rfl) ?_
  refine ty_iconst hx hb (0) dX9_weeks_1 (by decide) (fun x1 h2 => ?_)
  refine put_X9_0 hx hb hA hown hE hG hS hU t_h0 wd_4_134 dX9_weeks_2 (fun H locs hG hS => ?_)
  refine lv_iload_n hx hb dX9_weeks_5 rfl (lv_at hl 1 rfl) ?_
  refine ty_iconst hx hb (1) dX9_weeks_6 (by decide) (fun x3 h4 => ?_)
  refine ty_bipush hx hb (52) dX9_weeks_7 (by decide) (fun x5 h6 => ?_)
  refine cI (va_runS (As := [.int p1, .int x3, .int x5]) (rest := []) ⟨hx, hb, hml, hown, hA⟩ (k_X9_within l dC dI dA sz X Γ hU (gs g 100 0 x1.toInt) p1 x3 x5   ) ⟨callB_of 3 hA (al_A wd_5_42) rfl rfl rfl (hA _ wd_1_7) (hA _ wd_5_40) (by decide +kernel) ⟨Nat.le_of_ble_eq_true rfl, Nat.le_of_ble_eq_true rfl⟩, hA _ wd_5_41⟩ ⟨bl, fun U hU9 hW9 => ⟨rfl, by rw [hU9]; exact hG, hE.go hS hU9 hW9⟩⟩ rfl rfl hl.1 rfl (lv_room (Nat.le_of_ble_eq_true rfl)) dX9_weeks_9 ⟨Nat.zero_le _, Nat.zero_le _⟩) hS (fun x9 u7 H locs w8 hG hS => ?_)
  obtain ⟨eu10, w8⟩ := w8
  rw [eu10] at hG
  refine ty_if_eq (tgt := 26) hx hb dX9_weeks_12 (by decide) (fun c11 => ?_) (fun c11 => ?_)
  · skip
    refine ty_iconst hx hb (-1) dX9_weeks_26 (by decide) (fun x12 h13 => ?_)
    have e14 : (gs g 100 0 x1.toInt) 112 0 = g 112 0 := by simp [gs]
    exact W.iret (v := x12) hx hb hr (fun t ht hW => ⟨⟨x12, (gs g 100 0 x1.toInt), rfl, ⟨(fun c j h100 h112 => by rw [gs_c _ _ _ _ h100]), (by omega)⟩, ok1 ht hG⟩, hS.F ht⟩) hS.2.2 dX9_weeks_27
  · skip
    refine lv_aload_n hx hb dX9_weeks_15 rfl (lv_at hl 0 rfl) ?_
    refine get_X9_12 hx hb hA hown hE hG t_h0 wd_4_146 dX9_weeks_16 (fun x15 h16 => ?_)
    have h16 : x15.toInt = g 112 0 := by rw [h16]; simp [gs]
    refine lv_iload_n hx hb dX9_weeks_19 rfl (lv_at hl 1 rfl) ?_
    refine ty_iadd hx hb dX9_weeks_20 (fun x18 h19 => ?_)
    try have h20 : x18.toInt = x15.toInt + p1.toInt := ty_add h19 (by omega) (by omega)
    refine ty_bipush hx hb (52) dX9_weeks_21 (by decide) (fun x21 h22 => ?_)
    refine ty_icmp_le (tgt := 28) hx hb dX9_weeks_23 (by decide) (fun c23 => ?_) (fun c23 => ?_)
    · skip
      refine lv_aload_n hx hb dX9_weeks_28 rfl (lv_at hl 0 rfl) ?_
      refine lv_dup hx hb dX9_weeks_29 rfl ?_
      refine get_X9_12 hx hb hA hown hE hG t_h0 wd_4_146 dX9_weeks_30 (fun x24 h25 => ?_)
      have h25 : x24.toInt = g 112 0 := by rw [h25]; simp [gs]
      refine lv_iload_n hx hb dX9_weeks_33 rfl (lv_at hl 1 rfl) ?_
      refine ty_iadd hx hb dX9_weeks_34 (fun x27 h28 => ?_)
      try have h29 : x27.toInt = x24.toInt + p1.toInt := ty_add h28 (by omega) (by omega)
      refine put_X9_12 hx hb hA hown hE hG hS hU t_h0 wd_4_146 dX9_weeks_35 (fun H locs hG hS => ?_)
      refine lv_aload_n hx hb dX9_weeks_38 rfl (lv_at hl 0 rfl) ?_
      refine lv_aload_n hx hb dX9_weeks_39 rfl (lv_at hl 0 rfl) ?_
      refine get_X9_12 hx hb hA hown hE hG t_h0 wd_4_146 dX9_weeks_40 (fun x30 h31 => ?_)
      have h31 : x30.toInt = x27.toInt := by rw [h31]; simp [gs]
      have e33 : (gs (gs g 100 0 x1.toInt) 112 0 x27.toInt) 126 0 = g 126 0 := by simp [gs]
      refine cV (va_runV (C := RX9) (As := [.int x30]) (rest := []) ⟨hx, hb, hml, hown, hA⟩ (f_X9_passes l dC dI dA sz X Γ hU (gs (gs g 100 0 x1.toInt) 112 0 x27.toInt) h0 t_h0 x30   (by omega)) ⟨callB_of 1 hA (al_A wd_5_201) rfl rfl rfl (hA _ wd_1_7) (hA _ wd_5_198) (by decide +kernel) ⟨Nat.le_of_ble_eq_true rfl, Nat.le_of_ble_eq_true rfl⟩, hA _ wd_5_200, hA _ ws_55⟩ ⟨bl, recv_X9 hE hG t_h0, fun U hU9 hW9 => ⟨rfl, by rw [hU9]; exact hG, hE.go hS hU9 hW9⟩⟩ rfl rfl hl.1 rfl (lv_room (Nat.le_of_ble_eq_true rfl)) dX9_weeks_43 ⟨Nat.zero_le _, Nat.zero_le _⟩) hS (fun u34 H locs w35 hG hS => ?_)
      have eu36 := w35
      rw [eu36] at hG
      refine lv_aload_n hx hb dX9_weeks_46 rfl (lv_at hl 0 rfl) ?_
      refine get_X9_12 hx hb hA hown hE hG t_h0 wd_4_146 dX9_weeks_47 (fun x37 h38 => ?_)
      have h38 : x37.toInt = x27.toInt := by rw [h38]; simp [gs]
      have e40 : (gs (gs g 100 0 x1.toInt) 112 0 x27.toInt) 112 0 = x27.toInt := by simp [gs]
      exact W.iret (v := x37) hx hb hr (fun t ht hW => ⟨⟨x37, (gs (gs g 100 0 x1.toInt) 112 0 x27.toInt), rfl, ⟨(fun c j h100 h112 => by rw [gs_c _ _ _ _ h112, gs_c _ _ _ _ h100]), (by omega)⟩, ok1 ht hG⟩, hS.F ht⟩) hS.2.2 dX9_weeks_50
    · skip
      refine ty_iconst hx hb (-1) dX9_weeks_26 (by decide) (fun x41 h42 => ?_)
      have e43 : (gs g 100 0 x1.toInt) 112 0 = g 112 0 := by simp [gs]
      exact W.iret (v := x41) hx hb hr (fun t ht hW => ⟨⟨x41, (gs g 100 0 x1.toInt), rfl, ⟨(fun c j h100 h112 => by rw [gs_c _ _ _ _ h100]), (by omega)⟩, ok1 ht hG⟩, hS.F ht⟩) hS.2.2 dX9_weeks_27

set_option maxHeartbeats 4000000 in
set_option maxRecDepth 100000 in
/-- WeekBankModel.year:  -/
theorem f_X9_year (l : Launch) (dC : Nat → ClassId) (dI : Nat → Nat → Nat) (dA : Nat → ClassId) (sz : Nat) (X : va_W) (Γ : ty_G) (hU : Un Γ) (g : gh) (h0 : Nat) (t_h0 : ty Γ h0 30) (f6 : g 126 0 = 0) (f7 : 0 ≤ g 111 0 ∧ g 111 0 ≤ 100000) : Met l yX9_year (.code yX9_year cX9_year 2 (Option.some Jvm.ClassFile.FieldType.int) :: AL) ({ frames := 1, cells := 0, slots := 0, locals := 22 }) (PCx dC dI dA sz X Γ g [.ref h0]) (va_Qi (fun (r : Int32) (u : gh) => (∀ c j : Nat, c ≠ 100 → c ≠ 110 → c ≠ 111 → c ≠ 112 → u c j = g c j) ∧ ((r.toInt = g 111 0 + 1) ∧ (u 111 0 = g 111 0 + 1) ∧ (u 112 0 = 0))) (okb dC dI dA sz X Γ) (ty_A sz)) 0 0 (ty_A sz) := by
  refine Met.ofW (cc := cX9_year) (maxL := 2) (ret := (Option.some Jvm.ClassFile.FieldType.int)) (by decide) rfl ?_
  intro p e s m args below meth c s₁ B hml hv
  obtain ⟨rfl, hG, hE⟩ := hv
  have hx := B.exec
  have hb := B.bytes
  have hr := B.returns
  have hts := atoms_spec B.pre
  have hA : ∀ w ∈ AL, w.before _ s = true := fun w h => hts w (List.mem_cons_of_mem _ h)
  have hown : s.vm.findClass RX9 = some m.cls := findClass_of_methodNamed B.named
  have hlocks := B.notSynchronized
  have hS : va_S (ty_A sz) s.heap s.heap [] := va_S.rf
  have hl := lv_entry ([.ref h0]) (n := 2) (Nat.le_of_ble_eq_true rfl)
  rw [lg_entry_eq]
  generalize (lg_sl ([.ref h0]) ++ List.replicate (2 - (lg_sl ([.ref h0])).length) Slot.unset).toArray = ls at hl ⊢
  have hl : lv_has ls 2 [(0, .ref h0)] := hl
  refine lv_aload_n hx hb dX9_year_0 rfl (lv_at hl 0 rfl) ?_
  refine ty_iconst hx hb (0) dX9_year_1 (by decide) (fun x1 h2 => ?_)
  refine put_X9_0 hx hb hA hown hE hG hS hU t_h0 wd_4_134 dX9_year_2 (fun H locs hG hS => ?_)
  refine lv_aload_n hx hb dX9_year_5 rfl (lv_at hl 0 rfl) ?_
  refine ty_bipush hx hb (52) dX9_year_6 (by decide) (fun x3 h4 => ?_)
  have e5 : (gs g 100 0 x1.toInt) 126 0 = g 126 0 := by simp [gs]
  refine cV (va_runV (C := RX9) (As := [.int x3]) (rest := []) ⟨hx, hb, hml, hown, hA⟩ (f_X9_passes l dC dI dA sz X Γ hU (gs g 100 0 x1.toInt) h0 t_h0 x3   (by omega)) ⟨callB_of 1 hA (al_A wd_5_201) rfl rfl rfl (hA _ wd_1_7) (hA _ wd_5_198) (by decide +kernel) ⟨Nat.le_of_ble_eq_true rfl, Nat.le_of_ble_eq_true rfl⟩, hA _ wd_5_200, hA _ ws_55⟩ ⟨bl, recv_X9 hE hG t_h0, fun U hU9 hW9 => ⟨rfl, by rw [hU9]; exact hG, hE.go hS hU9 hW9⟩⟩ rfl rfl hl.1 rfl (lv_room (Nat.le_of_ble_eq_true rfl)) dX9_year_8 ⟨Nat.zero_le _, Nat.zero_le _⟩) hS (fun u6 H locs w7 hG hS => ?_)
  have eu8 := w7
  rw [eu8] at hG
  refine lv_aload_n hx hb dX9_year_11 rfl (lv_at hl 0 rfl) ?_
  refine lv_dup hx hb dX9_year_12 rfl ?_
  refine get_X9_11 hx hb hA hown hE hG t_h0 wd_4_145 dX9_year_13 (fun x9 h10 => ?_)
  have h10 : x9.toInt = g 111 0 := by rw [h10]; simp [gs]
  refine ty_iconst hx hb (1) dX9_year_16 (by decide) (fun x12 h13 => ?_)
  refine ty_iadd hx hb dX9_year_17 (fun x14 h15 => ?_)
  try have h16 : x14.toInt = x9.toInt + x12.toInt := ty_add h15 (by omega) (by omega)
  refine put_X9_11 hx hb hA hown hE hG hS hU t_h0 wd_4_145 dX9_year_18 (fun H locs hG hS => ?_)
  refine lv_aload_n hx hb dX9_year_21 rfl (lv_at hl 0 rfl) ?_
  refine ty_iconst hx hb (0) dX9_year_22 (by decide) (fun x17 h18 => ?_)
  refine put_X9_12 hx hb hA hown hE hG hS hU t_h0 wd_4_146 dX9_year_23 (fun H locs hG hS => ?_)
  refine ty_iconst hx hb (0) dX9_year_26 (by decide) (fun x19 h20 => ?_)
  refine lv_istore_n (lv' := [(1, .int x19), (0, .ref h0)]) hx hb dX9_year_27 rfl hl (by decide) rfl (fun ls hl => ?_)
  have L_28 : ∀ (n : Nat) (k : Int32) (g21 : gh) (H : Heap) (locs : List Loc) (ls : Array Slot), (318 - k.toInt : Int) < n → 0 ≤ k.toInt ∧ k.toInt ≤ 318 → (∀ c j : Nat, c ≠ 110 → g21 c j = (gs (gs (gs g 100 0 x1.toInt) 111 0 x14.toInt) 112 0 x17.toInt) c j) → ty_ok (dC, dI) vwCl Γ (TP dA Γ g21) sz X H → va_S (ty_A sz) s.heap H locs → lv_has ls 2 [(1, .int k), (0, .ref h0)] → W p l e (headSpec (.code yX9_year cX9_year 2 (Option.some Jvm.ClassFile.FieldType.int) :: AL) ({ frames := 1, cells := 0, slots := 0, locals := 22 })).room s m ([.ref h0] : List Value).toArray below meth c H locs 0 0 (MQ below (va_Qi (fun (r : Int32) (u : gh) => (∀ c j : Nat, c ≠ 100 → c ≠ 110 → c ≠ 111 → c ≠ 112 → u c j = g c j) ∧ ((r.toInt = g 111 0 + 1) ∧ (u 111 0 = g 111 0 + 1) ∧ (u 112 0 = 0))) (okb dC dI dA sz X Γ) (ty_A sz)) ([.ref h0] : List Value).toArray s 0 0 (ty_A sz)) (F0 m 28 ls []) := by
    intro n
    induction n with
    | zero => intro k g21 H locs ls hm hi0 hf22 hG hS hl; exfalso; omega
    | succ n ih =>
      intro k g21 H locs ls hm hi0 hf22 hG hS hl
      refine lv_iload_n hx hb dX9_year_28 rfl (lv_at hl 0 rfl) ?_
      refine ty_sipush hx hb (318) dX9_year_29 (by decide) (fun x23 h24 => ?_)
      refine ty_icmp_ge (tgt := 48) hx hb dX9_year_32 (by decide) (fun c25 => ?_) (fun c25 => ?_)
      · skip
        refine lv_aload_n hx hb dX9_year_48 rfl (lv_at hl 1 rfl) ?_
        refine get_X9_11 hx hb hA hown hE hG t_h0 wd_4_145 dX9_year_49 (fun x26 h27 => ?_)
        have hk29 : g21 111 0 = (gs (gs (gs g 100 0 x1.toInt) 111 0 x14.toInt) 112 0 x17.toInt) 111 0 := hf22 111 0 (by decide)
        have hk29 : g21 111 0 = x14.toInt := by rw [hk29]; simp [gs]
        have hk30 : g21 112 0 = (gs (gs (gs g 100 0 x1.toInt) 111 0 x14.toInt) 112 0 x17.toInt) 112 0 := hf22 112 0 (by decide)
        have hk30 : g21 112 0 = x17.toInt := by rw [hk30]; simp [gs]
        exact W.iret (v := x26) hx hb hr (fun t ht hW => ⟨⟨x26, g21, rfl, ⟨(fun c j h100 h110 h111 h112 => by rw [hf22 c j h110, gs_c _ _ _ _ h112, gs_c _ _ _ _ h111, gs_c _ _ _ _ h100]), (by omega)⟩, ok1 ht hG⟩, hS.F ht⟩) hS.2.2 dX9_year_52
      · skip
        refine lv_aload_n hx hb dX9_year_35 rfl (lv_at hl 1 rfl) ?_
        refine get_X9_10 hx hb hA hown hE hG t_h0 wd_4_144 dX9_year_36 (fun b31 (t_b31 : ty Γ b31 110) => ?_)
        refine lv_iload_n hx hb dX9_year_39 rfl (lv_at hl 0 rfl) ?_
        refine ty_iconst hx hb (0) dX9_year_40 (by decide) (fun x32 h33 => ?_)
        refine ast_mZ hx hb hE hG hS hU 10 rfl (n := 318) rfl rfl t_b31 (by omega) dX9_year_41 (fun H locs hG hS => ?_)
        obtain ⟨x34, h35⟩ : ∃ y : Int32, y = k + Int32.ofInt (1) := ⟨_, rfl⟩
        try have h36 : x34.toInt = k.toInt + (1) := ty_inc h35 (by decide) (by omega) (by omega)
        refine lv_iinc (v := x34) (lv' := [(1, .int x34), (0, .ref h0)]) hx hb dX9_year_42 hl (k := 0) rfl h35.symm (by decide) rfl (fun ls hl => ?_)
        refine lv_goto (tgt := 28) hx hb dX9_year_45 (by decide) ?_
        exact ih x34 (gs g21 110 k.toInt.toNat (vp_nar .boolean x32).toInt) _ _ ls (by omega) (by omega) (fun c j h110 => by rw [gs_c _ _ _ _ h110, hf22 c j h110]) hG hS (lv_sub hl [0, 1] rfl)
  exact L_28 ((318 - x19.toInt) + 1).toNat x19 (gs (gs (gs g 100 0 x1.toInt) 111 0 x14.toInt) 112 0 x17.toInt) _ _ ls (by omega) (by omega) (fun c j _ => rfl) hG hS (lv_sub hl [0, 1] rfl)

set_option maxHeartbeats 4000000 in
set_option maxRecDepth 100000 in
/-- WeekBankModel.nextInRush:  -/
theorem f_X9_nextInRush (l : Launch) (dC : Nat → ClassId) (dI : Nat → Nat → Nat) (dA : Nat → ClassId) (sz : Nat) (X : va_W) (Γ : ty_G) (hU : Un Γ) (g : gh) (h0 : Nat) (t_h0 : ty Γ h0 30) (f4 : g 104 0 = 0) : Met l yX9_nextInRush (.code yX9_nextInRush cX9_nextInRush 3 (Option.some Jvm.ClassFile.FieldType.int) :: AL) ({ frames := 0, cells := 0, slots := 0, locals := 0 }) (PCx dC dI dA sz X Γ g [.ref h0]) (va_Qi (fun (r : Int32) (u : gh) => u = g ∧ ((r.toInt = -1))) (okb dC dI dA sz X Γ) (ty_A sz)) 0 0 (ty_A sz) := by
  refine Met.ofW (cc := cX9_nextInRush) (maxL := 3) (ret := (Option.some Jvm.ClassFile.FieldType.int)) (by decide) rfl ?_
  intro p e s m args below meth c s₁ B hml hv
  obtain ⟨rfl, hG, hE⟩ := hv
  have hx := B.exec
  have hb := B.bytes
  have hr := B.returns
  have hts := atoms_spec B.pre
  have hA : ∀ w ∈ AL, w.before _ s = true := fun w h => hts w (List.mem_cons_of_mem _ h)
  have hown : s.vm.findClass RX9 = some m.cls := findClass_of_methodNamed B.named
  have hlocks := B.notSynchronized
  have hS : va_S (ty_A sz) s.heap s.heap [] := va_S.rf
  have hl := lv_entry ([.ref h0]) (n := 3) (Nat.le_of_ble_eq_true rfl)
  rw [lg_entry_eq]
  generalize (lg_sl ([.ref h0]) ++ List.replicate (3 - (lg_sl ([.ref h0])).length) Slot.unset).toArray = ls at hl ⊢
  have hl : lv_has ls 3 [(0, .ref h0)] := hl
  refine ty_iconst hx hb (-1) dX9_nextInRush_0 (by decide) (fun x1 h2 => ?_)
  refine lv_istore_n (lv' := [(1, .int x1), (0, .ref h0)]) hx hb dX9_nextInRush_1 rfl hl (by decide) rfl (fun ls hl => ?_)
  refine ty_iconst hx hb (0) dX9_nextInRush_2 (by decide) (fun x3 h4 => ?_)
  refine lv_istore_n (lv' := [(2, .int x3), (1, .int x1), (0, .ref h0)]) hx hb dX9_nextInRush_3 rfl hl (by decide) rfl (fun ls hl => ?_)
  refine lv_iload_n hx hb dX9_nextInRush_4 rfl (lv_at hl 0 rfl) ?_
  refine lv_aload_n hx hb dX9_nextInRush_5 rfl (lv_at hl 2 rfl) ?_
  refine get_X9_4 hx hb hA hown hE hG t_h0 wd_4_138 dX9_nextInRush_6 (fun x5 h6 => ?_)
  refine ty_icmp_ge (tgt := 78) hx hb dX9_nextInRush_9 (by decide) (fun c8 => ?_) (fun c8 => ?_)
  · skip
    refine lv_iload_n hx hb dX9_nextInRush_78 rfl (lv_at hl 1 rfl) ?_
    exact W.iret (v := x1) hx hb hr (fun t ht hW => ⟨⟨x1, g, rfl, ⟨rfl, (by omega)⟩, ok1 ht hG⟩, hS.F ht⟩) hS.2.2 dX9_nextInRush_79
  · exfalso; omega

set_option maxHeartbeats 4000000 in
set_option maxRecDepth 100000 in
/-- WeekBankModel.rush:  -/
theorem f_X9_rush (l : Launch) (dC : Nat → ClassId) (dI : Nat → Nat → Nat) (dA : Nat → ClassId) (sz : Nat) (X : va_W) (Γ : ty_G) (hU : Un Γ) (g : gh) (h0 : Nat) (t_h0 : ty Γ h0 30) (f4 : g 104 0 = 0) : Met l yX9_rush (.code yX9_rush cX9_rush 5 (Option.some Jvm.ClassFile.FieldType.int) :: AL) ({ frames := 1, cells := 0, slots := 0, locals := 22 }) (PCx dC dI dA sz X Γ g [.ref h0]) (va_Qi (fun (r : Int32) (u : gh) => (∀ c j : Nat, c ≠ 100 → u c j = g c j) ∧ ((r.toInt = 0))) (okb dC dI dA sz X Γ) (ty_A sz)) 0 0 (ty_A sz) := by
  refine Met.ofW (cc := cX9_rush) (maxL := 5) (ret := (Option.some Jvm.ClassFile.FieldType.int)) (by decide) rfl ?_
  intro p e s m args below meth c s₁ B hml hv
  obtain ⟨rfl, hG, hE⟩ := hv
  have hx := B.exec
  have hb := B.bytes
  have hr := B.returns
  have hts := atoms_spec B.pre
  have hA : ∀ w ∈ AL, w.before _ s = true := fun w h => hts w (List.mem_cons_of_mem _ h)
  have hown : s.vm.findClass RX9 = some m.cls := findClass_of_methodNamed B.named
  have hlocks := B.notSynchronized
  have hS : va_S (ty_A sz) s.heap s.heap [] := va_S.rf
  have hl := lv_entry ([.ref h0]) (n := 5) (Nat.le_of_ble_eq_true rfl)
  rw [lg_entry_eq]
  generalize (lg_sl ([.ref h0]) ++ List.replicate (5 - (lg_sl ([.ref h0])).length) Slot.unset).toArray = ls at hl ⊢
  have hl : lv_has ls 5 [(0, .ref h0)] := hl
  refine lv_aload_n hx hb dX9_rush_0 rfl (lv_at hl 0 rfl) ?_
  refine ty_iconst hx hb (0) dX9_rush_1 (by decide) (fun x1 h2 => ?_)
  refine put_X9_0 hx hb hA hown hE hG hS hU t_h0 wd_4_134 dX9_rush_2 (fun H locs hG hS => ?_)
  refine ty_iconst hx hb (0) dX9_rush_5 (by decide) (fun x3 h4 => ?_)
  refine lv_istore_n (lv' := [(1, .int x3), (0, .ref h0)]) hx hb dX9_rush_6 rfl hl (by decide) rfl (fun ls hl => ?_)
  refine lv_iload_n hx hb dX9_rush_7 rfl (lv_at hl 0 rfl) ?_
  refine lv_aload_n hx hb dX9_rush_8 rfl (lv_at hl 1 rfl) ?_
  refine get_X9_4 hx hb hA hown hE hG t_h0 wd_4_138 dX9_rush_9 (fun x5 h6 => ?_)
  have h6 : x5.toInt = g 104 0 := by rw [h6]; simp [gs]
  refine ty_icmp_ge (tgt := 40) hx hb dX9_rush_12 (by decide) (fun c8 => ?_) (fun c8 => ?_)
  · skip
    refine ty_iconst hx hb (0) dX9_rush_40 (by decide) (fun x9 h10 => ?_)
    refine lv_istore_n (lv' := [(1, .int x9), (0, .ref h0)]) hx hb dX9_rush_41 rfl hl (by decide) rfl (fun ls hl => ?_)
    refine lv_aload_n hx hb dX9_rush_42 rfl (lv_at hl 1 rfl) ?_
    have e11 : (gs g 100 0 x1.toInt) 104 0 = g 104 0 := by simp [gs]
    refine cI (va_runV (C := RX9) (As := []) (rest := []) ⟨hx, hb, hml, hown, hA⟩ (f_X9_nextInRush l dC dI dA sz X Γ hU (gs g 100 0 x1.toInt) h0 t_h0   (by omega)) ⟨callB_of 0 hA (al_A wd_5_188) rfl rfl rfl (hA _ wd_1_7) (hA _ wd_5_185) (by decide +kernel) ⟨Nat.le_of_ble_eq_true rfl, Nat.le_of_ble_eq_true rfl⟩, hA _ wd_5_187, hA _ ws_54⟩ ⟨bl, recv_X9 hE hG t_h0, fun U hU9 hW9 => ⟨rfl, by rw [hU9]; exact hG, hE.go hS hU9 hW9⟩⟩ rfl rfl hl.1 rfl (lv_room (Nat.le_of_ble_eq_true rfl)) dX9_rush_43 ⟨Nat.zero_le _, Nat.zero_le _⟩) hS (fun x14 u12 H locs w13 hG hS => ?_)
    obtain ⟨eu15, w13⟩ := w13
    rw [eu15] at hG
    refine lv_istore_n (lv' := [(2, .int x14), (1, .int x9), (0, .ref h0)]) hx hb dX9_rush_46 rfl hl (by decide) rfl (fun ls hl => ?_)
    refine lv_iload_n hx hb dX9_rush_47 rfl (lv_at hl 0 rfl) ?_
    refine ty_iconst hx hb (-1) dX9_rush_48 (by decide) (fun x16 h17 => ?_)
    refine ty_icmp_eq (tgt := 199) hx hb dX9_rush_49 (by decide) (fun c18 => ?_) (fun c18 => ?_)
    · skip
      refine lv_iload_n hx hb dX9_rush_199 rfl (lv_at hl 1 rfl) ?_
      exact W.iret (v := x9) hx hb hr (fun t ht hW => ⟨⟨x9, (gs g 100 0 x1.toInt), rfl, ⟨(fun c j h100 => by rw [gs_c _ _ _ _ h100]), (by omega)⟩, ok1 ht hG⟩, hS.F ht⟩) hS.2.2 dX9_rush_200
    · exfalso; omega
  · exfalso; omega

set_option maxHeartbeats 4000000 in
set_option maxRecDepth 100000 in
/-- WeekBankModel.weeksThatStay:  -/
theorem f_X9_weeksThatStay (l : Launch) (dC : Nat → ClassId) (dI : Nat → Nat → Nat) (dA : Nat → ClassId) (sz : Nat) (X : va_W) (Γ : ty_G) (hU : Un Γ) (g : gh) (h0 : Nat) (t_h0 : ty Γ h0 30) (f4 : g 104 0 = 0) : Met l yX9_weeksThatStay (.code yX9_weeksThatStay cX9_weeksThatStay 3 (Option.some Jvm.ClassFile.FieldType.int) :: AL) ({ frames := 0, cells := 0, slots := 0, locals := 0 }) (PCx dC dI dA sz X Γ g [.ref h0]) (va_Qi (fun (r : Int32) (u : gh) => u = g ∧ ((r.toInt = 0))) (okb dC dI dA sz X Γ) (ty_A sz)) 0 0 (ty_A sz) := by
  refine Met.ofW (cc := cX9_weeksThatStay) (maxL := 3) (ret := (Option.some Jvm.ClassFile.FieldType.int)) (by decide) rfl ?_
  intro p e s m args below meth c s₁ B hml hv
  obtain ⟨rfl, hG, hE⟩ := hv
  have hx := B.exec
  have hb := B.bytes
  have hr := B.returns
  have hts := atoms_spec B.pre
  have hA : ∀ w ∈ AL, w.before _ s = true := fun w h => hts w (List.mem_cons_of_mem _ h)
  have hown : s.vm.findClass RX9 = some m.cls := findClass_of_methodNamed B.named
  have hlocks := B.notSynchronized
  have hS : va_S (ty_A sz) s.heap s.heap [] := va_S.rf
  have hl := lv_entry ([.ref h0]) (n := 3) (Nat.le_of_ble_eq_true rfl)
  rw [lg_entry_eq]
  generalize (lg_sl ([.ref h0]) ++ List.replicate (3 - (lg_sl ([.ref h0])).length) Slot.unset).toArray = ls at hl ⊢
  have hl : lv_has ls 3 [(0, .ref h0)] := hl
  refine ty_iconst hx hb (0) dX9_weeksThatStay_0 (by decide) (fun x1 h2 => ?_)
  refine lv_istore_n (lv' := [(1, .int x1), (0, .ref h0)]) hx hb dX9_weeksThatStay_1 rfl hl (by decide) rfl (fun ls hl => ?_)
  refine ty_iconst hx hb (0) dX9_weeksThatStay_2 (by decide) (fun x3 h4 => ?_)
  refine lv_istore_n (lv' := [(2, .int x3), (1, .int x1), (0, .ref h0)]) hx hb dX9_weeksThatStay_3 rfl hl (by decide) rfl (fun ls hl => ?_)
  refine lv_iload_n hx hb dX9_weeksThatStay_4 rfl (lv_at hl 0 rfl) ?_
  refine lv_aload_n hx hb dX9_weeksThatStay_5 rfl (lv_at hl 2 rfl) ?_
  refine get_X9_4 hx hb hA hown hE hG t_h0 wd_4_138 dX9_weeksThatStay_6 (fun x5 h6 => ?_)
  refine ty_icmp_ge (tgt := 35) hx hb dX9_weeksThatStay_9 (by decide) (fun c8 => ?_) (fun c8 => ?_)
  · skip
    refine lv_iload_n hx hb dX9_weeksThatStay_35 rfl (lv_at hl 1 rfl) ?_
    exact W.iret (v := x1) hx hb hr (fun t ht hW => ⟨⟨x1, g, rfl, ⟨rfl, (by omega)⟩, ok1 ht hG⟩, hS.F ht⟩) hS.2.2 dX9_weeksThatStay_36
  · exfalso; omega

set_option maxHeartbeats 4000000 in
set_option maxRecDepth 100000 in
/-- WeekBankModel.fees:  -/
theorem f_X9_fees (l : Launch) (dC : Nat → ClassId) (dI : Nat → Nat → Nat) (dA : Nat → ClassId) (sz : Nat) (X : va_W) (Γ : ty_G) (hU : Un Γ) (g : gh) (h0 : Nat) (t_h0 : ty Γ h0 30) (p1 : Int32) (p2 : Int32) (f4 : g 104 0 = 0) : Met l yX9_fees (.code yX9_fees cX9_fees 8 (Option.some Jvm.ClassFile.FieldType.int) :: AL) ({ frames := 1, cells := 0, slots := 0, locals := 22 }) (PCx dC dI dA sz X Γ g [.ref h0, .int p1, .int p2]) (va_Qi (fun (r : Int32) (u : gh) => (∀ c j : Nat, c ≠ 100 → u c j = g c j) ∧ ((1 ≤ p1.toInt ∧ p1.toInt ≤ 999999 ∧ 0 ≤ p2.toInt ∧ p2.toInt ≤ 2 → r.toInt = 0) ∧ (¬ (1 ≤ p1.toInt ∧ p1.toInt ≤ 999999 ∧ 0 ≤ p2.toInt ∧ p2.toInt ≤ 2) → r.toInt = -1))) (okb dC dI dA sz X Γ) (ty_A sz)) 0 0 (ty_A sz) := by
  refine Met.ofW (cc := cX9_fees) (maxL := 8) (ret := (Option.some Jvm.ClassFile.FieldType.int)) (by decide) rfl ?_
  intro p e s m args below meth c s₁ B hml hv
  obtain ⟨rfl, hG, hE⟩ := hv
  have hx := B.exec
  have hb := B.bytes
  have hr := B.returns
  have hts := atoms_spec B.pre
  have hA : ∀ w ∈ AL, w.before _ s = true := fun w h => hts w (List.mem_cons_of_mem _ h)
  have hown : s.vm.findClass RX9 = some m.cls := findClass_of_methodNamed B.named
  have hlocks := B.notSynchronized
  have hS : va_S (ty_A sz) s.heap s.heap [] := va_S.rf
  have hl := lv_entry ([.ref h0, .int p1, .int p2]) (n := 8) (Nat.le_of_ble_eq_true rfl)
  rw [lg_entry_eq]
  generalize (lg_sl ([.ref h0, .int p1, .int p2]) ++ List.replicate (8 - (lg_sl ([.ref h0, .int p1, .int p2])).length) Slot.unset).toArray = ls at hl ⊢
  have hl : lv_has ls 8 [(0, .ref h0), (1, .int p1), (2, .int p2)] := hl
  refine lv_aload_n hx hb dX9_fees_0 rfl (lv_at hl 0 rfl) ?_
  refine ty_iconst hx hb (0) dX9_fees_1 (by decide) (fun x1 h2 => ?_)
  refine put_X9_0 hx hb hA hown hE hG hS hU t_h0 wd_4_134 dX9_fees_2 (fun H locs hG hS => ?_)
  refine lv_iload_n hx hb dX9_fees_5 rfl (lv_at hl 1 rfl) ?_
  refine ty_iconst hx hb (1) dX9_fees_6 (by decide) (fun x3 h4 => ?_)
  refine ty_ldc_w hx hb (999999) hown (hA _ wd_5_218) dX9_fees_7 (by decide) (fun x5 h6 => ?_)
  refine cI (va_runS (As := [.int p1, .int x3, .int x5]) (rest := []) ⟨hx, hb, hml, hown, hA⟩ (k_X9_within l dC dI dA sz X Γ hU (gs g 100 0 x1.toInt) p1 x3 x5   ) ⟨callB_of 3 hA (al_A wd_5_42) rfl rfl rfl (hA _ wd_1_7) (hA _ wd_5_40) (by decide +kernel) ⟨Nat.le_of_ble_eq_true rfl, Nat.le_of_ble_eq_true rfl⟩, hA _ wd_5_41⟩ ⟨bl, fun U hU9 hW9 => ⟨rfl, by rw [hU9]; exact hG, hE.go hS hU9 hW9⟩⟩ rfl rfl hl.1 rfl (lv_room (Nat.le_of_ble_eq_true rfl)) dX9_fees_10 ⟨Nat.zero_le _, Nat.zero_le _⟩) hS (fun x9 u7 H locs w8 hG hS => ?_)
  obtain ⟨eu10, w8⟩ := w8
  rw [eu10] at hG
  refine ty_if_eq (tgt := 25) hx hb dX9_fees_13 (by decide) (fun c11 => ?_) (fun c11 => ?_)
  · skip
    refine ty_iconst hx hb (-1) dX9_fees_25 (by decide) (fun x12 h13 => ?_)
    exact W.iret (v := x12) hx hb hr (fun t ht hW => ⟨⟨x12, (gs g 100 0 x1.toInt), rfl, ⟨(fun c j h100 => by rw [gs_c _ _ _ _ h100]), (by omega)⟩, ok1 ht hG⟩, hS.F ht⟩) hS.2.2 dX9_fees_26
  · skip
    refine lv_iload_n hx hb dX9_fees_16 rfl (lv_at hl 2 rfl) ?_
    refine ty_iconst hx hb (0) dX9_fees_17 (by decide) (fun x14 h15 => ?_)
    refine ty_iconst hx hb (2) dX9_fees_18 (by decide) (fun x16 h17 => ?_)
    refine cI (va_runS (As := [.int p2, .int x14, .int x16]) (rest := []) ⟨hx, hb, hml, hown, hA⟩ (k_X9_within l dC dI dA sz X Γ hU (gs g 100 0 x1.toInt) p2 x14 x16   ) ⟨callB_of 3 hA (al_A wd_5_42) rfl rfl rfl (hA _ wd_1_7) (hA _ wd_5_40) (by decide +kernel) ⟨Nat.le_of_ble_eq_true rfl, Nat.le_of_ble_eq_true rfl⟩, hA _ wd_5_41⟩ ⟨bl, fun U hU9 hW9 => ⟨rfl, by rw [hU9]; exact hG, hE.go hS hU9 hW9⟩⟩ rfl rfl hl.1 rfl (lv_room (Nat.le_of_ble_eq_true rfl)) dX9_fees_19 ⟨Nat.zero_le _, Nat.zero_le _⟩) hS (fun x20 u18 H locs w19 hG hS => ?_)
    obtain ⟨eu21, w19⟩ := w19
    rw [eu21] at hG
    refine ty_if_ne (tgt := 27) hx hb dX9_fees_22 (by decide) (fun c22 => ?_) (fun c22 => ?_)
    · skip
      refine ty_iconst hx hb (0) dX9_fees_27 (by decide) (fun x23 h24 => ?_)
      refine lv_istore_n (lv' := [(3, .int x23), (0, .ref h0), (1, .int p1), (2, .int p2)]) hx hb dX9_fees_28 rfl hl (by decide) rfl (fun ls hl => ?_)
      refine lv_iload_n hx hb dX9_fees_29 rfl (lv_at hl 0 rfl) ?_
      refine lv_aload_n hx hb dX9_fees_30 rfl (lv_at hl 1 rfl) ?_
      refine get_X9_4 hx hb hA hown hE hG t_h0 wd_4_138 dX9_fees_31 (fun x25 h26 => ?_)
      have h26 : x25.toInt = g 104 0 := by rw [h26]; simp [gs]
      refine ty_icmp_ge (tgt := 62) hx hb dX9_fees_34 (by decide) (fun c28 => ?_) (fun c28 => ?_)
      · skip
        refine ty_iconst hx hb (0) dX9_fees_62 (by decide) (fun x29 h30 => ?_)
        refine lv_istore_n (lv' := [(3, .int x29), (0, .ref h0), (1, .int p1), (2, .int p2)]) hx hb dX9_fees_63 rfl hl (by decide) rfl (fun ls hl => ?_)
        refine ty_iconst hx hb (0) dX9_fees_64 (by decide) (fun x31 h32 => ?_)
        refine lv_istore (lv' := [(4, .int x31), (3, .int x29), (0, .ref h0), (1, .int p1), (2, .int p2)]) hx hb dX9_fees_65 hl (by decide) rfl (fun ls hl => ?_)
        refine ty_iconst hx hb (1) dX9_fees_67 (by decide) (fun x33 h34 => ?_)
        refine lv_istore (lv' := [(5, .int x33), (4, .int x31), (3, .int x29), (0, .ref h0), (1, .int p1), (2, .int p2)]) hx hb dX9_fees_68 hl (by decide) rfl (fun ls hl => ?_)
        refine lv_iload hx hb dX9_fees_70 (lv_at hl 0 rfl) ?_
        refine ty_if_eq (tgt := 169) hx hb dX9_fees_72 (by decide) (fun c35 => ?_) (fun c35 => ?_)
        · exfalso; omega
        · skip
          refine lv_aload_n hx hb dX9_fees_75 rfl (lv_at hl 3 rfl) ?_
          have e36 : (gs g 100 0 x1.toInt) 104 0 = g 104 0 := by simp [gs]
          refine cI (va_runV (C := RX9) (As := []) (rest := []) ⟨hx, hb, hml, hown, hA⟩ (f_X9_weeksThatStay l dC dI dA sz X Γ hU (gs g 100 0 x1.toInt) h0 t_h0   (by omega)) ⟨callB_of 0 hA (al_A wd_5_226) rfl rfl rfl (hA _ wd_1_7) (hA _ wd_5_223) (by decide +kernel) ⟨Nat.le_of_ble_eq_true rfl, Nat.le_of_ble_eq_true rfl⟩, hA _ wd_5_225, hA _ ws_58⟩ ⟨bl, recv_X9 hE hG t_h0, fun U hU9 hW9 => ⟨rfl, by rw [hU9]; exact hG, hE.go hS hU9 hW9⟩⟩ rfl rfl hl.1 rfl (lv_room (Nat.le_of_ble_eq_true rfl)) dX9_fees_76 ⟨Nat.zero_le _, Nat.zero_le _⟩) hS (fun x39 u37 H locs w38 hG hS => ?_)
          obtain ⟨eu40, w38⟩ := w38
          rw [eu40] at hG
          refine lv_istore (lv' := [(6, .int x39), (5, .int x33), (4, .int x31), (3, .int x29), (0, .ref h0), (1, .int p1), (2, .int p2)]) hx hb dX9_fees_79 hl (by decide) rfl (fun ls hl => ?_)
          refine lv_iload hx hb dX9_fees_81 (lv_at hl 0 rfl) ?_
          refine ty_if_ne (tgt := 90) hx hb dX9_fees_83 (by decide) (fun c41 => ?_) (fun c41 => ?_)
          · exfalso; omega
          · skip
            refine ty_iconst hx hb (0) dX9_fees_86 (by decide) (fun x42 h43 => ?_)
            refine lv_goto (tgt := 99) hx hb dX9_fees_87 (by decide) ?_
            refine lv_istore (lv' := [(4, .int x42), (6, .int x39), (5, .int x33), (3, .int x29), (0, .ref h0), (1, .int p1), (2, .int p2)]) hx hb dX9_fees_99 hl (by decide) rfl (fun ls hl => ?_)
            refine ty_iconst hx hb (0) dX9_fees_101 (by decide) (fun x44 h45 => ?_)
            refine lv_istore (lv' := [(5, .int x44), (4, .int x42), (6, .int x39), (3, .int x29), (0, .ref h0), (1, .int p1), (2, .int p2)]) hx hb dX9_fees_102 hl (by decide) rfl (fun ls hl => ?_)
            refine ty_iconst hx hb (0) dX9_fees_104 (by decide) (fun x46 h47 => ?_)
            refine lv_istore (lv' := [(7, .int x46), (5, .int x44), (4, .int x42), (6, .int x39), (3, .int x29), (0, .ref h0), (1, .int p1), (2, .int p2)]) hx hb dX9_fees_105 hl (by decide) rfl (fun ls hl => ?_)
            refine lv_iload hx hb dX9_fees_107 (lv_at hl 0 rfl) ?_
            refine lv_aload_n hx hb dX9_fees_109 rfl (lv_at hl 5 rfl) ?_
            refine get_X9_4 hx hb hA hown hE hG t_h0 wd_4_138 dX9_fees_110 (fun x48 h49 => ?_)
            have h49 : x48.toInt = g 104 0 := by rw [h49]; simp [gs]
            refine ty_icmp_ge (tgt := 158) hx hb dX9_fees_113 (by decide) (fun c51 => ?_) (fun c51 => ?_)
            · skip
              refine lv_iload hx hb dX9_fees_158 (lv_at hl 1 rfl) ?_
              refine ty_if_eq (tgt := 166) hx hb dX9_fees_160 (by decide) (fun c52 => ?_) (fun c52 => ?_)
              · skip
                refine lv_goto (tgt := 70) hx hb dX9_fees_166 (by decide) ?_
                refine lv_iload hx hb dX9_fees_70 (lv_at hl 1 rfl) ?_
                refine ty_if_eq (tgt := 169) hx hb dX9_fees_72 (by decide) (fun c53 => ?_) (fun c53 => ?_)
                · skip
                  refine ty_iconst hx hb (0) dX9_fees_169 (by decide) (fun x54 h55 => ?_)
                  refine lv_istore (lv' := [(6, .int x54), (7, .int x46), (5, .int x44), (4, .int x42), (3, .int x29), (0, .ref h0), (1, .int p1), (2, .int p2)]) hx hb dX9_fees_170 hl (by decide) rfl (fun ls hl => ?_)
                  refine ty_iconst hx hb (0) dX9_fees_172 (by decide) (fun x56 h57 => ?_)
                  refine lv_istore (lv' := [(7, .int x56), (6, .int x54), (5, .int x44), (4, .int x42), (3, .int x29), (0, .ref h0), (1, .int p1), (2, .int p2)]) hx hb dX9_fees_173 hl (by decide) rfl (fun ls hl => ?_)
                  refine lv_iload hx hb dX9_fees_175 (lv_at hl 0 rfl) ?_
                  refine lv_aload_n hx hb dX9_fees_177 rfl (lv_at hl 5 rfl) ?_
                  refine get_X9_4 hx hb hA hown hE hG t_h0 wd_4_138 dX9_fees_178 (fun x58 h59 => ?_)
                  have h59 : x58.toInt = g 104 0 := by rw [h59]; simp [gs]
                  refine ty_icmp_ge (tgt := 203) hx hb dX9_fees_181 (by decide) (fun c61 => ?_) (fun c61 => ?_)
                  · skip
                    refine lv_iload_n hx hb dX9_fees_203 rfl (lv_at hl 7 rfl) ?_
                    refine ty_if_ne (tgt := 212) hx hb dX9_fees_204 (by decide) (fun c62 => ?_) (fun c62 => ?_)
                    · skip
                      refine lv_iload_n hx hb dX9_fees_212 rfl (lv_at hl 7 rfl) ?_
                      refine ty_iconst hx hb (1) dX9_fees_213 (by decide) (fun x63 h64 => ?_)
                      refine ty_icmp_ne (tgt := 221) hx hb dX9_fees_214 (by decide) (fun c65 => ?_) (fun c65 => ?_)
                      · skip
                        refine lv_iload hx hb dX9_fees_221 (lv_at hl 1 rfl) ?_
                        exact W.iret (v := x54) hx hb hr (fun t ht hW => ⟨⟨x54, (gs g 100 0 x1.toInt), rfl, ⟨(fun c j h100 => by rw [gs_c _ _ _ _ h100]), (by omega)⟩, ok1 ht hG⟩, hS.F ht⟩) hS.2.2 dX9_fees_223
                      · skip
                        refine lv_iload_n hx hb dX9_fees_217 rfl (lv_at hl 4 rfl) ?_
                        refine lv_goto (tgt := 223) hx hb dX9_fees_218 (by decide) ?_
                        exact W.iret (v := x29) hx hb hr (fun t ht hW => ⟨⟨x29, (gs g 100 0 x1.toInt), rfl, ⟨(fun c j h100 => by rw [gs_c _ _ _ _ h100]), (by omega)⟩, ok1 ht hG⟩, hS.F ht⟩) hS.2.2 dX9_fees_223
                    · skip
                      refine lv_iload hx hb dX9_fees_207 (lv_at hl 3 rfl) ?_
                      refine lv_goto (tgt := 223) hx hb dX9_fees_209 (by decide) ?_
                      exact W.iret (v := x42) hx hb hr (fun t ht hW => ⟨⟨x42, (gs g 100 0 x1.toInt), rfl, ⟨(fun c j h100 => by rw [gs_c _ _ _ _ h100]), (by omega)⟩, ok1 ht hG⟩, hS.F ht⟩) hS.2.2 dX9_fees_223
                  · exfalso; omega
                · exfalso; omega
              · exfalso; omega
            · exfalso; omega
      · exfalso; omega
    · skip
      refine ty_iconst hx hb (-1) dX9_fees_25 (by decide) (fun x66 h67 => ?_)
      exact W.iret (v := x66) hx hb hr (fun t ht hW => ⟨⟨x66, (gs g 100 0 x1.toInt), rfl, ⟨(fun c j h100 => by rw [gs_c _ _ _ _ h100]), (by omega)⟩, ok1 ht hG⟩, hS.F ht⟩) hS.2.2 dX9_fees_26

set_option maxHeartbeats 4000000 in
set_option maxRecDepth 100000 in
/-- WeekBankModel.count:  -/
theorem f_X9_count (l : Launch) (dC : Nat → ClassId) (dI : Nat → Nat → Nat) (dA : Nat → ClassId) (sz : Nat) (X : va_W) (Γ : ty_G) (hU : Un Γ) (g : gh) (h0 : Nat) (t_h0 : ty Γ h0 30) (p1 : Int32) (f1 : g 101 0 = 0) (f4 : g 104 0 = 0) (f6 : g 126 0 = 0) (f2 : g 122 0 = 0 ∧ g 111 0 = 0 ∧ g 112 0 = 0 ∧ g 114 0 = 0) : Met l yX9_count (.code yX9_count cX9_count 4 (Option.some Jvm.ClassFile.FieldType.int) :: AL) ({ frames := 1, cells := 0, slots := 0, locals := 23 }) (PCx dC dI dA sz X Γ g [.ref h0, .int p1]) (va_Qi (fun (r : Int32) (u : gh) => (∀ c j : Nat, c ≠ 100 → u c j = g c j) ∧ ((0 ≤ p1.toInt ∧ p1.toInt ≤ 9 → r.toInt = 0) ∧ (¬ (0 ≤ p1.toInt ∧ p1.toInt ≤ 9) → r.toInt = -1))) (okb dC dI dA sz X Γ) (ty_A sz)) 0 0 (ty_A sz) := by
  refine Met.ofW (cc := cX9_count) (maxL := 4) (ret := (Option.some Jvm.ClassFile.FieldType.int)) (by decide) rfl ?_
  intro p e s m args below meth c s₁ B hml hv
  obtain ⟨rfl, hG, hE⟩ := hv
  have hx := B.exec
  have hb := B.bytes
  have hr := B.returns
  have hts := atoms_spec B.pre
  have hA : ∀ w ∈ AL, w.before _ s = true := fun w h => hts w (List.mem_cons_of_mem _ h)
  have hown : s.vm.findClass RX9 = some m.cls := findClass_of_methodNamed B.named
  have hlocks := B.notSynchronized
  have hS : va_S (ty_A sz) s.heap s.heap [] := va_S.rf
  have hl := lv_entry ([.ref h0, .int p1]) (n := 4) (Nat.le_of_ble_eq_true rfl)
  rw [lg_entry_eq]
  generalize (lg_sl ([.ref h0, .int p1]) ++ List.replicate (4 - (lg_sl ([.ref h0, .int p1])).length) Slot.unset).toArray = ls at hl ⊢
  have hl : lv_has ls 4 [(0, .ref h0), (1, .int p1)] := hl
  refine lv_aload_n hx hb dX9_count_0 rfl (lv_at hl 0 rfl) ?_
  refine ty_iconst hx hb (0) dX9_count_1 (by decide) (fun x1 h2 => ?_)
  refine put_X9_0 hx hb hA hown hE hG hS hU t_h0 wd_4_134 dX9_count_2 (fun H locs hG hS => ?_)
  refine ty_iconst hx hb (0) dX9_count_5 (by decide) (fun x3 h4 => ?_)
  refine lv_istore_n (lv' := [(2, .int x3), (0, .ref h0), (1, .int p1)]) hx hb dX9_count_6 rfl hl (by decide) rfl (fun ls hl => ?_)
  refine lv_iload_n hx hb dX9_count_7 rfl (lv_at hl 2 rfl) ?_
  by_cases c5 : p1.toInt < 0 ∨ 9 < p1.toInt
  · skip
    refine lv_tableOut (tgt := 146) hx hb dX9_count_8 c5 (by decide) ?_
    refine ty_iconst hx hb (-1) dX9_count_146 (by decide) (fun x6 h7 => ?_)
    exact W.iret (v := x6) hx hb hr (fun t ht hW => ⟨⟨x6, (gs g 100 0 x1.toInt), rfl, ⟨(fun c j h100 => by rw [gs_c _ _ _ _ h100]), (by omega)⟩, ok1 ht hG⟩, hS.F ht⟩) hS.2.2 dX9_count_147
  · skip
    rcases (show p1.toInt = 0 ∨ p1.toInt = 1 ∨ p1.toInt = 2 ∨ p1.toInt = 3 ∨ p1.toInt = 4 ∨ p1.toInt = 5 ∨ p1.toInt = 6 ∨ p1.toInt = 7 ∨ p1.toInt = 8 ∨ p1.toInt = 9 by omega) with q8 | q9 | q10 | q11 | q12 | q13 | q14 | q15 | q16 | q17
    · skip
      refine lv_tableIn (tgt := 64) (off := 56) hx hb dX9_count_8 (by omega) (by omega) (by rw [q8]; rfl) (by decide) ?_
      refine lv_aload_n hx hb dX9_count_64 rfl (lv_at hl 1 rfl) ?_
      refine get_X9_1 hx hb hA hown hE hG t_h0 wd_4_135 dX9_count_65 (fun x18 h19 => ?_)
      have h19 : x18.toInt = g 101 0 := by rw [h19]; simp [gs]
      exact W.iret (v := x18) hx hb hr (fun t ht hW => ⟨⟨x18, (gs g 100 0 x1.toInt), rfl, ⟨(fun c j h100 => by rw [gs_c _ _ _ _ h100]), (by omega)⟩, ok1 ht hG⟩, hS.F ht⟩) hS.2.2 dX9_count_68
    · skip
      refine lv_tableIn (tgt := 69) (off := 61) hx hb dX9_count_8 (by omega) (by omega) (by rw [q9]; rfl) (by decide) ?_
      refine lv_aload_n hx hb dX9_count_69 rfl (lv_at hl 1 rfl) ?_
      refine get_X9_4 hx hb hA hown hE hG t_h0 wd_4_138 dX9_count_70 (fun x21 h22 => ?_)
      have h22 : x21.toInt = g 104 0 := by rw [h22]; simp [gs]
      exact W.iret (v := x21) hx hb hr (fun t ht hW => ⟨⟨x21, (gs g 100 0 x1.toInt), rfl, ⟨(fun c j h100 => by rw [gs_c _ _ _ _ h100]), (by omega)⟩, ok1 ht hG⟩, hS.F ht⟩) hS.2.2 dX9_count_73
    · skip
      refine lv_tableIn (tgt := 74) (off := 66) hx hb dX9_count_8 (by omega) (by omega) (by rw [q10]; rfl) (by decide) ?_
      refine lv_aload_n hx hb dX9_count_74 rfl (lv_at hl 1 rfl) ?_
      refine get_X9_11 hx hb hA hown hE hG t_h0 wd_4_145 dX9_count_75 (fun x24 h25 => ?_)
      have h25 : x24.toInt = g 111 0 := by rw [h25]; simp [gs]
      exact W.iret (v := x24) hx hb hr (fun t ht hW => ⟨⟨x24, (gs g 100 0 x1.toInt), rfl, ⟨(fun c j h100 => by rw [gs_c _ _ _ _ h100]), (by omega)⟩, ok1 ht hG⟩, hS.F ht⟩) hS.2.2 dX9_count_78
    · skip
      refine lv_tableIn (tgt := 79) (off := 71) hx hb dX9_count_8 (by omega) (by omega) (by rw [q11]; rfl) (by decide) ?_
      refine lv_aload_n hx hb dX9_count_79 rfl (lv_at hl 1 rfl) ?_
      refine get_X9_12 hx hb hA hown hE hG t_h0 wd_4_146 dX9_count_80 (fun x27 h28 => ?_)
      have h28 : x27.toInt = g 112 0 := by rw [h28]; simp [gs]
      exact W.iret (v := x27) hx hb hr (fun t ht hW => ⟨⟨x27, (gs g 100 0 x1.toInt), rfl, ⟨(fun c j h100 => by rw [gs_c _ _ _ _ h100]), (by omega)⟩, ok1 ht hG⟩, hS.F ht⟩) hS.2.2 dX9_count_83
    · skip
      refine lv_tableIn (tgt := 84) (off := 76) hx hb dX9_count_8 (by omega) (by omega) (by rw [q12]; rfl) (by decide) ?_
      refine lv_aload_n hx hb dX9_count_84 rfl (lv_at hl 1 rfl) ?_
      refine get_X9_26 hx hb hA hown hE hG t_h0 wd_4_160 dX9_count_85 (fun x30 h31 => ?_)
      have h31 : x30.toInt = g 126 0 := by rw [h31]; simp [gs]
      exact W.iret (v := x30) hx hb hr (fun t ht hW => ⟨⟨x30, (gs g 100 0 x1.toInt), rfl, ⟨(fun c j h100 => by rw [gs_c _ _ _ _ h100]), (by omega)⟩, ok1 ht hG⟩, hS.F ht⟩) hS.2.2 dX9_count_88
    · skip
      refine lv_tableIn (tgt := 89) (off := 81) hx hb dX9_count_8 (by omega) (by omega) (by rw [q13]; rfl) (by decide) ?_
      refine lv_aload_n hx hb dX9_count_89 rfl (lv_at hl 1 rfl) ?_
      refine ty_iconst hx hb (0) dX9_count_90 (by decide) (fun x33 h34 => ?_)
      have e35 : (gs g 100 0 x1.toInt) 126 0 = g 126 0 := by simp [gs]
      refine cI (va_runV (C := RX9) (As := [.int x33]) (rest := []) ⟨hx, hb, hml, hown, hA⟩ (f_X9_many l dC dI dA sz X Γ hU (gs g 100 0 x1.toInt) h0 t_h0 x33   (by omega)) ⟨callB_of 1 hA (al_A wd_5_132) rfl rfl rfl (hA _ wd_1_7) (hA _ wd_5_129) (by decide +kernel) ⟨Nat.le_of_ble_eq_true rfl, Nat.le_of_ble_eq_true rfl⟩, hA _ wd_5_131, hA _ ws_46⟩ ⟨bl, recv_X9 hE hG t_h0, fun U hU9 hW9 => ⟨rfl, by rw [hU9]; exact hG, hE.go hS hU9 hW9⟩⟩ rfl rfl hl.1 rfl (lv_room (Nat.le_of_ble_eq_true rfl)) dX9_count_91 ⟨Nat.zero_le _, Nat.zero_le _⟩) hS (fun x38 u36 H locs w37 hG hS => ?_)
      obtain ⟨eu39, w37⟩ := w37
      rw [eu39] at hG
      exact W.iret (v := x38) hx hb hr (fun t ht hW => ⟨⟨x38, (gs g 100 0 x1.toInt), rfl, ⟨(fun c j h100 => by rw [gs_c _ _ _ _ h100]), (by omega)⟩, ok1 ht hG⟩, hS.F ht⟩) hS.2.2 dX9_count_94
    · skip
      refine lv_tableIn (tgt := 95) (off := 87) hx hb dX9_count_8 (by omega) (by omega) (by rw [q14]; rfl) (by decide) ?_
      refine lv_aload_n hx hb dX9_count_95 rfl (lv_at hl 1 rfl) ?_
      refine ty_iconst hx hb (2) dX9_count_96 (by decide) (fun x40 h41 => ?_)
      have e42 : (gs g 100 0 x1.toInt) 126 0 = g 126 0 := by simp [gs]
      refine cI (va_runV (C := RX9) (As := [.int x40]) (rest := []) ⟨hx, hb, hml, hown, hA⟩ (f_X9_many l dC dI dA sz X Γ hU (gs g 100 0 x1.toInt) h0 t_h0 x40   (by omega)) ⟨callB_of 1 hA (al_A wd_5_132) rfl rfl rfl (hA _ wd_1_7) (hA _ wd_5_129) (by decide +kernel) ⟨Nat.le_of_ble_eq_true rfl, Nat.le_of_ble_eq_true rfl⟩, hA _ wd_5_131, hA _ ws_46⟩ ⟨bl, recv_X9 hE hG t_h0, fun U hU9 hW9 => ⟨rfl, by rw [hU9]; exact hG, hE.go hS hU9 hW9⟩⟩ rfl rfl hl.1 rfl (lv_room (Nat.le_of_ble_eq_true rfl)) dX9_count_97 ⟨Nat.zero_le _, Nat.zero_le _⟩) hS (fun x45 u43 H locs w44 hG hS => ?_)
      obtain ⟨eu46, w44⟩ := w44
      rw [eu46] at hG
      exact W.iret (v := x45) hx hb hr (fun t ht hW => ⟨⟨x45, (gs g 100 0 x1.toInt), rfl, ⟨(fun c j h100 => by rw [gs_c _ _ _ _ h100]), (by omega)⟩, ok1 ht hG⟩, hS.F ht⟩) hS.2.2 dX9_count_100
    · skip
      refine lv_tableIn (tgt := 101) (off := 93) hx hb dX9_count_8 (by omega) (by omega) (by rw [q15]; rfl) (by decide) ?_
      refine lv_aload_n hx hb dX9_count_101 rfl (lv_at hl 1 rfl) ?_
      refine get_X9_14 hx hb hA hown hE hG t_h0 wd_4_148 dX9_count_102 (fun x47 h48 => ?_)
      have h48 : x47.toInt = g 114 0 := by rw [h48]; simp [gs]
      exact W.iret (v := x47) hx hb hr (fun t ht hW => ⟨⟨x47, (gs g 100 0 x1.toInt), rfl, ⟨(fun c j h100 => by rw [gs_c _ _ _ _ h100]), (by omega)⟩, ok1 ht hG⟩, hS.F ht⟩) hS.2.2 dX9_count_105
    · skip
      refine lv_tableIn (tgt := 106) (off := 98) hx hb dX9_count_8 (by omega) (by omega) (by rw [q16]; rfl) (by decide) ?_
      refine lv_aload_n hx hb dX9_count_106 rfl (lv_at hl 1 rfl) ?_
      have e50 : (gs g 100 0 x1.toInt) 122 0 = g 122 0 := by simp [gs]
      refine cI (va_runV (C := RX9) (As := []) (rest := []) ⟨hx, hb, hml, hown, hA⟩ (f_X9_isBound l dC dI dA sz X Γ hU (gs g 100 0 x1.toInt) h0 t_h0   (by omega)) ⟨callB_of 0 hA (al_A wd_5_213) rfl rfl rfl (hA _ wd_1_7) (hA _ wd_5_210) (by decide +kernel) ⟨Nat.le_of_ble_eq_true rfl, Nat.le_of_ble_eq_true rfl⟩, hA _ wd_5_212, hA _ ws_56⟩ ⟨bl, recv_X9 hE hG t_h0, fun U hU9 hW9 => ⟨rfl, by rw [hU9]; exact hG, hE.go hS hU9 hW9⟩⟩ rfl rfl hl.1 rfl (lv_room (Nat.le_of_ble_eq_true rfl)) dX9_count_107 ⟨Nat.zero_le _, Nat.zero_le _⟩) hS (fun x53 u51 H locs w52 hG hS => ?_)
      obtain ⟨eu54, w52⟩ := w52
      rw [eu54] at hG
      refine ty_if_eq (tgt := 117) hx hb dX9_count_110 (by decide) (fun c55 => ?_) (fun c55 => ?_)
      · skip
        refine ty_iconst hx hb (0) dX9_count_117 (by decide) (fun x56 h57 => ?_)
        exact W.iret (v := x56) hx hb hr (fun t ht hW => ⟨⟨x56, (gs g 100 0 x1.toInt), rfl, ⟨(fun c j h100 => by rw [gs_c _ _ _ _ h100]), (by omega)⟩, ok1 ht hG⟩, hS.F ht⟩) hS.2.2 dX9_count_118
      · skip
        refine ty_iconst hx hb (1) dX9_count_113 (by decide) (fun x58 h59 => ?_)
        refine lv_goto (tgt := 118) hx hb dX9_count_114 (by decide) ?_
        exact W.iret (v := x58) hx hb hr (fun t ht hW => ⟨⟨x58, (gs g 100 0 x1.toInt), rfl, ⟨(fun c j h100 => by rw [gs_c _ _ _ _ h100]), (by omega)⟩, ok1 ht hG⟩, hS.F ht⟩) hS.2.2 dX9_count_118
    · skip
      refine lv_tableIn (tgt := 119) (off := 111) hx hb dX9_count_8 (by omega) (by omega) (by rw [q17]; rfl) (by decide) ?_
      refine ty_iconst hx hb (0) dX9_count_119 (by decide) (fun x60 h61 => ?_)
      refine lv_istore_n (lv' := [(3, .int x60), (2, .int x3), (0, .ref h0), (1, .int p1)]) hx hb dX9_count_120 rfl hl (by decide) rfl (fun ls hl => ?_)
      refine lv_iload_n hx hb dX9_count_121 rfl (lv_at hl 0 rfl) ?_
      refine lv_aload_n hx hb dX9_count_122 rfl (lv_at hl 2 rfl) ?_
      refine get_X9_4 hx hb hA hown hE hG t_h0 wd_4_138 dX9_count_123 (fun x62 h63 => ?_)
      have h63 : x62.toInt = g 104 0 := by rw [h63]; simp [gs]
      refine ty_icmp_ge (tgt := 144) hx hb dX9_count_126 (by decide) (fun c65 => ?_) (fun c65 => ?_)
      · skip
        refine lv_iload_n hx hb dX9_count_144 rfl (lv_at hl 1 rfl) ?_
        exact W.iret (v := x3) hx hb hr (fun t ht hW => ⟨⟨x3, (gs g 100 0 x1.toInt), rfl, ⟨(fun c j h100 => by rw [gs_c _ _ _ _ h100]), (by omega)⟩, ok1 ht hG⟩, hS.F ht⟩) hS.2.2 dX9_count_145
      · exfalso; omega
