theorem shl0 {x y z : Int32} (h : z = x <<< (y &&& 31)) (hx : x.toInt = 1) (hy : y.toInt = 0) : z.toInt = 1 := by
  obtain rfl : x = 1 := ty_eq32.mpr hx
  obtain rfl : y = 0 := ty_eq32.mpr hy
  rw [h]; decide
theorem shr0 {x y z : Int32} (h : z = x >>> (y &&& 31)) (hx : x.toInt = 0) : z.toInt = 0 := by
  obtain rfl : x = 0 := ty_eq32.mpr hx
  rw [h, Int32.zero_shiftRight]; rfl
theorem and0 {x y z : Int32} (h : z = x &&& y) (hx : x.toInt = 0) : z.toInt = 0 := by
  obtain rfl : x = 0 := ty_eq32.mpr hx
  rw [h, Int32.zero_and]; rfl

set_option maxHeartbeats 4000000 in
set_option maxRecDepth 100000 in
/-- WeekBank.flatAt:  -/
theorem f_X8_flatAt (l : Launch) (dC : Nat → ClassId) (dI : Nat → Nat → Nat) (dA : Nat → ClassId) (sz : Nat) (X : va_W) (Γ : ty_G) (hU : Un Γ) (g : gh) (h0 : Nat) (t_h0 : ty Γ h0 1) (p1 : Int32) (f1 : g 1 0 = 0) : Met l yX8_flatAt (.code yX8_flatAt cX8_flatAt 2 (Option.some (Jvm.ClassFile.FieldType.object "WeekBank$Flat")) :: AL) ({ frames := 0, cells := 0, slots := 0, locals := 0 }) (PCx dC dI dA sz X Γ g [.ref h0, .int p1]) (va_Qq (fun (r : Option Nat) (u : gh) => (∀ b, r = some b → (Γ b).1 = 2) ∧ u = g ∧ ((r = none))) (okb dC dI dA sz X Γ) (ty_A sz)) 0 0 (ty_A sz) := by
  refine Met.ofW (cc := cX8_flatAt) (maxL := 2) (ret := (Option.some (Jvm.ClassFile.FieldType.object "WeekBank$Flat"))) (by decide) rfl ?_
  intro p e s m args below meth c s₁ B hml hv
  obtain ⟨rfl, hG, hE⟩ := hv
  have hx := B.exec
  have hb := B.bytes
  have hr := B.returns
  have hts := atoms_spec B.pre
  have hA : ∀ w ∈ AL, w.before _ s = true := fun w h => hts w (List.mem_cons_of_mem _ h)
  have hown : s.vm.findClass RX8 = some m.cls := findClass_of_methodNamed B.named
  have hlocks := B.notSynchronized
  have hS : va_S (ty_A sz) s.heap s.heap [] := va_S.rf
  have hl := lv_entry ([.ref h0, .int p1]) (n := 2) (Nat.le_of_ble_eq_true rfl)
  rw [lg_entry_eq]
  generalize (lg_sl ([.ref h0, .int p1]) ++ List.replicate (2 - (lg_sl ([.ref h0, .int p1])).length) Slot.unset).toArray = ls at hl ⊢
  have hl : lv_has ls 2 [(0, .ref h0), (1, .int p1)] := hl
  refine lv_iload_n hx hb dX8_flatAt_0 rfl (lv_at hl 1 rfl) ?_
  refine ty_if_lt (tgt := 21) hx hb dX8_flatAt_1 (by decide) (fun c1 => ?_) (fun c1 => ?_)
  · skip
    refine lv_null hx hb dX8_flatAt_21 ?_
    exact W.aret (v := va_rf (none)) hx hb hr (Or.inl ⟨_, rfl⟩) (va_rf_or _) (fun t ht hW => ⟨⟨none, g, rfl, ⟨(fun _ h => by cases h), ⟨rfl, (rfl)⟩⟩, ok1 ht hG⟩, hS.F ht⟩) hS.2.2 dX8_flatAt_22
  · skip
    refine lv_iload_n hx hb dX8_flatAt_4 rfl (lv_at hl 1 rfl) ?_
    refine lv_aload_n hx hb dX8_flatAt_5 rfl (lv_at hl 0 rfl) ?_
    refine get_X8_1 hx hb hA hown hE hG t_h0 wd_1_158 dX8_flatAt_6 (fun x2 h3 => ?_)
    refine ty_icmp_ge (tgt := 21) hx hb dX8_flatAt_9 (by decide) (fun c5 => ?_) (fun c5 => ?_)
    · skip
      refine lv_null hx hb dX8_flatAt_21 ?_
      exact W.aret (v := va_rf (none)) hx hb hr (Or.inl ⟨_, rfl⟩) (va_rf_or _) (fun t ht hW => ⟨⟨none, g, rfl, ⟨(fun _ h => by cases h), ⟨rfl, (rfl)⟩⟩, ok1 ht hG⟩, hS.F ht⟩) hS.2.2 dX8_flatAt_22
    · exfalso; omega

set_option maxHeartbeats 4000000 in
set_option maxRecDepth 100000 in
/-- WeekBank.ownerAt:  -/
theorem f_X8_ownerAt (l : Launch) (dC : Nat → ClassId) (dI : Nat → Nat → Nat) (dA : Nat → ClassId) (sz : Nat) (X : va_W) (Γ : ty_G) (hU : Un Γ) (g : gh) (h0 : Nat) (t_h0 : ty Γ h0 1) (p1 : Int32) (f2 : g 2 0 = 0) : Met l yX8_ownerAt (.code yX8_ownerAt cX8_ownerAt 2 (Option.some (Jvm.ClassFile.FieldType.object "WeekBank$Owner")) :: AL) ({ frames := 0, cells := 0, slots := 0, locals := 0 }) (PCx dC dI dA sz X Γ g [.ref h0, .int p1]) (va_Qq (fun (r : Option Nat) (u : gh) => (∀ b, r = some b → (Γ b).1 = 3) ∧ u = g ∧ ((r = none))) (okb dC dI dA sz X Γ) (ty_A sz)) 0 0 (ty_A sz) := by
  refine Met.ofW (cc := cX8_ownerAt) (maxL := 2) (ret := (Option.some (Jvm.ClassFile.FieldType.object "WeekBank$Owner"))) (by decide) rfl ?_
  intro p e s m args below meth c s₁ B hml hv
  obtain ⟨rfl, hG, hE⟩ := hv
  have hx := B.exec
  have hb := B.bytes
  have hr := B.returns
  have hts := atoms_spec B.pre
  have hA : ∀ w ∈ AL, w.before _ s = true := fun w h => hts w (List.mem_cons_of_mem _ h)
  have hown : s.vm.findClass RX8 = some m.cls := findClass_of_methodNamed B.named
  have hlocks := B.notSynchronized
  have hS : va_S (ty_A sz) s.heap s.heap [] := va_S.rf
  have hl := lv_entry ([.ref h0, .int p1]) (n := 2) (Nat.le_of_ble_eq_true rfl)
  rw [lg_entry_eq]
  generalize (lg_sl ([.ref h0, .int p1]) ++ List.replicate (2 - (lg_sl ([.ref h0, .int p1])).length) Slot.unset).toArray = ls at hl ⊢
  have hl : lv_has ls 2 [(0, .ref h0), (1, .int p1)] := hl
  refine lv_iload_n hx hb dX8_ownerAt_0 rfl (lv_at hl 1 rfl) ?_
  refine ty_if_lt (tgt := 21) hx hb dX8_ownerAt_1 (by decide) (fun c1 => ?_) (fun c1 => ?_)
  · skip
    refine lv_null hx hb dX8_ownerAt_21 ?_
    exact W.aret (v := va_rf (none)) hx hb hr (Or.inl ⟨_, rfl⟩) (va_rf_or _) (fun t ht hW => ⟨⟨none, g, rfl, ⟨(fun _ h => by cases h), ⟨rfl, (rfl)⟩⟩, ok1 ht hG⟩, hS.F ht⟩) hS.2.2 dX8_ownerAt_22
  · skip
    refine lv_iload_n hx hb dX8_ownerAt_4 rfl (lv_at hl 1 rfl) ?_
    refine lv_aload_n hx hb dX8_ownerAt_5 rfl (lv_at hl 0 rfl) ?_
    refine get_X8_3 hx hb hA hown hE hG t_h0 wd_1_160 dX8_ownerAt_6 (fun x2 h3 => ?_)
    refine ty_icmp_ge (tgt := 21) hx hb dX8_ownerAt_9 (by decide) (fun c5 => ?_) (fun c5 => ?_)
    · skip
      refine lv_null hx hb dX8_ownerAt_21 ?_
      exact W.aret (v := va_rf (none)) hx hb hr (Or.inl ⟨_, rfl⟩) (va_rf_or _) (fun t ht hW => ⟨⟨none, g, rfl, ⟨(fun _ h => by cases h), ⟨rfl, (rfl)⟩⟩, ok1 ht hG⟩, hS.F ht⟩) hS.2.2 dX8_ownerAt_22
    · exfalso; omega

set_option maxHeartbeats 4000000 in
set_option maxRecDepth 100000 in
/-- WeekBank.giftAt:  -/
theorem f_X8_giftAt (l : Launch) (dC : Nat → ClassId) (dI : Nat → Nat → Nat) (dA : Nat → ClassId) (sz : Nat) (X : va_W) (Γ : ty_G) (hU : Un Γ) (g : gh) (h0 : Nat) (t_h0 : ty Γ h0 1) (p1 : Int32) (f3 : g 3 0 = 0) : Met l yX8_giftAt (.code yX8_giftAt cX8_giftAt 2 (Option.some (Jvm.ClassFile.FieldType.object "WeekBank$Gift")) :: AL) ({ frames := 0, cells := 0, slots := 0, locals := 0 }) (PCx dC dI dA sz X Γ g [.ref h0, .int p1]) (va_Qq (fun (r : Option Nat) (u : gh) => (∀ b, r = some b → (Γ b).1 = 4) ∧ u = g ∧ ((r = none))) (okb dC dI dA sz X Γ) (ty_A sz)) 0 0 (ty_A sz) := by
  refine Met.ofW (cc := cX8_giftAt) (maxL := 2) (ret := (Option.some (Jvm.ClassFile.FieldType.object "WeekBank$Gift"))) (by decide) rfl ?_
  intro p e s m args below meth c s₁ B hml hv
  obtain ⟨rfl, hG, hE⟩ := hv
  have hx := B.exec
  have hb := B.bytes
  have hr := B.returns
  have hts := atoms_spec B.pre
  have hA : ∀ w ∈ AL, w.before _ s = true := fun w h => hts w (List.mem_cons_of_mem _ h)
  have hown : s.vm.findClass RX8 = some m.cls := findClass_of_methodNamed B.named
  have hlocks := B.notSynchronized
  have hS : va_S (ty_A sz) s.heap s.heap [] := va_S.rf
  have hl := lv_entry ([.ref h0, .int p1]) (n := 2) (Nat.le_of_ble_eq_true rfl)
  rw [lg_entry_eq]
  generalize (lg_sl ([.ref h0, .int p1]) ++ List.replicate (2 - (lg_sl ([.ref h0, .int p1])).length) Slot.unset).toArray = ls at hl ⊢
  have hl : lv_has ls 2 [(0, .ref h0), (1, .int p1)] := hl
  refine lv_iload_n hx hb dX8_giftAt_0 rfl (lv_at hl 1 rfl) ?_
  refine ty_if_lt (tgt := 21) hx hb dX8_giftAt_1 (by decide) (fun c1 => ?_) (fun c1 => ?_)
  · skip
    refine lv_null hx hb dX8_giftAt_21 ?_
    exact W.aret (v := va_rf (none)) hx hb hr (Or.inl ⟨_, rfl⟩) (va_rf_or _) (fun t ht hW => ⟨⟨none, g, rfl, ⟨(fun _ h => by cases h), ⟨rfl, (rfl)⟩⟩, ok1 ht hG⟩, hS.F ht⟩) hS.2.2 dX8_giftAt_22
  · skip
    refine lv_iload_n hx hb dX8_giftAt_4 rfl (lv_at hl 1 rfl) ?_
    refine lv_aload_n hx hb dX8_giftAt_5 rfl (lv_at hl 0 rfl) ?_
    refine get_X8_5 hx hb hA hown hE hG t_h0 wd_1_162 dX8_giftAt_6 (fun x2 h3 => ?_)
    refine ty_icmp_ge (tgt := 21) hx hb dX8_giftAt_9 (by decide) (fun c5 => ?_) (fun c5 => ?_)
    · skip
      refine lv_null hx hb dX8_giftAt_21 ?_
      exact W.aret (v := va_rf (none)) hx hb hr (Or.inl ⟨_, rfl⟩) (va_rf_or _) (fun t ht hW => ⟨⟨none, g, rfl, ⟨(fun _ h => by cases h), ⟨rfl, (rfl)⟩⟩, ok1 ht hG⟩, hS.F ht⟩) hS.2.2 dX8_giftAt_22
    · exfalso; omega

set_option maxHeartbeats 4000000 in
set_option maxRecDepth 100000 in
/-- WeekBank.livingOwnerAt:  -/
theorem f_X8_livingOwnerAt (l : Launch) (dC : Nat → ClassId) (dI : Nat → Nat → Nat) (dA : Nat → ClassId) (sz : Nat) (X : va_W) (Γ : ty_G) (hU : Un Γ) (g : gh) (h0 : Nat) (t_h0 : ty Γ h0 1) (p1 : Int32) (f2 : g 2 0 = 0) : Met l yX8_livingOwnerAt (.code yX8_livingOwnerAt cX8_livingOwnerAt 3 (Option.some (Jvm.ClassFile.FieldType.object "WeekBank$Owner")) :: AL) ({ frames := 1, cells := 0, slots := 0, locals := 21 }) (PCx dC dI dA sz X Γ g [.ref h0, .int p1]) (va_Qq (fun (r : Option Nat) (u : gh) => (∀ b, r = some b → (Γ b).1 = 3) ∧ u = g ∧ ((r = none))) (okb dC dI dA sz X Γ) (ty_A sz)) 0 0 (ty_A sz) := by
  refine Met.ofW (cc := cX8_livingOwnerAt) (maxL := 3) (ret := (Option.some (Jvm.ClassFile.FieldType.object "WeekBank$Owner"))) (by decide) rfl ?_
  intro p e s m args below meth c s₁ B hml hv
  obtain ⟨rfl, hG, hE⟩ := hv
  have hx := B.exec
  have hb := B.bytes
  have hr := B.returns
  have hts := atoms_spec B.pre
  have hA : ∀ w ∈ AL, w.before _ s = true := fun w h => hts w (List.mem_cons_of_mem _ h)
  have hown : s.vm.findClass RX8 = some m.cls := findClass_of_methodNamed B.named
  have hlocks := B.notSynchronized
  have hS : va_S (ty_A sz) s.heap s.heap [] := va_S.rf
  have hl := lv_entry ([.ref h0, .int p1]) (n := 3) (Nat.le_of_ble_eq_true rfl)
  rw [lg_entry_eq]
  generalize (lg_sl ([.ref h0, .int p1]) ++ List.replicate (3 - (lg_sl ([.ref h0, .int p1])).length) Slot.unset).toArray = ls at hl ⊢
  have hl : lv_has ls 3 [(0, .ref h0), (1, .int p1)] := hl
  refine lv_aload_n hx hb dX8_livingOwnerAt_0 rfl (lv_at hl 0 rfl) ?_
  refine lv_iload_n hx hb dX8_livingOwnerAt_1 rfl (lv_at hl 1 rfl) ?_
  refine cQ (va_runV (C := RX8) (As := [.int p1]) (rest := []) ⟨hx, hb, hml, hown, hA⟩ (f_X8_ownerAt l dC dI dA sz X Γ hU g h0 t_h0 p1   (by omega)) ⟨callB_of 1 hA (al_A wd_2_56) rfl rfl rfl (hA _ wd_1_1) (hA _ wd_2_53) (by decide +kernel) ⟨Nat.le_of_ble_eq_true rfl, Nat.le_of_ble_eq_true rfl⟩, hA _ wd_2_55, hA _ ws_2⟩ ⟨bl, recv_X8 hE hG t_h0, fun U hU9 hW9 => ⟨rfl, by rw [hU9]; exact hG, hE.go hS hU9 hW9⟩⟩ rfl rfl hl.1 rfl (lv_room (Nat.le_of_ble_eq_true rfl)) dX8_livingOwnerAt_2 ⟨Nat.zero_le _, Nat.zero_le _⟩) hS (fun r3 u1 H locs w2 hG hS => ?_)
  obtain ⟨t_r3, w2⟩ := w2
  obtain ⟨eu4, w2⟩ := w2
  rw [eu4] at hG
  subst w2
  refine lv_astore_nN (lv' := [(2, .null), (0, .ref h0), (1, .int p1)]) hx hb dX8_livingOwnerAt_5 rfl hl (by decide) rfl (fun ls hl => ?_)
  refine lv_aload_nN hx hb dX8_livingOwnerAt_6 rfl (lv_at hl 0 rfl) ?_
  refine lv_ifnullN (tgt := 17) hx hb dX8_livingOwnerAt_7 (by decide) ?_
  refine lv_null hx hb dX8_livingOwnerAt_17 ?_
  refine lv_goto (tgt := 22) hx hb dX8_livingOwnerAt_18 (by decide) ?_
  exact W.aret (v := va_rf (none)) hx hb hr (Or.inl ⟨_, rfl⟩) (va_rf_or _) (fun t ht hW => ⟨⟨none, g, rfl, ⟨(fun _ h => by cases h), ⟨rfl, (rfl)⟩⟩, ok1 ht hG⟩, hS.F ht⟩) hS.2.2 dX8_livingOwnerAt_22

set_option maxHeartbeats 4000000 in
set_option maxRecDepth 100000 in
/-- WeekBank.giftThatIs:  -/
theorem f_X8_giftThatIs (l : Launch) (dC : Nat → ClassId) (dI : Nat → Nat → Nat) (dA : Nat → ClassId) (sz : Nat) (X : va_W) (Γ : ty_G) (hU : Un Γ) (g : gh) (h0 : Nat) (t_h0 : ty Γ h0 1) (p1 : Int32) (p2 : Int32) (f3 : g 3 0 = 0) : Met l yX8_giftThatIs (.code yX8_giftThatIs cX8_giftThatIs 4 (Option.some (Jvm.ClassFile.FieldType.object "WeekBank$Gift")) :: AL) ({ frames := 1, cells := 0, slots := 0, locals := 21 }) (PCx dC dI dA sz X Γ g [.ref h0, .int p1, .int p2]) (va_Qq (fun (r : Option Nat) (u : gh) => (∀ b, r = some b → (Γ b).1 = 4) ∧ u = g ∧ ((r = none))) (okb dC dI dA sz X Γ) (ty_A sz)) 0 0 (ty_A sz) := by
  refine Met.ofW (cc := cX8_giftThatIs) (maxL := 4) (ret := (Option.some (Jvm.ClassFile.FieldType.object "WeekBank$Gift"))) (by decide) rfl ?_
  intro p e s m args below meth c s₁ B hml hv
  obtain ⟨rfl, hG, hE⟩ := hv
  have hx := B.exec
  have hb := B.bytes
  have hr := B.returns
  have hts := atoms_spec B.pre
  have hA : ∀ w ∈ AL, w.before _ s = true := fun w h => hts w (List.mem_cons_of_mem _ h)
  have hown : s.vm.findClass RX8 = some m.cls := findClass_of_methodNamed B.named
  have hlocks := B.notSynchronized
  have hS : va_S (ty_A sz) s.heap s.heap [] := va_S.rf
  have hl := lv_entry ([.ref h0, .int p1, .int p2]) (n := 4) (Nat.le_of_ble_eq_true rfl)
  rw [lg_entry_eq]
  generalize (lg_sl ([.ref h0, .int p1, .int p2]) ++ List.replicate (4 - (lg_sl ([.ref h0, .int p1, .int p2])).length) Slot.unset).toArray = ls at hl ⊢
  have hl : lv_has ls 4 [(0, .ref h0), (1, .int p1), (2, .int p2)] := hl
  refine lv_aload_n hx hb dX8_giftThatIs_0 rfl (lv_at hl 0 rfl) ?_
  refine lv_iload_n hx hb dX8_giftThatIs_1 rfl (lv_at hl 1 rfl) ?_
  refine cQ (va_runV (C := RX8) (As := [.int p1]) (rest := []) ⟨hx, hb, hml, hown, hA⟩ (f_X8_giftAt l dC dI dA sz X Γ hU g h0 t_h0 p1   (by omega)) ⟨callB_of 1 hA (al_A wd_3_76) rfl rfl rfl (hA _ wd_1_1) (hA _ wd_3_73) (by decide +kernel) ⟨Nat.le_of_ble_eq_true rfl, Nat.le_of_ble_eq_true rfl⟩, hA _ wd_3_75, hA _ ws_18⟩ ⟨bl, recv_X8 hE hG t_h0, fun U hU9 hW9 => ⟨rfl, by rw [hU9]; exact hG, hE.go hS hU9 hW9⟩⟩ rfl rfl hl.1 rfl (lv_room (Nat.le_of_ble_eq_true rfl)) dX8_giftThatIs_2 ⟨Nat.zero_le _, Nat.zero_le _⟩) hS (fun r3 u1 H locs w2 hG hS => ?_)
  obtain ⟨t_r3, w2⟩ := w2
  obtain ⟨eu4, w2⟩ := w2
  rw [eu4] at hG
  subst w2
  refine lv_astore_nN (lv' := [(3, .null), (0, .ref h0), (1, .int p1), (2, .int p2)]) hx hb dX8_giftThatIs_5 rfl hl (by decide) rfl (fun ls hl => ?_)
  refine lv_aload_nN hx hb dX8_giftThatIs_6 rfl (lv_at hl 0 rfl) ?_
  refine lv_ifnullN (tgt := 18) hx hb dX8_giftThatIs_7 (by decide) ?_
  refine lv_null hx hb dX8_giftThatIs_18 ?_
  refine lv_goto (tgt := 23) hx hb dX8_giftThatIs_19 (by decide) ?_
  exact W.aret (v := va_rf (none)) hx hb hr (Or.inl ⟨_, rfl⟩) (va_rf_or _) (fun t ht hW => ⟨⟨none, g, rfl, ⟨(fun _ h => by cases h), ⟨rfl, (rfl)⟩⟩, ok1 ht hG⟩, hS.F ht⟩) hS.2.2 dX8_giftThatIs_23

set_option maxHeartbeats 4000000 in
set_option maxRecDepth 100000 in
/-- WeekBank.own:  -/
theorem f_X8_own (l : Launch) (dC : Nat → ClassId) (dI : Nat → Nat → Nat) (dA : Nat → ClassId) (sz : Nat) (X : va_W) (Γ : ty_G) (hU : Un Γ) (g : gh) (h0 : Nat) (t_h0 : ty Γ h0 1) (p1 : Int32) (p2 : Int32) (p3 : Int32) (f1 : g 1 0 = 0) (f2 : g 2 0 = 0) : Met l yX8_own (.code yX8_own cX8_own 7 (Option.some Jvm.ClassFile.FieldType.boolean) :: AL) ({ frames := 2, cells := 0, slots := 0, locals := 43 }) (PCx dC dI dA sz X Γ g [.ref h0, .int p1, .int p2, .int p3]) (va_Qi (fun (r : Int32) (u : gh) => u = g ∧ ((r.toInt = 0))) (okb dC dI dA sz X Γ) (ty_A sz)) 0 0 (ty_A sz) := by
  refine Met.ofW (cc := cX8_own) (maxL := 7) (ret := (Option.some Jvm.ClassFile.FieldType.boolean)) (by decide) rfl ?_
  intro p e s m args below meth c s₁ B hml hv
  obtain ⟨rfl, hG, hE⟩ := hv
  have hx := B.exec
  have hb := B.bytes
  have hr := B.returns
  have hts := atoms_spec B.pre
  have hA : ∀ w ∈ AL, w.before _ s = true := fun w h => hts w (List.mem_cons_of_mem _ h)
  have hown : s.vm.findClass RX8 = some m.cls := findClass_of_methodNamed B.named
  have hlocks := B.notSynchronized
  have hS : va_S (ty_A sz) s.heap s.heap [] := va_S.rf
  have hl := lv_entry ([.ref h0, .int p1, .int p2, .int p3]) (n := 7) (Nat.le_of_ble_eq_true rfl)
  rw [lg_entry_eq]
  generalize (lg_sl ([.ref h0, .int p1, .int p2, .int p3]) ++ List.replicate (7 - (lg_sl ([.ref h0, .int p1, .int p2, .int p3])).length) Slot.unset).toArray = ls at hl ⊢
  have hl : lv_has ls 7 [(0, .ref h0), (1, .int p1), (2, .int p2), (3, .int p3)] := hl
  refine lv_aload_n hx hb dX8_own_0 rfl (lv_at hl 0 rfl) ?_
  refine lv_iload_n hx hb dX8_own_1 rfl (lv_at hl 1 rfl) ?_
  refine cQ (va_runV (C := RX8) (As := [.int p1]) (rest := []) ⟨hx, hb, hml, hown, hA⟩ (f_X8_flatAt l dC dI dA sz X Γ hU g h0 t_h0 p1   (by omega)) ⟨callB_of 1 hA (al_A wd_2_48) rfl rfl rfl (hA _ wd_1_1) (hA _ wd_2_45) (by decide +kernel) ⟨Nat.le_of_ble_eq_true rfl, Nat.le_of_ble_eq_true rfl⟩, hA _ wd_2_47, hA _ ws_0⟩ ⟨bl, recv_X8 hE hG t_h0, fun U hU9 hW9 => ⟨rfl, by rw [hU9]; exact hG, hE.go hS hU9 hW9⟩⟩ rfl rfl hl.1 rfl (lv_room (Nat.le_of_ble_eq_true rfl)) dX8_own_2 ⟨Nat.zero_le _, Nat.zero_le _⟩) hS (fun r3 u1 H locs w2 hG hS => ?_)
  obtain ⟨t_r3, w2⟩ := w2
  obtain ⟨eu4, w2⟩ := w2
  rw [eu4] at hG
  subst w2
  refine lv_astoreN (lv' := [(4, .null), (0, .ref h0), (1, .int p1), (2, .int p2), (3, .int p3)]) hx hb dX8_own_5 hl (by decide) rfl (fun ls hl => ?_)
  refine lv_aload_n hx hb dX8_own_7 rfl (lv_at hl 1 rfl) ?_
  refine lv_iload_n hx hb dX8_own_8 rfl (lv_at hl 4 rfl) ?_
  refine cQ (va_runV (C := RX8) (As := [.int p3]) (rest := []) ⟨hx, hb, hml, hown, hA⟩ (f_X8_livingOwnerAt l dC dI dA sz X Γ hU g h0 t_h0 p3   (by omega)) ⟨callB_of 1 hA (al_A wd_2_52) rfl rfl rfl (hA _ wd_1_1) (hA _ wd_2_49) (by decide +kernel) ⟨Nat.le_of_ble_eq_true rfl, Nat.le_of_ble_eq_true rfl⟩, hA _ wd_2_51, hA _ ws_1⟩ ⟨bl, recv_X8 hE hG t_h0, fun U hU9 hW9 => ⟨rfl, by rw [hU9]; exact hG, hE.go hS hU9 hW9⟩⟩ rfl rfl hl.1 rfl (lv_room (Nat.le_of_ble_eq_true rfl)) dX8_own_9 ⟨Nat.zero_le _, Nat.zero_le _⟩) hS (fun r7 u5 H locs w6 hG hS => ?_)
  obtain ⟨t_r7, w6⟩ := w6
  obtain ⟨eu8, w6⟩ := w6
  rw [eu8] at hG
  subst w6
  refine lv_astoreN (lv' := [(5, .null), (4, .null), (0, .ref h0), (1, .int p1), (2, .int p2), (3, .int p3)]) hx hb dX8_own_12 hl (by decide) rfl (fun ls hl => ?_)
  refine lv_aloadN hx hb dX8_own_14 (lv_at hl 1 rfl) ?_
  refine lv_ifnullN (tgt := 36) hx hb dX8_own_16 (by decide) ?_
  refine ty_iconst hx hb (0) dX8_own_36 (by decide) (fun x9 h10 => ?_)
  exact W.zret (v := x9) hx hb hr (ty_nb (by omega)).1 (fun t ht hW => ⟨⟨x9, g, rfl, ⟨rfl, (by omega)⟩, ok1 ht hG⟩, hS.F ht⟩) hS.2.2 dX8_own_37

set_option maxHeartbeats 4000000 in
set_option maxRecDepth 100000 in
/-- WeekBank.worth:  -/
theorem f_X8_worth (l : Launch) (dC : Nat → ClassId) (dI : Nat → Nat → Nat) (dA : Nat → ClassId) (sz : Nat) (X : va_W) (Γ : ty_G) (hU : Un Γ) (g : gh) (h0 : Nat) (t_h0 : ty Γ h0 1) (p1 : Int32) (p2 : Int32) (f1 : g 1 0 = 0) : Met l yX8_worth (.code yX8_worth cX8_worth 4 (Option.some Jvm.ClassFile.FieldType.int) :: AL) ({ frames := 1, cells := 0, slots := 0, locals := 21 }) (PCx dC dI dA sz X Γ g [.ref h0, .int p1, .int p2]) (va_Qi (fun (r : Int32) (u : gh) => u = g ∧ ((r.toInt = -1))) (okb dC dI dA sz X Γ) (ty_A sz)) 0 0 (ty_A sz) := by
  refine Met.ofW (cc := cX8_worth) (maxL := 4) (ret := (Option.some Jvm.ClassFile.FieldType.int)) (by decide) rfl ?_
  intro p e s m args below meth c s₁ B hml hv
  obtain ⟨rfl, hG, hE⟩ := hv
  have hx := B.exec
  have hb := B.bytes
  have hr := B.returns
  have hts := atoms_spec B.pre
  have hA : ∀ w ∈ AL, w.before _ s = true := fun w h => hts w (List.mem_cons_of_mem _ h)
  have hown : s.vm.findClass RX8 = some m.cls := findClass_of_methodNamed B.named
  have hlocks := B.notSynchronized
  have hS : va_S (ty_A sz) s.heap s.heap [] := va_S.rf
  have hl := lv_entry ([.ref h0, .int p1, .int p2]) (n := 4) (Nat.le_of_ble_eq_true rfl)
  rw [lg_entry_eq]
  generalize (lg_sl ([.ref h0, .int p1, .int p2]) ++ List.replicate (4 - (lg_sl ([.ref h0, .int p1, .int p2])).length) Slot.unset).toArray = ls at hl ⊢
  have hl : lv_has ls 4 [(0, .ref h0), (1, .int p1), (2, .int p2)] := hl
  refine lv_aload_n hx hb dX8_worth_0 rfl (lv_at hl 0 rfl) ?_
  refine lv_iload_n hx hb dX8_worth_1 rfl (lv_at hl 1 rfl) ?_
  refine cQ (va_runV (C := RX8) (As := [.int p1]) (rest := []) ⟨hx, hb, hml, hown, hA⟩ (f_X8_flatAt l dC dI dA sz X Γ hU g h0 t_h0 p1   (by omega)) ⟨callB_of 1 hA (al_A wd_2_48) rfl rfl rfl (hA _ wd_1_1) (hA _ wd_2_45) (by decide +kernel) ⟨Nat.le_of_ble_eq_true rfl, Nat.le_of_ble_eq_true rfl⟩, hA _ wd_2_47, hA _ ws_0⟩ ⟨bl, recv_X8 hE hG t_h0, fun U hU9 hW9 => ⟨rfl, by rw [hU9]; exact hG, hE.go hS hU9 hW9⟩⟩ rfl rfl hl.1 rfl (lv_room (Nat.le_of_ble_eq_true rfl)) dX8_worth_2 ⟨Nat.zero_le _, Nat.zero_le _⟩) hS (fun r3 u1 H locs w2 hG hS => ?_)
  obtain ⟨t_r3, w2⟩ := w2
  obtain ⟨eu4, w2⟩ := w2
  rw [eu4] at hG
  subst w2
  refine lv_astore_nN (lv' := [(3, .null), (0, .ref h0), (1, .int p1), (2, .int p2)]) hx hb dX8_worth_5 rfl hl (by decide) rfl (fun ls hl => ?_)
  refine lv_aload_nN hx hb dX8_worth_6 rfl (lv_at hl 0 rfl) ?_
  refine lv_ifnullN (tgt := 17) hx hb dX8_worth_7 (by decide) ?_
  refine ty_iconst hx hb (-1) dX8_worth_17 (by decide) (fun x5 h6 => ?_)
  exact W.iret (v := x5) hx hb hr (fun t ht hW => ⟨⟨x5, g, rfl, ⟨rfl, (by omega)⟩, ok1 ht hG⟩, hS.F ht⟩) hS.2.2 dX8_worth_18

set_option maxHeartbeats 4000000 in
set_option maxRecDepth 100000 in
/-- WeekBank.give:  -/
theorem f_X8_give (l : Launch) (dC : Nat → ClassId) (dI : Nat → Nat → Nat) (dA : Nat → ClassId) (sz : Nat) (X : va_W) (Γ : ty_G) (hU : Un Γ) (g : gh) (h0 : Nat) (t_h0 : ty Γ h0 1) (p1 : Int32) (p2 : Int32) (p3 : Int32) (f1 : g 1 0 = 0) (f2 : g 2 0 = 0) : Met l yX8_give (.code yX8_give cX8_give 7 (Option.some Jvm.ClassFile.FieldType.int) :: AL) ({ frames := 2, cells := 0, slots := 0, locals := 43 }) (PCx dC dI dA sz X Γ g [.ref h0, .int p1, .int p2, .int p3]) (va_Qi (fun (r : Int32) (u : gh) => u = g ∧ ((r.toInt = -1))) (okb dC dI dA sz X Γ) (ty_A sz)) 0 0 (ty_A sz) := by
  refine Met.ofW (cc := cX8_give) (maxL := 7) (ret := (Option.some Jvm.ClassFile.FieldType.int)) (by decide) rfl ?_
  intro p e s m args below meth c s₁ B hml hv
  obtain ⟨rfl, hG, hE⟩ := hv
  have hx := B.exec
  have hb := B.bytes
  have hr := B.returns
  have hts := atoms_spec B.pre
  have hA : ∀ w ∈ AL, w.before _ s = true := fun w h => hts w (List.mem_cons_of_mem _ h)
  have hown : s.vm.findClass RX8 = some m.cls := findClass_of_methodNamed B.named
  have hlocks := B.notSynchronized
  have hS : va_S (ty_A sz) s.heap s.heap [] := va_S.rf
  have hl := lv_entry ([.ref h0, .int p1, .int p2, .int p3]) (n := 7) (Nat.le_of_ble_eq_true rfl)
  rw [lg_entry_eq]
  generalize (lg_sl ([.ref h0, .int p1, .int p2, .int p3]) ++ List.replicate (7 - (lg_sl ([.ref h0, .int p1, .int p2, .int p3])).length) Slot.unset).toArray = ls at hl ⊢
  have hl : lv_has ls 7 [(0, .ref h0), (1, .int p1), (2, .int p2), (3, .int p3)] := hl
  refine lv_aload_n hx hb dX8_give_0 rfl (lv_at hl 0 rfl) ?_
  refine lv_iload_n hx hb dX8_give_1 rfl (lv_at hl 1 rfl) ?_
  refine cQ (va_runV (C := RX8) (As := [.int p1]) (rest := []) ⟨hx, hb, hml, hown, hA⟩ (f_X8_livingOwnerAt l dC dI dA sz X Γ hU g h0 t_h0 p1   (by omega)) ⟨callB_of 1 hA (al_A wd_2_52) rfl rfl rfl (hA _ wd_1_1) (hA _ wd_2_49) (by decide +kernel) ⟨Nat.le_of_ble_eq_true rfl, Nat.le_of_ble_eq_true rfl⟩, hA _ wd_2_51, hA _ ws_1⟩ ⟨bl, recv_X8 hE hG t_h0, fun U hU9 hW9 => ⟨rfl, by rw [hU9]; exact hG, hE.go hS hU9 hW9⟩⟩ rfl rfl hl.1 rfl (lv_room (Nat.le_of_ble_eq_true rfl)) dX8_give_2 ⟨Nat.zero_le _, Nat.zero_le _⟩) hS (fun r3 u1 H locs w2 hG hS => ?_)
  obtain ⟨t_r3, w2⟩ := w2
  obtain ⟨eu4, w2⟩ := w2
  rw [eu4] at hG
  subst w2
  refine lv_astoreN (lv' := [(4, .null), (0, .ref h0), (1, .int p1), (2, .int p2), (3, .int p3)]) hx hb dX8_give_5 hl (by decide) rfl (fun ls hl => ?_)
  refine lv_aload_n hx hb dX8_give_7 rfl (lv_at hl 1 rfl) ?_
  refine lv_iload_n hx hb dX8_give_8 rfl (lv_at hl 3 rfl) ?_
  refine cQ (va_runV (C := RX8) (As := [.int p2]) (rest := []) ⟨hx, hb, hml, hown, hA⟩ (f_X8_flatAt l dC dI dA sz X Γ hU g h0 t_h0 p2   (by omega)) ⟨callB_of 1 hA (al_A wd_2_48) rfl rfl rfl (hA _ wd_1_1) (hA _ wd_2_45) (by decide +kernel) ⟨Nat.le_of_ble_eq_true rfl, Nat.le_of_ble_eq_true rfl⟩, hA _ wd_2_47, hA _ ws_0⟩ ⟨bl, recv_X8 hE hG t_h0, fun U hU9 hW9 => ⟨rfl, by rw [hU9]; exact hG, hE.go hS hU9 hW9⟩⟩ rfl rfl hl.1 rfl (lv_room (Nat.le_of_ble_eq_true rfl)) dX8_give_9 ⟨Nat.zero_le _, Nat.zero_le _⟩) hS (fun r7 u5 H locs w6 hG hS => ?_)
  obtain ⟨t_r7, w6⟩ := w6
  obtain ⟨eu8, w6⟩ := w6
  rw [eu8] at hG
  subst w6
  refine lv_astoreN (lv' := [(5, .null), (4, .null), (0, .ref h0), (1, .int p1), (2, .int p2), (3, .int p3)]) hx hb dX8_give_12 hl (by decide) rfl (fun ls hl => ?_)
  refine lv_aloadN hx hb dX8_give_14 (lv_at hl 1 rfl) ?_
  refine lv_ifnullN (tgt := 31) hx hb dX8_give_16 (by decide) ?_
  refine ty_iconst hx hb (-1) dX8_give_31 (by decide) (fun x9 h10 => ?_)
  exact W.iret (v := x9) hx hb hr (fun t ht hW => ⟨⟨x9, g, rfl, ⟨rfl, (by omega)⟩, ok1 ht hG⟩, hS.F ht⟩) hS.2.2 dX8_give_32

set_option maxHeartbeats 4000000 in
set_option maxRecDepth 100000 in
/-- WeekBank.wish:  -/
theorem f_X8_wish (l : Launch) (dC : Nat → ClassId) (dI : Nat → Nat → Nat) (dA : Nat → ClassId) (sz : Nat) (X : va_W) (Γ : ty_G) (hU : Un Γ) (g : gh) (h0 : Nat) (t_h0 : ty Γ h0 1) (p1 : Int32) (p2 : Int32) (p3 : Int32) (p4 : Int32) (p5 : Int32) (f3 : g 3 0 = 0) : Met l yX8_wish (.code yX8_wish cX8_wish 7 (Option.some Jvm.ClassFile.FieldType.boolean) :: AL) ({ frames := 2, cells := 0, slots := 0, locals := 44 }) (PCx dC dI dA sz X Γ g [.ref h0, .int p1, .int p2, .int p3, .int p4, .int p5]) (va_Qi (fun (r : Int32) (u : gh) => u = g ∧ ((r.toInt = 0))) (okb dC dI dA sz X Γ) (ty_A sz)) 0 0 (ty_A sz) := by
  refine Met.ofW (cc := cX8_wish) (maxL := 7) (ret := (Option.some Jvm.ClassFile.FieldType.boolean)) (by decide) rfl ?_
  intro p e s m args below meth c s₁ B hml hv
  obtain ⟨rfl, hG, hE⟩ := hv
  have hx := B.exec
  have hb := B.bytes
  have hr := B.returns
  have hts := atoms_spec B.pre
  have hA : ∀ w ∈ AL, w.before _ s = true := fun w h => hts w (List.mem_cons_of_mem _ h)
  have hown : s.vm.findClass RX8 = some m.cls := findClass_of_methodNamed B.named
  have hlocks := B.notSynchronized
  have hS : va_S (ty_A sz) s.heap s.heap [] := va_S.rf
  have hl := lv_entry ([.ref h0, .int p1, .int p2, .int p3, .int p4, .int p5]) (n := 7) (Nat.le_of_ble_eq_true rfl)
  rw [lg_entry_eq]
  generalize (lg_sl ([.ref h0, .int p1, .int p2, .int p3, .int p4, .int p5]) ++ List.replicate (7 - (lg_sl ([.ref h0, .int p1, .int p2, .int p3, .int p4, .int p5])).length) Slot.unset).toArray = ls at hl ⊢
  have hl : lv_has ls 7 [(0, .ref h0), (1, .int p1), (2, .int p2), (3, .int p3), (4, .int p4), (5, .int p5)] := hl
  refine lv_aload_n hx hb dX8_wish_0 rfl (lv_at hl 0 rfl) ?_
  refine lv_iload_n hx hb dX8_wish_1 rfl (lv_at hl 1 rfl) ?_
  refine ty_iconst hx hb (0) dX8_wish_2 (by decide) (fun x1 h2 => ?_)
  refine cQ (va_runV (C := RX8) (As := [.int p1, .int x1]) (rest := []) ⟨hx, hb, hml, hown, hA⟩ (f_X8_giftThatIs l dC dI dA sz X Γ hU g h0 t_h0 p1 x1   (by omega)) ⟨callB_of 2 hA (al_A wd_3_72) rfl rfl rfl (hA _ wd_1_1) (hA _ wd_3_69) (by decide +kernel) ⟨Nat.le_of_ble_eq_true rfl, Nat.le_of_ble_eq_true rfl⟩, hA _ wd_3_71, hA _ ws_17⟩ ⟨bl, recv_X8 hE hG t_h0, fun U hU9 hW9 => ⟨rfl, by rw [hU9]; exact hG, hE.go hS hU9 hW9⟩⟩ rfl rfl hl.1 rfl (lv_room (Nat.le_of_ble_eq_true rfl)) dX8_wish_3 ⟨Nat.zero_le _, Nat.zero_le _⟩) hS (fun r5 u3 H locs w4 hG hS => ?_)
  obtain ⟨t_r5, w4⟩ := w4
  obtain ⟨eu6, w4⟩ := w4
  rw [eu6] at hG
  subst w4
  refine lv_astoreN (lv' := [(6, .null), (0, .ref h0), (1, .int p1), (2, .int p2), (3, .int p3), (4, .int p4), (5, .int p5)]) hx hb dX8_wish_6 hl (by decide) rfl (fun ls hl => ?_)
  refine lv_aloadN hx hb dX8_wish_8 (lv_at hl 0 rfl) ?_
  refine lv_ifnullN (tgt := 25) hx hb dX8_wish_10 (by decide) ?_
  refine ty_iconst hx hb (0) dX8_wish_25 (by decide) (fun x7 h8 => ?_)
  exact W.zret (v := x7) hx hb hr (ty_nb (by omega)).1 (fun t ht hW => ⟨⟨x7, g, rfl, ⟨rfl, (by omega)⟩, ok1 ht hG⟩, hS.F ht⟩) hS.2.2 dX8_wish_26

set_option maxHeartbeats 4000000 in
set_option maxRecDepth 100000 in
/-- WeekBank.rushWish:  -/
theorem f_X8_rushWish (l : Launch) (dC : Nat → ClassId) (dI : Nat → Nat → Nat) (dA : Nat → ClassId) (sz : Nat) (X : va_W) (Γ : ty_G) (hU : Un Γ) (g : gh) (h0 : Nat) (t_h0 : ty Γ h0 1) (p1 : Int32) (p2 : Int32) (p3 : Int32) (p4 : Int32) (p5 : Int32) (f2 : g 2 0 = 0) : Met l yX8_rushWish (.code yX8_rushWish cX8_rushWish 7 (Option.some Jvm.ClassFile.FieldType.boolean) :: AL) ({ frames := 2, cells := 0, slots := 0, locals := 43 }) (PCx dC dI dA sz X Γ g [.ref h0, .int p1, .int p2, .int p3, .int p4, .int p5]) (va_Qi (fun (r : Int32) (u : gh) => u = g ∧ ((r.toInt = 0))) (okb dC dI dA sz X Γ) (ty_A sz)) 0 0 (ty_A sz) := by
  refine Met.ofW (cc := cX8_rushWish) (maxL := 7) (ret := (Option.some Jvm.ClassFile.FieldType.boolean)) (by decide) rfl ?_
  intro p e s m args below meth c s₁ B hml hv
  obtain ⟨rfl, hG, hE⟩ := hv
  have hx := B.exec
  have hb := B.bytes
  have hr := B.returns
  have hts := atoms_spec B.pre
  have hA : ∀ w ∈ AL, w.before _ s = true := fun w h => hts w (List.mem_cons_of_mem _ h)
  have hown : s.vm.findClass RX8 = some m.cls := findClass_of_methodNamed B.named
  have hlocks := B.notSynchronized
  have hS : va_S (ty_A sz) s.heap s.heap [] := va_S.rf
  have hl := lv_entry ([.ref h0, .int p1, .int p2, .int p3, .int p4, .int p5]) (n := 7) (Nat.le_of_ble_eq_true rfl)
  rw [lg_entry_eq]
  generalize (lg_sl ([.ref h0, .int p1, .int p2, .int p3, .int p4, .int p5]) ++ List.replicate (7 - (lg_sl ([.ref h0, .int p1, .int p2, .int p3, .int p4, .int p5])).length) Slot.unset).toArray = ls at hl ⊢
  have hl : lv_has ls 7 [(0, .ref h0), (1, .int p1), (2, .int p2), (3, .int p3), (4, .int p4), (5, .int p5)] := hl
  refine lv_aload_n hx hb dX8_rushWish_0 rfl (lv_at hl 0 rfl) ?_
  refine lv_iload_n hx hb dX8_rushWish_1 rfl (lv_at hl 1 rfl) ?_
  refine cQ (va_runV (C := RX8) (As := [.int p1]) (rest := []) ⟨hx, hb, hml, hown, hA⟩ (f_X8_livingOwnerAt l dC dI dA sz X Γ hU g h0 t_h0 p1   (by omega)) ⟨callB_of 1 hA (al_A wd_2_52) rfl rfl rfl (hA _ wd_1_1) (hA _ wd_2_49) (by decide +kernel) ⟨Nat.le_of_ble_eq_true rfl, Nat.le_of_ble_eq_true rfl⟩, hA _ wd_2_51, hA _ ws_1⟩ ⟨bl, recv_X8 hE hG t_h0, fun U hU9 hW9 => ⟨rfl, by rw [hU9]; exact hG, hE.go hS hU9 hW9⟩⟩ rfl rfl hl.1 rfl (lv_room (Nat.le_of_ble_eq_true rfl)) dX8_rushWish_2 ⟨Nat.zero_le _, Nat.zero_le _⟩) hS (fun r3 u1 H locs w2 hG hS => ?_)
  obtain ⟨t_r3, w2⟩ := w2
  obtain ⟨eu4, w2⟩ := w2
  rw [eu4] at hG
  subst w2
  refine lv_astoreN (lv' := [(6, .null), (0, .ref h0), (1, .int p1), (2, .int p2), (3, .int p3), (4, .int p4), (5, .int p5)]) hx hb dX8_rushWish_5 hl (by decide) rfl (fun ls hl => ?_)
  refine lv_aloadN hx hb dX8_rushWish_7 (lv_at hl 0 rfl) ?_
  refine lv_ifnullN (tgt := 24) hx hb dX8_rushWish_9 (by decide) ?_
  refine ty_iconst hx hb (0) dX8_rushWish_24 (by decide) (fun x5 h6 => ?_)
  exact W.zret (v := x5) hx hb hr (ty_nb (by omega)).1 (fun t ht hW => ⟨⟨x5, g, rfl, ⟨rfl, (by omega)⟩, ok1 ht hG⟩, hS.F ht⟩) hS.2.2 dX8_rushWish_25

set_option maxHeartbeats 4000000 in
set_option maxRecDepth 100000 in
/-- WeekBank.bank:  -/
theorem f_X8_bank (l : Launch) (dC : Nat → ClassId) (dI : Nat → Nat → Nat) (dA : Nat → ClassId) (sz : Nat) (X : va_W) (Γ : ty_G) (hU : Un Γ) (g : gh) (h0 : Nat) (t_h0 : ty Γ h0 1) (p1 : Int32) (f3 : g 3 0 = 0) : Met l yX8_bank (.code yX8_bank cX8_bank 3 (Option.some Jvm.ClassFile.FieldType.int) :: AL) ({ frames := 2, cells := 0, slots := 0, locals := 44 }) (PCx dC dI dA sz X Γ g [.ref h0, .int p1]) (va_Qi (fun (r : Int32) (u : gh) => u = g ∧ ((r.toInt = -1))) (okb dC dI dA sz X Γ) (ty_A sz)) 0 0 (ty_A sz) := by
  refine Met.ofW (cc := cX8_bank) (maxL := 3) (ret := (Option.some Jvm.ClassFile.FieldType.int)) (by decide) rfl ?_
  intro p e s m args below meth c s₁ B hml hv
  obtain ⟨rfl, hG, hE⟩ := hv
  have hx := B.exec
  have hb := B.bytes
  have hr := B.returns
  have hts := atoms_spec B.pre
  have hA : ∀ w ∈ AL, w.before _ s = true := fun w h => hts w (List.mem_cons_of_mem _ h)
  have hown : s.vm.findClass RX8 = some m.cls := findClass_of_methodNamed B.named
  have hlocks := B.notSynchronized
  have hS : va_S (ty_A sz) s.heap s.heap [] := va_S.rf
  have hl := lv_entry ([.ref h0, .int p1]) (n := 3) (Nat.le_of_ble_eq_true rfl)
  rw [lg_entry_eq]
  generalize (lg_sl ([.ref h0, .int p1]) ++ List.replicate (3 - (lg_sl ([.ref h0, .int p1])).length) Slot.unset).toArray = ls at hl ⊢
  have hl : lv_has ls 3 [(0, .ref h0), (1, .int p1)] := hl
  refine lv_aload_n hx hb dX8_bank_0 rfl (lv_at hl 0 rfl) ?_
  refine lv_iload_n hx hb dX8_bank_1 rfl (lv_at hl 1 rfl) ?_
  refine ty_iconst hx hb (0) dX8_bank_2 (by decide) (fun x1 h2 => ?_)
  refine cQ (va_runV (C := RX8) (As := [.int p1, .int x1]) (rest := []) ⟨hx, hb, hml, hown, hA⟩ (f_X8_giftThatIs l dC dI dA sz X Γ hU g h0 t_h0 p1 x1   (by omega)) ⟨callB_of 2 hA (al_A wd_3_72) rfl rfl rfl (hA _ wd_1_1) (hA _ wd_3_69) (by decide +kernel) ⟨Nat.le_of_ble_eq_true rfl, Nat.le_of_ble_eq_true rfl⟩, hA _ wd_3_71, hA _ ws_17⟩ ⟨bl, recv_X8 hE hG t_h0, fun U hU9 hW9 => ⟨rfl, by rw [hU9]; exact hG, hE.go hS hU9 hW9⟩⟩ rfl rfl hl.1 rfl (lv_room (Nat.le_of_ble_eq_true rfl)) dX8_bank_3 ⟨Nat.zero_le _, Nat.zero_le _⟩) hS (fun r5 u3 H locs w4 hG hS => ?_)
  obtain ⟨t_r5, w4⟩ := w4
  obtain ⟨eu6, w4⟩ := w4
  rw [eu6] at hG
  subst w4
  refine lv_astore_nN (lv' := [(2, .null), (0, .ref h0), (1, .int p1)]) hx hb dX8_bank_6 rfl hl (by decide) rfl (fun ls hl => ?_)
  refine lv_aload_nN hx hb dX8_bank_7 rfl (lv_at hl 0 rfl) ?_
  refine lv_ifnonnullN hx hb dX8_bank_8 ?_
  refine ty_iconst hx hb (-1) dX8_bank_11 (by decide) (fun x7 h8 => ?_)
  exact W.iret (v := x7) hx hb hr (fun t ht hW => ⟨⟨x7, g, rfl, ⟨rfl, (by omega)⟩, ok1 ht hG⟩, hS.F ht⟩) hS.2.2 dX8_bank_12

set_option maxHeartbeats 4000000 in
set_option maxRecDepth 100000 in
/-- WeekBank.take:  -/
theorem f_X8_take (l : Launch) (dC : Nat → ClassId) (dI : Nat → Nat → Nat) (dA : Nat → ClassId) (sz : Nat) (X : va_W) (Γ : ty_G) (hU : Un Γ) (g : gh) (h0 : Nat) (t_h0 : ty Γ h0 1) (p1 : Int32) (p2 : Int32) (f2 : g 2 0 = 0) (f3 : g 3 0 = 0) : Met l yX8_take (.code yX8_take cX8_take 5 (Option.some Jvm.ClassFile.FieldType.int) :: AL) ({ frames := 2, cells := 0, slots := 0, locals := 44 }) (PCx dC dI dA sz X Γ g [.ref h0, .int p1, .int p2]) (va_Qi (fun (r : Int32) (u : gh) => u = g ∧ ((r.toInt = -1))) (okb dC dI dA sz X Γ) (ty_A sz)) 0 0 (ty_A sz) := by
  refine Met.ofW (cc := cX8_take) (maxL := 5) (ret := (Option.some Jvm.ClassFile.FieldType.int)) (by decide) rfl ?_
  intro p e s m args below meth c s₁ B hml hv
  obtain ⟨rfl, hG, hE⟩ := hv
  have hx := B.exec
  have hb := B.bytes
  have hr := B.returns
  have hts := atoms_spec B.pre
  have hA : ∀ w ∈ AL, w.before _ s = true := fun w h => hts w (List.mem_cons_of_mem _ h)
  have hown : s.vm.findClass RX8 = some m.cls := findClass_of_methodNamed B.named
  have hlocks := B.notSynchronized
  have hS : va_S (ty_A sz) s.heap s.heap [] := va_S.rf
  have hl := lv_entry ([.ref h0, .int p1, .int p2]) (n := 5) (Nat.le_of_ble_eq_true rfl)
  rw [lg_entry_eq]
  generalize (lg_sl ([.ref h0, .int p1, .int p2]) ++ List.replicate (5 - (lg_sl ([.ref h0, .int p1, .int p2])).length) Slot.unset).toArray = ls at hl ⊢
  have hl : lv_has ls 5 [(0, .ref h0), (1, .int p1), (2, .int p2)] := hl
  refine lv_aload_n hx hb dX8_take_0 rfl (lv_at hl 0 rfl) ?_
  refine lv_iload_n hx hb dX8_take_1 rfl (lv_at hl 1 rfl) ?_
  refine cQ (va_runV (C := RX8) (As := [.int p1]) (rest := []) ⟨hx, hb, hml, hown, hA⟩ (f_X8_livingOwnerAt l dC dI dA sz X Γ hU g h0 t_h0 p1   (by omega)) ⟨callB_of 1 hA (al_A wd_2_52) rfl rfl rfl (hA _ wd_1_1) (hA _ wd_2_49) (by decide +kernel) ⟨Nat.le_of_ble_eq_true rfl, Nat.le_of_ble_eq_true rfl⟩, hA _ wd_2_51, hA _ ws_1⟩ ⟨bl, recv_X8 hE hG t_h0, fun U hU9 hW9 => ⟨rfl, by rw [hU9]; exact hG, hE.go hS hU9 hW9⟩⟩ rfl rfl hl.1 rfl (lv_room (Nat.le_of_ble_eq_true rfl)) dX8_take_2 ⟨Nat.zero_le _, Nat.zero_le _⟩) hS (fun r3 u1 H locs w2 hG hS => ?_)
  obtain ⟨t_r3, w2⟩ := w2
  obtain ⟨eu4, w2⟩ := w2
  rw [eu4] at hG
  subst w2
  refine lv_astore_nN (lv' := [(3, .null), (0, .ref h0), (1, .int p1), (2, .int p2)]) hx hb dX8_take_5 rfl hl (by decide) rfl (fun ls hl => ?_)
  refine lv_aload_n hx hb dX8_take_6 rfl (lv_at hl 1 rfl) ?_
  refine lv_iload_n hx hb dX8_take_7 rfl (lv_at hl 3 rfl) ?_
  refine ty_iconst hx hb (2) dX8_take_8 (by decide) (fun x5 h6 => ?_)
  refine cQ (va_runV (C := RX8) (As := [.int p2, .int x5]) (rest := []) ⟨hx, hb, hml, hown, hA⟩ (f_X8_giftThatIs l dC dI dA sz X Γ hU g h0 t_h0 p2 x5   (by omega)) ⟨callB_of 2 hA (al_A wd_3_72) rfl rfl rfl (hA _ wd_1_1) (hA _ wd_3_69) (by decide +kernel) ⟨Nat.le_of_ble_eq_true rfl, Nat.le_of_ble_eq_true rfl⟩, hA _ wd_3_71, hA _ ws_17⟩ ⟨bl, recv_X8 hE hG t_h0, fun U hU9 hW9 => ⟨rfl, by rw [hU9]; exact hG, hE.go hS hU9 hW9⟩⟩ rfl rfl hl.1 rfl (lv_room (Nat.le_of_ble_eq_true rfl)) dX8_take_9 ⟨Nat.zero_le _, Nat.zero_le _⟩) hS (fun r9 u7 H locs w8 hG hS => ?_)
  obtain ⟨t_r9, w8⟩ := w8
  obtain ⟨eu10, w8⟩ := w8
  rw [eu10] at hG
  subst w8
  refine lv_astoreN (lv' := [(4, .null), (3, .null), (0, .ref h0), (1, .int p1), (2, .int p2)]) hx hb dX8_take_12 hl (by decide) rfl (fun ls hl => ?_)
  refine lv_aload_nN hx hb dX8_take_14 rfl (lv_at hl 1 rfl) ?_
  refine lv_ifnullN (tgt := 23) hx hb dX8_take_15 (by decide) ?_
  refine ty_iconst hx hb (-1) dX8_take_23 (by decide) (fun x11 h12 => ?_)
  exact W.iret (v := x11) hx hb hr (fun t ht hW => ⟨⟨x11, g, rfl, ⟨rfl, (by omega)⟩, ok1 ht hG⟩, hS.F ht⟩) hS.2.2 dX8_take_24

set_option maxHeartbeats 4000000 in
set_option maxRecDepth 100000 in
/-- WeekBank.shut:  -/
theorem f_X8_shut (l : Launch) (dC : Nat → ClassId) (dI : Nat → Nat → Nat) (dA : Nat → ClassId) (sz : Nat) (X : va_W) (Γ : ty_G) (hU : Un Γ) (g : gh) (h0 : Nat) (t_h0 : ty Γ h0 1) (p1 : Int32) (p2 : Int32) (p3 : Int32) (f1 : g 1 0 = 0) : Met l yX8_shut (.code yX8_shut cX8_shut 9 (Option.some Jvm.ClassFile.FieldType.int) :: AL) ({ frames := 1, cells := 0, slots := 0, locals := 21 }) (PCx dC dI dA sz X Γ g [.ref h0, .int p1, .int p2, .int p3]) (va_Qi (fun (r : Int32) (u : gh) => u = g ∧ ((r.toInt = -1))) (okb dC dI dA sz X Γ) (ty_A sz)) 0 0 (ty_A sz) := by
  refine Met.ofW (cc := cX8_shut) (maxL := 9) (ret := (Option.some Jvm.ClassFile.FieldType.int)) (by decide) rfl ?_
  intro p e s m args below meth c s₁ B hml hv
  obtain ⟨rfl, hG, hE⟩ := hv
  have hx := B.exec
  have hb := B.bytes
  have hr := B.returns
  have hts := atoms_spec B.pre
  have hA : ∀ w ∈ AL, w.before _ s = true := fun w h => hts w (List.mem_cons_of_mem _ h)
  have hown : s.vm.findClass RX8 = some m.cls := findClass_of_methodNamed B.named
  have hlocks := B.notSynchronized
  have hS : va_S (ty_A sz) s.heap s.heap [] := va_S.rf
  have hl := lv_entry ([.ref h0, .int p1, .int p2, .int p3]) (n := 9) (Nat.le_of_ble_eq_true rfl)
  rw [lg_entry_eq]
  generalize (lg_sl ([.ref h0, .int p1, .int p2, .int p3]) ++ List.replicate (9 - (lg_sl ([.ref h0, .int p1, .int p2, .int p3])).length) Slot.unset).toArray = ls at hl ⊢
  have hl : lv_has ls 9 [(0, .ref h0), (1, .int p1), (2, .int p2), (3, .int p3)] := hl
  refine lv_aload_n hx hb dX8_shut_0 rfl (lv_at hl 0 rfl) ?_
  refine lv_iload_n hx hb dX8_shut_1 rfl (lv_at hl 1 rfl) ?_
  refine cQ (va_runV (C := RX8) (As := [.int p1]) (rest := []) ⟨hx, hb, hml, hown, hA⟩ (f_X8_flatAt l dC dI dA sz X Γ hU g h0 t_h0 p1   (by omega)) ⟨callB_of 1 hA (al_A wd_2_48) rfl rfl rfl (hA _ wd_1_1) (hA _ wd_2_45) (by decide +kernel) ⟨Nat.le_of_ble_eq_true rfl, Nat.le_of_ble_eq_true rfl⟩, hA _ wd_2_47, hA _ ws_0⟩ ⟨bl, recv_X8 hE hG t_h0, fun U hU9 hW9 => ⟨rfl, by rw [hU9]; exact hG, hE.go hS hU9 hW9⟩⟩ rfl rfl hl.1 rfl (lv_room (Nat.le_of_ble_eq_true rfl)) dX8_shut_2 ⟨Nat.zero_le _, Nat.zero_le _⟩) hS (fun r3 u1 H locs w2 hG hS => ?_)
  obtain ⟨t_r3, w2⟩ := w2
  obtain ⟨eu4, w2⟩ := w2
  rw [eu4] at hG
  subst w2
  refine lv_astoreN (lv' := [(4, .null), (0, .ref h0), (1, .int p1), (2, .int p2), (3, .int p3)]) hx hb dX8_shut_5 hl (by decide) rfl (fun ls hl => ?_)
  refine lv_aloadN hx hb dX8_shut_7 (lv_at hl 0 rfl) ?_
  refine lv_ifnullN (tgt := 31) hx hb dX8_shut_9 (by decide) ?_
  refine ty_iconst hx hb (-1) dX8_shut_31 (by decide) (fun x5 h6 => ?_)
  exact W.iret (v := x5) hx hb hr (fun t ht hW => ⟨⟨x5, g, rfl, ⟨rfl, (by omega)⟩, ok1 ht hG⟩, hS.F ht⟩) hS.2.2 dX8_shut_32

set_option maxHeartbeats 4000000 in
set_option maxRecDepth 100000 in
/-- WeekBank.dies:  -/
theorem f_X8_dies (l : Launch) (dC : Nat → ClassId) (dI : Nat → Nat → Nat) (dA : Nat → ClassId) (sz : Nat) (X : va_W) (Γ : ty_G) (hU : Un Γ) (g : gh) (h0 : Nat) (t_h0 : ty Γ h0 1) (p1 : Int32) (p2 : Int32) (p3 : Int32) (f2 : g 2 0 = 0) : Met l yX8_dies (.code yX8_dies cX8_dies 8 (Option.some Jvm.ClassFile.FieldType.int) :: AL) ({ frames := 2, cells := 0, slots := 0, locals := 43 }) (PCx dC dI dA sz X Γ g [.ref h0, .int p1, .int p2, .int p3]) (va_Qi (fun (r : Int32) (u : gh) => u = g ∧ ((r.toInt = -1))) (okb dC dI dA sz X Γ) (ty_A sz)) 0 0 (ty_A sz) := by
  refine Met.ofW (cc := cX8_dies) (maxL := 8) (ret := (Option.some Jvm.ClassFile.FieldType.int)) (by decide) rfl ?_
  intro p e s m args below meth c s₁ B hml hv
  obtain ⟨rfl, hG, hE⟩ := hv
  have hx := B.exec
  have hb := B.bytes
  have hr := B.returns
  have hts := atoms_spec B.pre
  have hA : ∀ w ∈ AL, w.before _ s = true := fun w h => hts w (List.mem_cons_of_mem _ h)
  have hown : s.vm.findClass RX8 = some m.cls := findClass_of_methodNamed B.named
  have hlocks := B.notSynchronized
  have hS : va_S (ty_A sz) s.heap s.heap [] := va_S.rf
  have hl := lv_entry ([.ref h0, .int p1, .int p2, .int p3]) (n := 8) (Nat.le_of_ble_eq_true rfl)
  rw [lg_entry_eq]
  generalize (lg_sl ([.ref h0, .int p1, .int p2, .int p3]) ++ List.replicate (8 - (lg_sl ([.ref h0, .int p1, .int p2, .int p3])).length) Slot.unset).toArray = ls at hl ⊢
  have hl : lv_has ls 8 [(0, .ref h0), (1, .int p1), (2, .int p2), (3, .int p3)] := hl
  refine lv_aload_n hx hb dX8_dies_0 rfl (lv_at hl 0 rfl) ?_
  refine lv_iload_n hx hb dX8_dies_1 rfl (lv_at hl 1 rfl) ?_
  refine cQ (va_runV (C := RX8) (As := [.int p1]) (rest := []) ⟨hx, hb, hml, hown, hA⟩ (f_X8_livingOwnerAt l dC dI dA sz X Γ hU g h0 t_h0 p1   (by omega)) ⟨callB_of 1 hA (al_A wd_2_52) rfl rfl rfl (hA _ wd_1_1) (hA _ wd_2_49) (by decide +kernel) ⟨Nat.le_of_ble_eq_true rfl, Nat.le_of_ble_eq_true rfl⟩, hA _ wd_2_51, hA _ ws_1⟩ ⟨bl, recv_X8 hE hG t_h0, fun U hU9 hW9 => ⟨rfl, by rw [hU9]; exact hG, hE.go hS hU9 hW9⟩⟩ rfl rfl hl.1 rfl (lv_room (Nat.le_of_ble_eq_true rfl)) dX8_dies_2 ⟨Nat.zero_le _, Nat.zero_le _⟩) hS (fun r3 u1 H locs w2 hG hS => ?_)
  obtain ⟨t_r3, w2⟩ := w2
  obtain ⟨eu4, w2⟩ := w2
  rw [eu4] at hG
  subst w2
  refine lv_astoreN (lv' := [(4, .null), (0, .ref h0), (1, .int p1), (2, .int p2), (3, .int p3)]) hx hb dX8_dies_5 hl (by decide) rfl (fun ls hl => ?_)
  refine lv_aload_n hx hb dX8_dies_7 rfl (lv_at hl 1 rfl) ?_
  refine lv_iload_n hx hb dX8_dies_8 rfl (lv_at hl 3 rfl) ?_
  refine cQ (va_runV (C := RX8) (As := [.int p2]) (rest := []) ⟨hx, hb, hml, hown, hA⟩ (f_X8_livingOwnerAt l dC dI dA sz X Γ hU g h0 t_h0 p2   (by omega)) ⟨callB_of 1 hA (al_A wd_2_52) rfl rfl rfl (hA _ wd_1_1) (hA _ wd_2_49) (by decide +kernel) ⟨Nat.le_of_ble_eq_true rfl, Nat.le_of_ble_eq_true rfl⟩, hA _ wd_2_51, hA _ ws_1⟩ ⟨bl, recv_X8 hE hG t_h0, fun U hU9 hW9 => ⟨rfl, by rw [hU9]; exact hG, hE.go hS hU9 hW9⟩⟩ rfl rfl hl.1 rfl (lv_room (Nat.le_of_ble_eq_true rfl)) dX8_dies_9 ⟨Nat.zero_le _, Nat.zero_le _⟩) hS (fun r7 u5 H locs w6 hG hS => ?_)
  obtain ⟨t_r7, w6⟩ := w6
  obtain ⟨eu8, w6⟩ := w6
  rw [eu8] at hG
  subst w6
  refine lv_astoreN (lv' := [(5, .null), (4, .null), (0, .ref h0), (1, .int p1), (2, .int p2), (3, .int p3)]) hx hb dX8_dies_12 hl (by decide) rfl (fun ls hl => ?_)
  refine lv_aloadN hx hb dX8_dies_14 (lv_at hl 1 rfl) ?_
  refine lv_ifnullN (tgt := 31) hx hb dX8_dies_16 (by decide) ?_
  refine ty_iconst hx hb (-1) dX8_dies_31 (by decide) (fun x9 h10 => ?_)
  exact W.iret (v := x9) hx hb hr (fun t ht hW => ⟨⟨x9, g, rfl, ⟨rfl, (by omega)⟩, ok1 ht hG⟩, hS.F ht⟩) hS.2.2 dX8_dies_32

set_option maxHeartbeats 4000000 in
set_option maxRecDepth 100000 in
/-- WeekBank.party:  -/
theorem f_X8_party (l : Launch) (dC : Nat → ClassId) (dI : Nat → Nat → Nat) (dA : Nat → ClassId) (sz : Nat) (X : va_W) (Γ : ty_G) (hU : Un Γ) (g : gh) (h0 : Nat) (t_h0 : ty Γ h0 1) (p1 : Int32) (p2 : Int32) (f1 : g 1 0 = 0) : Met l yX8_party (.code yX8_party cX8_party 5 (Option.some Jvm.ClassFile.FieldType.int) :: AL) ({ frames := 1, cells := 0, slots := 0, locals := 21 }) (PCx dC dI dA sz X Γ g [.ref h0, .int p1, .int p2]) (va_Qi (fun (r : Int32) (u : gh) => u = g ∧ ((r.toInt = -1))) (okb dC dI dA sz X Γ) (ty_A sz)) 0 0 (ty_A sz) := by
  refine Met.ofW (cc := cX8_party) (maxL := 5) (ret := (Option.some Jvm.ClassFile.FieldType.int)) (by decide) rfl ?_
  intro p e s m args below meth c s₁ B hml hv
  obtain ⟨rfl, hG, hE⟩ := hv
  have hx := B.exec
  have hb := B.bytes
  have hr := B.returns
  have hts := atoms_spec B.pre
  have hA : ∀ w ∈ AL, w.before _ s = true := fun w h => hts w (List.mem_cons_of_mem _ h)
  have hown : s.vm.findClass RX8 = some m.cls := findClass_of_methodNamed B.named
  have hlocks := B.notSynchronized
  have hS : va_S (ty_A sz) s.heap s.heap [] := va_S.rf
  have hl := lv_entry ([.ref h0, .int p1, .int p2]) (n := 5) (Nat.le_of_ble_eq_true rfl)
  rw [lg_entry_eq]
  generalize (lg_sl ([.ref h0, .int p1, .int p2]) ++ List.replicate (5 - (lg_sl ([.ref h0, .int p1, .int p2])).length) Slot.unset).toArray = ls at hl ⊢
  have hl : lv_has ls 5 [(0, .ref h0), (1, .int p1), (2, .int p2)] := hl
  refine lv_aload_n hx hb dX8_party_0 rfl (lv_at hl 0 rfl) ?_
  refine lv_iload_n hx hb dX8_party_1 rfl (lv_at hl 1 rfl) ?_
  refine cQ (va_runV (C := RX8) (As := [.int p1]) (rest := []) ⟨hx, hb, hml, hown, hA⟩ (f_X8_flatAt l dC dI dA sz X Γ hU g h0 t_h0 p1   (by omega)) ⟨callB_of 1 hA (al_A wd_2_48) rfl rfl rfl (hA _ wd_1_1) (hA _ wd_2_45) (by decide +kernel) ⟨Nat.le_of_ble_eq_true rfl, Nat.le_of_ble_eq_true rfl⟩, hA _ wd_2_47, hA _ ws_0⟩ ⟨bl, recv_X8 hE hG t_h0, fun U hU9 hW9 => ⟨rfl, by rw [hU9]; exact hG, hE.go hS hU9 hW9⟩⟩ rfl rfl hl.1 rfl (lv_room (Nat.le_of_ble_eq_true rfl)) dX8_party_2 ⟨Nat.zero_le _, Nat.zero_le _⟩) hS (fun r3 u1 H locs w2 hG hS => ?_)
  obtain ⟨t_r3, w2⟩ := w2
  obtain ⟨eu4, w2⟩ := w2
  rw [eu4] at hG
  subst w2
  refine lv_astore_nN (lv' := [(3, .null), (0, .ref h0), (1, .int p1), (2, .int p2)]) hx hb dX8_party_5 rfl hl (by decide) rfl (fun ls hl => ?_)
  refine lv_aload_nN hx hb dX8_party_6 rfl (lv_at hl 0 rfl) ?_
  refine lv_ifnullN (tgt := 17) hx hb dX8_party_7 (by decide) ?_
  refine ty_iconst hx hb (-1) dX8_party_17 (by decide) (fun x5 h6 => ?_)
  exact W.iret (v := x5) hx hb hr (fun t ht hW => ⟨⟨x5, g, rfl, ⟨rfl, (by omega)⟩, ok1 ht hG⟩, hS.F ht⟩) hS.2.2 dX8_party_18

set_option maxHeartbeats 4000000 in
set_option maxRecDepth 100000 in
/-- WeekBank.ownerOf:  -/
theorem f_X8_ownerOf (l : Launch) (dC : Nat → ClassId) (dI : Nat → Nat → Nat) (dA : Nat → ClassId) (sz : Nat) (X : va_W) (Γ : ty_G) (hU : Un Γ) (g : gh) (h0 : Nat) (t_h0 : ty Γ h0 1) (p1 : Int32) (p2 : Int32) (f2 : g 2 0 = 0) : Met l yX8_ownerOf (.code yX8_ownerOf cX8_ownerOf 4 (Option.some Jvm.ClassFile.FieldType.int) :: AL) ({ frames := 1, cells := 0, slots := 0, locals := 21 }) (PCx dC dI dA sz X Γ g [.ref h0, .int p1, .int p2]) (va_Qi (fun (r : Int32) (u : gh) => u = g ∧ ((r.toInt = -1))) (okb dC dI dA sz X Γ) (ty_A sz)) 0 0 (ty_A sz) := by
  refine Met.ofW (cc := cX8_ownerOf) (maxL := 4) (ret := (Option.some Jvm.ClassFile.FieldType.int)) (by decide) rfl ?_
  intro p e s m args below meth c s₁ B hml hv
  obtain ⟨rfl, hG, hE⟩ := hv
  have hx := B.exec
  have hb := B.bytes
  have hr := B.returns
  have hts := atoms_spec B.pre
  have hA : ∀ w ∈ AL, w.before _ s = true := fun w h => hts w (List.mem_cons_of_mem _ h)
  have hown : s.vm.findClass RX8 = some m.cls := findClass_of_methodNamed B.named
  have hlocks := B.notSynchronized
  have hS : va_S (ty_A sz) s.heap s.heap [] := va_S.rf
  have hl := lv_entry ([.ref h0, .int p1, .int p2]) (n := 4) (Nat.le_of_ble_eq_true rfl)
  rw [lg_entry_eq]
  generalize (lg_sl ([.ref h0, .int p1, .int p2]) ++ List.replicate (4 - (lg_sl ([.ref h0, .int p1, .int p2])).length) Slot.unset).toArray = ls at hl ⊢
  have hl : lv_has ls 4 [(0, .ref h0), (1, .int p1), (2, .int p2)] := hl
  refine lv_aload_n hx hb dX8_ownerOf_0 rfl (lv_at hl 0 rfl) ?_
  refine lv_iload_n hx hb dX8_ownerOf_1 rfl (lv_at hl 1 rfl) ?_
  refine cQ (va_runV (C := RX8) (As := [.int p1]) (rest := []) ⟨hx, hb, hml, hown, hA⟩ (f_X8_ownerAt l dC dI dA sz X Γ hU g h0 t_h0 p1   (by omega)) ⟨callB_of 1 hA (al_A wd_2_56) rfl rfl rfl (hA _ wd_1_1) (hA _ wd_2_53) (by decide +kernel) ⟨Nat.le_of_ble_eq_true rfl, Nat.le_of_ble_eq_true rfl⟩, hA _ wd_2_55, hA _ ws_2⟩ ⟨bl, recv_X8 hE hG t_h0, fun U hU9 hW9 => ⟨rfl, by rw [hU9]; exact hG, hE.go hS hU9 hW9⟩⟩ rfl rfl hl.1 rfl (lv_room (Nat.le_of_ble_eq_true rfl)) dX8_ownerOf_2 ⟨Nat.zero_le _, Nat.zero_le _⟩) hS (fun r3 u1 H locs w2 hG hS => ?_)
  obtain ⟨t_r3, w2⟩ := w2
  obtain ⟨eu4, w2⟩ := w2
  rw [eu4] at hG
  subst w2
  refine lv_astore_nN (lv' := [(3, .null), (0, .ref h0), (1, .int p1), (2, .int p2)]) hx hb dX8_ownerOf_5 rfl hl (by decide) rfl (fun ls hl => ?_)
  refine lv_aload_nN hx hb dX8_ownerOf_6 rfl (lv_at hl 0 rfl) ?_
  refine lv_ifnonnullN hx hb dX8_ownerOf_7 ?_
  refine ty_iconst hx hb (-1) dX8_ownerOf_10 (by decide) (fun x5 h6 => ?_)
  exact W.iret (v := x5) hx hb hr (fun t ht hW => ⟨⟨x5, g, rfl, ⟨rfl, (by omega)⟩, ok1 ht hG⟩, hS.F ht⟩) hS.2.2 dX8_ownerOf_11

set_option maxHeartbeats 4000000 in
set_option maxRecDepth 100000 in
/-- WeekBank.rush:  -/
theorem f_X8_rush (l : Launch) (dC : Nat → ClassId) (dI : Nat → Nat → Nat) (dA : Nat → ClassId) (sz : Nat) (X : va_W) (Γ : ty_G) (hU : Un Γ) (g : gh) (h0 : Nat) (t_h0 : ty Γ h0 1) (f2 : g 2 0 = 0) : Met l yX8_rush (.code yX8_rush cX8_rush 5 (Option.some Jvm.ClassFile.FieldType.int) :: AL) ({ frames := 0, cells := 0, slots := 0, locals := 0 }) (PCx dC dI dA sz X Γ g [.ref h0]) (va_Qi (fun (r : Int32) (u : gh) => u = g ∧ ((r.toInt = 0))) (okb dC dI dA sz X Γ) (ty_A sz)) 0 0 (ty_A sz) := by
  refine Met.ofW (cc := cX8_rush) (maxL := 5) (ret := (Option.some Jvm.ClassFile.FieldType.int)) (by decide) rfl ?_
  intro p e s m args below meth c s₁ B hml hv
  obtain ⟨rfl, hG, hE⟩ := hv
  have hx := B.exec
  have hb := B.bytes
  have hr := B.returns
  have hts := atoms_spec B.pre
  have hA : ∀ w ∈ AL, w.before _ s = true := fun w h => hts w (List.mem_cons_of_mem _ h)
  have hown : s.vm.findClass RX8 = some m.cls := findClass_of_methodNamed B.named
  have hlocks := B.notSynchronized
  have hS : va_S (ty_A sz) s.heap s.heap [] := va_S.rf
  have hl := lv_entry ([.ref h0]) (n := 5) (Nat.le_of_ble_eq_true rfl)
  rw [lg_entry_eq]
  generalize (lg_sl ([.ref h0]) ++ List.replicate (5 - (lg_sl ([.ref h0])).length) Slot.unset).toArray = ls at hl ⊢
  have hl : lv_has ls 5 [(0, .ref h0)] := hl
  refine ty_iconst hx hb (0) dX8_rush_0 (by decide) (fun x1 h2 => ?_)
  refine lv_istore_n (lv' := [(1, .int x1), (0, .ref h0)]) hx hb dX8_rush_1 rfl hl (by decide) rfl (fun ls hl => ?_)
  refine lv_iload_n hx hb dX8_rush_2 rfl (lv_at hl 0 rfl) ?_
  refine lv_aload_n hx hb dX8_rush_3 rfl (lv_at hl 1 rfl) ?_
  refine get_X8_3 hx hb hA hown hE hG t_h0 wd_1_160 dX8_rush_4 (fun x3 h4 => ?_)
  refine ty_icmp_ge (tgt := 42) hx hb dX8_rush_7 (by decide) (fun c6 => ?_) (fun c6 => ?_)
  · skip
    refine ty_iconst hx hb (0) dX8_rush_42 (by decide) (fun x7 h8 => ?_)
    refine lv_istore_n (lv' := [(1, .int x7), (0, .ref h0)]) hx hb dX8_rush_43 rfl hl (by decide) rfl (fun ls hl => ?_)
    refine ty_iconst hx hb (0) dX8_rush_44 (by decide) (fun x9 h10 => ?_)
    refine lv_istore_n (lv' := [(2, .int x9), (1, .int x7), (0, .ref h0)]) hx hb dX8_rush_45 rfl hl (by decide) rfl (fun ls hl => ?_)
    refine lv_iload_n hx hb dX8_rush_46 rfl (lv_at hl 0 rfl) ?_
    refine lv_aload_n hx hb dX8_rush_47 rfl (lv_at hl 2 rfl) ?_
    refine get_X8_3 hx hb hA hown hE hG t_h0 wd_1_160 dX8_rush_48 (fun x11 h12 => ?_)
    refine ty_icmp_ge (tgt := 117) hx hb dX8_rush_51 (by decide) (fun c14 => ?_) (fun c14 => ?_)
    · skip
      refine lv_iload_n hx hb dX8_rush_117 rfl (lv_at hl 1 rfl) ?_
      exact W.iret (v := x7) hx hb hr (fun t ht hW => ⟨⟨x7, g, rfl, ⟨rfl, (by omega)⟩, ok1 ht hG⟩, hS.F ht⟩) hS.2.2 dX8_rush_118
    · exfalso; omega
  · exfalso; omega

set_option maxHeartbeats 4000000 in
set_option maxRecDepth 100000 in
/-- WeekBank.place:  -/
theorem k_X8_place (l : Launch) (dC : Nat → ClassId) (dI : Nat → Nat → Nat) (dA : Nat → ClassId) (sz : Nat) (X : va_W) (Γ : ty_G) (hU : Un Γ) (g : gh) (h0 : Nat) (t_h0 : ty Γ h0 1) : Met l yX8_place (.code yX8_place cX8_place 1 (Option.some Jvm.ClassFile.FieldType.int) :: AL) ({ frames := 0, cells := 0, slots := 0, locals := 0 }) (PCx dC dI dA sz X Γ g [.ref h0]) (va_Qi (fun (r : Int32) (u : gh) => u = g ∧ ((r.toInt = g 14 0))) (okb dC dI dA sz X Γ) (ty_A sz)) 0 0 (ty_A sz) := by
  refine Met.ofW (cc := cX8_place) (maxL := 1) (ret := (Option.some Jvm.ClassFile.FieldType.int)) (by decide) rfl ?_
  intro p e s m args below meth c s₁ B hml hv
  obtain ⟨rfl, hG, hE⟩ := hv
  have hx := B.exec
  have hb := B.bytes
  have hr := B.returns
  have hts := atoms_spec B.pre
  have hA : ∀ w ∈ AL, w.before _ s = true := fun w h => hts w (List.mem_cons_of_mem _ h)
  have hown : s.vm.findClass RX8 = some m.cls := findClass_of_methodNamed B.named
  have hlocks := B.notSynchronized
  have hS : va_S (ty_A sz) s.heap s.heap [] := va_S.rf
  have hl := lv_entry ([.ref h0]) (n := 1) (Nat.le_of_ble_eq_true rfl)
  rw [lg_entry_eq]
  generalize (lg_sl ([.ref h0]) ++ List.replicate (1 - (lg_sl ([.ref h0])).length) Slot.unset).toArray = ls at hl ⊢
  have hl : lv_has ls 1 [(0, .ref h0)] := hl
  refine lv_aload_n hx hb dX8_place_0 rfl (lv_at hl 0 rfl) ?_
  refine get_X8_6 hx hb hA hown hE hG t_h0 wd_1_163 dX8_place_1 (fun b1 (t_b1 : ty Γ b1 7) => ?_)
  refine get_X4_3 hx hb hA hown hE hG t_b1 wd_1_48 dX8_place_4 (fun x2 h3 => ?_)
  exact W.iret (v := x2) hx hb hr (fun t ht hW => ⟨⟨x2, g, rfl, ⟨rfl, (by omega)⟩, ok1 ht hG⟩, hS.F ht⟩) hS.2.2 dX8_place_7

set_option maxHeartbeats 4000000 in
set_option maxRecDepth 100000 in
/-- WeekBank.end:  -/
theorem k_X8_end (l : Launch) (dC : Nat → ClassId) (dI : Nat → Nat → Nat) (dA : Nat → ClassId) (sz : Nat) (X : va_W) (Γ : ty_G) (hU : Un Γ) (g : gh) (h0 : Nat) (t_h0 : ty Γ h0 1) (p1 : Int32) (g1 : 0 ≤ g 6 0 ∧ g 6 0 ≤ 300) : Met l yX8_end (.code yX8_end cX8_end 2 (Option.some Jvm.ClassFile.FieldType.int) :: AL) ({ frames := 0, cells := 0, slots := 0, locals := 0 }) (PCx dC dI dA sz X Γ g [.ref h0, .int p1]) (va_Qi (fun (r : Int32) (u : gh) => (∀ c j : Nat, c ≠ 6 → u c j = g c j) ∧ ((0 ≤ p1.toInt ∧ p1.toInt ≤ g 6 0 → r.toInt = p1.toInt ∧ u 6 0 = p1.toInt) ∧ (¬ (0 ≤ p1.toInt ∧ p1.toInt ≤ g 6 0) → r.toInt = -1 ∧ u 6 0 = g 6 0))) (okb dC dI dA sz X Γ) (ty_A sz)) 0 0 (ty_A sz) := by
  refine Met.ofW (cc := cX8_end) (maxL := 2) (ret := (Option.some Jvm.ClassFile.FieldType.int)) (by decide) rfl ?_
  intro p e s m args below meth c s₁ B hml hv
  obtain ⟨rfl, hG, hE⟩ := hv
  have hx := B.exec
  have hb := B.bytes
  have hr := B.returns
  have hts := atoms_spec B.pre
  have hA : ∀ w ∈ AL, w.before _ s = true := fun w h => hts w (List.mem_cons_of_mem _ h)
  have hown : s.vm.findClass RX8 = some m.cls := findClass_of_methodNamed B.named
  have hlocks := B.notSynchronized
  have hS : va_S (ty_A sz) s.heap s.heap [] := va_S.rf
  have hl := lv_entry ([.ref h0, .int p1]) (n := 2) (Nat.le_of_ble_eq_true rfl)
  rw [lg_entry_eq]
  generalize (lg_sl ([.ref h0, .int p1]) ++ List.replicate (2 - (lg_sl ([.ref h0, .int p1])).length) Slot.unset).toArray = ls at hl ⊢
  have hl : lv_has ls 2 [(0, .ref h0), (1, .int p1)] := hl
  refine lv_iload_n hx hb dX8_end_0 rfl (lv_at hl 1 rfl) ?_
  refine ty_if_lt (tgt := 15) hx hb dX8_end_1 (by decide) (fun c1 => ?_) (fun c1 => ?_)
  · skip
    refine ty_iconst hx hb (-1) dX8_end_15 (by decide) (fun x2 h3 => ?_)
    exact W.iret (v := x2) hx hb hr (fun t ht hW => ⟨⟨x2, g, rfl, ⟨(fun c j h6 => by rfl), (by omega)⟩, ok1 ht hG⟩, hS.F ht⟩) hS.2.2 dX8_end_16
  · skip
    refine lv_iload_n hx hb dX8_end_4 rfl (lv_at hl 1 rfl) ?_
    refine lv_aload_n hx hb dX8_end_5 rfl (lv_at hl 0 rfl) ?_
    refine get_X8_6 hx hb hA hown hE hG t_h0 wd_1_163 dX8_end_6 (fun b4 (t_b4 : ty Γ b4 7) => ?_)
    refine get_X4_1 hx hb hA hown hE hG t_b4 wd_1_44 dX8_end_9 (fun x5 h6 => ?_)
    refine ty_icmp_le (tgt := 17) hx hb dX8_end_12 (by decide) (fun c8 => ?_) (fun c8 => ?_)
    · skip
      refine lv_aload_n hx hb dX8_end_17 rfl (lv_at hl 0 rfl) ?_
      refine get_X8_6 hx hb hA hown hE hG t_h0 wd_1_163 dX8_end_18 (fun b9 (t_b9 : ty Γ b9 7) => ?_)
      refine lv_iload_n hx hb dX8_end_21 rfl (lv_at hl 1 rfl) ?_
      refine put_X4_1 hx hb hA hown hE hG hS hU t_b9 wd_1_44 dX8_end_22 (fun H locs hG hS => ?_)
      refine lv_iload_n hx hb dX8_end_25 rfl (lv_at hl 1 rfl) ?_
      have e10 : (gs g 6 0 p1.toInt) 6 0 = p1.toInt := by simp [gs]
      exact W.iret (v := p1) hx hb hr (fun t ht hW => ⟨⟨p1, (gs g 6 0 p1.toInt), rfl, ⟨(fun c j h6 => by rw [gs_c _ _ _ _ h6]), (by omega)⟩, ok1 ht hG⟩, hS.F ht⟩) hS.2.2 dX8_end_26
    · skip
      refine ty_iconst hx hb (-1) dX8_end_15 (by decide) (fun x11 h12 => ?_)
      exact W.iret (v := x11) hx hb hr (fun t ht hW => ⟨⟨x11, g, rfl, ⟨(fun c j h6 => by rfl), (by omega)⟩, ok1 ht hG⟩, hS.F ht⟩) hS.2.2 dX8_end_16

set_option maxHeartbeats 4000000 in
set_option maxRecDepth 100000 in
/-- WeekBank$Reader.addBytes:  -/
theorem k_X4_addBytes (l : Launch) (dC : Nat → ClassId) (dI : Nat → Nat → Nat) (dA : Nat → ClassId) (sz : Nat) (X : va_W) (Γ : ty_G) (hU : Un Γ) (g : gh) (h0 : Nat) (t_h0 : ty Γ h0 7) (p1 : Int32) (g1 : 0 ≤ g 6 0 ∧ g 6 0 ≤ 296) : Met l yX4_addBytes (.code yX4_addBytes cX4_addBytes 3 (Option.none : Option Jvm.ClassFile.FieldType) :: AL) ({ frames := 0, cells := 0, slots := 0, locals := 0 }) (PCx dC dI dA sz X Γ g [.ref h0, .int p1]) (va_Qv (fun (u : gh) => (∀ c j : Nat, c ≠ 6 → c ≠ 19 → u c j = g c j) ∧ ((u 6 0 = g 6 0 + 4))) (okb dC dI dA sz X Γ) (ty_A sz)) 0 0 (ty_A sz) := by
  refine Met.ofW (cc := cX4_addBytes) (maxL := 3) (ret := (Option.none : Option Jvm.ClassFile.FieldType)) (by decide) rfl ?_
  intro p e s m args below meth c s₁ B hml hv
  obtain ⟨rfl, hG, hE⟩ := hv
  have hx := B.exec
  have hb := B.bytes
  have hr := B.returns
  have hts := atoms_spec B.pre
  have hA : ∀ w ∈ AL, w.before _ s = true := fun w h => hts w (List.mem_cons_of_mem _ h)
  have hown : s.vm.findClass RX4 = some m.cls := findClass_of_methodNamed B.named
  have hlocks := B.notSynchronized
  have hS : va_S (ty_A sz) s.heap s.heap [] := va_S.rf
  have hl := lv_entry ([.ref h0, .int p1]) (n := 3) (Nat.le_of_ble_eq_true rfl)
  rw [lg_entry_eq]
  generalize (lg_sl ([.ref h0, .int p1]) ++ List.replicate (3 - (lg_sl ([.ref h0, .int p1])).length) Slot.unset).toArray = ls at hl ⊢
  have hl : lv_has ls 3 [(0, .ref h0), (1, .int p1)] := hl
  refine ty_bipush hx hb (24) dX4_addBytes_0 (by decide) (fun x1 h2 => ?_)
  refine lv_istore_n (lv' := [(2, .int x1), (0, .ref h0), (1, .int p1)]) hx hb dX4_addBytes_2 rfl hl (by decide) rfl (fun ls hl => ?_)
  have L_3 : ∀ (n : Nat) (k : Int32) (g3 : gh) (H : Heap) (locs : List Loc) (ls : Array Slot), (k.toInt + 8 : Int) < n → -8 ≤ k.toInt ∧ k.toInt ≤ 24 → 8 * (g3 6 0 - g 6 0) = 24 - k.toInt → (∀ c j : Nat, c ≠ 6 → c ≠ 19 → g3 c j = g c j) → ty_ok (dC, dI) vwCl Γ (TP dA Γ g3) sz X H → va_S (ty_A sz) s.heap H locs → lv_has ls 3 [(2, .int k), (0, .ref h0), (1, .int p1)] → W p l e (headSpec (.code yX4_addBytes cX4_addBytes 3 (Option.none : Option Jvm.ClassFile.FieldType) :: AL) ({ frames := 0, cells := 0, slots := 0, locals := 0 })).room s m ([.ref h0, .int p1] : List Value).toArray below meth c H locs 0 0 (MQ below (va_Qv (fun (u : gh) => (∀ c j : Nat, c ≠ 6 → c ≠ 19 → u c j = g c j) ∧ ((u 6 0 = g 6 0 + 4))) (okb dC dI dA sz X Γ) (ty_A sz)) ([.ref h0, .int p1] : List Value).toArray s 0 0 (ty_A sz)) (F0 m 3 ls []) := by
    intro n
    induction n with
    | zero => intro k g3 H locs ls hm hi0 hi1 hf4 hG hS hl; exfalso; omega
    | succ n ih =>
      intro k g3 H locs ls hm hi0 hi1 hf4 hG hS hl
      refine lv_iload_n hx hb dX4_addBytes_3 rfl (lv_at hl 0 rfl) ?_
      refine ty_if_lt (tgt := 49) hx hb dX4_addBytes_4 (by decide) (fun c5 => ?_) (fun c5 => ?_)
      · skip
        exact W.vret hx hb hr (fun t ht hW => ⟨⟨g3, rfl, ⟨(fun c j h6 h19 => by rw [hf4 c j h6 h19]), (by omega)⟩, ok1 ht hG⟩, hS.F ht⟩) hS.2.2 dX4_addBytes_49
      · skip
        refine lv_aload_n hx hb dX4_addBytes_7 rfl (lv_at hl 1 rfl) ?_
        refine get_X4_1 hx hb hA hown hE hG t_h0 wd_1_43 dX4_addBytes_8 (fun x6 h7 => ?_)
        refine ty_sipush hx hb (300) dX4_addBytes_11 (by decide) (fun x9 h10 => ?_)
        refine ty_icmp_ge (tgt := 43) hx hb dX4_addBytes_14 (by decide) (fun c11 => ?_) (fun c11 => ?_)
        · exfalso; omega
        · skip
          refine lv_aload_n hx hb dX4_addBytes_17 rfl (lv_at hl 1 rfl) ?_
          refine get_X4_0 hx hb hA hown hE hG t_h0 wd_1_42 dX4_addBytes_18 (fun b12 (t_b12 : ty Γ b12 18) => ?_)
          refine lv_aload_n hx hb dX4_addBytes_21 rfl (lv_at hl 1 rfl) ?_
          refine get_X4_1 hx hb hA hown hE hG t_h0 wd_1_43 dX4_addBytes_22 (fun x13 h14 => ?_)
          refine lv_iload_n hx hb dX4_addBytes_25 rfl (lv_at hl 2 rfl) ?_
          refine lv_iload_n hx hb dX4_addBytes_26 rfl (lv_at hl 0 rfl) ?_
          refine lv_iushr hx hb dX4_addBytes_27 rfl ?_
          refine lv_topi (fun x16 h17 => ?_)
          refine ty_sipush hx hb (255) dX4_addBytes_28 (by decide) (fun x18 h19 => ?_)
          refine ty_iand hx hb dX4_addBytes_31 (fun x20 h21 => ?_)
          refine ast_18 hx hb hE hG hS hU t_b12 (by omega) dX4_addBytes_32 (fun H locs hG hS => ?_)
          refine lv_aload_n hx hb dX4_addBytes_33 rfl (lv_at hl 1 rfl) ?_
          refine lv_dup hx hb dX4_addBytes_34 rfl ?_
          refine get_X4_1 hx hb hA hown hE hG t_h0 wd_1_43 dX4_addBytes_35 (fun x22 h23 => ?_)
          have h23 : x22.toInt = g3 6 0 := by rw [h23]; simp [gs]
          refine ty_iconst hx hb (1) dX4_addBytes_38 (by decide) (fun x25 h26 => ?_)
          refine ty_iadd hx hb dX4_addBytes_39 (fun x27 h28 => ?_)
          try have h29 : x27.toInt = x22.toInt + x25.toInt := ty_add h28 (by omega) (by omega)
          refine put_X4_1 hx hb hA hown hE hG hS hU t_h0 wd_1_43 dX4_addBytes_40 (fun H locs hG hS => ?_)
          obtain ⟨x30, h31⟩ : ∃ y : Int32, y = k + Int32.ofInt (-8) := ⟨_, rfl⟩
          try have h32 : x30.toInt = k.toInt + (-8) := ty_inc h31 (by decide) (by omega) (by omega)
          refine lv_iinc (v := x30) (lv' := [(2, .int x30), (0, .ref h0), (1, .int p1)]) hx hb dX4_addBytes_43 hl (k := 0) rfl h31.symm (by decide) rfl (fun ls hl => ?_)
          refine lv_goto (tgt := 3) hx hb dX4_addBytes_46 (by decide) ?_
          have e33 : (gs (gs g3 19 (x13.toInt.toNat) x20.toInt) 6 0 x27.toInt) 6 0 = x27.toInt := by simp [gs]
          exact ih x30 (gs (gs g3 19 (x13.toInt.toNat) x20.toInt) 6 0 x27.toInt) _ _ ls (by omega) (by omega) (by omega) (fun c j h6 h19 => by rw [gs_c _ _ _ _ h6, gs_c _ _ _ _ h19, hf4 c j h6 h19]) hG hS (lv_sub hl [0, 1, 2] rfl)
  exact L_3 ((x1.toInt + 8) + 1).toNat x1 g _ _ ls (by omega) (by omega) (by omega) (fun c j _ _ => rfl) hG hS (lv_sub hl [0, 1, 2] rfl)

set_option maxHeartbeats 4000000 in
set_option maxRecDepth 100000 in
/-- WeekBank.feed:  -/
theorem k_X8_feed (l : Launch) (dC : Nat → ClassId) (dI : Nat → Nat → Nat) (dA : Nat → ClassId) (sz : Nat) (X : va_W) (Γ : ty_G) (hU : Un Γ) (g : gh) (h0 : Nat) (t_h0 : ty Γ h0 1) (p1 : Int32) (p2 : Int32) (p3 : Int32) (p4 : Int32) (p5 : Int32) (g1 : 0 ≤ g 6 0 ∧ g 6 0 ≤ 300) : Met l yX8_feed (.code yX8_feed cX8_feed 6 (Option.some Jvm.ClassFile.FieldType.int) :: AL) ({ frames := 1, cells := 0, slots := 0, locals := 22 }) (PCx dC dI dA sz X Γ g [.ref h0, .int p1, .int p2, .int p3, .int p4, .int p5]) (va_Qi (fun (r : Int32) (u : gh) => (∀ c j : Nat, c ≠ 6 → c ≠ 19 → u c j = g c j) ∧ ((g 6 0 ≤ 280 → r.toInt = g 6 0 + 20 ∧ u 6 0 = g 6 0 + 20) ∧ (280 < g 6 0 → r.toInt = -1 ∧ u 6 0 = g 6 0))) (okb dC dI dA sz X Γ) (ty_A sz)) 0 0 (ty_A sz) := by
  refine Met.ofW (cc := cX8_feed) (maxL := 6) (ret := (Option.some Jvm.ClassFile.FieldType.int)) (by decide) rfl ?_
  intro p e s m args below meth c s₁ B hml hv
  obtain ⟨rfl, hG, hE⟩ := hv
  have hx := B.exec
  have hb := B.bytes
  have hr := B.returns
  have hts := atoms_spec B.pre
  have hA : ∀ w ∈ AL, w.before _ s = true := fun w h => hts w (List.mem_cons_of_mem _ h)
  have hown : s.vm.findClass RX8 = some m.cls := findClass_of_methodNamed B.named
  have hlocks := B.notSynchronized
  have hS : va_S (ty_A sz) s.heap s.heap [] := va_S.rf
  have hl := lv_entry ([.ref h0, .int p1, .int p2, .int p3, .int p4, .int p5]) (n := 6) (Nat.le_of_ble_eq_true rfl)
  rw [lg_entry_eq]
  generalize (lg_sl ([.ref h0, .int p1, .int p2, .int p3, .int p4, .int p5]) ++ List.replicate (6 - (lg_sl ([.ref h0, .int p1, .int p2, .int p3, .int p4, .int p5])).length) Slot.unset).toArray = ls at hl ⊢
  have hl : lv_has ls 6 [(0, .ref h0), (1, .int p1), (2, .int p2), (3, .int p3), (4, .int p4), (5, .int p5)] := hl
  refine lv_aload_n hx hb dX8_feed_0 rfl (lv_at hl 0 rfl) ?_
  refine get_X8_6 hx hb hA hown hE hG t_h0 wd_1_163 dX8_feed_1 (fun b1 (t_b1 : ty Γ b1 7) => ?_)
  refine get_X4_1 hx hb hA hown hE hG t_b1 wd_1_44 dX8_feed_4 (fun x2 h3 => ?_)
  refine ty_bipush hx hb (20) dX8_feed_7 (by decide) (fun x5 h6 => ?_)
  refine ty_iadd hx hb dX8_feed_9 (fun x7 h8 => ?_)
  try have h9 : x7.toInt = x2.toInt + x5.toInt := ty_add h8 (by omega) (by omega)
  refine ty_sipush hx hb (300) dX8_feed_10 (by decide) (fun x10 h11 => ?_)
  refine ty_icmp_le (tgt := 18) hx hb dX8_feed_13 (by decide) (fun c12 => ?_) (fun c12 => ?_)
  · skip
    refine lv_aload_n hx hb dX8_feed_18 rfl (lv_at hl 0 rfl) ?_
    refine get_X8_6 hx hb hA hown hE hG t_h0 wd_1_163 dX8_feed_19 (fun b13 (t_b13 : ty Γ b13 7) => ?_)
    refine lv_iload_n hx hb dX8_feed_22 rfl (lv_at hl 1 rfl) ?_
    refine cV (va_runV (C := RX4) (As := [.int p1]) (rest := []) ⟨hx, hb, hml, hown, hA⟩ (k_X4_addBytes l dC dI dA sz X Γ hU g b13 t_b13 p1   (by omega)) ⟨callB_of 1 hA (al_A wd_2_80) rfl rfl rfl (hA _ wd_1_2) (hA _ wd_2_77) (by decide +kernel) ⟨Nat.le_of_ble_eq_true rfl, Nat.le_of_ble_eq_true rfl⟩, hA _ wd_2_78, hA _ wd_2_79⟩ ⟨bl, recv_X4 hE hG t_b13, fun U hU9 hW9 => ⟨rfl, by rw [hU9]; exact hG, hE.go hS hU9 hW9⟩⟩ rfl rfl hl.1 rfl (lv_room (Nat.le_of_ble_eq_true rfl)) dX8_feed_23 ⟨Nat.zero_le _, Nat.zero_le _⟩) hS (fun u14 H locs w15 hG hS => ?_)
    obtain ⟨hf16, w15⟩ := w15
    refine lv_aload_n hx hb dX8_feed_26 rfl (lv_at hl 0 rfl) ?_
    refine get_X8_6 hx hb hA hown hE hG t_h0 wd_1_163 dX8_feed_27 (fun b17 (t_b17 : ty Γ b17 7) => ?_)
    refine lv_iload_n hx hb dX8_feed_30 rfl (lv_at hl 2 rfl) ?_
    refine cV (va_runV (C := RX4) (As := [.int p2]) (rest := []) ⟨hx, hb, hml, hown, hA⟩ (k_X4_addBytes l dC dI dA sz X Γ hU u14 b17 t_b17 p2   (by omega)) ⟨callB_of 1 hA (al_A wd_2_80) rfl rfl rfl (hA _ wd_1_2) (hA _ wd_2_77) (by decide +kernel) ⟨Nat.le_of_ble_eq_true rfl, Nat.le_of_ble_eq_true rfl⟩, hA _ wd_2_78, hA _ wd_2_79⟩ ⟨bl, recv_X4 hE hG t_b17, fun U hU9 hW9 => ⟨rfl, by rw [hU9]; exact hG, hE.go hS hU9 hW9⟩⟩ rfl rfl hl.1 rfl (lv_room (Nat.le_of_ble_eq_true rfl)) dX8_feed_31 ⟨Nat.zero_le _, Nat.zero_le _⟩) hS (fun u18 H locs w19 hG hS => ?_)
    obtain ⟨hf20, w19⟩ := w19
    refine lv_aload_n hx hb dX8_feed_34 rfl (lv_at hl 0 rfl) ?_
    refine get_X8_6 hx hb hA hown hE hG t_h0 wd_1_163 dX8_feed_35 (fun b21 (t_b21 : ty Γ b21 7) => ?_)
    refine lv_iload_n hx hb dX8_feed_38 rfl (lv_at hl 3 rfl) ?_
    refine cV (va_runV (C := RX4) (As := [.int p3]) (rest := []) ⟨hx, hb, hml, hown, hA⟩ (k_X4_addBytes l dC dI dA sz X Γ hU u18 b21 t_b21 p3   (by omega)) ⟨callB_of 1 hA (al_A wd_2_80) rfl rfl rfl (hA _ wd_1_2) (hA _ wd_2_77) (by decide +kernel) ⟨Nat.le_of_ble_eq_true rfl, Nat.le_of_ble_eq_true rfl⟩, hA _ wd_2_78, hA _ wd_2_79⟩ ⟨bl, recv_X4 hE hG t_b21, fun U hU9 hW9 => ⟨rfl, by rw [hU9]; exact hG, hE.go hS hU9 hW9⟩⟩ rfl rfl hl.1 rfl (lv_room (Nat.le_of_ble_eq_true rfl)) dX8_feed_39 ⟨Nat.zero_le _, Nat.zero_le _⟩) hS (fun u22 H locs w23 hG hS => ?_)
    obtain ⟨hf24, w23⟩ := w23
    refine lv_aload_n hx hb dX8_feed_42 rfl (lv_at hl 0 rfl) ?_
    refine get_X8_6 hx hb hA hown hE hG t_h0 wd_1_163 dX8_feed_43 (fun b25 (t_b25 : ty Γ b25 7) => ?_)
    refine lv_iload hx hb dX8_feed_46 (lv_at hl 4 rfl) ?_
    refine cV (va_runV (C := RX4) (As := [.int p4]) (rest := []) ⟨hx, hb, hml, hown, hA⟩ (k_X4_addBytes l dC dI dA sz X Γ hU u22 b25 t_b25 p4   (by omega)) ⟨callB_of 1 hA (al_A wd_2_80) rfl rfl rfl (hA _ wd_1_2) (hA _ wd_2_77) (by decide +kernel) ⟨Nat.le_of_ble_eq_true rfl, Nat.le_of_ble_eq_true rfl⟩, hA _ wd_2_78, hA _ wd_2_79⟩ ⟨bl, recv_X4 hE hG t_b25, fun U hU9 hW9 => ⟨rfl, by rw [hU9]; exact hG, hE.go hS hU9 hW9⟩⟩ rfl rfl hl.1 rfl (lv_room (Nat.le_of_ble_eq_true rfl)) dX8_feed_48 ⟨Nat.zero_le _, Nat.zero_le _⟩) hS (fun u26 H locs w27 hG hS => ?_)
    obtain ⟨hf28, w27⟩ := w27
    refine lv_aload_n hx hb dX8_feed_51 rfl (lv_at hl 0 rfl) ?_
    refine get_X8_6 hx hb hA hown hE hG t_h0 wd_1_163 dX8_feed_52 (fun b29 (t_b29 : ty Γ b29 7) => ?_)
    refine lv_iload hx hb dX8_feed_55 (lv_at hl 5 rfl) ?_
    refine cV (va_runV (C := RX4) (As := [.int p5]) (rest := []) ⟨hx, hb, hml, hown, hA⟩ (k_X4_addBytes l dC dI dA sz X Γ hU u26 b29 t_b29 p5   (by omega)) ⟨callB_of 1 hA (al_A wd_2_80) rfl rfl rfl (hA _ wd_1_2) (hA _ wd_2_77) (by decide +kernel) ⟨Nat.le_of_ble_eq_true rfl, Nat.le_of_ble_eq_true rfl⟩, hA _ wd_2_78, hA _ wd_2_79⟩ ⟨bl, recv_X4 hE hG t_b29, fun U hU9 hW9 => ⟨rfl, by rw [hU9]; exact hG, hE.go hS hU9 hW9⟩⟩ rfl rfl hl.1 rfl (lv_room (Nat.le_of_ble_eq_true rfl)) dX8_feed_57 ⟨Nat.zero_le _, Nat.zero_le _⟩) hS (fun u30 H locs w31 hG hS => ?_)
    obtain ⟨hf32, w31⟩ := w31
    refine lv_aload_n hx hb dX8_feed_60 rfl (lv_at hl 0 rfl) ?_
    refine get_X8_6 hx hb hA hown hE hG t_h0 wd_1_163 dX8_feed_61 (fun b33 (t_b33 : ty Γ b33 7) => ?_)
    refine get_X4_1 hx hb hA hown hE hG t_b33 wd_1_44 dX8_feed_64 (fun x34 h35 => ?_)
    exact W.iret (v := x34) hx hb hr (fun t ht hW => ⟨⟨x34, u30, rfl, ⟨(fun c j h6 h19 => by rw [hf32 c j h6 h19, hf28 c j h6 h19, hf24 c j h6 h19, hf20 c j h6 h19, hf16 c j h6 h19]), (by omega)⟩, ok1 ht hG⟩, hS.F ht⟩) hS.2.2 dX8_feed_67
  · skip
    refine ty_iconst hx hb (-1) dX8_feed_16 (by decide) (fun x37 h38 => ?_)
    exact W.iret (v := x37) hx hb hr (fun t ht hW => ⟨⟨x37, g, rfl, ⟨(fun c j h6 h19 => by rfl), (by omega)⟩, ok1 ht hG⟩, hS.F ht⟩) hS.2.2 dX8_feed_17

set_option maxHeartbeats 4000000 in
set_option maxRecDepth 100000 in
/-- WeekBank.countGifts:  -/
theorem f_X8_countGifts (l : Launch) (dC : Nat → ClassId) (dI : Nat → Nat → Nat) (dA : Nat → ClassId) (sz : Nat) (X : va_W) (Γ : ty_G) (hU : Un Γ) (g : gh) (h0 : Nat) (t_h0 : ty Γ h0 1) (p1 : Int32) (f3 : g 3 0 = 0) : Met l yX8_countGifts (.code yX8_countGifts cX8_countGifts 4 (Option.some Jvm.ClassFile.FieldType.int) :: AL) ({ frames := 0, cells := 0, slots := 0, locals := 0 }) (PCx dC dI dA sz X Γ g [.ref h0, .int p1]) (va_Qi (fun (r : Int32) (u : gh) => u = g ∧ ((r.toInt = 0))) (okb dC dI dA sz X Γ) (ty_A sz)) 0 0 (ty_A sz) := by
  refine Met.ofW (cc := cX8_countGifts) (maxL := 4) (ret := (Option.some Jvm.ClassFile.FieldType.int)) (by decide) rfl ?_
  intro p e s m args below meth c s₁ B hml hv
  obtain ⟨rfl, hG, hE⟩ := hv
  have hx := B.exec
  have hb := B.bytes
  have hr := B.returns
  have hts := atoms_spec B.pre
  have hA : ∀ w ∈ AL, w.before _ s = true := fun w h => hts w (List.mem_cons_of_mem _ h)
  have hown : s.vm.findClass RX8 = some m.cls := findClass_of_methodNamed B.named
  have hlocks := B.notSynchronized
  have hS : va_S (ty_A sz) s.heap s.heap [] := va_S.rf
  have hl := lv_entry ([.ref h0, .int p1]) (n := 4) (Nat.le_of_ble_eq_true rfl)
  rw [lg_entry_eq]
  generalize (lg_sl ([.ref h0, .int p1]) ++ List.replicate (4 - (lg_sl ([.ref h0, .int p1])).length) Slot.unset).toArray = ls at hl ⊢
  have hl : lv_has ls 4 [(0, .ref h0), (1, .int p1)] := hl
  refine ty_iconst hx hb (0) dX8_countGifts_0 (by decide) (fun x1 h2 => ?_)
  refine lv_istore_n (lv' := [(2, .int x1), (0, .ref h0), (1, .int p1)]) hx hb dX8_countGifts_1 rfl hl (by decide) rfl (fun ls hl => ?_)
  refine ty_iconst hx hb (0) dX8_countGifts_2 (by decide) (fun x3 h4 => ?_)
  refine lv_istore_n (lv' := [(3, .int x3), (2, .int x1), (0, .ref h0), (1, .int p1)]) hx hb dX8_countGifts_3 rfl hl (by decide) rfl (fun ls hl => ?_)
  refine lv_iload_n hx hb dX8_countGifts_4 rfl (lv_at hl 0 rfl) ?_
  refine lv_aload_n hx hb dX8_countGifts_5 rfl (lv_at hl 2 rfl) ?_
  refine get_X8_5 hx hb hA hown hE hG t_h0 wd_1_162 dX8_countGifts_6 (fun x5 h6 => ?_)
  refine ty_icmp_ge (tgt := 34) hx hb dX8_countGifts_9 (by decide) (fun c8 => ?_) (fun c8 => ?_)
  · skip
    refine lv_iload_n hx hb dX8_countGifts_34 rfl (lv_at hl 1 rfl) ?_
    exact W.iret (v := x1) hx hb hr (fun t ht hW => ⟨⟨x1, g, rfl, ⟨rfl, (by omega)⟩, ok1 ht hG⟩, hS.F ht⟩) hS.2.2 dX8_countGifts_35
  · exfalso; omega

set_option maxHeartbeats 4000000 in
set_option maxRecDepth 100000 in
/-- WeekBank.sumPoints:  -/
theorem f_X8_sumPoints (l : Launch) (dC : Nat → ClassId) (dI : Nat → Nat → Nat) (dA : Nat → ClassId) (sz : Nat) (X : va_W) (Γ : ty_G) (hU : Un Γ) (g : gh) (h0 : Nat) (t_h0 : ty Γ h0 1) (f2 : g 2 0 = 0) : Met l yX8_sumPoints (.code yX8_sumPoints cX8_sumPoints 3 (Option.some Jvm.ClassFile.FieldType.int) :: AL) ({ frames := 0, cells := 0, slots := 0, locals := 0 }) (PCx dC dI dA sz X Γ g [.ref h0]) (va_Qi (fun (r : Int32) (u : gh) => u = g ∧ ((r.toInt = 0))) (okb dC dI dA sz X Γ) (ty_A sz)) 0 0 (ty_A sz) := by
  refine Met.ofW (cc := cX8_sumPoints) (maxL := 3) (ret := (Option.some Jvm.ClassFile.FieldType.int)) (by decide) rfl ?_
  intro p e s m args below meth c s₁ B hml hv
  obtain ⟨rfl, hG, hE⟩ := hv
  have hx := B.exec
  have hb := B.bytes
  have hr := B.returns
  have hts := atoms_spec B.pre
  have hA : ∀ w ∈ AL, w.before _ s = true := fun w h => hts w (List.mem_cons_of_mem _ h)
  have hown : s.vm.findClass RX8 = some m.cls := findClass_of_methodNamed B.named
  have hlocks := B.notSynchronized
  have hS : va_S (ty_A sz) s.heap s.heap [] := va_S.rf
  have hl := lv_entry ([.ref h0]) (n := 3) (Nat.le_of_ble_eq_true rfl)
  rw [lg_entry_eq]
  generalize (lg_sl ([.ref h0]) ++ List.replicate (3 - (lg_sl ([.ref h0])).length) Slot.unset).toArray = ls at hl ⊢
  have hl : lv_has ls 3 [(0, .ref h0)] := hl
  refine ty_iconst hx hb (0) dX8_sumPoints_0 (by decide) (fun x1 h2 => ?_)
  refine lv_istore_n (lv' := [(1, .int x1), (0, .ref h0)]) hx hb dX8_sumPoints_1 rfl hl (by decide) rfl (fun ls hl => ?_)
  refine ty_iconst hx hb (0) dX8_sumPoints_2 (by decide) (fun x3 h4 => ?_)
  refine lv_istore_n (lv' := [(2, .int x3), (1, .int x1), (0, .ref h0)]) hx hb dX8_sumPoints_3 rfl hl (by decide) rfl (fun ls hl => ?_)
  refine lv_iload_n hx hb dX8_sumPoints_4 rfl (lv_at hl 0 rfl) ?_
  refine lv_aload_n hx hb dX8_sumPoints_5 rfl (lv_at hl 2 rfl) ?_
  refine get_X8_3 hx hb hA hown hE hG t_h0 wd_1_160 dX8_sumPoints_6 (fun x5 h6 => ?_)
  refine ty_icmp_ge (tgt := 30) hx hb dX8_sumPoints_9 (by decide) (fun c8 => ?_) (fun c8 => ?_)
  · skip
    refine lv_iload_n hx hb dX8_sumPoints_30 rfl (lv_at hl 1 rfl) ?_
    exact W.iret (v := x1) hx hb hr (fun t ht hW => ⟨⟨x1, g, rfl, ⟨rfl, (by omega)⟩, ok1 ht hG⟩, hS.F ht⟩) hS.2.2 dX8_sumPoints_31
  · exfalso; omega

set_option maxHeartbeats 4000000 in
set_option maxRecDepth 100000 in
/-- WeekBank.endUnusedGifts:  -/
theorem f_X8_endUnusedGifts (l : Launch) (dC : Nat → ClassId) (dI : Nat → Nat → Nat) (dA : Nat → ClassId) (sz : Nat) (X : va_W) (Γ : ty_G) (hU : Un Γ) (g : gh) (h0 : Nat) (t_h0 : ty Γ h0 1) (p1 : Int32) (f3 : g 3 0 = 0) : Met l yX8_endUnusedGifts (.code yX8_endUnusedGifts cX8_endUnusedGifts 5 (Option.none : Option Jvm.ClassFile.FieldType) :: AL) ({ frames := 0, cells := 0, slots := 0, locals := 0 }) (PCx dC dI dA sz X Γ g [.ref h0, .int p1]) (va_Qv (fun (u : gh) => u = g) (okb dC dI dA sz X Γ) (ty_A sz)) 0 0 (ty_A sz) := by
  refine Met.ofW (cc := cX8_endUnusedGifts) (maxL := 5) (ret := (Option.none : Option Jvm.ClassFile.FieldType)) (by decide) rfl ?_
  intro p e s m args below meth c s₁ B hml hv
  obtain ⟨rfl, hG, hE⟩ := hv
  have hx := B.exec
  have hb := B.bytes
  have hr := B.returns
  have hts := atoms_spec B.pre
  have hA : ∀ w ∈ AL, w.before _ s = true := fun w h => hts w (List.mem_cons_of_mem _ h)
  have hown : s.vm.findClass RX8 = some m.cls := findClass_of_methodNamed B.named
  have hlocks := B.notSynchronized
  have hS : va_S (ty_A sz) s.heap s.heap [] := va_S.rf
  have hl := lv_entry ([.ref h0, .int p1]) (n := 5) (Nat.le_of_ble_eq_true rfl)
  rw [lg_entry_eq]
  generalize (lg_sl ([.ref h0, .int p1]) ++ List.replicate (5 - (lg_sl ([.ref h0, .int p1])).length) Slot.unset).toArray = ls at hl ⊢
  have hl : lv_has ls 5 [(0, .ref h0), (1, .int p1)] := hl
  refine ty_iconst hx hb (0) dX8_endUnusedGifts_0 (by decide) (fun x1 h2 => ?_)
  refine lv_istore_n (lv' := [(2, .int x1), (0, .ref h0), (1, .int p1)]) hx hb dX8_endUnusedGifts_1 rfl hl (by decide) rfl (fun ls hl => ?_)
  refine lv_iload_n hx hb dX8_endUnusedGifts_2 rfl (lv_at hl 0 rfl) ?_
  refine lv_aload_n hx hb dX8_endUnusedGifts_3 rfl (lv_at hl 1 rfl) ?_
  refine get_X8_5 hx hb hA hown hE hG t_h0 wd_1_162 dX8_endUnusedGifts_4 (fun x3 h4 => ?_)
  refine ty_icmp_ge (tgt := 63) hx hb dX8_endUnusedGifts_7 (by decide) (fun c6 => ?_) (fun c6 => ?_)
  · skip
    exact W.vret hx hb hr (fun t ht hW => ⟨⟨g, rfl, rfl, ok1 ht hG⟩, hS.F ht⟩) hS.2.2 dX8_endUnusedGifts_63
  · exfalso; omega

set_option maxHeartbeats 4000000 in
set_option maxRecDepth 100000 in
/-- WeekBank.weeks:  -/
theorem f_X8_weeks (l : Launch) (dC : Nat → ClassId) (dI : Nat → Nat → Nat) (dA : Nat → ClassId) (sz : Nat) (X : va_W) (Γ : ty_G) (hU : Un Γ) (g : gh) (h0 : Nat) (t_h0 : ty Γ h0 1) (p1 : Int32) (f3 : g 3 0 = 0) (f7 : 0 ≤ g 5 0 ∧ g 5 0 ≤ 52) : Met l yX8_weeks (.code yX8_weeks cX8_weeks 2 (Option.some Jvm.ClassFile.FieldType.int) :: AL) ({ frames := 1, cells := 0, slots := 0, locals := 24 }) (PCx dC dI dA sz X Γ g [.ref h0, .int p1]) (va_Qi (fun (r : Int32) (u : gh) => (∀ c j : Nat, c ≠ 5 → u c j = g c j) ∧ ((1 ≤ p1.toInt ∧ p1.toInt ≤ 52 - g 5 0 → r.toInt = g 5 0 + p1.toInt ∧ u 5 0 = r.toInt) ∧ (¬ (1 ≤ p1.toInt ∧ p1.toInt ≤ 52 - g 5 0) → r.toInt = -1 ∧ u 5 0 = g 5 0))) (okb dC dI dA sz X Γ) (ty_A sz)) 0 0 (ty_A sz) := by
  refine Met.ofW (cc := cX8_weeks) (maxL := 2) (ret := (Option.some Jvm.ClassFile.FieldType.int)) (by decide) rfl ?_
  intro p e s m args below meth c s₁ B hml hv
  obtain ⟨rfl, hG, hE⟩ := hv
  have hx := B.exec
  have hb := B.bytes
  have hr := B.returns
  have hts := atoms_spec B.pre
  have hA : ∀ w ∈ AL, w.before _ s = true := fun w h => hts w (List.mem_cons_of_mem _ h)
  have hown : s.vm.findClass RX8 = some m.cls := findClass_of_methodNamed B.named
  have hlocks := B.notSynchronized
  have hS : va_S (ty_A sz) s.heap s.heap [] := va_S.rf
  have hl := lv_entry ([.ref h0, .int p1]) (n := 2) (Nat.le_of_ble_eq_true rfl)
  rw [lg_entry_eq]
  generalize (lg_sl ([.ref h0, .int p1]) ++ List.replicate (2 - (lg_sl ([.ref h0, .int p1])).length) Slot.unset).toArray = ls at hl ⊢
  have hl : lv_has ls 2 [(0, .ref h0), (1, .int p1)] := hl
  refine lv_iload_n hx hb dX8_weeks_0 rfl (lv_at hl 1 rfl) ?_
  refine ty_iconst hx hb (1) dX8_weeks_1 (by decide) (fun x1 h2 => ?_)
  refine ty_icmp_lt (tgt := 16) hx hb dX8_weeks_2 (by decide) (fun c3 => ?_) (fun c3 => ?_)
  · skip
    refine ty_iconst hx hb (-1) dX8_weeks_16 (by decide) (fun x4 h5 => ?_)
    exact W.iret (v := x4) hx hb hr (fun t ht hW => ⟨⟨x4, g, rfl, ⟨(fun c j h5 => by rfl), (by omega)⟩, ok1 ht hG⟩, hS.F ht⟩) hS.2.2 dX8_weeks_17
  · skip
    refine lv_iload_n hx hb dX8_weeks_5 rfl (lv_at hl 1 rfl) ?_
    refine ty_bipush hx hb (52) dX8_weeks_6 (by decide) (fun x6 h7 => ?_)
    refine lv_aload_n hx hb dX8_weeks_8 rfl (lv_at hl 0 rfl) ?_
    refine get_X8_10 hx hb hA hown hE hG t_h0 wd_1_167 dX8_weeks_9 (fun x8 h9 => ?_)
    refine ty_isub hx hb dX8_weeks_12 (fun x11 h12 => ?_)
    try have h13 : x11.toInt = x6.toInt - x8.toInt := ty_sub h12 (by omega) (by omega)
    refine ty_icmp_le (tgt := 18) hx hb dX8_weeks_13 (by decide) (fun c14 => ?_) (fun c14 => ?_)
    · skip
      refine lv_aload_n hx hb dX8_weeks_18 rfl (lv_at hl 0 rfl) ?_
      refine lv_dup hx hb dX8_weeks_19 rfl ?_
      refine get_X8_10 hx hb hA hown hE hG t_h0 wd_1_167 dX8_weeks_20 (fun x15 h16 => ?_)
      refine lv_iload_n hx hb dX8_weeks_23 rfl (lv_at hl 1 rfl) ?_
      refine ty_iadd hx hb dX8_weeks_24 (fun x18 h19 => ?_)
      try have h20 : x18.toInt = x15.toInt + p1.toInt := ty_add h19 (by omega) (by omega)
      refine put_X8_10 hx hb hA hown hE hG hS hU t_h0 wd_1_167 dX8_weeks_25 (fun H locs hG hS => ?_)
      refine lv_aload_n hx hb dX8_weeks_28 rfl (lv_at hl 0 rfl) ?_
      refine lv_aload_n hx hb dX8_weeks_29 rfl (lv_at hl 0 rfl) ?_
      refine get_X8_10 hx hb hA hown hE hG t_h0 wd_1_167 dX8_weeks_30 (fun x21 h22 => ?_)
      have h22 : x21.toInt = x18.toInt := by rw [h22]; simp [gs]
      have e24 : (gs g 5 0 x18.toInt) 3 0 = g 3 0 := by simp [gs]
      refine cV (va_runV (C := RX8) (As := [.int x21]) (rest := []) ⟨hx, hb, hml, hown, hA⟩ (f_X8_endUnusedGifts l dC dI dA sz X Γ hU (gs g 5 0 x18.toInt) h0 t_h0 x21   (by omega)) ⟨callB_of 1 hA (al_A wd_3_224) rfl rfl rfl (hA _ wd_1_1) (hA _ wd_3_221) (by decide +kernel) ⟨Nat.le_of_ble_eq_true rfl, Nat.le_of_ble_eq_true rfl⟩, hA _ wd_3_223, hA _ ws_30⟩ ⟨bl, recv_X8 hE hG t_h0, fun U hU9 hW9 => ⟨rfl, by rw [hU9]; exact hG, hE.go hS hU9 hW9⟩⟩ rfl rfl hl.1 rfl (lv_room (Nat.le_of_ble_eq_true rfl)) dX8_weeks_33 ⟨Nat.zero_le _, Nat.zero_le _⟩) hS (fun u25 H locs w26 hG hS => ?_)
      have eu27 := w26
      rw [eu27] at hG
      refine lv_aload_n hx hb dX8_weeks_36 rfl (lv_at hl 0 rfl) ?_
      refine get_X8_10 hx hb hA hown hE hG t_h0 wd_1_167 dX8_weeks_37 (fun x28 h29 => ?_)
      have h29 : x28.toInt = x18.toInt := by rw [h29]; simp [gs]
      have e31 : (gs g 5 0 x18.toInt) 5 0 = x18.toInt := by simp [gs]
      exact W.iret (v := x28) hx hb hr (fun t ht hW => ⟨⟨x28, (gs g 5 0 x18.toInt), rfl, ⟨(fun c j h5 => by rw [gs_c _ _ _ _ h5]), (by omega)⟩, ok1 ht hG⟩, hS.F ht⟩) hS.2.2 dX8_weeks_40
    · skip
      refine ty_iconst hx hb (-1) dX8_weeks_16 (by decide) (fun x32 h33 => ?_)
      exact W.iret (v := x32) hx hb hr (fun t ht hW => ⟨⟨x32, g, rfl, ⟨(fun c j h5 => by rfl), (by omega)⟩, ok1 ht hG⟩, hS.F ht⟩) hS.2.2 dX8_weeks_17

set_option maxHeartbeats 4000000 in
set_option maxRecDepth 100000 in
/-- WeekBank.year:  -/
theorem f_X8_year (l : Launch) (dC : Nat → ClassId) (dI : Nat → Nat → Nat) (dA : Nat → ClassId) (sz : Nat) (X : va_W) (Γ : ty_G) (hU : Un Γ) (g : gh) (h0 : Nat) (t_h0 : ty Γ h0 1) (f1 : g 1 0 = 0) (f3 : g 3 0 = 0) (f7 : 0 ≤ g 4 0 ∧ g 4 0 ≤ 100000) : Met l yX8_year (.code yX8_year cX8_year 2 (Option.some Jvm.ClassFile.FieldType.int) :: AL) ({ frames := 1, cells := 0, slots := 0, locals := 24 }) (PCx dC dI dA sz X Γ g [.ref h0]) (va_Qi (fun (r : Int32) (u : gh) => (∀ c j : Nat, c ≠ 4 → c ≠ 5 → u c j = g c j) ∧ ((r.toInt = g 4 0 + 1) ∧ (u 4 0 = g 4 0 + 1) ∧ (u 5 0 = 0))) (okb dC dI dA sz X Γ) (ty_A sz)) 0 0 (ty_A sz) := by
  refine Met.ofW (cc := cX8_year) (maxL := 2) (ret := (Option.some Jvm.ClassFile.FieldType.int)) (by decide) rfl ?_
  intro p e s m args below meth c s₁ B hml hv
  obtain ⟨rfl, hG, hE⟩ := hv
  have hx := B.exec
  have hb := B.bytes
  have hr := B.returns
  have hts := atoms_spec B.pre
  have hA : ∀ w ∈ AL, w.before _ s = true := fun w h => hts w (List.mem_cons_of_mem _ h)
  have hown : s.vm.findClass RX8 = some m.cls := findClass_of_methodNamed B.named
  have hlocks := B.notSynchronized
  have hS : va_S (ty_A sz) s.heap s.heap [] := va_S.rf
  have hl := lv_entry ([.ref h0]) (n := 2) (Nat.le_of_ble_eq_true rfl)
  rw [lg_entry_eq]
  generalize (lg_sl ([.ref h0]) ++ List.replicate (2 - (lg_sl ([.ref h0])).length) Slot.unset).toArray = ls at hl ⊢
  have hl : lv_has ls 2 [(0, .ref h0)] := hl
  refine lv_aload_n hx hb dX8_year_0 rfl (lv_at hl 0 rfl) ?_
  refine ty_bipush hx hb (52) dX8_year_1 (by decide) (fun x1 h2 => ?_)
  refine cV (va_runV (C := RX8) (As := [.int x1]) (rest := []) ⟨hx, hb, hml, hown, hA⟩ (f_X8_endUnusedGifts l dC dI dA sz X Γ hU g h0 t_h0 x1   (by omega)) ⟨callB_of 1 hA (al_A wd_3_224) rfl rfl rfl (hA _ wd_1_1) (hA _ wd_3_221) (by decide +kernel) ⟨Nat.le_of_ble_eq_true rfl, Nat.le_of_ble_eq_true rfl⟩, hA _ wd_3_223, hA _ ws_30⟩ ⟨bl, recv_X8 hE hG t_h0, fun U hU9 hW9 => ⟨rfl, by rw [hU9]; exact hG, hE.go hS hU9 hW9⟩⟩ rfl rfl hl.1 rfl (lv_room (Nat.le_of_ble_eq_true rfl)) dX8_year_3 ⟨Nat.zero_le _, Nat.zero_le _⟩) hS (fun u3 H locs w4 hG hS => ?_)
  have eu5 := w4
  rw [eu5] at hG
  refine ty_iconst hx hb (0) dX8_year_6 (by decide) (fun x6 h7 => ?_)
  refine lv_istore_n (lv' := [(1, .int x6), (0, .ref h0)]) hx hb dX8_year_7 rfl hl (by decide) rfl (fun ls hl => ?_)
  refine lv_iload_n hx hb dX8_year_8 rfl (lv_at hl 0 rfl) ?_
  refine lv_aload_n hx hb dX8_year_9 rfl (lv_at hl 1 rfl) ?_
  refine get_X8_1 hx hb hA hown hE hG t_h0 wd_1_158 dX8_year_10 (fun x8 h9 => ?_)
  refine ty_icmp_ge (tgt := 31) hx hb dX8_year_13 (by decide) (fun c11 => ?_) (fun c11 => ?_)
  · skip
    refine lv_aload_n hx hb dX8_year_31 rfl (lv_at hl 1 rfl) ?_
    refine ty_iconst hx hb (0) dX8_year_32 (by decide) (fun x12 h13 => ?_)
    refine put_X8_10 hx hb hA hown hE hG hS hU t_h0 wd_1_167 dX8_year_33 (fun H locs hG hS => ?_)
    refine lv_aload_n hx hb dX8_year_36 rfl (lv_at hl 1 rfl) ?_
    refine lv_dup hx hb dX8_year_37 rfl ?_
    refine get_X8_9 hx hb hA hown hE hG t_h0 wd_1_166 dX8_year_38 (fun x14 h15 => ?_)
    have h15 : x14.toInt = g 4 0 := by rw [h15]; simp [gs]
    refine ty_iconst hx hb (1) dX8_year_41 (by decide) (fun x17 h18 => ?_)
    refine ty_iadd hx hb dX8_year_42 (fun x19 h20 => ?_)
    try have h21 : x19.toInt = x14.toInt + x17.toInt := ty_add h20 (by omega) (by omega)
    refine put_X8_9 hx hb hA hown hE hG hS hU t_h0 wd_1_166 dX8_year_43 (fun H locs hG hS => ?_)
    refine lv_aload_n hx hb dX8_year_46 rfl (lv_at hl 1 rfl) ?_
    refine get_X8_9 hx hb hA hown hE hG t_h0 wd_1_166 dX8_year_47 (fun x22 h23 => ?_)
    have h23 : x22.toInt = x19.toInt := by rw [h23]; simp [gs]
    have e25 : (gs (gs g 5 0 x12.toInt) 4 0 x19.toInt) 4 0 = x19.toInt := by simp [gs]
    have e26 : (gs (gs g 5 0 x12.toInt) 4 0 x19.toInt) 5 0 = x12.toInt := by simp [gs]
    exact W.iret (v := x22) hx hb hr (fun t ht hW => ⟨⟨x22, (gs (gs g 5 0 x12.toInt) 4 0 x19.toInt), rfl, ⟨(fun c j h4 h5 => by rw [gs_c _ _ _ _ h4, gs_c _ _ _ _ h5]), (by omega)⟩, ok1 ht hG⟩, hS.F ht⟩) hS.2.2 dX8_year_50
  · exfalso; omega

set_option maxHeartbeats 4000000 in
set_option maxRecDepth 100000 in
/-- WeekBank.count:  -/
theorem f_X8_count (l : Launch) (dC : Nat → ClassId) (dI : Nat → Nat → Nat) (dA : Nat → ClassId) (sz : Nat) (X : va_W) (Γ : ty_G) (hU : Un Γ) (g : gh) (h0 : Nat) (t_h0 : ty Γ h0 1) (p1 : Int32) (f1 : g 1 0 = 0) (f2 : g 2 0 = 0) (f3 : g 3 0 = 0) (f4 : g 4 0 = 0 ∧ g 5 0 = 0 ∧ g 6 0 = 0 ∧ g 13 0 = 0 ∧ g 11 0 = 0) : Met l yX8_count (.code yX8_count cX8_count 2 (Option.some Jvm.ClassFile.FieldType.int) :: AL) ({ frames := 1, cells := 0, slots := 0, locals := 23 }) (PCx dC dI dA sz X Γ g [.ref h0, .int p1]) (va_Qi (fun (r : Int32) (u : gh) => u = g ∧ ((0 ≤ p1.toInt ∧ p1.toInt ≤ 9 → r.toInt = 0) ∧ (¬ (0 ≤ p1.toInt ∧ p1.toInt ≤ 9) → r.toInt = -1))) (okb dC dI dA sz X Γ) (ty_A sz)) 0 0 (ty_A sz) := by
  refine Met.ofW (cc := cX8_count) (maxL := 2) (ret := (Option.some Jvm.ClassFile.FieldType.int)) (by decide) rfl ?_
  intro p e s m args below meth c s₁ B hml hv
  obtain ⟨rfl, hG, hE⟩ := hv
  have hx := B.exec
  have hb := B.bytes
  have hr := B.returns
  have hts := atoms_spec B.pre
  have hA : ∀ w ∈ AL, w.before _ s = true := fun w h => hts w (List.mem_cons_of_mem _ h)
  have hown : s.vm.findClass RX8 = some m.cls := findClass_of_methodNamed B.named
  have hlocks := B.notSynchronized
  have hS : va_S (ty_A sz) s.heap s.heap [] := va_S.rf
  have hl := lv_entry ([.ref h0, .int p1]) (n := 2) (Nat.le_of_ble_eq_true rfl)
  rw [lg_entry_eq]
  generalize (lg_sl ([.ref h0, .int p1]) ++ List.replicate (2 - (lg_sl ([.ref h0, .int p1])).length) Slot.unset).toArray = ls at hl ⊢
  have hl : lv_has ls 2 [(0, .ref h0), (1, .int p1)] := hl
  refine lv_iload_n hx hb dX8_count_0 rfl (lv_at hl 1 rfl) ?_
  by_cases c1 : p1.toInt < 0 ∨ 9 < p1.toInt
  · skip
    refine lv_tableOut (tgt := 122) hx hb dX8_count_1 c1 (by decide) ?_
    refine ty_iconst hx hb (-1) dX8_count_122 (by decide) (fun x2 h3 => ?_)
    exact W.iret (v := x2) hx hb hr (fun t ht hW => ⟨⟨x2, g, rfl, ⟨rfl, (by omega)⟩, ok1 ht hG⟩, hS.F ht⟩) hS.2.2 dX8_count_123
  · skip
    rcases (show p1.toInt = 0 ∨ p1.toInt = 1 ∨ p1.toInt = 2 ∨ p1.toInt = 3 ∨ p1.toInt = 4 ∨ p1.toInt = 5 ∨ p1.toInt = 6 ∨ p1.toInt = 7 ∨ p1.toInt = 8 ∨ p1.toInt = 9 by omega) with q4 | q5 | q6 | q7 | q8 | q9 | q10 | q11 | q12 | q13
    · skip
      refine lv_tableIn (tgt := 56) (off := 55) hx hb dX8_count_1 (by omega) (by omega) (by rw [q4]; rfl) (by decide) ?_
      refine lv_aload_n hx hb dX8_count_56 rfl (lv_at hl 0 rfl) ?_
      refine get_X8_1 hx hb hA hown hE hG t_h0 wd_1_158 dX8_count_57 (fun x14 h15 => ?_)
      exact W.iret (v := x14) hx hb hr (fun t ht hW => ⟨⟨x14, g, rfl, ⟨rfl, (by omega)⟩, ok1 ht hG⟩, hS.F ht⟩) hS.2.2 dX8_count_60
    · skip
      refine lv_tableIn (tgt := 61) (off := 60) hx hb dX8_count_1 (by omega) (by omega) (by rw [q5]; rfl) (by decide) ?_
      refine lv_aload_n hx hb dX8_count_61 rfl (lv_at hl 0 rfl) ?_
      refine get_X8_3 hx hb hA hown hE hG t_h0 wd_1_160 dX8_count_62 (fun x17 h18 => ?_)
      exact W.iret (v := x17) hx hb hr (fun t ht hW => ⟨⟨x17, g, rfl, ⟨rfl, (by omega)⟩, ok1 ht hG⟩, hS.F ht⟩) hS.2.2 dX8_count_65
    · skip
      refine lv_tableIn (tgt := 66) (off := 65) hx hb dX8_count_1 (by omega) (by omega) (by rw [q6]; rfl) (by decide) ?_
      refine lv_aload_n hx hb dX8_count_66 rfl (lv_at hl 0 rfl) ?_
      refine get_X8_9 hx hb hA hown hE hG t_h0 wd_1_166 dX8_count_67 (fun x20 h21 => ?_)
      exact W.iret (v := x20) hx hb hr (fun t ht hW => ⟨⟨x20, g, rfl, ⟨rfl, (by omega)⟩, ok1 ht hG⟩, hS.F ht⟩) hS.2.2 dX8_count_70
    · skip
      refine lv_tableIn (tgt := 71) (off := 70) hx hb dX8_count_1 (by omega) (by omega) (by rw [q7]; rfl) (by decide) ?_
      refine lv_aload_n hx hb dX8_count_71 rfl (lv_at hl 0 rfl) ?_
      refine get_X8_10 hx hb hA hown hE hG t_h0 wd_1_167 dX8_count_72 (fun x23 h24 => ?_)
      exact W.iret (v := x23) hx hb hr (fun t ht hW => ⟨⟨x23, g, rfl, ⟨rfl, (by omega)⟩, ok1 ht hG⟩, hS.F ht⟩) hS.2.2 dX8_count_75
    · skip
      refine lv_tableIn (tgt := 76) (off := 75) hx hb dX8_count_1 (by omega) (by omega) (by rw [q8]; rfl) (by decide) ?_
      refine lv_aload_n hx hb dX8_count_76 rfl (lv_at hl 0 rfl) ?_
      refine get_X8_5 hx hb hA hown hE hG t_h0 wd_1_162 dX8_count_77 (fun x26 h27 => ?_)
      exact W.iret (v := x26) hx hb hr (fun t ht hW => ⟨⟨x26, g, rfl, ⟨rfl, (by omega)⟩, ok1 ht hG⟩, hS.F ht⟩) hS.2.2 dX8_count_80
    · skip
      refine lv_tableIn (tgt := 81) (off := 80) hx hb dX8_count_1 (by omega) (by omega) (by rw [q9]; rfl) (by decide) ?_
      refine lv_aload_n hx hb dX8_count_81 rfl (lv_at hl 0 rfl) ?_
      refine ty_iconst hx hb (0) dX8_count_82 (by decide) (fun x29 h30 => ?_)
      refine cI (va_runV (C := RX8) (As := [.int x29]) (rest := []) ⟨hx, hb, hml, hown, hA⟩ (f_X8_countGifts l dC dI dA sz X Γ hU g h0 t_h0 x29   (by omega)) ⟨callB_of 1 hA (al_A wd_3_8) rfl rfl rfl (hA _ wd_1_1) (hA _ wd_3_5) (by decide +kernel) ⟨Nat.le_of_ble_eq_true rfl, Nat.le_of_ble_eq_true rfl⟩, hA _ wd_3_7, hA _ ws_15⟩ ⟨bl, recv_X8 hE hG t_h0, fun U hU9 hW9 => ⟨rfl, by rw [hU9]; exact hG, hE.go hS hU9 hW9⟩⟩ rfl rfl hl.1 rfl (lv_room (Nat.le_of_ble_eq_true rfl)) dX8_count_83 ⟨Nat.zero_le _, Nat.zero_le _⟩) hS (fun x33 u31 H locs w32 hG hS => ?_)
      obtain ⟨eu34, w32⟩ := w32
      rw [eu34] at hG
      exact W.iret (v := x33) hx hb hr (fun t ht hW => ⟨⟨x33, g, rfl, ⟨rfl, (by omega)⟩, ok1 ht hG⟩, hS.F ht⟩) hS.2.2 dX8_count_86
    · skip
      refine lv_tableIn (tgt := 87) (off := 86) hx hb dX8_count_1 (by omega) (by omega) (by rw [q10]; rfl) (by decide) ?_
      refine lv_aload_n hx hb dX8_count_87 rfl (lv_at hl 0 rfl) ?_
      refine ty_iconst hx hb (2) dX8_count_88 (by decide) (fun x35 h36 => ?_)
      refine cI (va_runV (C := RX8) (As := [.int x35]) (rest := []) ⟨hx, hb, hml, hown, hA⟩ (f_X8_countGifts l dC dI dA sz X Γ hU g h0 t_h0 x35   (by omega)) ⟨callB_of 1 hA (al_A wd_3_8) rfl rfl rfl (hA _ wd_1_1) (hA _ wd_3_5) (by decide +kernel) ⟨Nat.le_of_ble_eq_true rfl, Nat.le_of_ble_eq_true rfl⟩, hA _ wd_3_7, hA _ ws_15⟩ ⟨bl, recv_X8 hE hG t_h0, fun U hU9 hW9 => ⟨rfl, by rw [hU9]; exact hG, hE.go hS hU9 hW9⟩⟩ rfl rfl hl.1 rfl (lv_room (Nat.le_of_ble_eq_true rfl)) dX8_count_89 ⟨Nat.zero_le _, Nat.zero_le _⟩) hS (fun x39 u37 H locs w38 hG hS => ?_)
      obtain ⟨eu40, w38⟩ := w38
      rw [eu40] at hG
      exact W.iret (v := x39) hx hb hr (fun t ht hW => ⟨⟨x39, g, rfl, ⟨rfl, (by omega)⟩, ok1 ht hG⟩, hS.F ht⟩) hS.2.2 dX8_count_92
    · skip
      refine lv_tableIn (tgt := 93) (off := 92) hx hb dX8_count_1 (by omega) (by omega) (by rw [q11]; rfl) (by decide) ?_
      refine lv_aload_n hx hb dX8_count_93 rfl (lv_at hl 0 rfl) ?_
      refine get_X8_6 hx hb hA hown hE hG t_h0 wd_1_163 dX8_count_94 (fun b41 (t_b41 : ty Γ b41 7) => ?_)
      refine get_X4_1 hx hb hA hown hE hG t_b41 wd_1_44 dX8_count_97 (fun x42 h43 => ?_)
      exact W.iret (v := x42) hx hb hr (fun t ht hW => ⟨⟨x42, g, rfl, ⟨rfl, (by omega)⟩, ok1 ht hG⟩, hS.F ht⟩) hS.2.2 dX8_count_100
    · skip
      refine lv_tableIn (tgt := 101) (off := 100) hx hb dX8_count_1 (by omega) (by omega) (by rw [q12]; rfl) (by decide) ?_
      refine lv_aload_n hx hb dX8_count_101 rfl (lv_at hl 0 rfl) ?_
      refine get_X8_7 hx hb hA hown hE hG t_h0 wd_1_164 dX8_count_102 (fun b45 i46 t_b45 h47 h47' => ?_)
      obtain rfl : i46 = 0 := by omega
      refine get_X6_3 hx hb hA hown hE hG t_b45 wd_1_85 dX8_count_105 (fun x48 h49 h50 => ?_)
      refine ty_if_eq (tgt := 115) hx hb dX8_count_108 (by decide) (fun c51 => ?_) (fun c51 => ?_)
      · skip
        refine ty_iconst hx hb (0) dX8_count_115 (by decide) (fun x52 h53 => ?_)
        exact W.iret (v := x52) hx hb hr (fun t ht hW => ⟨⟨x52, g, rfl, ⟨rfl, (by omega)⟩, ok1 ht hG⟩, hS.F ht⟩) hS.2.2 dX8_count_116
      · skip
        refine ty_iconst hx hb (1) dX8_count_111 (by decide) (fun x54 h55 => ?_)
        refine lv_goto (tgt := 116) hx hb dX8_count_112 (by decide) ?_
        exact W.iret (v := x54) hx hb hr (fun t ht hW => ⟨⟨x54, g, rfl, ⟨rfl, (by omega)⟩, ok1 ht hG⟩, hS.F ht⟩) hS.2.2 dX8_count_116
    · skip
      refine lv_tableIn (tgt := 117) (off := 116) hx hb dX8_count_1 (by omega) (by omega) (by rw [q13]; rfl) (by decide) ?_
      refine lv_aload_n hx hb dX8_count_117 rfl (lv_at hl 0 rfl) ?_
      refine cI (va_runV (C := RX8) (As := []) (rest := []) ⟨hx, hb, hml, hown, hA⟩ (f_X8_sumPoints l dC dI dA sz X Γ hU g h0 t_h0   (by omega)) ⟨callB_of 0 hA (al_A wd_4_49) rfl rfl rfl (hA _ wd_1_1) (hA _ wd_4_46) (by decide +kernel) ⟨Nat.le_of_ble_eq_true rfl, Nat.le_of_ble_eq_true rfl⟩, hA _ wd_4_48, hA _ ws_34⟩ ⟨bl, recv_X8 hE hG t_h0, fun U hU9 hW9 => ⟨rfl, by rw [hU9]; exact hG, hE.go hS hU9 hW9⟩⟩ rfl rfl hl.1 rfl (lv_room (Nat.le_of_ble_eq_true rfl)) dX8_count_118 ⟨Nat.zero_le _, Nat.zero_le _⟩) hS (fun x58 u56 H locs w57 hG hS => ?_)
      obtain ⟨eu59, w57⟩ := w57
      rw [eu59] at hG
      exact W.iret (v := x58) hx hb hr (fun t ht hW => ⟨⟨x58, g, rfl, ⟨rfl, (by omega)⟩, ok1 ht hG⟩, hS.F ht⟩) hS.2.2 dX8_count_121
