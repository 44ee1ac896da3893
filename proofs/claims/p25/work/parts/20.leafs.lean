set_option maxHeartbeats 4000000 in
set_option maxRecDepth 100000 in
/-- WeekBank.isWeek:  -/
theorem k_X8_isWeek (l : Launch) (dC : Nat → ClassId) (dI : Nat → Nat → Nat) (dA : Nat → ClassId) (sz : Nat) (X : va_W) (Γ : ty_G) (hU : Un Γ) (g : gh) (p0 : Int32) : Met l yX8_isWeek (.code yX8_isWeek cX8_isWeek 1 (Option.some Jvm.ClassFile.FieldType.boolean) :: AL) ({ frames := 0, cells := 0, slots := 0, locals := 0 }) (PCx dC dI dA sz X Γ g [.int p0]) (va_Qi (fun (r : Int32) (u : gh) => u = g ∧ (((0 ≤ p0.toInt ∧ p0.toInt ≤ 52 → r.toInt = 1) ∧ (¬ (0 ≤ p0.toInt ∧ p0.toInt ≤ 52) → r.toInt = 0)))) (okb dC dI dA sz X Γ) (ty_A sz)) 0 0 (ty_A sz) := by
  refine Met.ofW (cc := cX8_isWeek) (maxL := 1) (ret := (Option.some Jvm.ClassFile.FieldType.boolean)) (by decide) rfl ?_
  intro p e s m args below meth c s₁ B hml hv
  obtain ⟨rfl, hG, hE⟩ := hv
  have hx := B.exec
  have hb := B.bytes
  have hr := B.returns
  have hts := atoms_spec B.pre
  have hA : ∀ w ∈ AL, w.before _ s = true := fun w h => hts w (List.mem_cons_of_mem _ h)
  have hown : s.vm.findClass RX8 = some m.cls := findClass_of_methodNamed B.named
  have hlocks := B.notSynchronized
  have hS : va_S (ty_A sz) s.heap s.heap [] := va_S.rf
  have hl := lv_entry ([.int p0]) (n := 1) (Nat.le_of_ble_eq_true rfl)
  rw [lg_entry_eq]
  generalize (lg_sl ([.int p0]) ++ List.replicate (1 - (lg_sl ([.int p0])).length) Slot.unset).toArray = ls at hl ⊢
  have hl : lv_has ls 1 [(0, .int p0)] := hl
  refine lv_iload_n hx hb dX8_isWeek_0 rfl (lv_at hl 0 rfl) ?_
  refine ty_if_lt (tgt := 14) hx hb dX8_isWeek_1 (by decide) (fun c1 => ?_) (fun c1 => ?_)
  · skip
    refine ty_iconst hx hb (0) dX8_isWeek_14 (by decide) (fun x2 h3 => ?_)
    exact W.zret (v := x2) hx hb hr (ty_nb (by omega)).1 (fun t ht hW => ⟨⟨x2, g, rfl, ⟨rfl, (by omega)⟩, ok1 ht hG⟩, hS.F ht⟩) hS.2.2 dX8_isWeek_15
  · skip
    refine lv_iload_n hx hb dX8_isWeek_4 rfl (lv_at hl 0 rfl) ?_
    refine ty_bipush hx hb (52) dX8_isWeek_5 (by decide) (fun x4 h5 => ?_)
    refine ty_icmp_gt (tgt := 14) hx hb dX8_isWeek_7 (by decide) (fun c6 => ?_) (fun c6 => ?_)
    · skip
      refine ty_iconst hx hb (0) dX8_isWeek_14 (by decide) (fun x7 h8 => ?_)
      exact W.zret (v := x7) hx hb hr (ty_nb (by omega)).1 (fun t ht hW => ⟨⟨x7, g, rfl, ⟨rfl, (by omega)⟩, ok1 ht hG⟩, hS.F ht⟩) hS.2.2 dX8_isWeek_15
    · skip
      refine ty_iconst hx hb (1) dX8_isWeek_10 (by decide) (fun x9 h10 => ?_)
      refine lv_goto (tgt := 15) hx hb dX8_isWeek_11 (by decide) ?_
      exact W.zret (v := x9) hx hb hr (ty_nb (by omega)).1 (fun t ht hW => ⟨⟨x9, g, rfl, ⟨rfl, (by omega)⟩, ok1 ht hG⟩, hS.F ht⟩) hS.2.2 dX8_isWeek_15

set_option maxHeartbeats 4000000 in
set_option maxRecDepth 100000 in
/-- WeekBank.isSize:  -/
theorem k_X8_isSize (l : Launch) (dC : Nat → ClassId) (dI : Nat → Nat → Nat) (dA : Nat → ClassId) (sz : Nat) (X : va_W) (Γ : ty_G) (hU : Un Γ) (g : gh) (p0 : Int32) : Met l yX8_isSize (.code yX8_isSize cX8_isSize 1 (Option.some Jvm.ClassFile.FieldType.boolean) :: AL) ({ frames := 0, cells := 0, slots := 0, locals := 0 }) (PCx dC dI dA sz X Γ g [.int p0]) (va_Qi (fun (r : Int32) (u : gh) => u = g ∧ (((1 ≤ p0.toInt ∧ p0.toInt ≤ 4 → r.toInt = 1) ∧ (¬ (1 ≤ p0.toInt ∧ p0.toInt ≤ 4) → r.toInt = 0)))) (okb dC dI dA sz X Γ) (ty_A sz)) 0 0 (ty_A sz) := by
  refine Met.ofW (cc := cX8_isSize) (maxL := 1) (ret := (Option.some Jvm.ClassFile.FieldType.boolean)) (by decide) rfl ?_
  intro p e s m args below meth c s₁ B hml hv
  obtain ⟨rfl, hG, hE⟩ := hv
  have hx := B.exec
  have hb := B.bytes
  have hr := B.returns
  have hts := atoms_spec B.pre
  have hA : ∀ w ∈ AL, w.before _ s = true := fun w h => hts w (List.mem_cons_of_mem _ h)
  have hown : s.vm.findClass RX8 = some m.cls := findClass_of_methodNamed B.named
  have hlocks := B.notSynchronized
  have hS : va_S (ty_A sz) s.heap s.heap [] := va_S.rf
  have hl := lv_entry ([.int p0]) (n := 1) (Nat.le_of_ble_eq_true rfl)
  rw [lg_entry_eq]
  generalize (lg_sl ([.int p0]) ++ List.replicate (1 - (lg_sl ([.int p0])).length) Slot.unset).toArray = ls at hl ⊢
  have hl : lv_has ls 1 [(0, .int p0)] := hl
  refine lv_iload_n hx hb dX8_isSize_0 rfl (lv_at hl 0 rfl) ?_
  refine ty_iconst hx hb (1) dX8_isSize_1 (by decide) (fun x1 h2 => ?_)
  refine ty_icmp_lt (tgt := 14) hx hb dX8_isSize_2 (by decide) (fun c3 => ?_) (fun c3 => ?_)
  · skip
    refine ty_iconst hx hb (0) dX8_isSize_14 (by decide) (fun x4 h5 => ?_)
    exact W.zret (v := x4) hx hb hr (ty_nb (by omega)).1 (fun t ht hW => ⟨⟨x4, g, rfl, ⟨rfl, (by omega)⟩, ok1 ht hG⟩, hS.F ht⟩) hS.2.2 dX8_isSize_15
  · skip
    refine lv_iload_n hx hb dX8_isSize_5 rfl (lv_at hl 0 rfl) ?_
    refine ty_iconst hx hb (4) dX8_isSize_6 (by decide) (fun x6 h7 => ?_)
    refine ty_icmp_gt (tgt := 14) hx hb dX8_isSize_7 (by decide) (fun c8 => ?_) (fun c8 => ?_)
    · skip
      refine ty_iconst hx hb (0) dX8_isSize_14 (by decide) (fun x9 h10 => ?_)
      exact W.zret (v := x9) hx hb hr (ty_nb (by omega)).1 (fun t ht hW => ⟨⟨x9, g, rfl, ⟨rfl, (by omega)⟩, ok1 ht hG⟩, hS.F ht⟩) hS.2.2 dX8_isSize_15
    · skip
      refine ty_iconst hx hb (1) dX8_isSize_10 (by decide) (fun x11 h12 => ?_)
      refine lv_goto (tgt := 15) hx hb dX8_isSize_11 (by decide) ?_
      exact W.zret (v := x11) hx hb hr (ty_nb (by omega)).1 (fun t ht hW => ⟨⟨x11, g, rfl, ⟨rfl, (by omega)⟩, ok1 ht hG⟩, hS.F ht⟩) hS.2.2 dX8_isSize_15

set_option maxHeartbeats 4000000 in
set_option maxRecDepth 100000 in
/-- WeekBankModel.within:  -/
theorem k_X9_within (l : Launch) (dC : Nat → ClassId) (dI : Nat → Nat → Nat) (dA : Nat → ClassId) (sz : Nat) (X : va_W) (Γ : ty_G) (hU : Un Γ) (g : gh) (p0 : Int32) (p1 : Int32) (p2 : Int32) : Met l yX9_within (.code yX9_within cX9_within 3 (Option.some Jvm.ClassFile.FieldType.boolean) :: AL) ({ frames := 0, cells := 0, slots := 0, locals := 0 }) (PCx dC dI dA sz X Γ g [.int p0, .int p1, .int p2]) (va_Qi (fun (r : Int32) (u : gh) => u = g ∧ (((p1.toInt ≤ p0.toInt ∧ p0.toInt ≤ p2.toInt → r.toInt = 1) ∧ (¬ (p1.toInt ≤ p0.toInt ∧ p0.toInt ≤ p2.toInt) → r.toInt = 0)))) (okb dC dI dA sz X Γ) (ty_A sz)) 0 0 (ty_A sz) := by
  refine Met.ofW (cc := cX9_within) (maxL := 3) (ret := (Option.some Jvm.ClassFile.FieldType.boolean)) (by decide) rfl ?_
  intro p e s m args below meth c s₁ B hml hv
  obtain ⟨rfl, hG, hE⟩ := hv
  have hx := B.exec
  have hb := B.bytes
  have hr := B.returns
  have hts := atoms_spec B.pre
  have hA : ∀ w ∈ AL, w.before _ s = true := fun w h => hts w (List.mem_cons_of_mem _ h)
  have hown : s.vm.findClass RX9 = some m.cls := findClass_of_methodNamed B.named
  have hlocks := B.notSynchronized
  have hS : va_S (ty_A sz) s.heap s.heap [] := va_S.rf
  have hl := lv_entry ([.int p0, .int p1, .int p2]) (n := 3) (Nat.le_of_ble_eq_true rfl)
  rw [lg_entry_eq]
  generalize (lg_sl ([.int p0, .int p1, .int p2]) ++ List.replicate (3 - (lg_sl ([.int p0, .int p1, .int p2])).length) Slot.unset).toArray = ls at hl ⊢
  have hl : lv_has ls 3 [(0, .int p0), (1, .int p1), (2, .int p2)] := hl
  refine lv_iload_n hx hb dX9_within_0 rfl (lv_at hl 0 rfl) ?_
  refine lv_iload_n hx hb dX9_within_1 rfl (lv_at hl 1 rfl) ?_
  refine ty_icmp_lt (tgt := 14) hx hb dX9_within_2 (by decide) (fun c1 => ?_) (fun c1 => ?_)
  · skip
    refine ty_iconst hx hb (0) dX9_within_14 (by decide) (fun x2 h3 => ?_)
    exact W.zret (v := x2) hx hb hr (ty_nb (by omega)).1 (fun t ht hW => ⟨⟨x2, g, rfl, ⟨rfl, (by omega)⟩, ok1 ht hG⟩, hS.F ht⟩) hS.2.2 dX9_within_15
  · skip
    refine lv_iload_n hx hb dX9_within_5 rfl (lv_at hl 0 rfl) ?_
    refine lv_iload_n hx hb dX9_within_6 rfl (lv_at hl 2 rfl) ?_
    refine ty_icmp_gt (tgt := 14) hx hb dX9_within_7 (by decide) (fun c4 => ?_) (fun c4 => ?_)
    · skip
      refine ty_iconst hx hb (0) dX9_within_14 (by decide) (fun x5 h6 => ?_)
      exact W.zret (v := x5) hx hb hr (ty_nb (by omega)).1 (fun t ht hW => ⟨⟨x5, g, rfl, ⟨rfl, (by omega)⟩, ok1 ht hG⟩, hS.F ht⟩) hS.2.2 dX9_within_15
    · skip
      refine ty_iconst hx hb (1) dX9_within_10 (by decide) (fun x7 h8 => ?_)
      refine lv_goto (tgt := 15) hx hb dX9_within_11 (by decide) ?_
      exact W.zret (v := x7) hx hb hr (ty_nb (by omega)).1 (fun t ht hW => ⟨⟨x7, g, rfl, ⟨rfl, (by omega)⟩, ok1 ht hG⟩, hS.F ht⟩) hS.2.2 dX9_within_15

set_option maxHeartbeats 4000000 in
set_option maxRecDepth 100000 in
/-- WeekBank.ownerAt:  -/
theorem k_X8_ownerAt (l : Launch) (dC : Nat → ClassId) (dI : Nat → Nat → Nat) (dA : Nat → ClassId) (sz : Nat) (X : va_W) (Γ : ty_G) (hU : Un Γ) (g : gh) (h0 : Nat) (t_h0 : ty Γ h0 1) (p0 : Int32) (g2 : g 2 0 = g 34 0 ∧ 0 ≤ g 2 0 ∧ g 2 0 ≤ 10) : Met l yX8_ownerAt (.code yX8_ownerAt cX8_ownerAt 2 (Option.some (Jvm.ClassFile.FieldType.object "WeekBank$Owner")) :: AL) ({ frames := 0, cells := 0, slots := 0, locals := 0 }) (PCx dC dI dA sz X Γ g [.ref h0, .int p0]) (va_Qq (fun (r : Option Nat) (u : gh) => ∃ z9 : Int, (r = none → z9 = -1) ∧ (∀ b, r = some b → Γ b = (3, z9.toNat) ∧ 0 ≤ z9) ∧ u = g ∧ (((0 ≤ p0.toInt ∧ p0.toInt < g 2 0 → z9 = p0.toInt) ∧ (¬ (0 ≤ p0.toInt ∧ p0.toInt < g 2 0) → z9 = -1)))) (okb dC dI dA sz X Γ) (ty_A sz)) 0 0 (ty_A sz) := by
  refine Met.ofW (cc := cX8_ownerAt) (maxL := 2) (ret := (Option.some (Jvm.ClassFile.FieldType.object "WeekBank$Owner"))) (by decide) rfl ?_
  intro p e s m args below meth c s₁ B hml hv
  obtain ⟨rfl, hG, hE⟩ := hv
  have hx := B.exec
  have hb := B.bytes
  have hr := B.returns
  have hts := atoms_spec B.pre
  have hA : ∀ w ∈ AL, w.before _ s = true := fun w h => hts w (List.mem_cons_of_mem _ h)
  have hown : s.vm.findClass RX8 = some m.cls := findClass_of_methodNamed B.named
  have hlocks := B.notSynchronized
  have hS : va_S (ty_A sz) s.heap s.heap [] := va_S.rf
  have hl := lv_entry ([.ref h0, .int p0]) (n := 2) (Nat.le_of_ble_eq_true rfl)
  rw [lg_entry_eq]
  generalize (lg_sl ([.ref h0, .int p0]) ++ List.replicate (2 - (lg_sl ([.ref h0, .int p0])).length) Slot.unset).toArray = ls at hl ⊢
  have hl : lv_has ls 2 [(0, .ref h0), (1, .int p0)] := hl
  refine lv_iload_n hx hb dX8_ownerAt_0 rfl (lv_at hl 1 rfl) ?_
  refine ty_if_lt (tgt := 21) hx hb dX8_ownerAt_1 (by decide) (fun c1 => ?_) (fun c1 => ?_)
  · skip
    refine lv_null hx hb dX8_ownerAt_21 ?_
    exact W.aret (v := va_rf (none)) hx hb hr (Or.inl ⟨_, rfl⟩) (va_rf_or _) (fun t ht hW => ⟨⟨none, g, rfl, ⟨(-1), (fun _ => rfl), (fun _ h => by cases h), ⟨rfl, (by omega)⟩⟩, ok1 ht hG⟩, hS.F ht⟩) hS.2.2 dX8_ownerAt_22
  · skip
    refine lv_iload_n hx hb dX8_ownerAt_4 rfl (lv_at hl 1 rfl) ?_
    refine lv_aload_n hx hb dX8_ownerAt_5 rfl (lv_at hl 0 rfl) ?_
    refine get_X8_3 hx hb hA hown hE hG t_h0 wd_1_160 dX8_ownerAt_6 (fun x2 h3 => ?_)
    refine ty_icmp_ge (tgt := 21) hx hb dX8_ownerAt_9 (by decide) (fun c5 => ?_) (fun c5 => ?_)
    · skip
      refine lv_null hx hb dX8_ownerAt_21 ?_
      exact W.aret (v := va_rf (none)) hx hb hr (Or.inl ⟨_, rfl⟩) (va_rf_or _) (fun t ht hW => ⟨⟨none, g, rfl, ⟨(-1), (fun _ => rfl), (fun _ h => by cases h), ⟨rfl, (by omega)⟩⟩, ok1 ht hG⟩, hS.F ht⟩) hS.2.2 dX8_ownerAt_22
    · skip
      refine lv_aload_n hx hb dX8_ownerAt_12 rfl (lv_at hl 0 rfl) ?_
      refine get_X8_2 hx hb hA hown hE hG t_h0 wd_1_159 dX8_ownerAt_13 (fun b6 (t_b6 : ty Γ b6 11) => ?_)
      refine lv_iload_n hx hb dX8_ownerAt_16 rfl (lv_at hl 1 rfl) ?_
      refine ald_11 hx hb hE hG t_b6 (by omega) dX8_ownerAt_17 (fun j8 r7 h9 t_r7 h10 => ?_)
      obtain rfl : j8 = p0.toInt.toNat := by omega
      obtain ⟨b11, h12⟩ := Option.ne_none_iff_exists'.mp (h10 (by omega))
      have t_b11 := t_r7 b11 h12
      clear h10 t_r7
      subst h12
      refine lv_goto (tgt := 22) hx hb dX8_ownerAt_18 (by decide) ?_
      exact W.aret (v := va_rf (some b11)) hx hb hr (Or.inl ⟨_, rfl⟩) (va_rf_or _) (fun t ht hW => ⟨⟨some b11, g, rfl, ⟨(p0.toInt), (rq_z t_b11 (by omega)).1, (rq_z t_b11 (by omega)).2, ⟨rfl, (by omega)⟩⟩, ok1 ht hG⟩, hS.F ht⟩) hS.2.2 dX8_ownerAt_22

set_option maxHeartbeats 4000000 in
set_option maxRecDepth 100000 in
/-- WeekBank.flatAt:  -/
theorem k_X8_flatAt (l : Launch) (dC : Nat → ClassId) (dI : Nat → Nat → Nat) (dA : Nat → ClassId) (sz : Nat) (X : va_W) (Γ : ty_G) (hU : Un Γ) (g : gh) (h0 : Nat) (t_h0 : ty Γ h0 1) (p0 : Int32) (g1 : g 1 0 = g 33 0 ∧ 0 ≤ g 1 0 ∧ g 1 0 ≤ 6) : Met l yX8_flatAt (.code yX8_flatAt cX8_flatAt 2 (Option.some (Jvm.ClassFile.FieldType.object "WeekBank$Flat")) :: AL) ({ frames := 0, cells := 0, slots := 0, locals := 0 }) (PCx dC dI dA sz X Γ g [.ref h0, .int p0]) (va_Qq (fun (r : Option Nat) (u : gh) => ∃ z9 : Int, (r = none → z9 = -1) ∧ (∀ b, r = some b → Γ b = (2, z9.toNat) ∧ 0 ≤ z9) ∧ u = g ∧ (((0 ≤ p0.toInt ∧ p0.toInt < g 1 0 → z9 = p0.toInt) ∧ (¬ (0 ≤ p0.toInt ∧ p0.toInt < g 1 0) → z9 = -1)))) (okb dC dI dA sz X Γ) (ty_A sz)) 0 0 (ty_A sz) := by
  refine Met.ofW (cc := cX8_flatAt) (maxL := 2) (ret := (Option.some (Jvm.ClassFile.FieldType.object "WeekBank$Flat"))) (by decide) rfl ?_
  intro p e s m args below meth c s₁ B hml hv
  obtain ⟨rfl, hG, hE⟩ := hv
  have hx := B.exec
  have hb := B.bytes
  have hr := B.returns
  have hts := atoms_spec B.pre
  have hA : ∀ w ∈ AL, w.before _ s = true := fun w h => hts w (List.mem_cons_of_mem _ h)
  have hown : s.vm.findClass RX8 = some m.cls := findClass_of_methodNamed B.named
  have hlocks := B.notSynchronized
  have hS : va_S (ty_A sz) s.heap s.heap [] := va_S.rf
  have hl := lv_entry ([.ref h0, .int p0]) (n := 2) (Nat.le_of_ble_eq_true rfl)
  rw [lg_entry_eq]
  generalize (lg_sl ([.ref h0, .int p0]) ++ List.replicate (2 - (lg_sl ([.ref h0, .int p0])).length) Slot.unset).toArray = ls at hl ⊢
  have hl : lv_has ls 2 [(0, .ref h0), (1, .int p0)] := hl
  refine lv_iload_n hx hb dX8_flatAt_0 rfl (lv_at hl 1 rfl) ?_
  refine ty_if_lt (tgt := 21) hx hb dX8_flatAt_1 (by decide) (fun c1 => ?_) (fun c1 => ?_)
  · skip
    refine lv_null hx hb dX8_flatAt_21 ?_
    exact W.aret (v := va_rf (none)) hx hb hr (Or.inl ⟨_, rfl⟩) (va_rf_or _) (fun t ht hW => ⟨⟨none, g, rfl, ⟨(-1), (fun _ => rfl), (fun _ h => by cases h), ⟨rfl, (by omega)⟩⟩, ok1 ht hG⟩, hS.F ht⟩) hS.2.2 dX8_flatAt_22
  · skip
    refine lv_iload_n hx hb dX8_flatAt_4 rfl (lv_at hl 1 rfl) ?_
    refine lv_aload_n hx hb dX8_flatAt_5 rfl (lv_at hl 0 rfl) ?_
    refine get_X8_1 hx hb hA hown hE hG t_h0 wd_1_158 dX8_flatAt_6 (fun x2 h3 => ?_)
    refine ty_icmp_ge (tgt := 21) hx hb dX8_flatAt_9 (by decide) (fun c5 => ?_) (fun c5 => ?_)
    · skip
      refine lv_null hx hb dX8_flatAt_21 ?_
      exact W.aret (v := va_rf (none)) hx hb hr (Or.inl ⟨_, rfl⟩) (va_rf_or _) (fun t ht hW => ⟨⟨none, g, rfl, ⟨(-1), (fun _ => rfl), (fun _ h => by cases h), ⟨rfl, (by omega)⟩⟩, ok1 ht hG⟩, hS.F ht⟩) hS.2.2 dX8_flatAt_22
    · skip
      refine lv_aload_n hx hb dX8_flatAt_12 rfl (lv_at hl 0 rfl) ?_
      refine get_X8_0 hx hb hA hown hE hG t_h0 wd_1_157 dX8_flatAt_13 (fun b6 (t_b6 : ty Γ b6 10) => ?_)
      refine lv_iload_n hx hb dX8_flatAt_16 rfl (lv_at hl 1 rfl) ?_
      refine ald_10 hx hb hE hG t_b6 (by omega) dX8_flatAt_17 (fun j8 r7 h9 t_r7 h10 => ?_)
      obtain rfl : j8 = p0.toInt.toNat := by omega
      obtain ⟨b11, h12⟩ := Option.ne_none_iff_exists'.mp (h10 (by omega))
      have t_b11 := t_r7 b11 h12
      clear h10 t_r7
      subst h12
      refine lv_goto (tgt := 22) hx hb dX8_flatAt_18 (by decide) ?_
      exact W.aret (v := va_rf (some b11)) hx hb hr (Or.inl ⟨_, rfl⟩) (va_rf_or _) (fun t ht hW => ⟨⟨some b11, g, rfl, ⟨(p0.toInt), (rq_z t_b11 (by omega)).1, (rq_z t_b11 (by omega)).2, ⟨rfl, (by omega)⟩⟩, ok1 ht hG⟩, hS.F ht⟩) hS.2.2 dX8_flatAt_22

set_option maxHeartbeats 4000000 in
set_option maxRecDepth 100000 in
/-- WeekBank.giftAt:  -/
theorem k_X8_giftAt (l : Launch) (dC : Nat → ClassId) (dI : Nat → Nat → Nat) (dA : Nat → ClassId) (sz : Nat) (X : va_W) (Γ : ty_G) (hU : Un Γ) (g : gh) (h0 : Nat) (t_h0 : ty Γ h0 1) (p0 : Int32) (g3 : g 3 0 = g 35 0 ∧ 0 ≤ g 3 0 ∧ g 3 0 ≤ 200) : Met l yX8_giftAt (.code yX8_giftAt cX8_giftAt 2 (Option.some (Jvm.ClassFile.FieldType.object "WeekBank$Gift")) :: AL) ({ frames := 0, cells := 0, slots := 0, locals := 0 }) (PCx dC dI dA sz X Γ g [.ref h0, .int p0]) (va_Qq (fun (r : Option Nat) (u : gh) => ∃ z9 : Int, (r = none → z9 = -1) ∧ (∀ b, r = some b → Γ b = (4, z9.toNat) ∧ 0 ≤ z9) ∧ u = g ∧ (((0 ≤ p0.toInt ∧ p0.toInt < g 3 0 → z9 = p0.toInt) ∧ (¬ (0 ≤ p0.toInt ∧ p0.toInt < g 3 0) → z9 = -1)))) (okb dC dI dA sz X Γ) (ty_A sz)) 0 0 (ty_A sz) := by
  refine Met.ofW (cc := cX8_giftAt) (maxL := 2) (ret := (Option.some (Jvm.ClassFile.FieldType.object "WeekBank$Gift"))) (by decide) rfl ?_
  intro p e s m args below meth c s₁ B hml hv
  obtain ⟨rfl, hG, hE⟩ := hv
  have hx := B.exec
  have hb := B.bytes
  have hr := B.returns
  have hts := atoms_spec B.pre
  have hA : ∀ w ∈ AL, w.before _ s = true := fun w h => hts w (List.mem_cons_of_mem _ h)
  have hown : s.vm.findClass RX8 = some m.cls := findClass_of_methodNamed B.named
  have hlocks := B.notSynchronized
  have hS : va_S (ty_A sz) s.heap s.heap [] := va_S.rf
  have hl := lv_entry ([.ref h0, .int p0]) (n := 2) (Nat.le_of_ble_eq_true rfl)
  rw [lg_entry_eq]
  generalize (lg_sl ([.ref h0, .int p0]) ++ List.replicate (2 - (lg_sl ([.ref h0, .int p0])).length) Slot.unset).toArray = ls at hl ⊢
  have hl : lv_has ls 2 [(0, .ref h0), (1, .int p0)] := hl
  refine lv_iload_n hx hb dX8_giftAt_0 rfl (lv_at hl 1 rfl) ?_
  refine ty_if_lt (tgt := 21) hx hb dX8_giftAt_1 (by decide) (fun c1 => ?_) (fun c1 => ?_)
  · skip
    refine lv_null hx hb dX8_giftAt_21 ?_
    exact W.aret (v := va_rf (none)) hx hb hr (Or.inl ⟨_, rfl⟩) (va_rf_or _) (fun t ht hW => ⟨⟨none, g, rfl, ⟨(-1), (fun _ => rfl), (fun _ h => by cases h), ⟨rfl, (by omega)⟩⟩, ok1 ht hG⟩, hS.F ht⟩) hS.2.2 dX8_giftAt_22
  · skip
    refine lv_iload_n hx hb dX8_giftAt_4 rfl (lv_at hl 1 rfl) ?_
    refine lv_aload_n hx hb dX8_giftAt_5 rfl (lv_at hl 0 rfl) ?_
    refine get_X8_5 hx hb hA hown hE hG t_h0 wd_1_162 dX8_giftAt_6 (fun x2 h3 => ?_)
    refine ty_icmp_ge (tgt := 21) hx hb dX8_giftAt_9 (by decide) (fun c5 => ?_) (fun c5 => ?_)
    · skip
      refine lv_null hx hb dX8_giftAt_21 ?_
      exact W.aret (v := va_rf (none)) hx hb hr (Or.inl ⟨_, rfl⟩) (va_rf_or _) (fun t ht hW => ⟨⟨none, g, rfl, ⟨(-1), (fun _ => rfl), (fun _ h => by cases h), ⟨rfl, (by omega)⟩⟩, ok1 ht hG⟩, hS.F ht⟩) hS.2.2 dX8_giftAt_22
    · skip
      refine lv_aload_n hx hb dX8_giftAt_12 rfl (lv_at hl 0 rfl) ?_
      refine get_X8_4 hx hb hA hown hE hG t_h0 wd_1_161 dX8_giftAt_13 (fun b6 (t_b6 : ty Γ b6 12) => ?_)
      refine lv_iload_n hx hb dX8_giftAt_16 rfl (lv_at hl 1 rfl) ?_
      refine ald_12 hx hb hE hG t_b6 (by omega) dX8_giftAt_17 (fun j8 r7 h9 t_r7 h10 => ?_)
      obtain rfl : j8 = p0.toInt.toNat := by omega
      obtain ⟨b11, h12⟩ := Option.ne_none_iff_exists'.mp (h10 (by omega))
      have t_b11 := t_r7 b11 h12
      clear h10 t_r7
      subst h12
      refine lv_goto (tgt := 22) hx hb dX8_giftAt_18 (by decide) ?_
      exact W.aret (v := va_rf (some b11)) hx hb hr (Or.inl ⟨_, rfl⟩) (va_rf_or _) (fun t ht hW => ⟨⟨some b11, g, rfl, ⟨(p0.toInt), (rq_z t_b11 (by omega)).1, (rq_z t_b11 (by omega)).2, ⟨rfl, (by omega)⟩⟩, ok1 ht hG⟩, hS.F ht⟩) hS.2.2 dX8_giftAt_22

set_option maxHeartbeats 4000000 in
set_option maxRecDepth 100000 in
/-- WeekBank.numberOf:  -/
theorem k_X8_numberOf (l : Launch) (dC : Nat → ClassId) (dI : Nat → Nat → Nat) (dA : Nat → ClassId) (sz : Nat) (X : va_W) (Γ : ty_G) (hU : Un Γ) (g : gh) (q0 : Option Nat) (z_q0 : Int) (n_q0 : q0 = none → z_q0 = -1) (t_q0 : ∀ b, q0 = some b → Γ b = (3, z_q0.toNat) ∧ 0 ≤ z_q0) : Met l yX8_numberOf (.code yX8_numberOf cX8_numberOf 1 (Option.some Jvm.ClassFile.FieldType.int) :: AL) ({ frames := 0, cells := 0, slots := 0, locals := 0 }) (PCx dC dI dA sz X Γ g [va_rf q0]) (va_Qi (fun (r : Int32) (u : gh) => u = g ∧ ((r.toInt = z_q0))) (okb dC dI dA sz X Γ) (ty_A sz)) 0 0 (ty_A sz) := by
  refine Met.ofW (cc := cX8_numberOf) (maxL := 1) (ret := (Option.some Jvm.ClassFile.FieldType.int)) (by decide) rfl ?_
  intro p e s m args below meth c s₁ B hml hv
  obtain ⟨rfl, hG, hE⟩ := hv
  have hx := B.exec
  have hb := B.bytes
  have hr := B.returns
  have hts := atoms_spec B.pre
  have hA : ∀ w ∈ AL, w.before _ s = true := fun w h => hts w (List.mem_cons_of_mem _ h)
  have hown : s.vm.findClass RX8 = some m.cls := findClass_of_methodNamed B.named
  have hlocks := B.notSynchronized
  have hS : va_S (ty_A sz) s.heap s.heap [] := va_S.rf
  have hl := lv_entry ([va_rf q0]) (n := 1) (by cases q0 <;> exact Nat.le_of_ble_eq_true rfl)
  rw [lg_entry_eq]
  generalize (lg_sl ([va_rf q0]) ++ List.replicate (1 - (lg_sl ([va_rf q0])).length) Slot.unset).toArray = ls at hl ⊢
  have hl : lv_has ls 1 [(0, va_rf q0)] := by cases q0 <;> exact hl
  refine ty_aload_nq hx hb dX8_numberOf_0 rfl (lv_at hl 0 rfl) ?_
  refine ty_ifnonnull (tgt := 8) hx hb dX8_numberOf_1 (by decide) (fun b1 h2 => ?_) (fun h2 => ?_)
  · skip
    obtain ⟨t_b1, p_b1⟩ := t_q0 b1 h2
    clear t_q0 n_q0
    subst h2
    have hl : lv_has ls 1 [(0, .ref b1)] := hl
    refine lv_aload_n hx hb dX8_numberOf_8 rfl (lv_at hl 0 rfl) ?_
    refine get_X3_0 hx hb hA hown hE hG t_b1 wd_2_7 dX8_numberOf_9 (fun x3 h4 => ?_)
    exact W.iret (v := x3) hx hb hr (fun t ht hW => ⟨⟨x3, g, rfl, ⟨rfl, (by omega)⟩, ok1 ht hG⟩, hS.F ht⟩) hS.2.2 dX8_numberOf_12
  · skip
    have hz5 := n_q0 h2
    subst h2
    have hl : lv_has ls 1 [(0, .null)] := hl
    refine ty_iconst hx hb (-1) dX8_numberOf_4 (by decide) (fun x6 h7 => ?_)
    refine lv_goto (tgt := 12) hx hb dX8_numberOf_5 (by decide) ?_
    exact W.iret (v := x6) hx hb hr (fun t ht hW => ⟨⟨x6, g, rfl, ⟨rfl, (by omega)⟩, ok1 ht hG⟩, hS.F ht⟩) hS.2.2 dX8_numberOf_12
