set_option maxHeartbeats 4000000 in
set_option maxRecDepth 100000 in
/-- WeekBank$Reader.isBlank:  -/
theorem k_X4_isBlank (l : Launch) (dC : Nat → ClassId) (dI : Nat → Nat → Nat) (dA : Nat → ClassId) (sz : Nat) (X : va_W) (Γ : ty_G) (hU : Un Γ) (g : gh) (p0 : Int32) : Met l yX4_isBlank (.code yX4_isBlank cX4_isBlank 1 (Option.some Jvm.ClassFile.FieldType.boolean) :: AL) ({ frames := 0, cells := 0, slots := 0, locals := 0 }) (PCx dC dI dA sz X Γ g [.int p0]) (va_Qi (fun (r : Int32) (u : gh) => u = g ∧ ((r.toInt = 0 ∨ r.toInt = 1))) (okb dC dI dA sz X Γ) (ty_A sz)) 0 0 (ty_A sz) := by
  refine Met.ofW (cc := cX4_isBlank) (maxL := 1) (ret := (Option.some Jvm.ClassFile.FieldType.boolean)) (by decide) rfl ?_
  intro p e s m args below meth c s₁ B hml hv
  obtain ⟨rfl, hG, hE⟩ := hv
  have hx := B.exec
  have hb := B.bytes
  have hr := B.returns
  have hts := atoms_spec B.pre
  have hA : ∀ w ∈ AL, w.before _ s = true := fun w h => hts w (List.mem_cons_of_mem _ h)
  have hown : s.vm.findClass RX4 = some m.cls := findClass_of_methodNamed B.named
  have hlocks := B.notSynchronized
  have hS : va_S (ty_A sz) s.heap s.heap [] := va_S.rf
  have hl := lv_entry ([.int p0]) (n := 1) (Nat.le_of_ble_eq_true rfl)
  rw [lg_entry_eq]
  generalize (lg_sl ([.int p0]) ++ List.replicate (1 - (lg_sl ([.int p0])).length) Slot.unset).toArray = ls at hl ⊢
  have hl : lv_has ls 1 [(0, .int p0)] := hl
  refine lv_iload_n hx hb dX4_isBlank_0 rfl (lv_at hl 0 rfl) ?_
  refine ty_bipush hx hb (32) dX4_isBlank_1 (by decide) (fun x1 h2 => ?_)
  refine ty_icmp_eq (tgt := 12) hx hb dX4_isBlank_3 (by decide) (fun c3 => ?_) (fun c3 => ?_)
  · skip
    refine ty_iconst hx hb (1) dX4_isBlank_12 (by decide) (fun x4 h5 => ?_)
    refine lv_goto (tgt := 17) hx hb dX4_isBlank_13 (by decide) ?_
    exact W.zret (v := x4) hx hb hr (ty_nb (by omega)).1 (fun t ht hW => ⟨⟨x4, g, rfl, ⟨rfl, (by omega)⟩, ok1 ht hG⟩, hS.F ht⟩) hS.2.2 dX4_isBlank_17
  · skip
    refine lv_iload_n hx hb dX4_isBlank_6 rfl (lv_at hl 0 rfl) ?_
    refine ty_bipush hx hb (10) dX4_isBlank_7 (by decide) (fun x6 h7 => ?_)
    refine ty_icmp_ne (tgt := 16) hx hb dX4_isBlank_9 (by decide) (fun c8 => ?_) (fun c8 => ?_)
    · skip
      refine ty_iconst hx hb (0) dX4_isBlank_16 (by decide) (fun x9 h10 => ?_)
      exact W.zret (v := x9) hx hb hr (ty_nb (by omega)).1 (fun t ht hW => ⟨⟨x9, g, rfl, ⟨rfl, (by omega)⟩, ok1 ht hG⟩, hS.F ht⟩) hS.2.2 dX4_isBlank_17
    · skip
      refine ty_iconst hx hb (1) dX4_isBlank_12 (by decide) (fun x11 h12 => ?_)
      refine lv_goto (tgt := 17) hx hb dX4_isBlank_13 (by decide) ?_
      exact W.zret (v := x11) hx hb hr (ty_nb (by omega)).1 (fun t ht hW => ⟨⟨x11, g, rfl, ⟨rfl, (by omega)⟩, ok1 ht hG⟩, hS.F ht⟩) hS.2.2 dX4_isBlank_17

set_option maxHeartbeats 4000000 in
set_option maxRecDepth 100000 in
/-- WeekBank$Reader.isLetter:  -/
theorem k_X4_isLetter (l : Launch) (dC : Nat → ClassId) (dI : Nat → Nat → Nat) (dA : Nat → ClassId) (sz : Nat) (X : va_W) (Γ : ty_G) (hU : Un Γ) (g : gh) (p0 : Int32) : Met l yX4_isLetter (.code yX4_isLetter cX4_isLetter 1 (Option.some Jvm.ClassFile.FieldType.boolean) :: AL) ({ frames := 0, cells := 0, slots := 0, locals := 0 }) (PCx dC dI dA sz X Γ g [.int p0]) (va_Qi (fun (r : Int32) (u : gh) => u = g ∧ ((r.toInt = 0 ∨ r.toInt = 1))) (okb dC dI dA sz X Γ) (ty_A sz)) 0 0 (ty_A sz) := by
  refine Met.ofW (cc := cX4_isLetter) (maxL := 1) (ret := (Option.some Jvm.ClassFile.FieldType.boolean)) (by decide) rfl ?_
  intro p e s m args below meth c s₁ B hml hv
  obtain ⟨rfl, hG, hE⟩ := hv
  have hx := B.exec
  have hb := B.bytes
  have hr := B.returns
  have hts := atoms_spec B.pre
  have hA : ∀ w ∈ AL, w.before _ s = true := fun w h => hts w (List.mem_cons_of_mem _ h)
  have hown : s.vm.findClass RX4 = some m.cls := findClass_of_methodNamed B.named
  have hlocks := B.notSynchronized
  have hS : va_S (ty_A sz) s.heap s.heap [] := va_S.rf
  have hl := lv_entry ([.int p0]) (n := 1) (Nat.le_of_ble_eq_true rfl)
  rw [lg_entry_eq]
  generalize (lg_sl ([.int p0]) ++ List.replicate (1 - (lg_sl ([.int p0])).length) Slot.unset).toArray = ls at hl ⊢
  have hl : lv_has ls 1 [(0, .int p0)] := hl
  refine lv_iload_n hx hb dX4_isLetter_0 rfl (lv_at hl 0 rfl) ?_
  refine ty_bipush hx hb (97) dX4_isLetter_1 (by decide) (fun x1 h2 => ?_)
  refine ty_icmp_lt (tgt := 16) hx hb dX4_isLetter_3 (by decide) (fun c3 => ?_) (fun c3 => ?_)
  · skip
    refine ty_iconst hx hb (0) dX4_isLetter_16 (by decide) (fun x4 h5 => ?_)
    exact W.zret (v := x4) hx hb hr (ty_nb (by omega)).1 (fun t ht hW => ⟨⟨x4, g, rfl, ⟨rfl, (by omega)⟩, ok1 ht hG⟩, hS.F ht⟩) hS.2.2 dX4_isLetter_17
  · skip
    refine lv_iload_n hx hb dX4_isLetter_6 rfl (lv_at hl 0 rfl) ?_
    refine ty_bipush hx hb (122) dX4_isLetter_7 (by decide) (fun x6 h7 => ?_)
    refine ty_icmp_gt (tgt := 16) hx hb dX4_isLetter_9 (by decide) (fun c8 => ?_) (fun c8 => ?_)
    · skip
      refine ty_iconst hx hb (0) dX4_isLetter_16 (by decide) (fun x9 h10 => ?_)
      exact W.zret (v := x9) hx hb hr (ty_nb (by omega)).1 (fun t ht hW => ⟨⟨x9, g, rfl, ⟨rfl, (by omega)⟩, ok1 ht hG⟩, hS.F ht⟩) hS.2.2 dX4_isLetter_17
    · skip
      refine ty_iconst hx hb (1) dX4_isLetter_12 (by decide) (fun x11 h12 => ?_)
      refine lv_goto (tgt := 17) hx hb dX4_isLetter_13 (by decide) ?_
      exact W.zret (v := x11) hx hb hr (ty_nb (by omega)).1 (fun t ht hW => ⟨⟨x11, g, rfl, ⟨rfl, (by omega)⟩, ok1 ht hG⟩, hS.F ht⟩) hS.2.2 dX4_isLetter_17

set_option maxHeartbeats 4000000 in
set_option maxRecDepth 100000 in
/-- WeekBank$Reader.isDigit:  -/
theorem k_X4_isDigit (l : Launch) (dC : Nat → ClassId) (dI : Nat → Nat → Nat) (dA : Nat → ClassId) (sz : Nat) (X : va_W) (Γ : ty_G) (hU : Un Γ) (g : gh) (p0 : Int32) : Met l yX4_isDigit (.code yX4_isDigit cX4_isDigit 1 (Option.some Jvm.ClassFile.FieldType.boolean) :: AL) ({ frames := 0, cells := 0, slots := 0, locals := 0 }) (PCx dC dI dA sz X Γ g [.int p0]) (va_Qi (fun (r : Int32) (u : gh) => u = g ∧ ((r.toInt = 0 ∨ r.toInt = 1))) (okb dC dI dA sz X Γ) (ty_A sz)) 0 0 (ty_A sz) := by
  refine Met.ofW (cc := cX4_isDigit) (maxL := 1) (ret := (Option.some Jvm.ClassFile.FieldType.boolean)) (by decide) rfl ?_
  intro p e s m args below meth c s₁ B hml hv
  obtain ⟨rfl, hG, hE⟩ := hv
  have hx := B.exec
  have hb := B.bytes
  have hr := B.returns
  have hts := atoms_spec B.pre
  have hA : ∀ w ∈ AL, w.before _ s = true := fun w h => hts w (List.mem_cons_of_mem _ h)
  have hown : s.vm.findClass RX4 = some m.cls := findClass_of_methodNamed B.named
  have hlocks := B.notSynchronized
  have hS : va_S (ty_A sz) s.heap s.heap [] := va_S.rf
  have hl := lv_entry ([.int p0]) (n := 1) (Nat.le_of_ble_eq_true rfl)
  rw [lg_entry_eq]
  generalize (lg_sl ([.int p0]) ++ List.replicate (1 - (lg_sl ([.int p0])).length) Slot.unset).toArray = ls at hl ⊢
  have hl : lv_has ls 1 [(0, .int p0)] := hl
  refine lv_iload_n hx hb dX4_isDigit_0 rfl (lv_at hl 0 rfl) ?_
  refine ty_bipush hx hb (48) dX4_isDigit_1 (by decide) (fun x1 h2 => ?_)
  refine ty_icmp_lt (tgt := 16) hx hb dX4_isDigit_3 (by decide) (fun c3 => ?_) (fun c3 => ?_)
  · skip
    refine ty_iconst hx hb (0) dX4_isDigit_16 (by decide) (fun x4 h5 => ?_)
    exact W.zret (v := x4) hx hb hr (ty_nb (by omega)).1 (fun t ht hW => ⟨⟨x4, g, rfl, ⟨rfl, (by omega)⟩, ok1 ht hG⟩, hS.F ht⟩) hS.2.2 dX4_isDigit_17
  · skip
    refine lv_iload_n hx hb dX4_isDigit_6 rfl (lv_at hl 0 rfl) ?_
    refine ty_bipush hx hb (57) dX4_isDigit_7 (by decide) (fun x6 h7 => ?_)
    refine ty_icmp_gt (tgt := 16) hx hb dX4_isDigit_9 (by decide) (fun c8 => ?_) (fun c8 => ?_)
    · skip
      refine ty_iconst hx hb (0) dX4_isDigit_16 (by decide) (fun x9 h10 => ?_)
      exact W.zret (v := x9) hx hb hr (ty_nb (by omega)).1 (fun t ht hW => ⟨⟨x9, g, rfl, ⟨rfl, (by omega)⟩, ok1 ht hG⟩, hS.F ht⟩) hS.2.2 dX4_isDigit_17
    · skip
      refine ty_iconst hx hb (1) dX4_isDigit_12 (by decide) (fun x11 h12 => ?_)
      refine lv_goto (tgt := 17) hx hb dX4_isDigit_13 (by decide) ?_
      exact W.zret (v := x11) hx hb hr (ty_nb (by omega)).1 (fun t ht hW => ⟨⟨x11, g, rfl, ⟨rfl, (by omega)⟩, ok1 ht hG⟩, hS.F ht⟩) hS.2.2 dX4_isDigit_17

set_option maxHeartbeats 4000000 in
set_option maxRecDepth 100000 in
/-- WeekBank$Reader.skipLetters:  -/
theorem k_X4_skipLetters (l : Launch) (dC : Nat → ClassId) (dI : Nat → Nat → Nat) (dA : Nat → ClassId) (sz : Nat) (X : va_W) (Γ : ty_G) (hU : Un Γ) (g : gh) (h0 : Nat) (t_h0 : ty Γ h0 7) (hp : 0 ≤ g 16 0 ∧ g 16 0 ≤ g 6 0 ∧ g 6 0 ≤ 300) : Met l yX4_skipLetters (.code yX4_skipLetters cX4_skipLetters 1 (Option.none : Option Jvm.ClassFile.FieldType) :: AL) ({ frames := 1, cells := 0, slots := 0, locals := 20 }) (PCx dC dI dA sz X Γ g [.ref h0]) (va_Qv (fun (u : gh) => (∀ c j : Nat, c ≠ 16 → u c j = g c j) ∧ ((g 16 0 ≤ u 16 0 ∧ u 16 0 ≤ g 6 0))) (okb dC dI dA sz X Γ) (ty_A sz)) 0 0 (ty_A sz) := by
  refine Met.ofW (cc := cX4_skipLetters) (maxL := 1) (ret := (Option.none : Option Jvm.ClassFile.FieldType)) (by decide) rfl ?_
  intro p e s m args below meth c s₁ B hml hv
  obtain ⟨rfl, hG, hE⟩ := hv
  have hx := B.exec
  have hb := B.bytes
  have hr := B.returns
  have hts := atoms_spec B.pre
  have hA : ∀ w ∈ AL, w.before _ s = true := fun w h => hts w (List.mem_cons_of_mem _ h)
  have hown : s.vm.findClass RX4 = some m.cls := findClass_of_methodNamed B.named
  have hlocks := B.notSynchronized
  have hS : va_S (ty_A sz) s.heap s.heap [] := va_S.rf
  have hl := lv_entry ([.ref h0]) (n := 1) (Nat.le_of_ble_eq_true rfl)
  rw [lg_entry_eq]
  generalize (lg_sl ([.ref h0]) ++ List.replicate (1 - (lg_sl ([.ref h0])).length) Slot.unset).toArray = ls at hl ⊢
  have hl : lv_has ls 1 [(0, .ref h0)] := hl
  have L_0 : ∀ (n : Nat)  (g1 : gh) (H : Heap) (locs : List Loc) (ls : Array Slot), (g1 6 0 - g1 16 0 : Int) < n → g 16 0 ≤ g1 16 0 ∧ g1 16 0 ≤ g1 6 0 → (∀ c j : Nat, c ≠ 16 → g1 c j = g c j) → ty_ok (dC, dI) vwCl Γ (TP dA Γ g1) sz X H → va_S (ty_A sz) s.heap H locs → lv_has ls 1 [(0, .ref h0)] → W p l e (headSpec (.code yX4_skipLetters cX4_skipLetters 1 (Option.none : Option Jvm.ClassFile.FieldType) :: AL) ({ frames := 1, cells := 0, slots := 0, locals := 20 })).room s m ([.ref h0] : List Value).toArray below meth c H locs 0 0 (MQ below (va_Qv (fun (u : gh) => (∀ c j : Nat, c ≠ 16 → u c j = g c j) ∧ ((g 16 0 ≤ u 16 0 ∧ u 16 0 ≤ g 6 0))) (okb dC dI dA sz X Γ) (ty_A sz)) ([.ref h0] : List Value).toArray s 0 0 (ty_A sz)) (F0 m 0 ls []) := by
    intro n
    induction n with
    | zero => intro g1 H locs ls hm hi0 hf2 hG hS hl; exfalso; omega
    | succ n ih_0 =>
      intro g1 H locs ls hm hi0 hf2 hG hS hl
      have hk3 : g1 6 0 = g 6 0 := hf2 6 0 (by decide)
      refine lv_aload_n hx hb dX4_skipLetters_0 rfl (lv_at hl 0 rfl) ?_
      refine get_X4_4 hx hb hA hown hE hG t_h0 wd_1_49 dX4_skipLetters_1 (fun x4 h5 => ?_)
      refine lv_aload_n hx hb dX4_skipLetters_4 rfl (lv_at hl 0 rfl) ?_
      refine get_X4_1 hx hb hA hown hE hG t_h0 wd_1_43 dX4_skipLetters_5 (fun x7 h8 => ?_)
      refine ty_icmp_ge (tgt := 39) hx hb dX4_skipLetters_8 (by decide) (fun c10 => ?_) (fun c10 => ?_)
      · skip
        exact W.vret hx hb hr (fun t ht hW => ⟨⟨g1, rfl, ⟨(fun c j h16 => by rw [hf2 c j h16]), (by omega)⟩, ok1 ht hG⟩, hS.F ht⟩) hS.2.2 dX4_skipLetters_39
      · skip
        refine lv_aload_n hx hb dX4_skipLetters_11 rfl (lv_at hl 0 rfl) ?_
        refine get_X4_0 hx hb hA hown hE hG t_h0 wd_1_42 dX4_skipLetters_12 (fun b11 (t_b11 : ty Γ b11 18) => ?_)
        refine lv_aload_n hx hb dX4_skipLetters_15 rfl (lv_at hl 0 rfl) ?_
        refine get_X4_4 hx hb hA hown hE hG t_h0 wd_1_49 dX4_skipLetters_16 (fun x12 h13 => ?_)
        refine ald_18 hx hb hE hG t_b11 (by omega) dX4_skipLetters_19 (fun j16 x15 h17 h18 => ?_)
        refine cI (va_runS (As := [.int x15]) (rest := []) ⟨hx, hb, hml, hown, hA⟩ (k_X4_isLetter l dC dI dA sz X Γ hU g1 x15   ) ⟨callB_of 1 hA (al_A wd_2_106) rfl rfl rfl (hA _ wd_1_2) (hA _ wd_2_104) (by decide +kernel) ⟨Nat.le_of_ble_eq_true rfl, Nat.le_of_ble_eq_true rfl⟩, hA _ wd_2_105⟩ ⟨bl, fun U hU9 hW9 => ⟨rfl, by rw [hU9]; exact hG, hE.go hS hU9 hW9⟩⟩ rfl rfl hl.1 rfl (lv_room (Nat.le_of_ble_eq_true rfl)) dX4_skipLetters_20 ⟨Nat.zero_le _, Nat.zero_le _⟩) hS (fun x21 u19 H locs w20 hG hS => ?_)
        obtain ⟨eu22, w20⟩ := w20
        rw [eu22] at hG
        refine ty_if_eq (tgt := 39) hx hb dX4_skipLetters_23 (by decide) (fun c23 => ?_) (fun c23 => ?_)
        · skip
          exact W.vret hx hb hr (fun t ht hW => ⟨⟨g1, rfl, ⟨(fun c j h16 => by rw [hf2 c j h16]), (by omega)⟩, ok1 ht hG⟩, hS.F ht⟩) hS.2.2 dX4_skipLetters_39
        · skip
          refine lv_aload_n hx hb dX4_skipLetters_26 rfl (lv_at hl 0 rfl) ?_
          refine lv_dup hx hb dX4_skipLetters_27 rfl ?_
          refine get_X4_4 hx hb hA hown hE hG t_h0 wd_1_49 dX4_skipLetters_28 (fun x24 h25 => ?_)
          refine ty_iconst hx hb (1) dX4_skipLetters_31 (by decide) (fun x27 h28 => ?_)
          refine ty_iadd hx hb dX4_skipLetters_32 (fun x29 h30 => ?_)
          try have h31 : x29.toInt = x24.toInt + x27.toInt := ty_add h30 (by omega) (by omega)
          refine put_X4_4 hx hb hA hown hE hG hS hU t_h0 wd_1_49 dX4_skipLetters_33 (fun H locs hG hS => ?_)
          refine lv_goto (tgt := 0) hx hb dX4_skipLetters_36 (by decide) ?_
          have e32 : (gs g1 16 0 x29.toInt) 6 0 = g1 6 0 := by simp [gs]
          have e33 : (gs g1 16 0 x29.toInt) 16 0 = x29.toInt := by simp [gs]
          exact ih_0 (gs g1 16 0 x29.toInt) _ _ ls (by omega) (by omega) (fun c j h16 => by rw [gs_c _ _ _ _ h16, hf2 c j h16]) hG hS (lv_sub hl [0] rfl)
  exact L_0 ((g 6 0 - g 16 0) + 1).toNat g _ _ ls (by omega) (by omega) (fun c j _ => rfl) hG hS (lv_sub hl [0] rfl)

set_option maxHeartbeats 4000000 in
set_option maxRecDepth 100000 in
/-- WeekBank$Reader.readDigits:  -/
theorem k_X4_readDigits (l : Launch) (dC : Nat → ClassId) (dI : Nat → Nat → Nat) (dA : Nat → ClassId) (sz : Nat) (X : va_W) (Γ : ty_G) (hU : Un Γ) (g : gh) (h0 : Nat) (t_h0 : ty Γ h0 7) (hp : 0 ≤ g 17 0 ∧ g 17 0 ≤ g 16 0 ∧ g 16 0 ≤ g 6 0 ∧ g 6 0 ≤ 300) : Met l yX4_readDigits (.code yX4_readDigits cX4_readDigits 1 (Option.none : Option Jvm.ClassFile.FieldType) :: AL) ({ frames := 1, cells := 0, slots := 0, locals := 20 }) (PCx dC dI dA sz X Γ g [.ref h0]) (va_Qv (fun (u : gh) => (∀ c j : Nat, c ≠ 15 → c ≠ 16 → c ≠ 18 → u c j = g c j) ∧ ((g 16 0 ≤ u 16 0 ∧ u 16 0 ≤ g 6 0))) (okb dC dI dA sz X Γ) (ty_A sz)) 0 0 (ty_A sz) := by
  refine Met.ofW (cc := cX4_readDigits) (maxL := 1) (ret := (Option.none : Option Jvm.ClassFile.FieldType)) (by decide) rfl ?_
  intro p e s m args below meth c s₁ B hml hv
  obtain ⟨rfl, hG, hE⟩ := hv
  have hx := B.exec
  have hb := B.bytes
  have hr := B.returns
  have hts := atoms_spec B.pre
  have hA : ∀ w ∈ AL, w.before _ s = true := fun w h => hts w (List.mem_cons_of_mem _ h)
  have hown : s.vm.findClass RX4 = some m.cls := findClass_of_methodNamed B.named
  have hlocks := B.notSynchronized
  have hS : va_S (ty_A sz) s.heap s.heap [] := va_S.rf
  have hl := lv_entry ([.ref h0]) (n := 1) (Nat.le_of_ble_eq_true rfl)
  rw [lg_entry_eq]
  generalize (lg_sl ([.ref h0]) ++ List.replicate (1 - (lg_sl ([.ref h0])).length) Slot.unset).toArray = ls at hl ⊢
  have hl : lv_has ls 1 [(0, .ref h0)] := hl
  refine lv_aload_n hx hb dX4_readDigits_0 rfl (lv_at hl 0 rfl) ?_
  refine ty_iconst hx hb (0) dX4_readDigits_1 (by decide) (fun x1 h2 => ?_)
  refine put_X4_7 hx hb hA hown hE hG hS hU t_h0 wd_1_52 dX4_readDigits_2 (fun H locs hG hS => ?_)
  have e4 : (gs g 18 0 x1.toInt) 6 0 = g 6 0 := by simp [gs]
  have e5 : (gs g 18 0 x1.toInt) 16 0 = g 16 0 := by simp [gs]
  have L_5 : ∀ (n : Nat)  (g3 : gh) (H : Heap) (locs : List Loc) (ls : Array Slot), (g3 6 0 - g3 16 0 : Int) < n → g 16 0 ≤ g3 16 0 ∧ g3 16 0 ≤ g3 6 0 → (∀ c j : Nat, c ≠ 16 → c ≠ 18 → g3 c j = (gs g 18 0 x1.toInt) c j) → ty_ok (dC, dI) vwCl Γ (TP dA Γ g3) sz X H → va_S (ty_A sz) s.heap H locs → lv_has ls 1 [(0, .ref h0)] → W p l e (headSpec (.code yX4_readDigits cX4_readDigits 1 (Option.none : Option Jvm.ClassFile.FieldType) :: AL) ({ frames := 1, cells := 0, slots := 0, locals := 20 })).room s m ([.ref h0] : List Value).toArray below meth c H locs 0 0 (MQ below (va_Qv (fun (u : gh) => (∀ c j : Nat, c ≠ 15 → c ≠ 16 → c ≠ 18 → u c j = g c j) ∧ ((g 16 0 ≤ u 16 0 ∧ u 16 0 ≤ g 6 0))) (okb dC dI dA sz X Γ) (ty_A sz)) ([.ref h0] : List Value).toArray s 0 0 (ty_A sz)) (F0 m 5 ls []) := by
    intro n
    induction n with
    | zero => intro g3 H locs ls hm hi0 hf6 hG hS hl; exfalso; omega
    | succ n ih_5 =>
      intro g3 H locs ls hm hi0 hf6 hG hS hl
      have hk7 : g3 6 0 = (gs g 18 0 x1.toInt) 6 0 := hf6 6 0 (by decide) (by decide)
      have hk7 : g3 6 0 = g 6 0 := by rw [hk7]; simp [gs]
      refine lv_aload_n hx hb dX4_readDigits_5 rfl (lv_at hl 0 rfl) ?_
      refine get_X4_4 hx hb hA hown hE hG t_h0 wd_1_49 dX4_readDigits_6 (fun x8 h9 => ?_)
      refine lv_aload_n hx hb dX4_readDigits_9 rfl (lv_at hl 0 rfl) ?_
      refine get_X4_1 hx hb hA hown hE hG t_h0 wd_1_43 dX4_readDigits_10 (fun x11 h12 => ?_)
      refine ty_icmp_ge (tgt := 81) hx hb dX4_readDigits_13 (by decide) (fun c14 => ?_) (fun c14 => ?_)
      · skip
        refine lv_aload_n hx hb dX4_readDigits_81 rfl (lv_at hl 0 rfl) ?_
        refine lv_aload_n hx hb dX4_readDigits_82 rfl (lv_at hl 0 rfl) ?_
        refine get_X4_4 hx hb hA hown hE hG t_h0 wd_1_49 dX4_readDigits_83 (fun x15 h16 => ?_)
        refine lv_aload_n hx hb dX4_readDigits_86 rfl (lv_at hl 0 rfl) ?_
        refine get_X4_6 hx hb hA hown hE hG t_h0 wd_1_51 dX4_readDigits_87 (fun x18 h19 => ?_)
        have hk21 : g3 17 0 = (gs g 18 0 x1.toInt) 17 0 := hf6 17 0 (by decide) (by decide)
        have hk21 : g3 17 0 = g 17 0 := by rw [hk21]; simp [gs]
        refine ty_isub hx hb dX4_readDigits_90 (fun x22 h23 => ?_)
        try have h24 : x22.toInt = x15.toInt - x18.toInt := ty_sub h23 (by omega) (by omega)
        refine ty_iconst hx hb (4) dX4_readDigits_91 (by decide) (fun x25 h26 => ?_)
        refine ty_icmp_gt (tgt := 99) hx hb dX4_readDigits_92 (by decide) (fun c27 => ?_) (fun c27 => ?_)
        · skip
          refine ty_iconst hx hb (4) dX4_readDigits_99 (by decide) (fun x28 h29 => ?_)
          refine put_X4_5 hx hb hA hown hE hG hS hU t_h0 wd_1_50 dX4_readDigits_100 (fun H locs hG hS => ?_)
          have e30 : (gs g3 15 0 x28.toInt) 16 0 = g3 16 0 := by simp [gs]
          exact W.vret hx hb hr (fun t ht hW => ⟨⟨(gs g3 15 0 x28.toInt), rfl, ⟨(fun c j h15 h16 h18 => by rw [gs_c _ _ _ _ h15, hf6 c j h16 h18, gs_c _ _ _ _ h18]), (by omega)⟩, ok1 ht hG⟩, hS.F ht⟩) hS.2.2 dX4_readDigits_103
        · skip
          refine ty_iconst hx hb (2) dX4_readDigits_95 (by decide) (fun x31 h32 => ?_)
          refine lv_goto (tgt := 100) hx hb dX4_readDigits_96 (by decide) ?_
          refine put_X4_5 hx hb hA hown hE hG hS hU t_h0 wd_1_50 dX4_readDigits_100 (fun H locs hG hS => ?_)
          have e33 : (gs g3 15 0 x31.toInt) 16 0 = g3 16 0 := by simp [gs]
          exact W.vret hx hb hr (fun t ht hW => ⟨⟨(gs g3 15 0 x31.toInt), rfl, ⟨(fun c j h15 h16 h18 => by rw [gs_c _ _ _ _ h15, hf6 c j h16 h18, gs_c _ _ _ _ h18]), (by omega)⟩, ok1 ht hG⟩, hS.F ht⟩) hS.2.2 dX4_readDigits_103
      · skip
        refine lv_aload_n hx hb dX4_readDigits_16 rfl (lv_at hl 0 rfl) ?_
        refine get_X4_0 hx hb hA hown hE hG t_h0 wd_1_42 dX4_readDigits_17 (fun b34 (t_b34 : ty Γ b34 18) => ?_)
        refine lv_aload_n hx hb dX4_readDigits_20 rfl (lv_at hl 0 rfl) ?_
        refine get_X4_4 hx hb hA hown hE hG t_h0 wd_1_49 dX4_readDigits_21 (fun x35 h36 => ?_)
        refine ald_18 hx hb hE hG t_b34 (by omega) dX4_readDigits_24 (fun j39 x38 h40 h41 => ?_)
        refine cI (va_runS (As := [.int x38]) (rest := []) ⟨hx, hb, hml, hown, hA⟩ (k_X4_isDigit l dC dI dA sz X Γ hU g3 x38   ) ⟨callB_of 1 hA (al_A wd_2_113) rfl rfl rfl (hA _ wd_1_2) (hA _ wd_2_111) (by decide +kernel) ⟨Nat.le_of_ble_eq_true rfl, Nat.le_of_ble_eq_true rfl⟩, hA _ wd_2_112⟩ ⟨bl, fun U hU9 hW9 => ⟨rfl, by rw [hU9]; exact hG, hE.go hS hU9 hW9⟩⟩ rfl rfl hl.1 rfl (lv_room (Nat.le_of_ble_eq_true rfl)) dX4_readDigits_25 ⟨Nat.zero_le _, Nat.zero_le _⟩) hS (fun x44 u42 H locs w43 hG hS => ?_)
        obtain ⟨eu45, w43⟩ := w43
        rw [eu45] at hG
        refine ty_if_eq (tgt := 81) hx hb dX4_readDigits_28 (by decide) (fun c46 => ?_) (fun c46 => ?_)
        · skip
          refine lv_aload_n hx hb dX4_readDigits_81 rfl (lv_at hl 0 rfl) ?_
          refine lv_aload_n hx hb dX4_readDigits_82 rfl (lv_at hl 0 rfl) ?_
          refine get_X4_4 hx hb hA hown hE hG t_h0 wd_1_49 dX4_readDigits_83 (fun x47 h48 => ?_)
          refine lv_aload_n hx hb dX4_readDigits_86 rfl (lv_at hl 0 rfl) ?_
          refine get_X4_6 hx hb hA hown hE hG t_h0 wd_1_51 dX4_readDigits_87 (fun x50 h51 => ?_)
          have hk53 : g3 17 0 = (gs g 18 0 x1.toInt) 17 0 := hf6 17 0 (by decide) (by decide)
          have hk53 : g3 17 0 = g 17 0 := by rw [hk53]; simp [gs]
          refine ty_isub hx hb dX4_readDigits_90 (fun x54 h55 => ?_)
          try have h56 : x54.toInt = x47.toInt - x50.toInt := ty_sub h55 (by omega) (by omega)
          refine ty_iconst hx hb (4) dX4_readDigits_91 (by decide) (fun x57 h58 => ?_)
          refine ty_icmp_gt (tgt := 99) hx hb dX4_readDigits_92 (by decide) (fun c59 => ?_) (fun c59 => ?_)
          · skip
            refine ty_iconst hx hb (4) dX4_readDigits_99 (by decide) (fun x60 h61 => ?_)
            refine put_X4_5 hx hb hA hown hE hG hS hU t_h0 wd_1_50 dX4_readDigits_100 (fun H locs hG hS => ?_)
            have e62 : (gs g3 15 0 x60.toInt) 16 0 = g3 16 0 := by simp [gs]
            exact W.vret hx hb hr (fun t ht hW => ⟨⟨(gs g3 15 0 x60.toInt), rfl, ⟨(fun c j h15 h16 h18 => by rw [gs_c _ _ _ _ h15, hf6 c j h16 h18, gs_c _ _ _ _ h18]), (by omega)⟩, ok1 ht hG⟩, hS.F ht⟩) hS.2.2 dX4_readDigits_103
          · skip
            refine ty_iconst hx hb (2) dX4_readDigits_95 (by decide) (fun x63 h64 => ?_)
            refine lv_goto (tgt := 100) hx hb dX4_readDigits_96 (by decide) ?_
            refine put_X4_5 hx hb hA hown hE hG hS hU t_h0 wd_1_50 dX4_readDigits_100 (fun H locs hG hS => ?_)
            have e65 : (gs g3 15 0 x63.toInt) 16 0 = g3 16 0 := by simp [gs]
            exact W.vret hx hb hr (fun t ht hW => ⟨⟨(gs g3 15 0 x63.toInt), rfl, ⟨(fun c j h15 h16 h18 => by rw [gs_c _ _ _ _ h15, hf6 c j h16 h18, gs_c _ _ _ _ h18]), (by omega)⟩, ok1 ht hG⟩, hS.F ht⟩) hS.2.2 dX4_readDigits_103
        · skip
          refine lv_aload_n hx hb dX4_readDigits_31 rfl (lv_at hl 0 rfl) ?_
          refine get_X4_4 hx hb hA hown hE hG t_h0 wd_1_49 dX4_readDigits_32 (fun x66 h67 => ?_)
          refine lv_aload_n hx hb dX4_readDigits_35 rfl (lv_at hl 0 rfl) ?_
          refine get_X4_6 hx hb hA hown hE hG t_h0 wd_1_51 dX4_readDigits_36 (fun x69 h70 => ?_)
          have hk72 : g3 17 0 = (gs g 18 0 x1.toInt) 17 0 := hf6 17 0 (by decide) (by decide)
          have hk72 : g3 17 0 = g 17 0 := by rw [hk72]; simp [gs]
          refine ty_isub hx hb dX4_readDigits_39 (fun x73 h74 => ?_)
          try have h75 : x73.toInt = x66.toInt - x69.toInt := ty_sub h74 (by omega) (by omega)
          refine ty_iconst hx hb (4) dX4_readDigits_40 (by decide) (fun x76 h77 => ?_)
          refine ty_icmp_ge (tgt := 68) hx hb dX4_readDigits_41 (by decide) (fun c78 => ?_) (fun c78 => ?_)
          · skip
            refine lv_aload_n hx hb dX4_readDigits_68 rfl (lv_at hl 0 rfl) ?_
            refine lv_dup hx hb dX4_readDigits_69 rfl ?_
            refine get_X4_4 hx hb hA hown hE hG t_h0 wd_1_49 dX4_readDigits_70 (fun x79 h80 => ?_)
            refine ty_iconst hx hb (1) dX4_readDigits_73 (by decide) (fun x82 h83 => ?_)
            refine ty_iadd hx hb dX4_readDigits_74 (fun x84 h85 => ?_)
            try have h86 : x84.toInt = x79.toInt + x82.toInt := ty_add h85 (by omega) (by omega)
            refine put_X4_4 hx hb hA hown hE hG hS hU t_h0 wd_1_49 dX4_readDigits_75 (fun H locs hG hS => ?_)
            refine lv_goto (tgt := 5) hx hb dX4_readDigits_78 (by decide) ?_
            have e87 : (gs g3 16 0 x84.toInt) 6 0 = g3 6 0 := by simp [gs]
            have e88 : (gs g3 16 0 x84.toInt) 16 0 = x84.toInt := by simp [gs]
            exact ih_5 (gs g3 16 0 x84.toInt) _ _ ls (by omega) (by omega) (fun c j h16 h18 => by rw [gs_c _ _ _ _ h16, hf6 c j h16 h18]) hG hS (lv_sub hl [0] rfl)
          · skip
            refine lv_aload_n hx hb dX4_readDigits_44 rfl (lv_at hl 0 rfl) ?_
            refine lv_aload_n hx hb dX4_readDigits_45 rfl (lv_at hl 0 rfl) ?_
            refine get_X4_7 hx hb hA hown hE hG t_h0 wd_1_52 dX4_readDigits_46 (fun x89 h90 => ?_)
            refine ty_bipush hx hb (10) dX4_readDigits_49 (by decide) (fun x92 h93 => ?_)
            refine ty_imul hx hb dX4_readDigits_51 (fun x94 h95 => ?_)
            try have h96 : x94.toInt = x89.toInt * 10 := ty_mulr h95 (by omega) (by omega) (by omega)
            refine lv_aload_n hx hb dX4_readDigits_52 rfl (lv_at hl 0 rfl) ?_
            refine get_X4_0 hx hb hA hown hE hG t_h0 wd_1_42 dX4_readDigits_53 (fun b97 (t_b97 : ty Γ b97 18) => ?_)
            refine lv_aload_n hx hb dX4_readDigits_56 rfl (lv_at hl 0 rfl) ?_
            refine get_X4_4 hx hb hA hown hE hG t_h0 wd_1_49 dX4_readDigits_57 (fun x98 h99 => ?_)
            refine ald_18 hx hb hE hG t_b97 (by omega) dX4_readDigits_60 (fun j102 x101 h103 h104 => ?_)
            refine ty_bipush hx hb (48) dX4_readDigits_61 (by decide) (fun x105 h106 => ?_)
            refine ty_isub hx hb dX4_readDigits_63 (fun x107 h108 => ?_)
            try have h109 : x107.toInt = x101.toInt - x105.toInt := ty_sub h108 (by omega) (by omega)
            refine ty_iadd hx hb dX4_readDigits_64 (fun x110 h111 => ?_)
            try have h112 : x110.toInt = x94.toInt + x107.toInt := ty_add h111 (by omega) (by omega)
            refine put_X4_7 hx hb hA hown hE hG hS hU t_h0 wd_1_52 dX4_readDigits_65 (fun H locs hG hS => ?_)
            refine lv_aload_n hx hb dX4_readDigits_68 rfl (lv_at hl 0 rfl) ?_
            refine lv_dup hx hb dX4_readDigits_69 rfl ?_
            refine get_X4_4 hx hb hA hown hE hG t_h0 wd_1_49 dX4_readDigits_70 (fun x113 h114 => ?_)
            replace h114 : x113.toInt = g3 16 0 := by rw [h114]; simp [gs]
            refine ty_iconst hx hb (1) dX4_readDigits_73 (by decide) (fun x116 h117 => ?_)
            refine ty_iadd hx hb dX4_readDigits_74 (fun x118 h119 => ?_)
            try have h120 : x118.toInt = x113.toInt + x116.toInt := ty_add h119 (by omega) (by omega)
            refine put_X4_4 hx hb hA hown hE hG hS hU t_h0 wd_1_49 dX4_readDigits_75 (fun H locs hG hS => ?_)
            refine lv_goto (tgt := 5) hx hb dX4_readDigits_78 (by decide) ?_
            have e121 : (gs (gs g3 18 0 x110.toInt) 16 0 x118.toInt) 6 0 = g3 6 0 := by simp [gs]
            have e122 : (gs (gs g3 18 0 x110.toInt) 16 0 x118.toInt) 16 0 = x118.toInt := by simp [gs]
            exact ih_5 (gs (gs g3 18 0 x110.toInt) 16 0 x118.toInt) _ _ ls (by omega) (by omega) (fun c j h16 h18 => by rw [gs_c _ _ _ _ h16, gs_c _ _ _ _ h18, hf6 c j h16 h18]) hG hS (lv_sub hl [0] rfl)
  have e123 : (gs g 18 0 x1.toInt) 6 0 = g 6 0 := by simp [gs]
  have e124 : (gs g 18 0 x1.toInt) 16 0 = g 16 0 := by simp [gs]
  exact L_5 (((gs g 18 0 x1.toInt) 6 0 - (gs g 18 0 x1.toInt) 16 0) + 1).toNat (gs g 18 0 x1.toInt) _ _ ls (by omega) (by omega) (fun c j _ _ => rfl) hG hS (lv_sub hl [0] rfl)

set_option maxHeartbeats 4000000 in
set_option maxRecDepth 100000 in
/-- WeekBank$Reader.readToken:  -/
theorem k_X4_readToken (l : Launch) (dC : Nat → ClassId) (dI : Nat → Nat → Nat) (dA : Nat → ClassId) (sz : Nat) (X : va_W) (Γ : ty_G) (hU : Un Γ) (g : gh) (h0 : Nat) (t_h0 : ty Γ h0 7) (hp : 0 ≤ g 16 0 ∧ g 16 0 ≤ g 6 0 ∧ g 6 0 ≤ 300) : Met l yX4_readToken (.code yX4_readToken cX4_readToken 1 (Option.none : Option Jvm.ClassFile.FieldType) :: AL) ({ frames := 2, cells := 0, slots := 0, locals := 40 }) (PCx dC dI dA sz X Γ g [.ref h0]) (va_Qv (fun (u : gh) => (∀ c j : Nat, c ≠ 15 → c ≠ 16 → c ≠ 17 → c ≠ 18 → u c j = g c j) ∧ ((0 ≤ u 17 0 ∧ u 17 0 ≤ u 16 0 ∧ u 16 0 ≤ g 6 0))) (okb dC dI dA sz X Γ) (ty_A sz)) 0 0 (ty_A sz) := by
  refine Met.ofW (cc := cX4_readToken) (maxL := 1) (ret := (Option.none : Option Jvm.ClassFile.FieldType)) (by decide) rfl ?_
  intro p e s m args below meth c s₁ B hml hv
  obtain ⟨rfl, hG, hE⟩ := hv
  have hx := B.exec
  have hb := B.bytes
  have hr := B.returns
  have hts := atoms_spec B.pre
  have hA : ∀ w ∈ AL, w.before _ s = true := fun w h => hts w (List.mem_cons_of_mem _ h)
  have hown : s.vm.findClass RX4 = some m.cls := findClass_of_methodNamed B.named
  have hlocks := B.notSynchronized
  have hS : va_S (ty_A sz) s.heap s.heap [] := va_S.rf
  have hl := lv_entry ([.ref h0]) (n := 1) (Nat.le_of_ble_eq_true rfl)
  rw [lg_entry_eq]
  generalize (lg_sl ([.ref h0]) ++ List.replicate (1 - (lg_sl ([.ref h0])).length) Slot.unset).toArray = ls at hl ⊢
  have hl : lv_has ls 1 [(0, .ref h0)] := hl
  have L_0 : ∀ (n : Nat)  (g1 : gh) (H : Heap) (locs : List Loc) (ls : Array Slot), (g1 6 0 - g1 16 0 : Int) < n → g 16 0 ≤ g1 16 0 ∧ g1 16 0 ≤ g1 6 0 → (∀ c j : Nat, c ≠ 16 → g1 c j = g c j) → ty_ok (dC, dI) vwCl Γ (TP dA Γ g1) sz X H → va_S (ty_A sz) s.heap H locs → lv_has ls 1 [(0, .ref h0)] → W p l e (headSpec (.code yX4_readToken cX4_readToken 1 (Option.none : Option Jvm.ClassFile.FieldType) :: AL) ({ frames := 2, cells := 0, slots := 0, locals := 40 })).room s m ([.ref h0] : List Value).toArray below meth c H locs 0 0 (MQ below (va_Qv (fun (u : gh) => (∀ c j : Nat, c ≠ 15 → c ≠ 16 → c ≠ 17 → c ≠ 18 → u c j = g c j) ∧ ((0 ≤ u 17 0 ∧ u 17 0 ≤ u 16 0 ∧ u 16 0 ≤ g 6 0))) (okb dC dI dA sz X Γ) (ty_A sz)) ([.ref h0] : List Value).toArray s 0 0 (ty_A sz)) (F0 m 0 ls []) := by
    intro n
    induction n with
    | zero => intro g1 H locs ls hm hi0 hf2 hG hS hl; exfalso; omega
    | succ n ih_0 =>
      intro g1 H locs ls hm hi0 hf2 hG hS hl
      have hk3 : g1 6 0 = g 6 0 := hf2 6 0 (by decide)
      refine lv_aload_n hx hb dX4_readToken_0 rfl (lv_at hl 0 rfl) ?_
      refine get_X4_4 hx hb hA hown hE hG t_h0 wd_1_49 dX4_readToken_1 (fun x4 h5 => ?_)
      refine lv_aload_n hx hb dX4_readToken_4 rfl (lv_at hl 0 rfl) ?_
      refine get_X4_1 hx hb hA hown hE hG t_h0 wd_1_43 dX4_readToken_5 (fun x7 h8 => ?_)
      refine ty_icmp_ge (tgt := 39) hx hb dX4_readToken_8 (by decide) (fun c10 => ?_) (fun c10 => ?_)
      · skip
        refine lv_aload_n hx hb dX4_readToken_39 rfl (lv_at hl 0 rfl) ?_
        refine lv_aload_n hx hb dX4_readToken_40 rfl (lv_at hl 0 rfl) ?_
        refine get_X4_4 hx hb hA hown hE hG t_h0 wd_1_49 dX4_readToken_41 (fun x11 h12 => ?_)
        refine put_X4_6 hx hb hA hown hE hG hS hU t_h0 wd_1_51 dX4_readToken_44 (fun H locs hG hS => ?_)
        refine lv_aload_n hx hb dX4_readToken_47 rfl (lv_at hl 0 rfl) ?_
        refine get_X4_4 hx hb hA hown hE hG t_h0 wd_1_49 dX4_readToken_48 (fun x14 h15 => ?_)
        replace h15 : x14.toInt = g1 16 0 := by rw [h15]; simp [gs]
        refine lv_aload_n hx hb dX4_readToken_51 rfl (lv_at hl 0 rfl) ?_
        refine get_X4_1 hx hb hA hown hE hG t_h0 wd_1_43 dX4_readToken_52 (fun x17 h18 => ?_)
        replace h18 : x17.toInt = g1 6 0 := by rw [h18]; simp [gs]
        refine ty_icmp_lt (tgt := 66) hx hb dX4_readToken_55 (by decide) (fun c20 => ?_) (fun c20 => ?_)
        · skip
          refine lv_aload_n hx hb dX4_readToken_66 rfl (lv_at hl 0 rfl) ?_
          refine get_X4_0 hx hb hA hown hE hG t_h0 wd_1_42 dX4_readToken_67 (fun b21 (t_b21 : ty Γ b21 18) => ?_)
          refine lv_aload_n hx hb dX4_readToken_70 rfl (lv_at hl 0 rfl) ?_
          refine get_X4_4 hx hb hA hown hE hG t_h0 wd_1_49 dX4_readToken_71 (fun x22 h23 => ?_)
          replace h23 : x22.toInt = g1 16 0 := by rw [h23]; simp [gs]
          refine ald_18 hx hb hE hG t_b21 (by omega) dX4_readToken_74 (fun j26 x25 h27 h28 => ?_)
          refine cI (va_runS (As := [.int x25]) (rest := []) ⟨hx, hb, hml, hown, hA⟩ (k_X4_isLetter l dC dI dA sz X Γ hU (gs g1 17 0 x11.toInt) x25   ) ⟨callB_of 1 hA (al_A wd_2_106) rfl rfl rfl (hA _ wd_1_2) (hA _ wd_2_104) (by decide +kernel) ⟨Nat.le_of_ble_eq_true rfl, Nat.le_of_ble_eq_true rfl⟩, hA _ wd_2_105⟩ ⟨bl, fun U hU9 hW9 => ⟨rfl, by rw [hU9]; exact hG, hE.go hS hU9 hW9⟩⟩ rfl rfl hl.1 rfl (lv_room (Nat.le_of_ble_eq_true rfl)) dX4_readToken_75 ⟨Nat.zero_le _, Nat.zero_le _⟩) hS (fun x31 u29 H locs w30 hG hS => ?_)
          obtain ⟨eu32, w30⟩ := w30
          rw [eu32] at hG
          refine ty_if_eq (tgt := 93) hx hb dX4_readToken_78 (by decide) (fun c33 => ?_) (fun c33 => ?_)
          · skip
            refine lv_aload_n hx hb dX4_readToken_93 rfl (lv_at hl 0 rfl) ?_
            refine get_X4_0 hx hb hA hown hE hG t_h0 wd_1_42 dX4_readToken_94 (fun b34 (t_b34 : ty Γ b34 18) => ?_)
            refine lv_aload_n hx hb dX4_readToken_97 rfl (lv_at hl 0 rfl) ?_
            refine get_X4_4 hx hb hA hown hE hG t_h0 wd_1_49 dX4_readToken_98 (fun x35 h36 => ?_)
            replace h36 : x35.toInt = g1 16 0 := by rw [h36]; simp [gs]
            refine ald_18 hx hb hE hG t_b34 (by omega) dX4_readToken_101 (fun j39 x38 h40 h41 => ?_)
            refine cI (va_runS (As := [.int x38]) (rest := []) ⟨hx, hb, hml, hown, hA⟩ (k_X4_isDigit l dC dI dA sz X Γ hU (gs g1 17 0 x11.toInt) x38   ) ⟨callB_of 1 hA (al_A wd_2_113) rfl rfl rfl (hA _ wd_1_2) (hA _ wd_2_111) (by decide +kernel) ⟨Nat.le_of_ble_eq_true rfl, Nat.le_of_ble_eq_true rfl⟩, hA _ wd_2_112⟩ ⟨bl, fun U hU9 hW9 => ⟨rfl, by rw [hU9]; exact hG, hE.go hS hU9 hW9⟩⟩ rfl rfl hl.1 rfl (lv_room (Nat.le_of_ble_eq_true rfl)) dX4_readToken_102 ⟨Nat.zero_le _, Nat.zero_le _⟩) hS (fun x44 u42 H locs w43 hG hS => ?_)
            obtain ⟨eu45, w43⟩ := w43
            rw [eu45] at hG
            refine ty_if_eq (tgt := 115) hx hb dX4_readToken_105 (by decide) (fun c46 => ?_) (fun c46 => ?_)
            · skip
              refine lv_aload_n hx hb dX4_readToken_115 rfl (lv_at hl 0 rfl) ?_
              refine lv_aload_n hx hb dX4_readToken_116 rfl (lv_at hl 0 rfl) ?_
              refine get_X4_0 hx hb hA hown hE hG t_h0 wd_1_42 dX4_readToken_117 (fun b47 (t_b47 : ty Γ b47 18) => ?_)
              refine lv_aload_n hx hb dX4_readToken_120 rfl (lv_at hl 0 rfl) ?_
              refine get_X4_4 hx hb hA hown hE hG t_h0 wd_1_49 dX4_readToken_121 (fun x48 h49 => ?_)
              replace h49 : x48.toInt = g1 16 0 := by rw [h49]; simp [gs]
              refine ald_18 hx hb hE hG t_b47 (by omega) dX4_readToken_124 (fun j52 x51 h53 h54 => ?_)
              refine ty_bipush hx hb (59) dX4_readToken_125 (by decide) (fun x55 h56 => ?_)
              refine ty_icmp_ne (tgt := 134) hx hb dX4_readToken_127 (by decide) (fun c57 => ?_) (fun c57 => ?_)
              · skip
                refine ty_iconst hx hb (4) dX4_readToken_134 (by decide) (fun x58 h59 => ?_)
                refine put_X4_5 hx hb hA hown hE hG hS hU t_h0 wd_1_50 dX4_readToken_135 (fun H locs hG hS => ?_)
                refine lv_aload_n hx hb dX4_readToken_138 rfl (lv_at hl 0 rfl) ?_
                refine lv_dup hx hb dX4_readToken_139 rfl ?_
                refine get_X4_4 hx hb hA hown hE hG t_h0 wd_1_49 dX4_readToken_140 (fun x60 h61 => ?_)
                replace h61 : x60.toInt = g1 16 0 := by rw [h61]; simp [gs]
                refine ty_iconst hx hb (1) dX4_readToken_143 (by decide) (fun x63 h64 => ?_)
                refine ty_iadd hx hb dX4_readToken_144 (fun x65 h66 => ?_)
                try have h67 : x65.toInt = x60.toInt + x63.toInt := ty_add h66 (by omega) (by omega)
                refine put_X4_4 hx hb hA hown hE hG hS hU t_h0 wd_1_49 dX4_readToken_145 (fun H locs hG hS => ?_)
                generalize eg69 : (gs (gs (gs g1 17 0 x11.toInt) 15 0 x58.toInt) 16 0 x65.toInt) = g68 at hG
                have hf70 : ∀ c j : Nat, c ≠ 17 → c ≠ 15 → c ≠ 16 → g68 c j = g1 c j := fun c j h17 h15 h16 => by rw [← eg69, gs_c _ _ _ _ h16, gs_c _ _ _ _ h15, gs_c _ _ _ _ h17]
                have v71 : g68 17 0 = x11.toInt := by rw [← eg69, gs_c _ _ _ _ (by decide), gs_c _ _ _ _ (by decide), gs_self]
                have v72 : g68 15 0 = x58.toInt := by rw [← eg69, gs_c _ _ _ _ (by decide), gs_self]
                have v73 : g68 16 0 = x65.toInt := by rw [← eg69, gs_self]
                exact W.vret hx hb hr (fun t ht hW => ⟨⟨g68, rfl, ⟨(fun c j h15 h16 h17 h18 => by rw [hf70 c j h17 h15 h16, hf2 c j h16]), (by omega)⟩, ok1 ht hG⟩, hS.F ht⟩) hS.2.2 dX4_readToken_148
              · skip
                refine ty_iconst hx hb (3) dX4_readToken_130 (by decide) (fun x74 h75 => ?_)
                refine lv_goto (tgt := 135) hx hb dX4_readToken_131 (by decide) ?_
                refine put_X4_5 hx hb hA hown hE hG hS hU t_h0 wd_1_50 dX4_readToken_135 (fun H locs hG hS => ?_)
                refine lv_aload_n hx hb dX4_readToken_138 rfl (lv_at hl 0 rfl) ?_
                refine lv_dup hx hb dX4_readToken_139 rfl ?_
                refine get_X4_4 hx hb hA hown hE hG t_h0 wd_1_49 dX4_readToken_140 (fun x76 h77 => ?_)
                replace h77 : x76.toInt = g1 16 0 := by rw [h77]; simp [gs]
                refine ty_iconst hx hb (1) dX4_readToken_143 (by decide) (fun x79 h80 => ?_)
                refine ty_iadd hx hb dX4_readToken_144 (fun x81 h82 => ?_)
                try have h83 : x81.toInt = x76.toInt + x79.toInt := ty_add h82 (by omega) (by omega)
                refine put_X4_4 hx hb hA hown hE hG hS hU t_h0 wd_1_49 dX4_readToken_145 (fun H locs hG hS => ?_)
                generalize eg85 : (gs (gs (gs g1 17 0 x11.toInt) 15 0 x74.toInt) 16 0 x81.toInt) = g84 at hG
                have hf86 : ∀ c j : Nat, c ≠ 17 → c ≠ 15 → c ≠ 16 → g84 c j = g1 c j := fun c j h17 h15 h16 => by rw [← eg85, gs_c _ _ _ _ h16, gs_c _ _ _ _ h15, gs_c _ _ _ _ h17]
                have v87 : g84 17 0 = x11.toInt := by rw [← eg85, gs_c _ _ _ _ (by decide), gs_c _ _ _ _ (by decide), gs_self]
                have v88 : g84 15 0 = x74.toInt := by rw [← eg85, gs_c _ _ _ _ (by decide), gs_self]
                have v89 : g84 16 0 = x81.toInt := by rw [← eg85, gs_self]
                exact W.vret hx hb hr (fun t ht hW => ⟨⟨g84, rfl, ⟨(fun c j h15 h16 h17 h18 => by rw [hf86 c j h17 h15 h16, hf2 c j h16]), (by omega)⟩, ok1 ht hG⟩, hS.F ht⟩) hS.2.2 dX4_readToken_148
            · skip
              refine lv_aload_n hx hb dX4_readToken_108 rfl (lv_at hl 0 rfl) ?_
              have e90 : (gs g1 17 0 x11.toInt) 6 0 = g1 6 0 := by simp [gs]
              have e91 : (gs g1 17 0 x11.toInt) 16 0 = g1 16 0 := by simp [gs]
              have e92 : (gs g1 17 0 x11.toInt) 17 0 = x11.toInt := by simp [gs]
              have e93 : (gs g1 17 0 x11.toInt) 6 0 = g1 6 0 := by simp [gs]
              have e94 : (gs g1 17 0 x11.toInt) 16 0 = g1 16 0 := by simp [gs]
              refine cV (va_runV (C := RX4) (As := []) (rest := []) ⟨hx, hb, hml, hown, hA⟩ (k_X4_readDigits l dC dI dA sz X Γ hU (gs g1 17 0 x11.toInt) h0 t_h0   (by omega)) ⟨callB_of 0 hA (al_A wd_2_117) rfl rfl rfl (hA _ wd_1_2) (hA _ wd_2_114) (by decide +kernel) ⟨Nat.le_of_ble_eq_true rfl, Nat.le_of_ble_eq_true rfl⟩, hA _ wd_2_116, hA _ ws_5⟩ ⟨bl, recv_X4 hE hG t_h0, fun U hU9 hW9 => ⟨rfl, by rw [hU9]; exact hG, hE.go hS hU9 hW9⟩⟩ rfl rfl hl.1 rfl (lv_room (Nat.le_of_ble_eq_true rfl)) dX4_readToken_109 ⟨Nat.zero_le _, Nat.zero_le _⟩) hS (fun u95 H locs w96 hG hS => ?_)
              obtain ⟨hf97, w96⟩ := w96
              refine lv_goto (tgt := 148) hx hb dX4_readToken_112 (by decide) ?_
              have hk98 : u95 17 0 = (gs g1 17 0 x11.toInt) 17 0 := hf97 17 0 (by decide) (by decide) (by decide)
              have hk98 : u95 17 0 = x11.toInt := by rw [hk98]; simp [gs]
              exact W.vret hx hb hr (fun t ht hW => ⟨⟨u95, rfl, ⟨(fun c j h15 h16 h17 h18 => by rw [hf97 c j h15 h16 h18, gs_c _ _ _ _ h17, hf2 c j h16]), (by omega)⟩, ok1 ht hG⟩, hS.F ht⟩) hS.2.2 dX4_readToken_148
          · skip
            refine lv_aload_n hx hb dX4_readToken_81 rfl (lv_at hl 0 rfl) ?_
            refine ty_iconst hx hb (1) dX4_readToken_82 (by decide) (fun x99 h100 => ?_)
            refine put_X4_5 hx hb hA hown hE hG hS hU t_h0 wd_1_50 dX4_readToken_83 (fun H locs hG hS => ?_)
            refine lv_aload_n hx hb dX4_readToken_86 rfl (lv_at hl 0 rfl) ?_
            have e101 : (gs (gs g1 17 0 x11.toInt) 15 0 x99.toInt) 6 0 = g1 6 0 := by simp [gs]
            have e102 : (gs (gs g1 17 0 x11.toInt) 15 0 x99.toInt) 16 0 = g1 16 0 := by simp [gs]
            have e103 : (gs (gs g1 17 0 x11.toInt) 15 0 x99.toInt) 6 0 = g1 6 0 := by simp [gs]
            have e104 : (gs (gs g1 17 0 x11.toInt) 15 0 x99.toInt) 16 0 = g1 16 0 := by simp [gs]
            refine cV (va_runV (C := RX4) (As := []) (rest := []) ⟨hx, hb, hml, hown, hA⟩ (k_X4_skipLetters l dC dI dA sz X Γ hU (gs (gs g1 17 0 x11.toInt) 15 0 x99.toInt) h0 t_h0   (by omega)) ⟨callB_of 0 hA (al_A wd_2_110) rfl rfl rfl (hA _ wd_1_2) (hA _ wd_2_107) (by decide +kernel) ⟨Nat.le_of_ble_eq_true rfl, Nat.le_of_ble_eq_true rfl⟩, hA _ wd_2_109, hA _ ws_4⟩ ⟨bl, recv_X4 hE hG t_h0, fun U hU9 hW9 => ⟨rfl, by rw [hU9]; exact hG, hE.go hS hU9 hW9⟩⟩ rfl rfl hl.1 rfl (lv_room (Nat.le_of_ble_eq_true rfl)) dX4_readToken_87 ⟨Nat.zero_le _, Nat.zero_le _⟩) hS (fun u105 H locs w106 hG hS => ?_)
            obtain ⟨hf107, w106⟩ := w106
            refine lv_goto (tgt := 148) hx hb dX4_readToken_90 (by decide) ?_
            have hk108 : u105 17 0 = (gs (gs g1 17 0 x11.toInt) 15 0 x99.toInt) 17 0 := hf107 17 0 (by decide)
            have hk108 : u105 17 0 = x11.toInt := by rw [hk108]; simp [gs]
            exact W.vret hx hb hr (fun t ht hW => ⟨⟨u105, rfl, ⟨(fun c j h15 h16 h17 h18 => by rw [hf107 c j h16, gs_c _ _ _ _ h15, gs_c _ _ _ _ h17, hf2 c j h16]), (by omega)⟩, ok1 ht hG⟩, hS.F ht⟩) hS.2.2 dX4_readToken_148
        · skip
          refine lv_aload_n hx hb dX4_readToken_58 rfl (lv_at hl 0 rfl) ?_
          refine ty_iconst hx hb (0) dX4_readToken_59 (by decide) (fun x109 h110 => ?_)
          refine put_X4_5 hx hb hA hown hE hG hS hU t_h0 wd_1_50 dX4_readToken_60 (fun H locs hG hS => ?_)
          refine lv_goto (tgt := 148) hx hb dX4_readToken_63 (by decide) ?_
          have e111 : (gs (gs g1 17 0 x11.toInt) 15 0 x109.toInt) 16 0 = g1 16 0 := by simp [gs]
          have e112 : (gs (gs g1 17 0 x11.toInt) 15 0 x109.toInt) 17 0 = x11.toInt := by simp [gs]
          exact W.vret hx hb hr (fun t ht hW => ⟨⟨(gs (gs g1 17 0 x11.toInt) 15 0 x109.toInt), rfl, ⟨(fun c j h15 h16 h17 h18 => by rw [gs_c _ _ _ _ h15, gs_c _ _ _ _ h17, hf2 c j h16]), (by omega)⟩, ok1 ht hG⟩, hS.F ht⟩) hS.2.2 dX4_readToken_148
      · skip
        refine lv_aload_n hx hb dX4_readToken_11 rfl (lv_at hl 0 rfl) ?_
        refine get_X4_0 hx hb hA hown hE hG t_h0 wd_1_42 dX4_readToken_12 (fun b113 (t_b113 : ty Γ b113 18) => ?_)
        refine lv_aload_n hx hb dX4_readToken_15 rfl (lv_at hl 0 rfl) ?_
        refine get_X4_4 hx hb hA hown hE hG t_h0 wd_1_49 dX4_readToken_16 (fun x114 h115 => ?_)
        refine ald_18 hx hb hE hG t_b113 (by omega) dX4_readToken_19 (fun j118 x117 h119 h120 => ?_)
        refine cI (va_runS (As := [.int x117]) (rest := []) ⟨hx, hb, hml, hown, hA⟩ (k_X4_isBlank l dC dI dA sz X Γ hU g1 x117   ) ⟨callB_of 1 hA (al_A wd_2_103) rfl rfl rfl (hA _ wd_1_2) (hA _ wd_2_101) (by decide +kernel) ⟨Nat.le_of_ble_eq_true rfl, Nat.le_of_ble_eq_true rfl⟩, hA _ wd_2_102⟩ ⟨bl, fun U hU9 hW9 => ⟨rfl, by rw [hU9]; exact hG, hE.go hS hU9 hW9⟩⟩ rfl rfl hl.1 rfl (lv_room (Nat.le_of_ble_eq_true rfl)) dX4_readToken_20 ⟨Nat.zero_le _, Nat.zero_le _⟩) hS (fun x123 u121 H locs w122 hG hS => ?_)
        obtain ⟨eu124, w122⟩ := w122
        rw [eu124] at hG
        refine ty_if_eq (tgt := 39) hx hb dX4_readToken_23 (by decide) (fun c125 => ?_) (fun c125 => ?_)
        · skip
          refine lv_aload_n hx hb dX4_readToken_39 rfl (lv_at hl 0 rfl) ?_
          refine lv_aload_n hx hb dX4_readToken_40 rfl (lv_at hl 0 rfl) ?_
          refine get_X4_4 hx hb hA hown hE hG t_h0 wd_1_49 dX4_readToken_41 (fun x126 h127 => ?_)
          refine put_X4_6 hx hb hA hown hE hG hS hU t_h0 wd_1_51 dX4_readToken_44 (fun H locs hG hS => ?_)
          refine lv_aload_n hx hb dX4_readToken_47 rfl (lv_at hl 0 rfl) ?_
          refine get_X4_4 hx hb hA hown hE hG t_h0 wd_1_49 dX4_readToken_48 (fun x129 h130 => ?_)
          replace h130 : x129.toInt = g1 16 0 := by rw [h130]; simp [gs]
          refine lv_aload_n hx hb dX4_readToken_51 rfl (lv_at hl 0 rfl) ?_
          refine get_X4_1 hx hb hA hown hE hG t_h0 wd_1_43 dX4_readToken_52 (fun x132 h133 => ?_)
          replace h133 : x132.toInt = g1 6 0 := by rw [h133]; simp [gs]
          refine ty_icmp_lt (tgt := 66) hx hb dX4_readToken_55 (by decide) (fun c135 => ?_) (fun c135 => ?_)
          · skip
            refine lv_aload_n hx hb dX4_readToken_66 rfl (lv_at hl 0 rfl) ?_
            refine get_X4_0 hx hb hA hown hE hG t_h0 wd_1_42 dX4_readToken_67 (fun b136 (t_b136 : ty Γ b136 18) => ?_)
            refine lv_aload_n hx hb dX4_readToken_70 rfl (lv_at hl 0 rfl) ?_
            refine get_X4_4 hx hb hA hown hE hG t_h0 wd_1_49 dX4_readToken_71 (fun x137 h138 => ?_)
            replace h138 : x137.toInt = g1 16 0 := by rw [h138]; simp [gs]
            refine ald_18 hx hb hE hG t_b136 (by omega) dX4_readToken_74 (fun j141 x140 h142 h143 => ?_)
            refine cI (va_runS (As := [.int x140]) (rest := []) ⟨hx, hb, hml, hown, hA⟩ (k_X4_isLetter l dC dI dA sz X Γ hU (gs g1 17 0 x126.toInt) x140   ) ⟨callB_of 1 hA (al_A wd_2_106) rfl rfl rfl (hA _ wd_1_2) (hA _ wd_2_104) (by decide +kernel) ⟨Nat.le_of_ble_eq_true rfl, Nat.le_of_ble_eq_true rfl⟩, hA _ wd_2_105⟩ ⟨bl, fun U hU9 hW9 => ⟨rfl, by rw [hU9]; exact hG, hE.go hS hU9 hW9⟩⟩ rfl rfl hl.1 rfl (lv_room (Nat.le_of_ble_eq_true rfl)) dX4_readToken_75 ⟨Nat.zero_le _, Nat.zero_le _⟩) hS (fun x146 u144 H locs w145 hG hS => ?_)
            obtain ⟨eu147, w145⟩ := w145
            rw [eu147] at hG
            refine ty_if_eq (tgt := 93) hx hb dX4_readToken_78 (by decide) (fun c148 => ?_) (fun c148 => ?_)
            · skip
              refine lv_aload_n hx hb dX4_readToken_93 rfl (lv_at hl 0 rfl) ?_
              refine get_X4_0 hx hb hA hown hE hG t_h0 wd_1_42 dX4_readToken_94 (fun b149 (t_b149 : ty Γ b149 18) => ?_)
              refine lv_aload_n hx hb dX4_readToken_97 rfl (lv_at hl 0 rfl) ?_
              refine get_X4_4 hx hb hA hown hE hG t_h0 wd_1_49 dX4_readToken_98 (fun x150 h151 => ?_)
              replace h151 : x150.toInt = g1 16 0 := by rw [h151]; simp [gs]
              refine ald_18 hx hb hE hG t_b149 (by omega) dX4_readToken_101 (fun j154 x153 h155 h156 => ?_)
              refine cI (va_runS (As := [.int x153]) (rest := []) ⟨hx, hb, hml, hown, hA⟩ (k_X4_isDigit l dC dI dA sz X Γ hU (gs g1 17 0 x126.toInt) x153   ) ⟨callB_of 1 hA (al_A wd_2_113) rfl rfl rfl (hA _ wd_1_2) (hA _ wd_2_111) (by decide +kernel) ⟨Nat.le_of_ble_eq_true rfl, Nat.le_of_ble_eq_true rfl⟩, hA _ wd_2_112⟩ ⟨bl, fun U hU9 hW9 => ⟨rfl, by rw [hU9]; exact hG, hE.go hS hU9 hW9⟩⟩ rfl rfl hl.1 rfl (lv_room (Nat.le_of_ble_eq_true rfl)) dX4_readToken_102 ⟨Nat.zero_le _, Nat.zero_le _⟩) hS (fun x159 u157 H locs w158 hG hS => ?_)
              obtain ⟨eu160, w158⟩ := w158
              rw [eu160] at hG
              refine ty_if_eq (tgt := 115) hx hb dX4_readToken_105 (by decide) (fun c161 => ?_) (fun c161 => ?_)
              · skip
                refine lv_aload_n hx hb dX4_readToken_115 rfl (lv_at hl 0 rfl) ?_
                refine lv_aload_n hx hb dX4_readToken_116 rfl (lv_at hl 0 rfl) ?_
                refine get_X4_0 hx hb hA hown hE hG t_h0 wd_1_42 dX4_readToken_117 (fun b162 (t_b162 : ty Γ b162 18) => ?_)
                refine lv_aload_n hx hb dX4_readToken_120 rfl (lv_at hl 0 rfl) ?_
                refine get_X4_4 hx hb hA hown hE hG t_h0 wd_1_49 dX4_readToken_121 (fun x163 h164 => ?_)
                replace h164 : x163.toInt = g1 16 0 := by rw [h164]; simp [gs]
                refine ald_18 hx hb hE hG t_b162 (by omega) dX4_readToken_124 (fun j167 x166 h168 h169 => ?_)
                refine ty_bipush hx hb (59) dX4_readToken_125 (by decide) (fun x170 h171 => ?_)
                refine ty_icmp_ne (tgt := 134) hx hb dX4_readToken_127 (by decide) (fun c172 => ?_) (fun c172 => ?_)
                · skip
                  refine ty_iconst hx hb (4) dX4_readToken_134 (by decide) (fun x173 h174 => ?_)
                  refine put_X4_5 hx hb hA hown hE hG hS hU t_h0 wd_1_50 dX4_readToken_135 (fun H locs hG hS => ?_)
                  refine lv_aload_n hx hb dX4_readToken_138 rfl (lv_at hl 0 rfl) ?_
                  refine lv_dup hx hb dX4_readToken_139 rfl ?_
                  refine get_X4_4 hx hb hA hown hE hG t_h0 wd_1_49 dX4_readToken_140 (fun x175 h176 => ?_)
                  replace h176 : x175.toInt = g1 16 0 := by rw [h176]; simp [gs]
                  refine ty_iconst hx hb (1) dX4_readToken_143 (by decide) (fun x178 h179 => ?_)
                  refine ty_iadd hx hb dX4_readToken_144 (fun x180 h181 => ?_)
                  try have h182 : x180.toInt = x175.toInt + x178.toInt := ty_add h181 (by omega) (by omega)
                  refine put_X4_4 hx hb hA hown hE hG hS hU t_h0 wd_1_49 dX4_readToken_145 (fun H locs hG hS => ?_)
                  generalize eg184 : (gs (gs (gs g1 17 0 x126.toInt) 15 0 x173.toInt) 16 0 x180.toInt) = g183 at hG
                  have hf185 : ∀ c j : Nat, c ≠ 17 → c ≠ 15 → c ≠ 16 → g183 c j = g1 c j := fun c j h17 h15 h16 => by rw [← eg184, gs_c _ _ _ _ h16, gs_c _ _ _ _ h15, gs_c _ _ _ _ h17]
                  have v186 : g183 17 0 = x126.toInt := by rw [← eg184, gs_c _ _ _ _ (by decide), gs_c _ _ _ _ (by decide), gs_self]
                  have v187 : g183 15 0 = x173.toInt := by rw [← eg184, gs_c _ _ _ _ (by decide), gs_self]
                  have v188 : g183 16 0 = x180.toInt := by rw [← eg184, gs_self]
                  exact W.vret hx hb hr (fun t ht hW => ⟨⟨g183, rfl, ⟨(fun c j h15 h16 h17 h18 => by rw [hf185 c j h17 h15 h16, hf2 c j h16]), (by omega)⟩, ok1 ht hG⟩, hS.F ht⟩) hS.2.2 dX4_readToken_148
                · skip
                  refine ty_iconst hx hb (3) dX4_readToken_130 (by decide) (fun x189 h190 => ?_)
                  refine lv_goto (tgt := 135) hx hb dX4_readToken_131 (by decide) ?_
                  refine put_X4_5 hx hb hA hown hE hG hS hU t_h0 wd_1_50 dX4_readToken_135 (fun H locs hG hS => ?_)
                  refine lv_aload_n hx hb dX4_readToken_138 rfl (lv_at hl 0 rfl) ?_
                  refine lv_dup hx hb dX4_readToken_139 rfl ?_
                  refine get_X4_4 hx hb hA hown hE hG t_h0 wd_1_49 dX4_readToken_140 (fun x191 h192 => ?_)
                  replace h192 : x191.toInt = g1 16 0 := by rw [h192]; simp [gs]
                  refine ty_iconst hx hb (1) dX4_readToken_143 (by decide) (fun x194 h195 => ?_)
                  refine ty_iadd hx hb dX4_readToken_144 (fun x196 h197 => ?_)
                  try have h198 : x196.toInt = x191.toInt + x194.toInt := ty_add h197 (by omega) (by omega)
                  refine put_X4_4 hx hb hA hown hE hG hS hU t_h0 wd_1_49 dX4_readToken_145 (fun H locs hG hS => ?_)
                  generalize eg200 : (gs (gs (gs g1 17 0 x126.toInt) 15 0 x189.toInt) 16 0 x196.toInt) = g199 at hG
                  have hf201 : ∀ c j : Nat, c ≠ 17 → c ≠ 15 → c ≠ 16 → g199 c j = g1 c j := fun c j h17 h15 h16 => by rw [← eg200, gs_c _ _ _ _ h16, gs_c _ _ _ _ h15, gs_c _ _ _ _ h17]
                  have v202 : g199 17 0 = x126.toInt := by rw [← eg200, gs_c _ _ _ _ (by decide), gs_c _ _ _ _ (by decide), gs_self]
                  have v203 : g199 15 0 = x189.toInt := by rw [← eg200, gs_c _ _ _ _ (by decide), gs_self]
                  have v204 : g199 16 0 = x196.toInt := by rw [← eg200, gs_self]
                  exact W.vret hx hb hr (fun t ht hW => ⟨⟨g199, rfl, ⟨(fun c j h15 h16 h17 h18 => by rw [hf201 c j h17 h15 h16, hf2 c j h16]), (by omega)⟩, ok1 ht hG⟩, hS.F ht⟩) hS.2.2 dX4_readToken_148
              · skip
                refine lv_aload_n hx hb dX4_readToken_108 rfl (lv_at hl 0 rfl) ?_
                have e205 : (gs g1 17 0 x126.toInt) 6 0 = g1 6 0 := by simp [gs]
                have e206 : (gs g1 17 0 x126.toInt) 16 0 = g1 16 0 := by simp [gs]
                have e207 : (gs g1 17 0 x126.toInt) 17 0 = x126.toInt := by simp [gs]
                have e208 : (gs g1 17 0 x126.toInt) 6 0 = g1 6 0 := by simp [gs]
                have e209 : (gs g1 17 0 x126.toInt) 16 0 = g1 16 0 := by simp [gs]
                refine cV (va_runV (C := RX4) (As := []) (rest := []) ⟨hx, hb, hml, hown, hA⟩ (k_X4_readDigits l dC dI dA sz X Γ hU (gs g1 17 0 x126.toInt) h0 t_h0   (by omega)) ⟨callB_of 0 hA (al_A wd_2_117) rfl rfl rfl (hA _ wd_1_2) (hA _ wd_2_114) (by decide +kernel) ⟨Nat.le_of_ble_eq_true rfl, Nat.le_of_ble_eq_true rfl⟩, hA _ wd_2_116, hA _ ws_5⟩ ⟨bl, recv_X4 hE hG t_h0, fun U hU9 hW9 => ⟨rfl, by rw [hU9]; exact hG, hE.go hS hU9 hW9⟩⟩ rfl rfl hl.1 rfl (lv_room (Nat.le_of_ble_eq_true rfl)) dX4_readToken_109 ⟨Nat.zero_le _, Nat.zero_le _⟩) hS (fun u210 H locs w211 hG hS => ?_)
                obtain ⟨hf212, w211⟩ := w211
                refine lv_goto (tgt := 148) hx hb dX4_readToken_112 (by decide) ?_
                have hk213 : u210 17 0 = (gs g1 17 0 x126.toInt) 17 0 := hf212 17 0 (by decide) (by decide) (by decide)
                have hk213 : u210 17 0 = x126.toInt := by rw [hk213]; simp [gs]
                exact W.vret hx hb hr (fun t ht hW => ⟨⟨u210, rfl, ⟨(fun c j h15 h16 h17 h18 => by rw [hf212 c j h15 h16 h18, gs_c _ _ _ _ h17, hf2 c j h16]), (by omega)⟩, ok1 ht hG⟩, hS.F ht⟩) hS.2.2 dX4_readToken_148
            · skip
              refine lv_aload_n hx hb dX4_readToken_81 rfl (lv_at hl 0 rfl) ?_
              refine ty_iconst hx hb (1) dX4_readToken_82 (by decide) (fun x214 h215 => ?_)
              refine put_X4_5 hx hb hA hown hE hG hS hU t_h0 wd_1_50 dX4_readToken_83 (fun H locs hG hS => ?_)
              refine lv_aload_n hx hb dX4_readToken_86 rfl (lv_at hl 0 rfl) ?_
              have e216 : (gs (gs g1 17 0 x126.toInt) 15 0 x214.toInt) 6 0 = g1 6 0 := by simp [gs]
              have e217 : (gs (gs g1 17 0 x126.toInt) 15 0 x214.toInt) 16 0 = g1 16 0 := by simp [gs]
              have e218 : (gs (gs g1 17 0 x126.toInt) 15 0 x214.toInt) 6 0 = g1 6 0 := by simp [gs]
              have e219 : (gs (gs g1 17 0 x126.toInt) 15 0 x214.toInt) 16 0 = g1 16 0 := by simp [gs]
              refine cV (va_runV (C := RX4) (As := []) (rest := []) ⟨hx, hb, hml, hown, hA⟩ (k_X4_skipLetters l dC dI dA sz X Γ hU (gs (gs g1 17 0 x126.toInt) 15 0 x214.toInt) h0 t_h0   (by omega)) ⟨callB_of 0 hA (al_A wd_2_110) rfl rfl rfl (hA _ wd_1_2) (hA _ wd_2_107) (by decide +kernel) ⟨Nat.le_of_ble_eq_true rfl, Nat.le_of_ble_eq_true rfl⟩, hA _ wd_2_109, hA _ ws_4⟩ ⟨bl, recv_X4 hE hG t_h0, fun U hU9 hW9 => ⟨rfl, by rw [hU9]; exact hG, hE.go hS hU9 hW9⟩⟩ rfl rfl hl.1 rfl (lv_room (Nat.le_of_ble_eq_true rfl)) dX4_readToken_87 ⟨Nat.zero_le _, Nat.zero_le _⟩) hS (fun u220 H locs w221 hG hS => ?_)
              obtain ⟨hf222, w221⟩ := w221
              refine lv_goto (tgt := 148) hx hb dX4_readToken_90 (by decide) ?_
              have hk223 : u220 17 0 = (gs (gs g1 17 0 x126.toInt) 15 0 x214.toInt) 17 0 := hf222 17 0 (by decide)
              have hk223 : u220 17 0 = x126.toInt := by rw [hk223]; simp [gs]
              exact W.vret hx hb hr (fun t ht hW => ⟨⟨u220, rfl, ⟨(fun c j h15 h16 h17 h18 => by rw [hf222 c j h16, gs_c _ _ _ _ h15, gs_c _ _ _ _ h17, hf2 c j h16]), (by omega)⟩, ok1 ht hG⟩, hS.F ht⟩) hS.2.2 dX4_readToken_148
          · skip
            refine lv_aload_n hx hb dX4_readToken_58 rfl (lv_at hl 0 rfl) ?_
            refine ty_iconst hx hb (0) dX4_readToken_59 (by decide) (fun x224 h225 => ?_)
            refine put_X4_5 hx hb hA hown hE hG hS hU t_h0 wd_1_50 dX4_readToken_60 (fun H locs hG hS => ?_)
            refine lv_goto (tgt := 148) hx hb dX4_readToken_63 (by decide) ?_
            have e226 : (gs (gs g1 17 0 x126.toInt) 15 0 x224.toInt) 16 0 = g1 16 0 := by simp [gs]
            have e227 : (gs (gs g1 17 0 x126.toInt) 15 0 x224.toInt) 17 0 = x126.toInt := by simp [gs]
            exact W.vret hx hb hr (fun t ht hW => ⟨⟨(gs (gs g1 17 0 x126.toInt) 15 0 x224.toInt), rfl, ⟨(fun c j h15 h16 h17 h18 => by rw [gs_c _ _ _ _ h15, gs_c _ _ _ _ h17, hf2 c j h16]), (by omega)⟩, ok1 ht hG⟩, hS.F ht⟩) hS.2.2 dX4_readToken_148
        · skip
          refine lv_aload_n hx hb dX4_readToken_26 rfl (lv_at hl 0 rfl) ?_
          refine lv_dup hx hb dX4_readToken_27 rfl ?_
          refine get_X4_4 hx hb hA hown hE hG t_h0 wd_1_49 dX4_readToken_28 (fun x228 h229 => ?_)
          refine ty_iconst hx hb (1) dX4_readToken_31 (by decide) (fun x231 h232 => ?_)
          refine ty_iadd hx hb dX4_readToken_32 (fun x233 h234 => ?_)
          try have h235 : x233.toInt = x228.toInt + x231.toInt := ty_add h234 (by omega) (by omega)
          refine put_X4_4 hx hb hA hown hE hG hS hU t_h0 wd_1_49 dX4_readToken_33 (fun H locs hG hS => ?_)
          refine lv_goto (tgt := 0) hx hb dX4_readToken_36 (by decide) ?_
          have e236 : (gs g1 16 0 x233.toInt) 6 0 = g1 6 0 := by simp [gs]
          have e237 : (gs g1 16 0 x233.toInt) 16 0 = x233.toInt := by simp [gs]
          exact ih_0 (gs g1 16 0 x233.toInt) _ _ ls (by omega) (by omega) (fun c j h16 => by rw [gs_c _ _ _ _ h16, hf2 c j h16]) hG hS (lv_sub hl [0] rfl)
  exact L_0 ((g 6 0 - g 16 0) + 1).toNat g _ _ ls (by omega) (by omega) (fun c j _ => rfl) hG hS (lv_sub hl [0] rfl)

set_option maxHeartbeats 4000000 in
set_option maxRecDepth 100000 in
/-- WeekBank$Reader.isWord:  -/
theorem k_X4_isWord (l : Launch) (dC : Nat → ClassId) (dI : Nat → Nat → Nat) (dA : Nat → ClassId) (sz : Nat) (X : va_W) (Γ : ty_G) (hU : Un Γ) (g : gh) (h0 : Nat) (t_h0 : ty Γ h0 7) (kk : Nat) (hkk : kk < 12) (hp : 0 ≤ g 17 0 ∧ g 17 0 ≤ g 16 0 ∧ g 16 0 ≤ g 6 0 ∧ g 6 0 ≤ 300) : Met l yX4_isWord (.code yX4_isWord cX4_isWord 3 (Option.some Jvm.ClassFile.FieldType.boolean) :: AL) ({ frames := 4, cells := 0, slots := 0, locals := 85 }) (PCx dC dI dA sz X Γ g [.ref h0, .ref (dI 100 kk)]) (va_Qi (fun (r : Int32) (u : gh) => u = g ∧ ((r.toInt = 0 ∨ r.toInt = 1))) (okb dC dI dA sz X Γ) (ty_A sz)) 0 0 (ty_A sz) := by
  refine Met.ofW (cc := cX4_isWord) (maxL := 3) (ret := (Option.some Jvm.ClassFile.FieldType.boolean)) (by decide) rfl ?_
  intro p e s m args below meth c s₁ B hml hv
  obtain ⟨rfl, hG, hE⟩ := hv
  have hx := B.exec
  have hb := B.bytes
  have hr := B.returns
  have hts := atoms_spec B.pre
  have hA : ∀ w ∈ AL, w.before _ s = true := fun w h => hts w (List.mem_cons_of_mem _ h)
  have hown : s.vm.findClass RX4 = some m.cls := findClass_of_methodNamed B.named
  have hlocks := B.notSynchronized
  have hS : va_S (ty_A sz) s.heap s.heap [] := va_S.rf
  have hES := hE.2.1.2.2.2.2.2.2
  have hl := lv_entry ([.ref h0, .ref (dI 100 kk)]) (n := 3) (Nat.le_of_ble_eq_true rfl)
  rw [lg_entry_eq]
  generalize (lg_sl ([.ref h0, .ref (dI 100 kk)]) ++ List.replicate (3 - (lg_sl ([.ref h0, .ref (dI 100 kk)])).length) Slot.unset).toArray = ls at hl ⊢
  have hl : lv_has ls 3 [(0, .ref h0), (1, .ref (dI 100 kk))] := hl
  refine lv_aload_n hx hb dX4_isWord_0 rfl (lv_at hl 0 rfl) ?_
  refine get_X4_5 hx hb hA hown hE hG t_h0 wd_1_50 dX4_isWord_1 (fun x1 h2 => ?_)
  refine ty_iconst hx hb (1) dX4_isWord_4 (by decide) (fun x4 h5 => ?_)
  refine ty_icmp_ne (tgt := 24) hx hb dX4_isWord_5 (by decide) (fun c6 => ?_) (fun c6 => ?_)
  · skip
    refine ty_iconst hx hb (0) dX4_isWord_24 (by decide) (fun x7 h8 => ?_)
    exact W.zret (v := x7) hx hb hr (ty_nb (by omega)).1 (fun t ht hW => ⟨⟨x7, g, rfl, ⟨rfl, (by omega)⟩, ok1 ht hG⟩, hS.F ht⟩) hS.2.2 dX4_isWord_25
  · skip
    refine lv_aload_n hx hb dX4_isWord_8 rfl (lv_at hl 0 rfl) ?_
    refine get_X4_4 hx hb hA hown hE hG t_h0 wd_1_49 dX4_isWord_9 (fun x9 h10 => ?_)
    refine lv_aload_n hx hb dX4_isWord_12 rfl (lv_at hl 0 rfl) ?_
    refine get_X4_6 hx hb hA hown hE hG t_h0 wd_1_51 dX4_isWord_13 (fun x12 h13 => ?_)
    refine ty_isub hx hb dX4_isWord_16 (fun x15 h16 => ?_)
    try have h17 : x15.toInt = x9.toInt - x12.toInt := ty_sub h16 (by omega) (by omega)
    refine lv_aload_n hx hb dX4_isWord_17 rfl (lv_at hl 1 rfl) ?_
    refine cI (va_runV (C := RJ0) (As := []) (rest := [.int x15]) ⟨hx, hb, hml, hown, hA⟩ (k_J0_length_8abf5 l dC dI dA sz X Γ hU g kk hkk   ) ⟨callB_of 0 hA (al_A wd_2_134) rfl rfl rfl (hA _ wd_1_10) (hA _ wd_2_131) (by decide +kernel) ⟨Nat.le_of_ble_eq_true rfl, Nat.le_of_ble_eq_true rfl⟩, hA _ wd_2_132, hA _ wd_2_133⟩ ⟨bl, str_recv hES hS hkk, fun U hU9 hW9 => ⟨rfl, by rw [hU9]; exact hG, hE.go hS hU9 hW9⟩⟩ rfl rfl hl.1 rfl (lv_room (Nat.le_of_ble_eq_true rfl)) dX4_isWord_18 ⟨Nat.zero_le _, Nat.zero_le _⟩) hS (fun x20 u18 H locs w19 hG hS => ?_)
    obtain ⟨eu21, w19⟩ := w19
    rw [eu21] at hG
    refine ty_icmp_eq (tgt := 26) hx hb dX4_isWord_21 (by decide) (fun c22 => ?_) (fun c22 => ?_)
    · skip
      refine ty_iconst hx hb (0) dX4_isWord_26 (by decide) (fun x23 h24 => ?_)
      refine lv_istore_n (lv' := [(2, .int x23), (0, .ref h0), (1, .ref (dI 100 kk))]) hx hb dX4_isWord_27 rfl hl (by decide) rfl (fun ls hl => ?_)
      have L_28 : ∀ (n : Nat) (v2_28 : Int32) (H : Heap) (locs : List Loc) (ls : Array Slot), (((sB kk).length : Int) - v2_28.toInt : Int) < n → 0 ≤ v2_28.toInt ∧ v2_28.toInt ≤ ((sB kk).length : Int) → ty_ok (dC, dI) vwCl Γ (TP dA Γ g) sz X H → va_S (ty_A sz) s.heap H locs → lv_has ls 3 [(2, .int v2_28), (0, .ref h0), (1, .ref (dI 100 kk))] → W p l e (headSpec (.code yX4_isWord cX4_isWord 3 (Option.some Jvm.ClassFile.FieldType.boolean) :: AL) ({ frames := 4, cells := 0, slots := 0, locals := 85 })).room s m ([.ref h0, .ref (dI 100 kk)] : List Value).toArray below meth c H locs 0 0 (MQ below (va_Qi (fun (r : Int32) (u : gh) => u = g ∧ ((r.toInt = 0 ∨ r.toInt = 1))) (okb dC dI dA sz X Γ) (ty_A sz)) ([.ref h0, .ref (dI 100 kk)] : List Value).toArray s 0 0 (ty_A sz)) (F0 m 28 ls []) := by
        intro n
        induction n with
        | zero => intro v2_28 H locs ls hm hi0 hG hS hl; exfalso; omega
        | succ n ih_28 =>
          intro v2_28 H locs ls hm hi0 hG hS hl
          refine lv_iload_n hx hb dX4_isWord_28 rfl (lv_at hl 0 rfl) ?_
          refine lv_aload_n hx hb dX4_isWord_29 rfl (lv_at hl 2 rfl) ?_
          refine cI (va_runV (C := RJ0) (As := []) (rest := [.int v2_28]) ⟨hx, hb, hml, hown, hA⟩ (k_J0_length_8abf5 l dC dI dA sz X Γ hU g kk hkk   ) ⟨callB_of 0 hA (al_A wd_2_134) rfl rfl rfl (hA _ wd_1_10) (hA _ wd_2_131) (by decide +kernel) ⟨Nat.le_of_ble_eq_true rfl, Nat.le_of_ble_eq_true rfl⟩, hA _ wd_2_132, hA _ wd_2_133⟩ ⟨bl, str_recv hES hS hkk, fun U hU9 hW9 => ⟨rfl, by rw [hU9]; exact hG, hE.go hS hU9 hW9⟩⟩ rfl rfl hl.1 rfl (lv_room (Nat.le_of_ble_eq_true rfl)) dX4_isWord_30 ⟨Nat.zero_le _, Nat.zero_le _⟩) hS (fun x28 u26 H locs w27 hG hS => ?_)
          obtain ⟨eu29, w27⟩ := w27
          rw [eu29] at hG
          refine ty_icmp_ge (tgt := 63) hx hb dX4_isWord_33 (by decide) (fun c30 => ?_) (fun c30 => ?_)
          · skip
            refine ty_iconst hx hb (1) dX4_isWord_63 (by decide) (fun x31 h32 => ?_)
            exact W.zret (v := x31) hx hb hr (ty_nb (by omega)).1 (fun t ht hW => ⟨⟨x31, g, rfl, ⟨rfl, (by omega)⟩, ok1 ht hG⟩, hS.F ht⟩) hS.2.2 dX4_isWord_64
          · skip
            refine lv_aload_n hx hb dX4_isWord_36 rfl (lv_at hl 1 rfl) ?_
            refine get_X4_0 hx hb hA hown hE hG t_h0 wd_1_42 dX4_isWord_37 (fun b33 (t_b33 : ty Γ b33 18) => ?_)
            refine lv_aload_n hx hb dX4_isWord_40 rfl (lv_at hl 1 rfl) ?_
            refine get_X4_6 hx hb hA hown hE hG t_h0 wd_1_51 dX4_isWord_41 (fun x34 h35 => ?_)
            refine lv_iload_n hx hb dX4_isWord_44 rfl (lv_at hl 0 rfl) ?_
            refine ty_iadd hx hb dX4_isWord_45 (fun x37 h38 => ?_)
            try have h39 : x37.toInt = x34.toInt + v2_28.toInt := ty_add h38 (by omega) (by omega)
            refine ald_18 hx hb hE hG t_b33 (by omega) dX4_isWord_46 (fun j41 x40 h42 h43 => ?_)
            refine lv_aload_n hx hb dX4_isWord_47 rfl (lv_at hl 2 rfl) ?_
            refine lv_iload_n hx hb dX4_isWord_48 rfl (lv_at hl 0 rfl) ?_
            refine cI (va_runV (C := RJ0) (As := [.int v2_28]) (rest := [.int x40]) ⟨hx, hb, hml, hown, hA⟩ (k_J0_charAt_5068e l dC dI dA sz X Γ hU g kk hkk v2_28   (by omega)) ⟨callB_of 1 hA (al_A wd_2_144) rfl rfl rfl (hA _ wd_1_10) (hA _ wd_2_141) (by decide +kernel) ⟨Nat.le_of_ble_eq_true rfl, Nat.le_of_ble_eq_true rfl⟩, hA _ wd_2_142, hA _ wd_2_143⟩ ⟨bl, str_recv hES hS hkk, fun U hU9 hW9 => ⟨rfl, by rw [hU9]; exact hG, hE.go hS hU9 hW9⟩⟩ rfl rfl hl.1 rfl (lv_room (Nat.le_of_ble_eq_true rfl)) dX4_isWord_49 ⟨Nat.zero_le _, Nat.zero_le _⟩) hS (fun x46 u44 H locs w45 hG hS => ?_)
            obtain ⟨eu47, w45⟩ := w45
            rw [eu47] at hG
            refine ty_icmp_eq (tgt := 57) hx hb dX4_isWord_52 (by decide) (fun c48 => ?_) (fun c48 => ?_)
            · skip
              obtain ⟨x49, h50⟩ : ∃ y : Int32, y = v2_28 + Int32.ofInt (1) := ⟨_, rfl⟩
              try have h51 : x49.toInt = v2_28.toInt + (1) := ty_inc h50 (by decide) (by omega) (by omega)
              refine lv_iinc (v := x49) (lv' := [(2, .int x49), (0, .ref h0), (1, .ref (dI 100 kk))]) hx hb dX4_isWord_57 hl (k := 0) rfl h50.symm (by decide) rfl (fun ls hl => ?_)
              refine lv_goto (tgt := 28) hx hb dX4_isWord_60 (by decide) ?_
              exact ih_28 x49 _ _ ls (by omega) (by omega) hG hS (lv_sub hl [0, 1, 2] rfl)
            · skip
              refine ty_iconst hx hb (0) dX4_isWord_55 (by decide) (fun x52 h53 => ?_)
              exact W.zret (v := x52) hx hb hr (ty_nb (by omega)).1 (fun t ht hW => ⟨⟨x52, g, rfl, ⟨rfl, (by omega)⟩, ok1 ht hG⟩, hS.F ht⟩) hS.2.2 dX4_isWord_56
      exact L_28 ((((sB kk).length : Int) - x23.toInt) + 1).toNat x23 _ _ ls (by omega) (by omega) hG hS (lv_sub hl [0, 1, 2] rfl)
    · skip
      refine ty_iconst hx hb (0) dX4_isWord_24 (by decide) (fun x54 h55 => ?_)
      exact W.zret (v := x54) hx hb hr (ty_nb (by omega)).1 (fun t ht hW => ⟨⟨x54, g, rfl, ⟨rfl, (by omega)⟩, ok1 ht hG⟩, hS.F ht⟩) hS.2.2 dX4_isWord_25

set_option maxHeartbeats 4000000 in
set_option maxRecDepth 100000 in
/-- WeekBank$Reader.statementKind:  -/
theorem k_X4_statementKind (l : Launch) (dC : Nat → ClassId) (dI : Nat → Nat → Nat) (dA : Nat → ClassId) (sz : Nat) (X : va_W) (Γ : ty_G) (hU : Un Γ) (g : gh) (h0 : Nat) (t_h0 : ty Γ h0 7) (hp : 0 ≤ g 17 0 ∧ g 17 0 ≤ g 16 0 ∧ g 16 0 ≤ g 6 0 ∧ g 6 0 ≤ 300) : Met l yX4_statementKind (.code yX4_statementKind cX4_statementKind 1 (Option.some Jvm.ClassFile.FieldType.int) :: AL) ({ frames := 5, cells := 0, slots := 0, locals := 107 }) (PCx dC dI dA sz X Γ g [.ref h0]) (va_Qi (fun (r : Int32) (u : gh) => u = g ∧ ((0 ≤ r.toInt ∧ r.toInt ≤ 4))) (okb dC dI dA sz X Γ) (ty_A sz)) 0 0 (ty_A sz) := by
  refine Met.ofW (cc := cX4_statementKind) (maxL := 1) (ret := (Option.some Jvm.ClassFile.FieldType.int)) (by decide) rfl ?_
  intro p e s m args below meth c s₁ B hml hv
  obtain ⟨rfl, hG, hE⟩ := hv
  have hx := B.exec
  have hb := B.bytes
  have hr := B.returns
  have hts := atoms_spec B.pre
  have hA : ∀ w ∈ AL, w.before _ s = true := fun w h => hts w (List.mem_cons_of_mem _ h)
  have hown : s.vm.findClass RX4 = some m.cls := findClass_of_methodNamed B.named
  have hlocks := B.notSynchronized
  have hS : va_S (ty_A sz) s.heap s.heap [] := va_S.rf
  have hES := hE.2.1.2.2.2.2.2.2
  have hl := lv_entry ([.ref h0]) (n := 1) (Nat.le_of_ble_eq_true rfl)
  rw [lg_entry_eq]
  generalize (lg_sl ([.ref h0]) ++ List.replicate (1 - (lg_sl ([.ref h0])).length) Slot.unset).toArray = ls at hl ⊢
  have hl : lv_has ls 1 [(0, .ref h0)] := hl
  refine lv_aload_n hx hb dX4_statementKind_0 rfl (lv_at hl 0 rfl) ?_
  refine va_ldcS hx hb hown (hES.1 0 (by decide)).1 dX4_statementKind_1 ?_
  refine cI (va_runV (C := RX4) (As := [.ref (dI 100 0)]) (rest := []) ⟨hx, hb, hml, hown, hA⟩ (k_X4_isWord l dC dI dA sz X Γ hU g h0 t_h0 0 (by decide)   (by omega)) ⟨callB_of 1 hA (al_A wd_2_130) rfl rfl rfl (hA _ wd_1_2) (hA _ wd_2_127) (by decide +kernel) ⟨Nat.le_of_ble_eq_true rfl, Nat.le_of_ble_eq_true rfl⟩, hA _ wd_2_129, hA _ ws_8⟩ ⟨bl, recv_X4 hE hG t_h0, fun U hU9 hW9 => ⟨rfl, by rw [hU9]; exact hG, hE.go hS hU9 hW9⟩⟩ rfl rfl hl.1 rfl (lv_room (Nat.le_of_ble_eq_true rfl)) dX4_statementKind_3 ⟨Nat.zero_le _, Nat.zero_le _⟩) hS (fun x3 u1 H locs w2 hG hS => ?_)
  obtain ⟨eu4, w2⟩ := w2
  rw [eu4] at hG
  refine ty_if_eq (tgt := 11) hx hb dX4_statementKind_6 (by decide) (fun c5 => ?_) (fun c5 => ?_)
  · skip
    refine lv_aload_n hx hb dX4_statementKind_11 rfl (lv_at hl 0 rfl) ?_
    refine va_ldcS hx hb hown (hES.1 1 (by decide)).1 dX4_statementKind_12 ?_
    refine cI (va_runV (C := RX4) (As := [.ref (dI 100 1)]) (rest := []) ⟨hx, hb, hml, hown, hA⟩ (k_X4_isWord l dC dI dA sz X Γ hU g h0 t_h0 1 (by decide)   (by omega)) ⟨callB_of 1 hA (al_A wd_2_130) rfl rfl rfl (hA _ wd_1_2) (hA _ wd_2_127) (by decide +kernel) ⟨Nat.le_of_ble_eq_true rfl, Nat.le_of_ble_eq_true rfl⟩, hA _ wd_2_129, hA _ ws_8⟩ ⟨bl, recv_X4 hE hG t_h0, fun U hU9 hW9 => ⟨rfl, by rw [hU9]; exact hG, hE.go hS hU9 hW9⟩⟩ rfl rfl hl.1 rfl (lv_room (Nat.le_of_ble_eq_true rfl)) dX4_statementKind_14 ⟨Nat.zero_le _, Nat.zero_le _⟩) hS (fun x8 u6 H locs w7 hG hS => ?_)
    obtain ⟨eu9, w7⟩ := w7
    rw [eu9] at hG
    refine ty_if_eq (tgt := 22) hx hb dX4_statementKind_17 (by decide) (fun c10 => ?_) (fun c10 => ?_)
    · skip
      refine lv_aload_n hx hb dX4_statementKind_22 rfl (lv_at hl 0 rfl) ?_
      refine va_ldcS hx hb hown (hES.1 2 (by decide)).1 dX4_statementKind_23 ?_
      refine cI (va_runV (C := RX4) (As := [.ref (dI 100 2)]) (rest := []) ⟨hx, hb, hml, hown, hA⟩ (k_X4_isWord l dC dI dA sz X Γ hU g h0 t_h0 2 (by decide)   (by omega)) ⟨callB_of 1 hA (al_A wd_2_130) rfl rfl rfl (hA _ wd_1_2) (hA _ wd_2_127) (by decide +kernel) ⟨Nat.le_of_ble_eq_true rfl, Nat.le_of_ble_eq_true rfl⟩, hA _ wd_2_129, hA _ ws_8⟩ ⟨bl, recv_X4 hE hG t_h0, fun U hU9 hW9 => ⟨rfl, by rw [hU9]; exact hG, hE.go hS hU9 hW9⟩⟩ rfl rfl hl.1 rfl (lv_room (Nat.le_of_ble_eq_true rfl)) dX4_statementKind_25 ⟨Nat.zero_le _, Nat.zero_le _⟩) hS (fun x13 u11 H locs w12 hG hS => ?_)
      obtain ⟨eu14, w12⟩ := w12
      rw [eu14] at hG
      refine ty_if_eq (tgt := 33) hx hb dX4_statementKind_28 (by decide) (fun c15 => ?_) (fun c15 => ?_)
      · skip
        refine lv_aload_n hx hb dX4_statementKind_33 rfl (lv_at hl 0 rfl) ?_
        refine va_ldcS hx hb hown (hES.1 3 (by decide)).1 dX4_statementKind_34 ?_
        refine cI (va_runV (C := RX4) (As := [.ref (dI 100 3)]) (rest := []) ⟨hx, hb, hml, hown, hA⟩ (k_X4_isWord l dC dI dA sz X Γ hU g h0 t_h0 3 (by decide)   (by omega)) ⟨callB_of 1 hA (al_A wd_2_130) rfl rfl rfl (hA _ wd_1_2) (hA _ wd_2_127) (by decide +kernel) ⟨Nat.le_of_ble_eq_true rfl, Nat.le_of_ble_eq_true rfl⟩, hA _ wd_2_129, hA _ ws_8⟩ ⟨bl, recv_X4 hE hG t_h0, fun U hU9 hW9 => ⟨rfl, by rw [hU9]; exact hG, hE.go hS hU9 hW9⟩⟩ rfl rfl hl.1 rfl (lv_room (Nat.le_of_ble_eq_true rfl)) dX4_statementKind_36 ⟨Nat.zero_le _, Nat.zero_le _⟩) hS (fun x18 u16 H locs w17 hG hS => ?_)
        obtain ⟨eu19, w17⟩ := w17
        rw [eu19] at hG
        refine ty_if_eq (tgt := 46) hx hb dX4_statementKind_39 (by decide) (fun c20 => ?_) (fun c20 => ?_)
        · skip
          refine ty_iconst hx hb (0) dX4_statementKind_46 (by decide) (fun x21 h22 => ?_)
          exact W.iret (v := x21) hx hb hr (fun t ht hW => ⟨⟨x21, g, rfl, ⟨rfl, (by omega)⟩, ok1 ht hG⟩, hS.F ht⟩) hS.2.2 dX4_statementKind_47
        · skip
          refine ty_iconst hx hb (4) dX4_statementKind_42 (by decide) (fun x23 h24 => ?_)
          refine lv_goto (tgt := 47) hx hb dX4_statementKind_43 (by decide) ?_
          exact W.iret (v := x23) hx hb hr (fun t ht hW => ⟨⟨x23, g, rfl, ⟨rfl, (by omega)⟩, ok1 ht hG⟩, hS.F ht⟩) hS.2.2 dX4_statementKind_47
      · skip
        refine ty_iconst hx hb (3) dX4_statementKind_31 (by decide) (fun x25 h26 => ?_)
        exact W.iret (v := x25) hx hb hr (fun t ht hW => ⟨⟨x25, g, rfl, ⟨rfl, (by omega)⟩, ok1 ht hG⟩, hS.F ht⟩) hS.2.2 dX4_statementKind_32
    · skip
      refine ty_iconst hx hb (2) dX4_statementKind_20 (by decide) (fun x27 h28 => ?_)
      exact W.iret (v := x27) hx hb hr (fun t ht hW => ⟨⟨x27, g, rfl, ⟨rfl, (by omega)⟩, ok1 ht hG⟩, hS.F ht⟩) hS.2.2 dX4_statementKind_21
  · skip
    refine ty_iconst hx hb (1) dX4_statementKind_9 (by decide) (fun x29 h30 => ?_)
    exact W.iret (v := x29) hx hb hr (fun t ht hW => ⟨⟨x29, g, rfl, ⟨rfl, (by omega)⟩, ok1 ht hG⟩, hS.F ht⟩) hS.2.2 dX4_statementKind_10

set_option maxHeartbeats 4000000 in
set_option maxRecDepth 100000 in
/-- WeekBank$Reader.blame:  -/
theorem k_X4_blame (l : Launch) (dC : Nat → ClassId) (dI : Nat → Nat → Nat) (dA : Nat → ClassId) (sz : Nat) (X : va_W) (Γ : ty_G) (hU : Un Γ) (g : gh) (h0 : Nat) (t_h0 : ty Γ h0 7) (p1 : Int32) : Met l yX4_blame (.code yX4_blame cX4_blame 2 (Option.none : Option Jvm.ClassFile.FieldType) :: AL) ({ frames := 0, cells := 0, slots := 0, locals := 0 }) (PCx dC dI dA sz X Γ g [.ref h0, .int p1]) (va_Qv (fun (u : gh) => (∀ c j : Nat, c ≠ 9 → c ≠ 14 → u c j = g c j)) (okb dC dI dA sz X Γ) (ty_A sz)) 0 0 (ty_A sz) := by
  refine Met.ofW (cc := cX4_blame) (maxL := 2) (ret := (Option.none : Option Jvm.ClassFile.FieldType)) (by decide) rfl ?_
  intro p e s m args below meth c s₁ B hml hv
  obtain ⟨rfl, hG, hE⟩ := hv
  have hx := B.exec
  have hb := B.bytes
  have hr := B.returns
  have hts := atoms_spec B.pre
  have hA : ∀ w ∈ AL, w.before _ s = true := fun w h => hts w (List.mem_cons_of_mem _ h)
  have hown : s.vm.findClass RX4 = some m.cls := findClass_of_methodNamed B.named
  have hlocks := B.notSynchronized
  have hS : va_S (ty_A sz) s.heap s.heap [] := va_S.rf
  have hl := lv_entry ([.ref h0, .int p1]) (n := 2) (Nat.le_of_ble_eq_true rfl)
  rw [lg_entry_eq]
  generalize (lg_sl ([.ref h0, .int p1]) ++ List.replicate (2 - (lg_sl ([.ref h0, .int p1])).length) Slot.unset).toArray = ls at hl ⊢
  have hl : lv_has ls 2 [(0, .ref h0), (1, .int p1)] := hl
  refine lv_aload_n hx hb dX4_blame_0 rfl (lv_at hl 0 rfl) ?_
  refine lv_iload_n hx hb dX4_blame_1 rfl (lv_at hl 1 rfl) ?_
  refine put_X4_2 hx hb hA hown hE hG hS hU t_h0 wd_1_45 dX4_blame_2 (fun H locs hG hS => ?_)
  refine lv_aload_n hx hb dX4_blame_5 rfl (lv_at hl 0 rfl) ?_
  refine lv_aload_n hx hb dX4_blame_6 rfl (lv_at hl 0 rfl) ?_
  refine get_X4_6 hx hb hA hown hE hG t_h0 wd_1_51 dX4_blame_7 (fun x1 h2 => ?_)
  replace h2 : x1.toInt = g 17 0 := by rw [h2]; simp [gs]
  refine put_X4_3 hx hb hA hown hE hG hS hU t_h0 wd_1_47 dX4_blame_10 (fun H locs hG hS => ?_)
  exact W.vret hx hb hr (fun t ht hW => ⟨⟨(gs (gs g 9 0 p1.toInt) 14 0 x1.toInt), rfl, (fun c j h9 h14 => by rw [gs_c _ _ _ _ h14, gs_c _ _ _ _ h9]), ok1 ht hG⟩, hS.F ht⟩) hS.2.2 dX4_blame_13

set_option maxHeartbeats 4000000 in
set_option maxRecDepth 100000 in
/-- WeekBank$Reader.expectNumber:  -/
theorem k_X4_expectNumber (l : Launch) (dC : Nat → ClassId) (dI : Nat → Nat → Nat) (dA : Nat → ClassId) (sz : Nat) (X : va_W) (Γ : ty_G) (hU : Un Γ) (g : gh) (h0 : Nat) (t_h0 : ty Γ h0 7) (p1 : Int32) (p2 : Int32) (hp : 0 ≤ g 17 0 ∧ g 17 0 ≤ g 16 0 ∧ g 16 0 ≤ g 6 0 ∧ g 6 0 ≤ 300) : Met l yX4_expectNumber (.code yX4_expectNumber cX4_expectNumber 4 (Option.some Jvm.ClassFile.FieldType.int) :: AL) ({ frames := 3, cells := 0, slots := 0, locals := 60 }) (PCx dC dI dA sz X Γ g [.ref h0, .int p1, .int p2]) (va_Qi (fun (r : Int32) (u : gh) => (∀ c j : Nat, c ≠ 9 → c ≠ 14 → c ≠ 15 → c ≠ 16 → c ≠ 17 → c ≠ 18 → u c j = g c j) ∧ ((0 ≤ u 17 0 ∧ u 17 0 ≤ u 16 0 ∧ u 16 0 ≤ g 6 0))) (okb dC dI dA sz X Γ) (ty_A sz)) 0 0 (ty_A sz) := by
  refine Met.ofW (cc := cX4_expectNumber) (maxL := 4) (ret := (Option.some Jvm.ClassFile.FieldType.int)) (by decide) rfl ?_
  intro p e s m args below meth c s₁ B hml hv
  obtain ⟨rfl, hG, hE⟩ := hv
  have hx := B.exec
  have hb := B.bytes
  have hr := B.returns
  have hts := atoms_spec B.pre
  have hA : ∀ w ∈ AL, w.before _ s = true := fun w h => hts w (List.mem_cons_of_mem _ h)
  have hown : s.vm.findClass RX4 = some m.cls := findClass_of_methodNamed B.named
  have hlocks := B.notSynchronized
  have hS : va_S (ty_A sz) s.heap s.heap [] := va_S.rf
  have hl := lv_entry ([.ref h0, .int p1, .int p2]) (n := 4) (Nat.le_of_ble_eq_true rfl)
  rw [lg_entry_eq]
  generalize (lg_sl ([.ref h0, .int p1, .int p2]) ++ List.replicate (4 - (lg_sl ([.ref h0, .int p1, .int p2])).length) Slot.unset).toArray = ls at hl ⊢
  have hl : lv_has ls 4 [(0, .ref h0), (1, .int p1), (2, .int p2)] := hl
  refine lv_aload_n hx hb dX4_expectNumber_0 rfl (lv_at hl 0 rfl) ?_
  refine get_X4_2 hx hb hA hown hE hG t_h0 wd_1_45 dX4_expectNumber_1 (fun x1 h2 => ?_)
  refine ty_if_eq (tgt := 9) hx hb dX4_expectNumber_4 (by decide) (fun c4 => ?_) (fun c4 => ?_)
  · skip
    refine lv_aload_n hx hb dX4_expectNumber_9 rfl (lv_at hl 0 rfl) ?_
    refine get_X4_5 hx hb hA hown hE hG t_h0 wd_1_50 dX4_expectNumber_10 (fun x5 h6 => ?_)
    refine ty_iconst hx hb (2) dX4_expectNumber_13 (by decide) (fun x8 h9 => ?_)
    refine ty_icmp_eq (tgt := 24) hx hb dX4_expectNumber_14 (by decide) (fun c10 => ?_) (fun c10 => ?_)
    · skip
      refine lv_aload_n hx hb dX4_expectNumber_24 rfl (lv_at hl 0 rfl) ?_
      refine get_X4_7 hx hb hA hown hE hG t_h0 wd_1_52 dX4_expectNumber_25 (fun x11 h12 => ?_)
      refine lv_istore_n (lv' := [(3, .int x11), (0, .ref h0), (1, .int p1), (2, .int p2)]) hx hb dX4_expectNumber_28 rfl hl (by decide) rfl (fun ls hl => ?_)
      refine lv_iload_n hx hb dX4_expectNumber_29 rfl (lv_at hl 0 rfl) ?_
      refine lv_iload_n hx hb dX4_expectNumber_30 rfl (lv_at hl 2 rfl) ?_
      refine ty_icmp_lt (tgt := 39) hx hb dX4_expectNumber_31 (by decide) (fun c14 => ?_) (fun c14 => ?_)
      · skip
        refine lv_aload_n hx hb dX4_expectNumber_39 rfl (lv_at hl 1 rfl) ?_
        refine ty_iconst hx hb (2) dX4_expectNumber_40 (by decide) (fun x15 h16 => ?_)
        refine cV (va_runV (C := RX4) (As := [.int x15]) (rest := []) ⟨hx, hb, hml, hown, hA⟩ (k_X4_blame l dC dI dA sz X Γ hU g h0 t_h0 x15   ) ⟨callB_of 1 hA (al_A wd_2_185) rfl rfl rfl (hA _ wd_1_2) (hA _ wd_2_182) (by decide +kernel) ⟨Nat.le_of_ble_eq_true rfl, Nat.le_of_ble_eq_true rfl⟩, hA _ wd_2_184, hA _ ws_9⟩ ⟨bl, recv_X4 hE hG t_h0, fun U hU9 hW9 => ⟨rfl, by rw [hU9]; exact hG, hE.go hS hU9 hW9⟩⟩ rfl rfl hl.1 rfl (lv_room (Nat.le_of_ble_eq_true rfl)) dX4_expectNumber_41 ⟨Nat.zero_le _, Nat.zero_le _⟩) hS (fun u17 H locs w18 hG hS => ?_)
        have hf19 := w18
        refine ty_iconst hx hb (0) dX4_expectNumber_44 (by decide) (fun x20 h21 => ?_)
        have hk22 : u17 16 0 = g 16 0 := hf19 16 0 (by decide) (by decide)
        have hk23 : u17 17 0 = g 17 0 := hf19 17 0 (by decide) (by decide)
        exact W.iret (v := x20) hx hb hr (fun t ht hW => ⟨⟨x20, u17, rfl, ⟨(fun c j h9 h14 h15 h16 h17 h18 => by rw [hf19 c j h9 h14]), (by omega)⟩, ok1 ht hG⟩, hS.F ht⟩) hS.2.2 dX4_expectNumber_45
      · skip
        refine lv_iload_n hx hb dX4_expectNumber_34 rfl (lv_at hl 0 rfl) ?_
        refine lv_iload_n hx hb dX4_expectNumber_35 rfl (lv_at hl 3 rfl) ?_
        refine ty_icmp_le (tgt := 46) hx hb dX4_expectNumber_36 (by decide) (fun c24 => ?_) (fun c24 => ?_)
        · skip
          refine lv_aload_n hx hb dX4_expectNumber_46 rfl (lv_at hl 1 rfl) ?_
          refine cV (va_runV (C := RX4) (As := []) (rest := []) ⟨hx, hb, hml, hown, hA⟩ (k_X4_readToken l dC dI dA sz X Γ hU g h0 t_h0   (by omega)) ⟨callB_of 0 hA (al_A wd_2_100) rfl rfl rfl (hA _ wd_1_2) (hA _ wd_2_97) (by decide +kernel) ⟨Nat.le_of_ble_eq_true rfl, Nat.le_of_ble_eq_true rfl⟩, hA _ wd_2_99, hA _ ws_3⟩ ⟨bl, recv_X4 hE hG t_h0, fun U hU9 hW9 => ⟨rfl, by rw [hU9]; exact hG, hE.go hS hU9 hW9⟩⟩ rfl rfl hl.1 rfl (lv_room (Nat.le_of_ble_eq_true rfl)) dX4_expectNumber_47 ⟨Nat.zero_le _, Nat.zero_le _⟩) hS (fun u25 H locs w26 hG hS => ?_)
          obtain ⟨hf27, w26⟩ := w26
          refine lv_iload_n hx hb dX4_expectNumber_50 rfl (lv_at hl 0 rfl) ?_
          exact W.iret (v := x11) hx hb hr (fun t ht hW => ⟨⟨x11, u25, rfl, ⟨(fun c j h9 h14 h15 h16 h17 h18 => by rw [hf27 c j h15 h16 h17 h18]), (by omega)⟩, ok1 ht hG⟩, hS.F ht⟩) hS.2.2 dX4_expectNumber_51
        · skip
          refine lv_aload_n hx hb dX4_expectNumber_39 rfl (lv_at hl 1 rfl) ?_
          refine ty_iconst hx hb (2) dX4_expectNumber_40 (by decide) (fun x28 h29 => ?_)
          refine cV (va_runV (C := RX4) (As := [.int x28]) (rest := []) ⟨hx, hb, hml, hown, hA⟩ (k_X4_blame l dC dI dA sz X Γ hU g h0 t_h0 x28   ) ⟨callB_of 1 hA (al_A wd_2_185) rfl rfl rfl (hA _ wd_1_2) (hA _ wd_2_182) (by decide +kernel) ⟨Nat.le_of_ble_eq_true rfl, Nat.le_of_ble_eq_true rfl⟩, hA _ wd_2_184, hA _ ws_9⟩ ⟨bl, recv_X4 hE hG t_h0, fun U hU9 hW9 => ⟨rfl, by rw [hU9]; exact hG, hE.go hS hU9 hW9⟩⟩ rfl rfl hl.1 rfl (lv_room (Nat.le_of_ble_eq_true rfl)) dX4_expectNumber_41 ⟨Nat.zero_le _, Nat.zero_le _⟩) hS (fun u30 H locs w31 hG hS => ?_)
          have hf32 := w31
          refine ty_iconst hx hb (0) dX4_expectNumber_44 (by decide) (fun x33 h34 => ?_)
          have hk35 : u30 16 0 = g 16 0 := hf32 16 0 (by decide) (by decide)
          have hk36 : u30 17 0 = g 17 0 := hf32 17 0 (by decide) (by decide)
          exact W.iret (v := x33) hx hb hr (fun t ht hW => ⟨⟨x33, u30, rfl, ⟨(fun c j h9 h14 h15 h16 h17 h18 => by rw [hf32 c j h9 h14]), (by omega)⟩, ok1 ht hG⟩, hS.F ht⟩) hS.2.2 dX4_expectNumber_45
    · skip
      refine lv_aload_n hx hb dX4_expectNumber_17 rfl (lv_at hl 0 rfl) ?_
      refine ty_iconst hx hb (1) dX4_expectNumber_18 (by decide) (fun x37 h38 => ?_)
      refine cV (va_runV (C := RX4) (As := [.int x37]) (rest := []) ⟨hx, hb, hml, hown, hA⟩ (k_X4_blame l dC dI dA sz X Γ hU g h0 t_h0 x37   ) ⟨callB_of 1 hA (al_A wd_2_185) rfl rfl rfl (hA _ wd_1_2) (hA _ wd_2_182) (by decide +kernel) ⟨Nat.le_of_ble_eq_true rfl, Nat.le_of_ble_eq_true rfl⟩, hA _ wd_2_184, hA _ ws_9⟩ ⟨bl, recv_X4 hE hG t_h0, fun U hU9 hW9 => ⟨rfl, by rw [hU9]; exact hG, hE.go hS hU9 hW9⟩⟩ rfl rfl hl.1 rfl (lv_room (Nat.le_of_ble_eq_true rfl)) dX4_expectNumber_19 ⟨Nat.zero_le _, Nat.zero_le _⟩) hS (fun u39 H locs w40 hG hS => ?_)
      have hf41 := w40
      refine ty_iconst hx hb (0) dX4_expectNumber_22 (by decide) (fun x42 h43 => ?_)
      have hk44 : u39 16 0 = g 16 0 := hf41 16 0 (by decide) (by decide)
      have hk45 : u39 17 0 = g 17 0 := hf41 17 0 (by decide) (by decide)
      exact W.iret (v := x42) hx hb hr (fun t ht hW => ⟨⟨x42, u39, rfl, ⟨(fun c j h9 h14 h15 h16 h17 h18 => by rw [hf41 c j h9 h14]), (by omega)⟩, ok1 ht hG⟩, hS.F ht⟩) hS.2.2 dX4_expectNumber_23
  · skip
    refine ty_iconst hx hb (0) dX4_expectNumber_7 (by decide) (fun x46 h47 => ?_)
    exact W.iret (v := x46) hx hb hr (fun t ht hW => ⟨⟨x46, g, rfl, ⟨(fun c j h9 h14 h15 h16 h17 h18 => by rfl), (by omega)⟩, ok1 ht hG⟩, hS.F ht⟩) hS.2.2 dX4_expectNumber_8

set_option maxHeartbeats 4000000 in
set_option maxRecDepth 100000 in
/-- WeekBank$Reader.expectBound:  -/
theorem k_X4_expectBound (l : Launch) (dC : Nat → ClassId) (dI : Nat → Nat → Nat) (dA : Nat → ClassId) (sz : Nat) (X : va_W) (Γ : ty_G) (hU : Un Γ) (g : gh) (h0 : Nat) (t_h0 : ty Γ h0 7) (hp : 0 ≤ g 17 0 ∧ g 17 0 ≤ g 16 0 ∧ g 16 0 ≤ g 6 0 ∧ g 6 0 ≤ 300) : Met l yX4_expectBound (.code yX4_expectBound cX4_expectBound 2 (Option.some Jvm.ClassFile.FieldType.boolean) :: AL) ({ frames := 5, cells := 0, slots := 0, locals := 107 }) (PCx dC dI dA sz X Γ g [.ref h0]) (va_Qi (fun (r : Int32) (u : gh) => (∀ c j : Nat, c ≠ 9 → c ≠ 14 → c ≠ 15 → c ≠ 16 → c ≠ 17 → c ≠ 18 → u c j = g c j) ∧ ((0 ≤ u 17 0 ∧ u 17 0 ≤ u 16 0 ∧ u 16 0 ≤ g 6 0) ∧ (r.toInt = 0 ∨ r.toInt = 1))) (okb dC dI dA sz X Γ) (ty_A sz)) 0 0 (ty_A sz) := by
  refine Met.ofW (cc := cX4_expectBound) (maxL := 2) (ret := (Option.some Jvm.ClassFile.FieldType.boolean)) (by decide) rfl ?_
  intro p e s m args below meth c s₁ B hml hv
  obtain ⟨rfl, hG, hE⟩ := hv
  have hx := B.exec
  have hb := B.bytes
  have hr := B.returns
  have hts := atoms_spec B.pre
  have hA : ∀ w ∈ AL, w.before _ s = true := fun w h => hts w (List.mem_cons_of_mem _ h)
  have hown : s.vm.findClass RX4 = some m.cls := findClass_of_methodNamed B.named
  have hlocks := B.notSynchronized
  have hS : va_S (ty_A sz) s.heap s.heap [] := va_S.rf
  have hES := hE.2.1.2.2.2.2.2.2
  have hl := lv_entry ([.ref h0]) (n := 2) (Nat.le_of_ble_eq_true rfl)
  rw [lg_entry_eq]
  generalize (lg_sl ([.ref h0]) ++ List.replicate (2 - (lg_sl ([.ref h0])).length) Slot.unset).toArray = ls at hl ⊢
  have hl : lv_has ls 2 [(0, .ref h0)] := hl
  refine lv_aload_n hx hb dX4_expectBound_0 rfl (lv_at hl 0 rfl) ?_
  refine va_ldcS hx hb hown (hES.1 4 (by decide)).1 dX4_expectBound_1 ?_
  refine cI (va_runV (C := RX4) (As := [.ref (dI 100 4)]) (rest := []) ⟨hx, hb, hml, hown, hA⟩ (k_X4_isWord l dC dI dA sz X Γ hU g h0 t_h0 4 (by decide)   (by omega)) ⟨callB_of 1 hA (al_A wd_2_130) rfl rfl rfl (hA _ wd_1_2) (hA _ wd_2_127) (by decide +kernel) ⟨Nat.le_of_ble_eq_true rfl, Nat.le_of_ble_eq_true rfl⟩, hA _ wd_2_129, hA _ ws_8⟩ ⟨bl, recv_X4 hE hG t_h0, fun U hU9 hW9 => ⟨rfl, by rw [hU9]; exact hG, hE.go hS hU9 hW9⟩⟩ rfl rfl hl.1 rfl (lv_room (Nat.le_of_ble_eq_true rfl)) dX4_expectBound_3 ⟨Nat.zero_le _, Nat.zero_le _⟩) hS (fun x3 u1 H locs w2 hG hS => ?_)
  obtain ⟨eu4, w2⟩ := w2
  rw [eu4] at hG
  refine lv_istore_n (lv' := [(1, .int x3), (0, .ref h0)]) hx hb dX4_expectBound_6 rfl hl (by decide) rfl (fun ls hl => ?_)
  refine lv_iload_n hx hb dX4_expectBound_7 rfl (lv_at hl 0 rfl) ?_
  refine ty_if_ne (tgt := 27) hx hb dX4_expectBound_8 (by decide) (fun c5 => ?_) (fun c5 => ?_)
  · skip
    refine lv_aload_n hx hb dX4_expectBound_27 rfl (lv_at hl 1 rfl) ?_
    refine cV (va_runV (C := RX4) (As := []) (rest := []) ⟨hx, hb, hml, hown, hA⟩ (k_X4_readToken l dC dI dA sz X Γ hU g h0 t_h0   (by omega)) ⟨callB_of 0 hA (al_A wd_2_100) rfl rfl rfl (hA _ wd_1_2) (hA _ wd_2_97) (by decide +kernel) ⟨Nat.le_of_ble_eq_true rfl, Nat.le_of_ble_eq_true rfl⟩, hA _ wd_2_99, hA _ ws_3⟩ ⟨bl, recv_X4 hE hG t_h0, fun U hU9 hW9 => ⟨rfl, by rw [hU9]; exact hG, hE.go hS hU9 hW9⟩⟩ rfl rfl hl.1 rfl (lv_room (Nat.le_of_ble_eq_true rfl)) dX4_expectBound_28 ⟨Nat.zero_le _, Nat.zero_le _⟩) hS (fun u6 H locs w7 hG hS => ?_)
    obtain ⟨hf8, w7⟩ := w7
    refine lv_iload_n hx hb dX4_expectBound_31 rfl (lv_at hl 0 rfl) ?_
    exact W.zret (v := x3) hx hb hr (ty_nb (by omega)).1 (fun t ht hW => ⟨⟨x3, u6, rfl, ⟨(fun c j h9 h14 h15 h16 h17 h18 => by rw [hf8 c j h15 h16 h17 h18]), (by omega)⟩, ok1 ht hG⟩, hS.F ht⟩) hS.2.2 dX4_expectBound_32
  · skip
    refine lv_aload_n hx hb dX4_expectBound_11 rfl (lv_at hl 1 rfl) ?_
    refine va_ldcS hx hb hown (hES.1 5 (by decide)).1 dX4_expectBound_12 ?_
    refine cI (va_runV (C := RX4) (As := [.ref (dI 100 5)]) (rest := []) ⟨hx, hb, hml, hown, hA⟩ (k_X4_isWord l dC dI dA sz X Γ hU g h0 t_h0 5 (by decide)   (by omega)) ⟨callB_of 1 hA (al_A wd_2_130) rfl rfl rfl (hA _ wd_1_2) (hA _ wd_2_127) (by decide +kernel) ⟨Nat.le_of_ble_eq_true rfl, Nat.le_of_ble_eq_true rfl⟩, hA _ wd_2_129, hA _ ws_8⟩ ⟨bl, recv_X4 hE hG t_h0, fun U hU9 hW9 => ⟨rfl, by rw [hU9]; exact hG, hE.go hS hU9 hW9⟩⟩ rfl rfl hl.1 rfl (lv_room (Nat.le_of_ble_eq_true rfl)) dX4_expectBound_14 ⟨Nat.zero_le _, Nat.zero_le _⟩) hS (fun x11 u9 H locs w10 hG hS => ?_)
    obtain ⟨eu12, w10⟩ := w10
    rw [eu12] at hG
    refine ty_if_ne (tgt := 27) hx hb dX4_expectBound_17 (by decide) (fun c13 => ?_) (fun c13 => ?_)
    · skip
      refine lv_aload_n hx hb dX4_expectBound_27 rfl (lv_at hl 1 rfl) ?_
      refine cV (va_runV (C := RX4) (As := []) (rest := []) ⟨hx, hb, hml, hown, hA⟩ (k_X4_readToken l dC dI dA sz X Γ hU g h0 t_h0   (by omega)) ⟨callB_of 0 hA (al_A wd_2_100) rfl rfl rfl (hA _ wd_1_2) (hA _ wd_2_97) (by decide +kernel) ⟨Nat.le_of_ble_eq_true rfl, Nat.le_of_ble_eq_true rfl⟩, hA _ wd_2_99, hA _ ws_3⟩ ⟨bl, recv_X4 hE hG t_h0, fun U hU9 hW9 => ⟨rfl, by rw [hU9]; exact hG, hE.go hS hU9 hW9⟩⟩ rfl rfl hl.1 rfl (lv_room (Nat.le_of_ble_eq_true rfl)) dX4_expectBound_28 ⟨Nat.zero_le _, Nat.zero_le _⟩) hS (fun u14 H locs w15 hG hS => ?_)
      obtain ⟨hf16, w15⟩ := w15
      refine lv_iload_n hx hb dX4_expectBound_31 rfl (lv_at hl 0 rfl) ?_
      exact W.zret (v := x3) hx hb hr (ty_nb (by omega)).1 (fun t ht hW => ⟨⟨x3, u14, rfl, ⟨(fun c j h9 h14 h15 h16 h17 h18 => by rw [hf16 c j h15 h16 h17 h18]), (by omega)⟩, ok1 ht hG⟩, hS.F ht⟩) hS.2.2 dX4_expectBound_32
    · skip
      refine lv_aload_n hx hb dX4_expectBound_20 rfl (lv_at hl 1 rfl) ?_
      refine ty_iconst hx hb (1) dX4_expectBound_21 (by decide) (fun x17 h18 => ?_)
      refine cV (va_runV (C := RX4) (As := [.int x17]) (rest := []) ⟨hx, hb, hml, hown, hA⟩ (k_X4_blame l dC dI dA sz X Γ hU g h0 t_h0 x17   ) ⟨callB_of 1 hA (al_A wd_2_185) rfl rfl rfl (hA _ wd_1_2) (hA _ wd_2_182) (by decide +kernel) ⟨Nat.le_of_ble_eq_true rfl, Nat.le_of_ble_eq_true rfl⟩, hA _ wd_2_184, hA _ ws_9⟩ ⟨bl, recv_X4 hE hG t_h0, fun U hU9 hW9 => ⟨rfl, by rw [hU9]; exact hG, hE.go hS hU9 hW9⟩⟩ rfl rfl hl.1 rfl (lv_room (Nat.le_of_ble_eq_true rfl)) dX4_expectBound_22 ⟨Nat.zero_le _, Nat.zero_le _⟩) hS (fun u19 H locs w20 hG hS => ?_)
      have hf21 := w20
      refine ty_iconst hx hb (0) dX4_expectBound_25 (by decide) (fun x22 h23 => ?_)
      have hk24 : u19 16 0 = g 16 0 := hf21 16 0 (by decide) (by decide)
      have hk25 : u19 17 0 = g 17 0 := hf21 17 0 (by decide) (by decide)
      exact W.zret (v := x22) hx hb hr (ty_nb (by omega)).1 (fun t ht hW => ⟨⟨x22, u19, rfl, ⟨(fun c j h9 h14 h15 h16 h17 h18 => by rw [hf21 c j h9 h14]), (by omega)⟩, ok1 ht hG⟩, hS.F ht⟩) hS.2.2 dX4_expectBound_26

set_option maxHeartbeats 4000000 in
set_option maxRecDepth 100000 in
/-- WeekBank$Reader.expectSign:  -/
theorem k_X4_expectSign (l : Launch) (dC : Nat → ClassId) (dI : Nat → Nat → Nat) (dA : Nat → ClassId) (sz : Nat) (X : va_W) (Γ : ty_G) (hU : Un Γ) (g : gh) (h0 : Nat) (t_h0 : ty Γ h0 7) (hp : 0 ≤ g 17 0 ∧ g 17 0 ≤ g 16 0 ∧ g 16 0 ≤ g 6 0 ∧ g 6 0 ≤ 300) : Met l yX4_expectSign (.code yX4_expectSign cX4_expectSign 1 (Option.none : Option Jvm.ClassFile.FieldType) :: AL) ({ frames := 3, cells := 0, slots := 0, locals := 60 }) (PCx dC dI dA sz X Γ g [.ref h0]) (va_Qv (fun (u : gh) => (∀ c j : Nat, c ≠ 9 → c ≠ 14 → c ≠ 15 → c ≠ 16 → c ≠ 17 → c ≠ 18 → u c j = g c j) ∧ ((0 ≤ u 17 0 ∧ u 17 0 ≤ u 16 0 ∧ u 16 0 ≤ g 6 0))) (okb dC dI dA sz X Γ) (ty_A sz)) 0 0 (ty_A sz) := by
  refine Met.ofW (cc := cX4_expectSign) (maxL := 1) (ret := (Option.none : Option Jvm.ClassFile.FieldType)) (by decide) rfl ?_
  intro p e s m args below meth c s₁ B hml hv
  obtain ⟨rfl, hG, hE⟩ := hv
  have hx := B.exec
  have hb := B.bytes
  have hr := B.returns
  have hts := atoms_spec B.pre
  have hA : ∀ w ∈ AL, w.before _ s = true := fun w h => hts w (List.mem_cons_of_mem _ h)
  have hown : s.vm.findClass RX4 = some m.cls := findClass_of_methodNamed B.named
  have hlocks := B.notSynchronized
  have hS : va_S (ty_A sz) s.heap s.heap [] := va_S.rf
  have hl := lv_entry ([.ref h0]) (n := 1) (Nat.le_of_ble_eq_true rfl)
  rw [lg_entry_eq]
  generalize (lg_sl ([.ref h0]) ++ List.replicate (1 - (lg_sl ([.ref h0])).length) Slot.unset).toArray = ls at hl ⊢
  have hl : lv_has ls 1 [(0, .ref h0)] := hl
  refine lv_aload_n hx hb dX4_expectSign_0 rfl (lv_at hl 0 rfl) ?_
  refine get_X4_2 hx hb hA hown hE hG t_h0 wd_1_45 dX4_expectSign_1 (fun x1 h2 => ?_)
  refine ty_if_eq (tgt := 8) hx hb dX4_expectSign_4 (by decide) (fun c4 => ?_) (fun c4 => ?_)
  · skip
    refine lv_aload_n hx hb dX4_expectSign_8 rfl (lv_at hl 0 rfl) ?_
    refine get_X4_5 hx hb hA hown hE hG t_h0 wd_1_50 dX4_expectSign_9 (fun x5 h6 => ?_)
    refine ty_iconst hx hb (3) dX4_expectSign_12 (by decide) (fun x8 h9 => ?_)
    refine ty_icmp_eq (tgt := 22) hx hb dX4_expectSign_13 (by decide) (fun c10 => ?_) (fun c10 => ?_)
    · skip
      refine lv_aload_n hx hb dX4_expectSign_22 rfl (lv_at hl 0 rfl) ?_
      refine cV (va_runV (C := RX4) (As := []) (rest := []) ⟨hx, hb, hml, hown, hA⟩ (k_X4_readToken l dC dI dA sz X Γ hU g h0 t_h0   (by omega)) ⟨callB_of 0 hA (al_A wd_2_100) rfl rfl rfl (hA _ wd_1_2) (hA _ wd_2_97) (by decide +kernel) ⟨Nat.le_of_ble_eq_true rfl, Nat.le_of_ble_eq_true rfl⟩, hA _ wd_2_99, hA _ ws_3⟩ ⟨bl, recv_X4 hE hG t_h0, fun U hU9 hW9 => ⟨rfl, by rw [hU9]; exact hG, hE.go hS hU9 hW9⟩⟩ rfl rfl hl.1 rfl (lv_room (Nat.le_of_ble_eq_true rfl)) dX4_expectSign_23 ⟨Nat.zero_le _, Nat.zero_le _⟩) hS (fun u11 H locs w12 hG hS => ?_)
      obtain ⟨hf13, w12⟩ := w12
      exact W.vret hx hb hr (fun t ht hW => ⟨⟨u11, rfl, ⟨(fun c j h9 h14 h15 h16 h17 h18 => by rw [hf13 c j h15 h16 h17 h18]), (by omega)⟩, ok1 ht hG⟩, hS.F ht⟩) hS.2.2 dX4_expectSign_26
    · skip
      refine lv_aload_n hx hb dX4_expectSign_16 rfl (lv_at hl 0 rfl) ?_
      refine ty_iconst hx hb (1) dX4_expectSign_17 (by decide) (fun x14 h15 => ?_)
      refine cV (va_runV (C := RX4) (As := [.int x14]) (rest := []) ⟨hx, hb, hml, hown, hA⟩ (k_X4_blame l dC dI dA sz X Γ hU g h0 t_h0 x14   ) ⟨callB_of 1 hA (al_A wd_2_185) rfl rfl rfl (hA _ wd_1_2) (hA _ wd_2_182) (by decide +kernel) ⟨Nat.le_of_ble_eq_true rfl, Nat.le_of_ble_eq_true rfl⟩, hA _ wd_2_184, hA _ ws_9⟩ ⟨bl, recv_X4 hE hG t_h0, fun U hU9 hW9 => ⟨rfl, by rw [hU9]; exact hG, hE.go hS hU9 hW9⟩⟩ rfl rfl hl.1 rfl (lv_room (Nat.le_of_ble_eq_true rfl)) dX4_expectSign_18 ⟨Nat.zero_le _, Nat.zero_le _⟩) hS (fun u16 H locs w17 hG hS => ?_)
      have hf18 := w17
      have hk19 : u16 16 0 = g 16 0 := hf18 16 0 (by decide) (by decide)
      have hk20 : u16 17 0 = g 17 0 := hf18 17 0 (by decide) (by decide)
      exact W.vret hx hb hr (fun t ht hW => ⟨⟨u16, rfl, ⟨(fun c j h9 h14 h15 h16 h17 h18 => by rw [hf18 c j h9 h14]), (by omega)⟩, ok1 ht hG⟩, hS.F ht⟩) hS.2.2 dX4_expectSign_21
  · skip
    exact W.vret hx hb hr (fun t ht hW => ⟨⟨g, rfl, ⟨(fun c j h9 h14 h15 h16 h17 h18 => by rfl), (by omega)⟩, ok1 ht hG⟩, hS.F ht⟩) hS.2.2 dX4_expectSign_7
