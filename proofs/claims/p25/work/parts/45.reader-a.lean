set_option maxHeartbeats 4000000 in
set_option maxRecDepth 100000 in
/-- WeekBank$Reader.isBlank:  -/
theorem k_X4_isBlank (l : Launch) (dC : Nat → ClassId) (dI : Nat → Nat → Nat) (dA : Nat → ClassId) (sz : Nat) (X : va_W) (Γ : ty_G) (hU : Un Γ) (g : gh) (p0 : Int32) : Met l yX4_isBlank (.code yX4_isBlank cX4_isBlank 1 (Option.some Jvm.ClassFile.FieldType.boolean) :: AL) ({ frames := 0, cells := 0, slots := 0, locals := 0 }) (PCx dC dI dA sz X Γ g [.int p0]) (va_Qi (fun (r : Int32) (u : gh) => u = g ∧ (((p0.toInt = 32 ∨ p0.toInt = 10 → r.toInt = 1) ∧ (¬ (p0.toInt = 32 ∨ p0.toInt = 10) → r.toInt = 0)))) (okb dC dI dA sz X Γ) (ty_A sz)) 0 0 (ty_A sz) := by
  refine Met.ofW (cc := cX4_isBlank) (maxL := 1) (ret := (Option.some Jvm.ClassFile.FieldType.boolean)) (by decide) rfl ?_
  intro p e s m args below meth c s₁ B hml hv
  obtain ⟨rfl, hG, hE⟩ := hv
  have hx := B.exec
  have hb := B.bytes
  have hr := B.returns
  have hts := atoms_spec B.pre
  have hA : ∀ w ∈ AL, w.before _ s = true := fun w h => hts w (List.mem_cons_of_mem _ h)
  have hown : s.vm.findClass RX4 = some m.cls := findClass_of_methodNamed B.named
  have hlocks := B.notSynchronized
  have hS : va_S (ty_A sz) s.heap s.heap [] := va_S.rf
  have hl := lv_entry ([.int p0]) (n := 1) (Nat.le_of_ble_eq_true rfl)
  rw [lg_entry_eq]
  generalize (lg_sl ([.int p0]) ++ List.replicate (1 - (lg_sl ([.int p0])).length) Slot.unset).toArray = ls at hl ⊢
  have hl : lv_has ls 1 [(0, .int p0)] := hl
  refine lv_iload_n hx hb dX4_isBlank_0 rfl (lv_at hl 0 rfl) ?_
  refine ty_bipush hx hb (32) dX4_isBlank_1 (by decide) (fun x1 h2 => ?_)
  refine ty_icmp_eq (tgt := 12) hx hb dX4_isBlank_3 (by decide) (fun c3 => ?_) (fun c3 => ?_)
  · skip
    refine ty_iconst hx hb (1) dX4_isBlank_12 (by decide) (fun x4 h5 => ?_)
    refine lv_goto (tgt := 17) hx hb dX4_isBlank_13 (by decide) ?_
    exact W.zret (v := x4) hx hb hr (ty_nb (by omega)).1 (fun t ht hW => ⟨⟨x4, g, rfl, ⟨rfl, (by omega)⟩, ok1 ht hG⟩, hS.F ht⟩) hS.2.2 dX4_isBlank_17
  · skip
    refine lv_iload_n hx hb dX4_isBlank_6 rfl (lv_at hl 0 rfl) ?_
    refine ty_bipush hx hb (10) dX4_isBlank_7 (by decide) (fun x6 h7 => ?_)
    refine ty_icmp_ne (tgt := 16) hx hb dX4_isBlank_9 (by decide) (fun c8 => ?_) (fun c8 => ?_)
    · skip
      refine ty_iconst hx hb (0) dX4_isBlank_16 (by decide) (fun x9 h10 => ?_)
      exact W.zret (v := x9) hx hb hr (ty_nb (by omega)).1 (fun t ht hW => ⟨⟨x9, g, rfl, ⟨rfl, (by omega)⟩, ok1 ht hG⟩, hS.F ht⟩) hS.2.2 dX4_isBlank_17
    · skip
      refine ty_iconst hx hb (1) dX4_isBlank_12 (by decide) (fun x11 h12 => ?_)
      refine lv_goto (tgt := 17) hx hb dX4_isBlank_13 (by decide) ?_
      exact W.zret (v := x11) hx hb hr (ty_nb (by omega)).1 (fun t ht hW => ⟨⟨x11, g, rfl, ⟨rfl, (by omega)⟩, ok1 ht hG⟩, hS.F ht⟩) hS.2.2 dX4_isBlank_17

set_option maxHeartbeats 4000000 in
set_option maxRecDepth 100000 in
/-- WeekBank$Reader.isLetter:  -/
theorem k_X4_isLetter (l : Launch) (dC : Nat → ClassId) (dI : Nat → Nat → Nat) (dA : Nat → ClassId) (sz : Nat) (X : va_W) (Γ : ty_G) (hU : Un Γ) (g : gh) (p0 : Int32) : Met l yX4_isLetter (.code yX4_isLetter cX4_isLetter 1 (Option.some Jvm.ClassFile.FieldType.boolean) :: AL) ({ frames := 0, cells := 0, slots := 0, locals := 0 }) (PCx dC dI dA sz X Γ g [.int p0]) (va_Qi (fun (r : Int32) (u : gh) => u = g ∧ (((97 ≤ p0.toInt ∧ p0.toInt ≤ 122 → r.toInt = 1) ∧ (¬ (97 ≤ p0.toInt ∧ p0.toInt ≤ 122) → r.toInt = 0)))) (okb dC dI dA sz X Γ) (ty_A sz)) 0 0 (ty_A sz) := by
  refine Met.ofW (cc := cX4_isLetter) (maxL := 1) (ret := (Option.some Jvm.ClassFile.FieldType.boolean)) (by decide) rfl ?_
  intro p e s m args below meth c s₁ B hml hv
  obtain ⟨rfl, hG, hE⟩ := hv
  have hx := B.exec
  have hb := B.bytes
  have hr := B.returns
  have hts := atoms_spec B.pre
  have hA : ∀ w ∈ AL, w.before _ s = true := fun w h => hts w (List.mem_cons_of_mem _ h)
  have hown : s.vm.findClass RX4 = some m.cls := findClass_of_methodNamed B.named
  have hlocks := B.notSynchronized
  have hS : va_S (ty_A sz) s.heap s.heap [] := va_S.rf
  have hl := lv_entry ([.int p0]) (n := 1) (Nat.le_of_ble_eq_true rfl)
  rw [lg_entry_eq]
  generalize (lg_sl ([.int p0]) ++ List.replicate (1 - (lg_sl ([.int p0])).length) Slot.unset).toArray = ls at hl ⊢
  have hl : lv_has ls 1 [(0, .int p0)] := hl
  refine lv_iload_n hx hb dX4_isLetter_0 rfl (lv_at hl 0 rfl) ?_
  refine ty_bipush hx hb (97) dX4_isLetter_1 (by decide) (fun x1 h2 => ?_)
  refine ty_icmp_lt (tgt := 16) hx hb dX4_isLetter_3 (by decide) (fun c3 => ?_) (fun c3 => ?_)
  · skip
    refine ty_iconst hx hb (0) dX4_isLetter_16 (by decide) (fun x4 h5 => ?_)
    exact W.zret (v := x4) hx hb hr (ty_nb (by omega)).1 (fun t ht hW => ⟨⟨x4, g, rfl, ⟨rfl, (by omega)⟩, ok1 ht hG⟩, hS.F ht⟩) hS.2.2 dX4_isLetter_17
  · skip
    refine lv_iload_n hx hb dX4_isLetter_6 rfl (lv_at hl 0 rfl) ?_
    refine ty_bipush hx hb (122) dX4_isLetter_7 (by decide) (fun x6 h7 => ?_)
    refine ty_icmp_gt (tgt := 16) hx hb dX4_isLetter_9 (by decide) (fun c8 => ?_) (fun c8 => ?_)
    · skip
      refine ty_iconst hx hb (0) dX4_isLetter_16 (by decide) (fun x9 h10 => ?_)
      exact W.zret (v := x9) hx hb hr (ty_nb (by omega)).1 (fun t ht hW => ⟨⟨x9, g, rfl, ⟨rfl, (by omega)⟩, ok1 ht hG⟩, hS.F ht⟩) hS.2.2 dX4_isLetter_17
    · skip
      refine ty_iconst hx hb (1) dX4_isLetter_12 (by decide) (fun x11 h12 => ?_)
      refine lv_goto (tgt := 17) hx hb dX4_isLetter_13 (by decide) ?_
      exact W.zret (v := x11) hx hb hr (ty_nb (by omega)).1 (fun t ht hW => ⟨⟨x11, g, rfl, ⟨rfl, (by omega)⟩, ok1 ht hG⟩, hS.F ht⟩) hS.2.2 dX4_isLetter_17

set_option maxHeartbeats 4000000 in
set_option maxRecDepth 100000 in
/-- WeekBank$Reader.isDigit:  -/
theorem k_X4_isDigit (l : Launch) (dC : Nat → ClassId) (dI : Nat → Nat → Nat) (dA : Nat → ClassId) (sz : Nat) (X : va_W) (Γ : ty_G) (hU : Un Γ) (g : gh) (p0 : Int32) : Met l yX4_isDigit (.code yX4_isDigit cX4_isDigit 1 (Option.some Jvm.ClassFile.FieldType.boolean) :: AL) ({ frames := 0, cells := 0, slots := 0, locals := 0 }) (PCx dC dI dA sz X Γ g [.int p0]) (va_Qi (fun (r : Int32) (u : gh) => u = g ∧ (((48 ≤ p0.toInt ∧ p0.toInt ≤ 57 → r.toInt = 1) ∧ (¬ (48 ≤ p0.toInt ∧ p0.toInt ≤ 57) → r.toInt = 0)))) (okb dC dI dA sz X Γ) (ty_A sz)) 0 0 (ty_A sz) := by
  refine Met.ofW (cc := cX4_isDigit) (maxL := 1) (ret := (Option.some Jvm.ClassFile.FieldType.boolean)) (by decide) rfl ?_
  intro p e s m args below meth c s₁ B hml hv
  obtain ⟨rfl, hG, hE⟩ := hv
  have hx := B.exec
  have hb := B.bytes
  have hr := B.returns
  have hts := atoms_spec B.pre
  have hA : ∀ w ∈ AL, w.before _ s = true := fun w h => hts w (List.mem_cons_of_mem _ h)
  have hown : s.vm.findClass RX4 = some m.cls := findClass_of_methodNamed B.named
  have hlocks := B.notSynchronized
  have hS : va_S (ty_A sz) s.heap s.heap [] := va_S.rf
  have hl := lv_entry ([.int p0]) (n := 1) (Nat.le_of_ble_eq_true rfl)
  rw [lg_entry_eq]
  generalize (lg_sl ([.int p0]) ++ List.replicate (1 - (lg_sl ([.int p0])).length) Slot.unset).toArray = ls at hl ⊢
  have hl : lv_has ls 1 [(0, .int p0)] := hl
  refine lv_iload_n hx hb dX4_isDigit_0 rfl (lv_at hl 0 rfl) ?_
  refine ty_bipush hx hb (48) dX4_isDigit_1 (by decide) (fun x1 h2 => ?_)
  refine ty_icmp_lt (tgt := 16) hx hb dX4_isDigit_3 (by decide) (fun c3 => ?_) (fun c3 => ?_)
  · skip
    refine ty_iconst hx hb (0) dX4_isDigit_16 (by decide) (fun x4 h5 => ?_)
    exact W.zret (v := x4) hx hb hr (ty_nb (by omega)).1 (fun t ht hW => ⟨⟨x4, g, rfl, ⟨rfl, (by omega)⟩, ok1 ht hG⟩, hS.F ht⟩) hS.2.2 dX4_isDigit_17
  · skip
    refine lv_iload_n hx hb dX4_isDigit_6 rfl (lv_at hl 0 rfl) ?_
    refine ty_bipush hx hb (57) dX4_isDigit_7 (by decide) (fun x6 h7 => ?_)
    refine ty_icmp_gt (tgt := 16) hx hb dX4_isDigit_9 (by decide) (fun c8 => ?_) (fun c8 => ?_)
    · skip
      refine ty_iconst hx hb (0) dX4_isDigit_16 (by decide) (fun x9 h10 => ?_)
      exact W.zret (v := x9) hx hb hr (ty_nb (by omega)).1 (fun t ht hW => ⟨⟨x9, g, rfl, ⟨rfl, (by omega)⟩, ok1 ht hG⟩, hS.F ht⟩) hS.2.2 dX4_isDigit_17
    · skip
      refine ty_iconst hx hb (1) dX4_isDigit_12 (by decide) (fun x11 h12 => ?_)
      refine lv_goto (tgt := 17) hx hb dX4_isDigit_13 (by decide) ?_
      exact W.zret (v := x11) hx hb hr (ty_nb (by omega)).1 (fun t ht hW => ⟨⟨x11, g, rfl, ⟨rfl, (by omega)⟩, ok1 ht hG⟩, hS.F ht⟩) hS.2.2 dX4_isDigit_17

set_option maxHeartbeats 4000000 in
set_option maxRecDepth 100000 in
/-- WeekBank$Reader.skipLetters:  -/
theorem k_X4_skipLetters (l : Launch) (dC : Nat → ClassId) (dI : Nat → Nat → Nat) (dA : Nat → ClassId) (sz : Nat) (X : va_W) (Γ : ty_G) (hU : Un Γ) (g : gh) (h0 : Nat) (t_h0 : ty Γ h0 7) (T : Nat → Int) (N9 : Nat) (hp : 0 ≤ g 16 0 ∧ g 16 0 ≤ g 6 0 ∧ g 6 0 ≤ 300) (hT : g 19 = T) (hN : g 6 0 = (N9 : Int)) : Met l yX4_skipLetters (.code yX4_skipLetters cX4_skipLetters 1 (Option.none : Option Jvm.ClassFile.FieldType) :: AL) ({ frames := 1, cells := 0, slots := 0, locals := 20 }) (PCx dC dI dA sz X Γ g [.ref h0]) (va_Qv (fun (u : gh) => (∀ c j : Nat, c ≠ 16 → u c j = g c j) ∧ ((g 16 0 ≤ u 16 0 ∧ u 16 0 ≤ g 6 0) ∧ (u 16 0 = pz_ru pz_lc T N9 (g 16 0)))) (okb dC dI dA sz X Γ) (ty_A sz)) 0 0 (ty_A sz) := by
  refine Met.ofW (cc := cX4_skipLetters) (maxL := 1) (ret := (Option.none : Option Jvm.ClassFile.FieldType)) (by decide) rfl ?_
  intro p e s m args below meth c s₁ B hml hv
  obtain ⟨rfl, hG, hE⟩ := hv
  have hx := B.exec
  have hb := B.bytes
  have hr := B.returns
  have hts := atoms_spec B.pre
  have hA : ∀ w ∈ AL, w.before _ s = true := fun w h => hts w (List.mem_cons_of_mem _ h)
  have hown : s.vm.findClass RX4 = some m.cls := findClass_of_methodNamed B.named
  have hlocks := B.notSynchronized
  have hS : va_S (ty_A sz) s.heap s.heap [] := va_S.rf
  have hl := lv_entry ([.ref h0]) (n := 1) (Nat.le_of_ble_eq_true rfl)
  rw [lg_entry_eq]
  generalize (lg_sl ([.ref h0]) ++ List.replicate (1 - (lg_sl ([.ref h0])).length) Slot.unset).toArray = ls at hl ⊢
  have hl : lv_has ls 1 [(0, .ref h0)] := hl
  have L_0 : ∀ (n : Nat)  (g1 : gh) (H : Heap) (locs : List Loc) (ls : Array Slot), (g1 6 0 - g1 16 0 : Int) < n → g 16 0 ≤ g1 16 0 ∧ g1 16 0 ≤ g1 6 0 → (∀ c j : Nat, c ≠ 16 → g1 c j = g c j) → (pz_ru pz_lc T N9 (g1 16 0) = pz_ru pz_lc T N9 (g 16 0)) → ty_ok (dC, dI) vwCl Γ (TP dA Γ g1) sz X H → va_S (ty_A sz) s.heap H locs → lv_has ls 1 [(0, .ref h0)] → W p l e (headSpec (.code yX4_skipLetters cX4_skipLetters 1 (Option.none : Option Jvm.ClassFile.FieldType) :: AL) ({ frames := 1, cells := 0, slots := 0, locals := 20 })).room s m ([.ref h0] : List Value).toArray below meth c H locs 0 0 (MQ below (va_Qv (fun (u : gh) => (∀ c j : Nat, c ≠ 16 → u c j = g c j) ∧ ((g 16 0 ≤ u 16 0 ∧ u 16 0 ≤ g 6 0) ∧ (u 16 0 = pz_ru pz_lc T N9 (g 16 0)))) (okb dC dI dA sz X Γ) (ty_A sz)) ([.ref h0] : List Value).toArray s 0 0 (ty_A sz)) (F0 m 0 ls []) := by
    intro n
    induction n with
    | zero => intro g1 H locs ls hm hi0 hf2 hq0 hG hS hl; exfalso; omega
    | succ n ih_0 =>
      intro g1 H locs ls hm hi0 hf2 hq0 hG hS hl
      have hk3 : g1 6 0 = g 6 0 := hf2 6 0 (by decide)
      refine lv_aload_n hx hb dX4_skipLetters_0 rfl (lv_at hl 0 rfl) ?_
      refine get_X4_4 hx hb hA hown hE hG t_h0 wd_1_49 dX4_skipLetters_1 (fun x4 h5 => ?_)
      refine lv_aload_n hx hb dX4_skipLetters_4 rfl (lv_at hl 0 rfl) ?_
      refine get_X4_1 hx hb hA hown hE hG t_h0 wd_1_43 dX4_skipLetters_5 (fun x7 h8 => ?_)
      refine ty_icmp_ge (tgt := 39) hx hb dX4_skipLetters_8 (by decide) (fun c10 => ?_) (fun c10 => ?_)
      · skip
        have he9 : pz_ru pz_lc T N9 (g1 16 0) = g1 16 0 := pz_ru_end (by omega) (by omega)
        exact W.vret hx hb hr (fun t ht hW => ⟨⟨g1, rfl, ⟨(fun c j h16 => by rw [hf2 c j h16]), (by omega)⟩, ok1 ht hG⟩, hS.F ht⟩) hS.2.2 dX4_skipLetters_39
      · skip
        refine lv_aload_n hx hb dX4_skipLetters_11 rfl (lv_at hl 0 rfl) ?_
        refine get_X4_0 hx hb hA hown hE hG t_h0 wd_1_42 dX4_skipLetters_12 (fun b11 (t_b11 : ty Γ b11 18) => ?_)
        refine lv_aload_n hx hb dX4_skipLetters_15 rfl (lv_at hl 0 rfl) ?_
        refine get_X4_4 hx hb hA hown hE hG t_h0 wd_1_49 dX4_skipLetters_16 (fun x12 h13 => ?_)
        refine ald_18 hx hb hE hG t_b11 (by omega) dX4_skipLetters_19 (fun j16 x15 h17 h18 => ?_)
        obtain rfl : j16 = x12.toInt.toNat := by omega
        replace h18 : x15.toInt = T x12.toInt.toNat := by rw [h18, hf2 19 x12.toInt.toNat (by decide), hT]
        rw [show x12.toInt = g1 16 0 by omega] at h18
        refine cI (va_runS (As := [.int x15]) (rest := []) ⟨hx, hb, hml, hown, hA⟩ (k_X4_isLetter l dC dI dA sz X Γ hU g1 x15   ) ⟨callB_of 1 hA (al_A wd_2_106) rfl rfl rfl (hA _ wd_1_2) (hA _ wd_2_104) (by decide +kernel) ⟨Nat.le_of_ble_eq_true rfl, Nat.le_of_ble_eq_true rfl⟩, hA _ wd_2_105⟩ ⟨bl, fun U hU9 hW9 => ⟨rfl, by rw [hU9]; exact hG, hE.go hS hU9 hW9⟩⟩ rfl rfl hl.1 rfl (lv_room (Nat.le_of_ble_eq_true rfl)) dX4_skipLetters_20 ⟨Nat.zero_le _, Nat.zero_le _⟩) hS (fun x21 u19 H locs w20 hG hS => ?_)
        obtain ⟨eu22, w20⟩ := w20
        rw [eu22] at hG
        rcases pz_or w20 with w20 | w20
        · skip
          refine ty_if_eq (tgt := 39) hx hb dX4_skipLetters_23 (by decide) (fun c23 => ?_) (fun c23 => ?_)
          · exfalso; omega
          · skip
            refine lv_aload_n hx hb dX4_skipLetters_26 rfl (lv_at hl 0 rfl) ?_
            refine lv_dup hx hb dX4_skipLetters_27 rfl ?_
            refine get_X4_4 hx hb hA hown hE hG t_h0 wd_1_49 dX4_skipLetters_28 (fun x24 h25 => ?_)
            refine ty_iconst hx hb (1) dX4_skipLetters_31 (by decide) (fun x27 h28 => ?_)
            refine ty_iadd hx hb dX4_skipLetters_32 (fun x29 h30 => ?_)
            try have h31 : x29.toInt = x24.toInt + x27.toInt := ty_add h30 (by omega) (by omega)
            refine put_X4_4 hx hb hA hown hE hG hS hU t_h0 wd_1_49 dX4_skipLetters_33 (fun H locs hG hS => ?_)
            refine lv_goto (tgt := 0) hx hb dX4_skipLetters_36 (by decide) ?_
            have e32 : (gs g1 16 0 x29.toInt) 6 0 = g1 6 0 := by rw [gs_c _ _ _ _ (by decide)]
            have e33 : (gs g1 16 0 x29.toInt) 16 0 = x29.toInt := by rw [gs_self]
            exact ih_0 (gs g1 16 0 x29.toInt) _ _ ls (by omega) (by omega) (fun c j h16 => by rw [gs_c _ _ _ _ h16, hf2 c j h16]) (by rw [gs_self, show x29.toInt = g1 16 0 + 1 by omega, ← pz_ru_go (p := pz_lc) (t := T) (n := N9) (a := g1 16 0) (by omega) (by omega) (pz_lct (by omega))]; exact hq0) hG hS (lv_sub hl [0] rfl)
        · skip
          refine ty_if_eq (tgt := 39) hx hb dX4_skipLetters_23 (by decide) (fun c34 => ?_) (fun c34 => ?_)
          · skip
            have he9 : pz_ru pz_lc T N9 (g1 16 0) = g1 16 0 := pz_ru_no (by omega) (pz_lcf (by omega))
            exact W.vret hx hb hr (fun t ht hW => ⟨⟨g1, rfl, ⟨(fun c j h16 => by rw [hf2 c j h16]), (by omega)⟩, ok1 ht hG⟩, hS.F ht⟩) hS.2.2 dX4_skipLetters_39
          · exfalso; omega
  exact L_0 ((g 6 0 - g 16 0) + 1).toNat g _ _ ls (by omega) (by omega) (fun c j _ => rfl) (rfl) hG hS (lv_sub hl [0] rfl)

set_option maxHeartbeats 4000000 in
set_option maxRecDepth 100000 in
/-- WeekBank$Reader.readDigits:  -/
theorem k_X4_readDigits (l : Launch) (dC : Nat → ClassId) (dI : Nat → Nat → Nat) (dA : Nat → ClassId) (sz : Nat) (X : va_W) (Γ : ty_G) (hU : Un Γ) (g : gh) (h0 : Nat) (t_h0 : ty Γ h0 7) (T : Nat → Int) (N9 : Nat) (hp : 0 ≤ g 17 0 ∧ g 17 0 ≤ g 16 0 ∧ g 16 0 ≤ g 6 0 ∧ g 6 0 ≤ 300) (hT : g 19 = T) (hN : g 6 0 = (N9 : Int)) (hs : g 17 0 = g 16 0) : Met l yX4_readDigits (.code yX4_readDigits cX4_readDigits 1 (Option.none : Option Jvm.ClassFile.FieldType) :: AL) ({ frames := 1, cells := 0, slots := 0, locals := 20 }) (PCx dC dI dA sz X Γ g [.ref h0]) (va_Qv (fun (u : gh) => (∀ c j : Nat, c ≠ 15 → c ≠ 16 → c ≠ 18 → u c j = g c j) ∧ ((g 16 0 ≤ u 16 0 ∧ u 16 0 ≤ g 6 0) ∧ (u 16 0 = pz_ru pz_dg T N9 (g 16 0)) ∧ ((u 16 0 - g 17 0 ≤ 4 → u 15 0 = 2) ∧ (¬ u 16 0 - g 17 0 ≤ 4 → u 15 0 = 4))) ∧ (u 18 0 = pz_di T (g 17 0) (u 16 0))) (okb dC dI dA sz X Γ) (ty_A sz)) 0 0 (ty_A sz) := by
  refine Met.ofW (cc := cX4_readDigits) (maxL := 1) (ret := (Option.none : Option Jvm.ClassFile.FieldType)) (by decide) rfl ?_
  intro p e s m args below meth c s₁ B hml hv
  obtain ⟨rfl, hG, hE⟩ := hv
  have hx := B.exec
  have hb := B.bytes
  have hr := B.returns
  have hts := atoms_spec B.pre
  have hA : ∀ w ∈ AL, w.before _ s = true := fun w h => hts w (List.mem_cons_of_mem _ h)
  have hown : s.vm.findClass RX4 = some m.cls := findClass_of_methodNamed B.named
  have hlocks := B.notSynchronized
  have hS : va_S (ty_A sz) s.heap s.heap [] := va_S.rf
  have hl := lv_entry ([.ref h0]) (n := 1) (Nat.le_of_ble_eq_true rfl)
  rw [lg_entry_eq]
  generalize (lg_sl ([.ref h0]) ++ List.replicate (1 - (lg_sl ([.ref h0])).length) Slot.unset).toArray = ls at hl ⊢
  have hl : lv_has ls 1 [(0, .ref h0)] := hl
  refine lv_aload_n hx hb dX4_readDigits_0 rfl (lv_at hl 0 rfl) ?_
  refine ty_iconst hx hb (0) dX4_readDigits_1 (by decide) (fun x1 h2 => ?_)
  refine put_X4_7 hx hb hA hown hE hG hS hU t_h0 wd_1_52 dX4_readDigits_2 (fun H locs hG hS => ?_)
  have e4 : (gs g 18 0 x1.toInt) 6 0 = g 6 0 := by rw [gs_c _ _ _ _ (by decide)]
  have e5 : (gs g 18 0 x1.toInt) 16 0 = g 16 0 := by rw [gs_c _ _ _ _ (by decide)]
  have L_5 : ∀ (n : Nat)  (g3 : gh) (H : Heap) (locs : List Loc) (ls : Array Slot), (g3 6 0 - g3 16 0 : Int) < n → g 16 0 ≤ g3 16 0 ∧ g3 16 0 ≤ g3 6 0 → (∀ c j : Nat, c ≠ 16 → c ≠ 18 → g3 c j = (gs g 18 0 x1.toInt) c j) → (pz_ru pz_dg T N9 (g3 16 0) = pz_ru pz_dg T N9 (g 16 0)) → (pz_vb (g3 16 0 - g 17 0) (g3 18 0)) → (g3 18 0 = pz_di T (g 17 0) (g3 16 0)) → ty_ok (dC, dI) vwCl Γ (TP dA Γ g3) sz X H → va_S (ty_A sz) s.heap H locs → lv_has ls 1 [(0, .ref h0)] → W p l e (headSpec (.code yX4_readDigits cX4_readDigits 1 (Option.none : Option Jvm.ClassFile.FieldType) :: AL) ({ frames := 1, cells := 0, slots := 0, locals := 20 })).room s m ([.ref h0] : List Value).toArray below meth c H locs 0 0 (MQ below (va_Qv (fun (u : gh) => (∀ c j : Nat, c ≠ 15 → c ≠ 16 → c ≠ 18 → u c j = g c j) ∧ ((g 16 0 ≤ u 16 0 ∧ u 16 0 ≤ g 6 0) ∧ (u 16 0 = pz_ru pz_dg T N9 (g 16 0)) ∧ ((u 16 0 - g 17 0 ≤ 4 → u 15 0 = 2) ∧ (¬ u 16 0 - g 17 0 ≤ 4 → u 15 0 = 4))) ∧ (u 18 0 = pz_di T (g 17 0) (u 16 0))) (okb dC dI dA sz X Γ) (ty_A sz)) ([.ref h0] : List Value).toArray s 0 0 (ty_A sz)) (F0 m 5 ls []) := by
    intro n
    induction n with
    | zero => intro g3 H locs ls hm hi0 hf6 hq0 hq1 hq2 hG hS hl; exfalso; omega
    | succ n ih_5 =>
      intro g3 H locs ls hm hi0 hf6 hq0 hq1 hq2 hG hS hl
      have hk7 : g3 6 0 = (gs g 18 0 x1.toInt) 6 0 := hf6 6 0 (by decide) (by decide)
      replace hk7 : g3 6 0 = g 6 0 := by rw [hk7, gs_c _ _ _ _ (by decide)]
      refine lv_aload_n hx hb dX4_readDigits_5 rfl (lv_at hl 0 rfl) ?_
      refine get_X4_4 hx hb hA hown hE hG t_h0 wd_1_49 dX4_readDigits_6 (fun x8 h9 => ?_)
      refine lv_aload_n hx hb dX4_readDigits_9 rfl (lv_at hl 0 rfl) ?_
      refine get_X4_1 hx hb hA hown hE hG t_h0 wd_1_43 dX4_readDigits_10 (fun x11 h12 => ?_)
      refine ty_icmp_ge (tgt := 81) hx hb dX4_readDigits_13 (by decide) (fun c14 => ?_) (fun c14 => ?_)
      · skip
        have he9 : pz_ru pz_dg T N9 (g3 16 0) = g3 16 0 := pz_ru_end (by omega) (by omega)
        refine lv_aload_n hx hb dX4_readDigits_81 rfl (lv_at hl 0 rfl) ?_
        refine lv_aload_n hx hb dX4_readDigits_82 rfl (lv_at hl 0 rfl) ?_
        refine get_X4_4 hx hb hA hown hE hG t_h0 wd_1_49 dX4_readDigits_83 (fun x15 h16 => ?_)
        refine lv_aload_n hx hb dX4_readDigits_86 rfl (lv_at hl 0 rfl) ?_
        refine get_X4_6 hx hb hA hown hE hG t_h0 wd_1_51 dX4_readDigits_87 (fun x18 h19 => ?_)
        have hk21 : g3 17 0 = (gs g 18 0 x1.toInt) 17 0 := hf6 17 0 (by decide) (by decide)
        replace hk21 : g3 17 0 = g 17 0 := by rw [hk21, gs_c _ _ _ _ (by decide)]
        refine ty_isub hx hb dX4_readDigits_90 (fun x22 h23 => ?_)
        try have h24 : x22.toInt = x15.toInt - x18.toInt := ty_sub h23 (by omega) (by omega)
        refine ty_iconst hx hb (4) dX4_readDigits_91 (by decide) (fun x25 h26 => ?_)
        refine ty_icmp_gt (tgt := 99) hx hb dX4_readDigits_92 (by decide) (fun c27 => ?_) (fun c27 => ?_)
        · skip
          refine ty_iconst hx hb (4) dX4_readDigits_99 (by decide) (fun x28 h29 => ?_)
          refine put_X4_5 hx hb hA hown hE hG hS hU t_h0 wd_1_50 dX4_readDigits_100 (fun H locs hG hS => ?_)
          have e30 : (gs g3 15 0 x28.toInt) 15 0 = x28.toInt := by rw [gs_self]
          have e31 : (gs g3 15 0 x28.toInt) 16 0 = g3 16 0 := by rw [gs_c _ _ _ _ (by decide)]
          exact W.vret hx hb hr (fun t ht hW => ⟨⟨(gs g3 15 0 x28.toInt), rfl, ⟨(fun c j h15 h16 h18 => by rw [gs_c _ _ _ _ h15, hf6 c j h16 h18, gs_c _ _ _ _ h18]), (by omega), (by rw [gs_c _ _ _ _ (by decide), gs_c _ _ _ _ (by decide)]; exact hq2)⟩, ok1 ht hG⟩, hS.F ht⟩) hS.2.2 dX4_readDigits_103
        · skip
          refine ty_iconst hx hb (2) dX4_readDigits_95 (by decide) (fun x32 h33 => ?_)
          refine lv_goto (tgt := 100) hx hb dX4_readDigits_96 (by decide) ?_
          refine put_X4_5 hx hb hA hown hE hG hS hU t_h0 wd_1_50 dX4_readDigits_100 (fun H locs hG hS => ?_)
          have e34 : (gs g3 15 0 x32.toInt) 15 0 = x32.toInt := by rw [gs_self]
          have e35 : (gs g3 15 0 x32.toInt) 16 0 = g3 16 0 := by rw [gs_c _ _ _ _ (by decide)]
          exact W.vret hx hb hr (fun t ht hW => ⟨⟨(gs g3 15 0 x32.toInt), rfl, ⟨(fun c j h15 h16 h18 => by rw [gs_c _ _ _ _ h15, hf6 c j h16 h18, gs_c _ _ _ _ h18]), (by omega), (by rw [gs_c _ _ _ _ (by decide), gs_c _ _ _ _ (by decide)]; exact hq2)⟩, ok1 ht hG⟩, hS.F ht⟩) hS.2.2 dX4_readDigits_103
      · skip
        refine lv_aload_n hx hb dX4_readDigits_16 rfl (lv_at hl 0 rfl) ?_
        refine get_X4_0 hx hb hA hown hE hG t_h0 wd_1_42 dX4_readDigits_17 (fun b36 (t_b36 : ty Γ b36 18) => ?_)
        refine lv_aload_n hx hb dX4_readDigits_20 rfl (lv_at hl 0 rfl) ?_
        refine get_X4_4 hx hb hA hown hE hG t_h0 wd_1_49 dX4_readDigits_21 (fun x37 h38 => ?_)
        refine ald_18 hx hb hE hG t_b36 (by omega) dX4_readDigits_24 (fun j41 x40 h42 h43 => ?_)
        obtain rfl : j41 = x37.toInt.toNat := by omega
        replace h43 : x40.toInt = T x37.toInt.toNat := by rw [h43, hf6 19 x37.toInt.toNat (by decide) (by decide), gs_c _ _ _ _ (by decide), hT]
        rw [show x37.toInt = g3 16 0 by omega] at h43
        refine cI (va_runS (As := [.int x40]) (rest := []) ⟨hx, hb, hml, hown, hA⟩ (k_X4_isDigit l dC dI dA sz X Γ hU g3 x40   ) ⟨callB_of 1 hA (al_A wd_2_113) rfl rfl rfl (hA _ wd_1_2) (hA _ wd_2_111) (by decide +kernel) ⟨Nat.le_of_ble_eq_true rfl, Nat.le_of_ble_eq_true rfl⟩, hA _ wd_2_112⟩ ⟨bl, fun U hU9 hW9 => ⟨rfl, by rw [hU9]; exact hG, hE.go hS hU9 hW9⟩⟩ rfl rfl hl.1 rfl (lv_room (Nat.le_of_ble_eq_true rfl)) dX4_readDigits_25 ⟨Nat.zero_le _, Nat.zero_le _⟩) hS (fun x46 u44 H locs w45 hG hS => ?_)
        obtain ⟨eu47, w45⟩ := w45
        rw [eu47] at hG
        rcases pz_or w45 with w45 | w45
        · skip
          refine ty_if_eq (tgt := 81) hx hb dX4_readDigits_28 (by decide) (fun c48 => ?_) (fun c48 => ?_)
          · exfalso; omega
          · skip
            refine lv_aload_n hx hb dX4_readDigits_31 rfl (lv_at hl 0 rfl) ?_
            refine get_X4_4 hx hb hA hown hE hG t_h0 wd_1_49 dX4_readDigits_32 (fun x49 h50 => ?_)
            refine lv_aload_n hx hb dX4_readDigits_35 rfl (lv_at hl 0 rfl) ?_
            refine get_X4_6 hx hb hA hown hE hG t_h0 wd_1_51 dX4_readDigits_36 (fun x52 h53 => ?_)
            have hk55 : g3 17 0 = (gs g 18 0 x1.toInt) 17 0 := hf6 17 0 (by decide) (by decide)
            replace hk55 : g3 17 0 = g 17 0 := by rw [hk55, gs_c _ _ _ _ (by decide)]
            refine ty_isub hx hb dX4_readDigits_39 (fun x56 h57 => ?_)
            try have h58 : x56.toInt = x49.toInt - x52.toInt := ty_sub h57 (by omega) (by omega)
            refine ty_iconst hx hb (4) dX4_readDigits_40 (by decide) (fun x59 h60 => ?_)
            refine ty_icmp_ge (tgt := 68) hx hb dX4_readDigits_41 (by decide) (fun c61 => ?_) (fun c61 => ?_)
            · skip
              refine lv_aload_n hx hb dX4_readDigits_68 rfl (lv_at hl 0 rfl) ?_
              refine lv_dup hx hb dX4_readDigits_69 rfl ?_
              refine get_X4_4 hx hb hA hown hE hG t_h0 wd_1_49 dX4_readDigits_70 (fun x62 h63 => ?_)
              refine ty_iconst hx hb (1) dX4_readDigits_73 (by decide) (fun x65 h66 => ?_)
              refine ty_iadd hx hb dX4_readDigits_74 (fun x67 h68 => ?_)
              try have h69 : x67.toInt = x62.toInt + x65.toInt := ty_add h68 (by omega) (by omega)
              refine put_X4_4 hx hb hA hown hE hG hS hU t_h0 wd_1_49 dX4_readDigits_75 (fun H locs hG hS => ?_)
              refine lv_goto (tgt := 5) hx hb dX4_readDigits_78 (by decide) ?_
              have e70 : (gs g3 16 0 x67.toInt) 6 0 = g3 6 0 := by rw [gs_c _ _ _ _ (by decide)]
              have e71 : (gs g3 16 0 x67.toInt) 16 0 = x67.toInt := by rw [gs_self]
              exact ih_5 (gs g3 16 0 x67.toInt) _ _ ls (by omega) (by omega) (fun c j h16 h18 => by rw [gs_c _ _ _ _ h16, hf6 c j h16 h18]) (by rw [gs_self, show x67.toInt = g3 16 0 + 1 by omega, ← pz_ru_go (p := pz_dg) (t := T) (n := N9) (a := g3 16 0) (by omega) (by omega) (pz_dgt (by omega))]; exact hq0) (by rw [gs_self, gs_c _ _ _ _ (by decide)]; exact pz_vb_up hq1 (by omega) (by omega)) (by rw [gs_c _ _ _ _ (by decide), gs_self]; exact pz_di_up (a := g3 16 0) hq2 (by omega) (by omega) (by omega) (by omega)) hG hS (lv_sub hl [0] rfl)
            · skip
              refine lv_aload_n hx hb dX4_readDigits_44 rfl (lv_at hl 0 rfl) ?_
              refine lv_aload_n hx hb dX4_readDigits_45 rfl (lv_at hl 0 rfl) ?_
              refine get_X4_7 hx hb hA hown hE hG t_h0 wd_1_52 dX4_readDigits_46 (fun x72 h73 => ?_)
              have hb9 := pz_vb_le hq1 (by omega)
              refine ty_bipush hx hb (10) dX4_readDigits_49 (by decide) (fun x75 h76 => ?_)
              refine ty_imul hx hb dX4_readDigits_51 (fun x77 h78 => ?_)
              try have h79 : x77.toInt = x72.toInt * 10 := ty_mulr h78 (by omega) (by omega) (by omega)
              refine lv_aload_n hx hb dX4_readDigits_52 rfl (lv_at hl 0 rfl) ?_
              refine get_X4_0 hx hb hA hown hE hG t_h0 wd_1_42 dX4_readDigits_53 (fun b80 (t_b80 : ty Γ b80 18) => ?_)
              refine lv_aload_n hx hb dX4_readDigits_56 rfl (lv_at hl 0 rfl) ?_
              refine get_X4_4 hx hb hA hown hE hG t_h0 wd_1_49 dX4_readDigits_57 (fun x81 h82 => ?_)
              refine ald_18 hx hb hE hG t_b80 (by omega) dX4_readDigits_60 (fun j85 x84 h86 h87 => ?_)
              obtain rfl : j85 = x81.toInt.toNat := by omega
              replace h87 : x84.toInt = T x81.toInt.toNat := by rw [h87, hf6 19 x81.toInt.toNat (by decide) (by decide), gs_c _ _ _ _ (by decide), hT]
              rw [show x81.toInt = g3 16 0 by omega] at h87
              refine ty_bipush hx hb (48) dX4_readDigits_61 (by decide) (fun x88 h89 => ?_)
              refine ty_isub hx hb dX4_readDigits_63 (fun x90 h91 => ?_)
              try have h92 : x90.toInt = x84.toInt - x88.toInt := ty_sub h91 (by omega) (by omega)
              refine ty_iadd hx hb dX4_readDigits_64 (fun x93 h94 => ?_)
              try have h95 : x93.toInt = x77.toInt + x90.toInt := ty_add h94 (by omega) (by omega)
              refine put_X4_7 hx hb hA hown hE hG hS hU t_h0 wd_1_52 dX4_readDigits_65 (fun H locs hG hS => ?_)
              refine lv_aload_n hx hb dX4_readDigits_68 rfl (lv_at hl 0 rfl) ?_
              refine lv_dup hx hb dX4_readDigits_69 rfl ?_
              refine get_X4_4 hx hb hA hown hE hG t_h0 wd_1_49 dX4_readDigits_70 (fun x96 h97 => ?_)
              replace h97 : x96.toInt = g3 16 0 := by rw [h97, gs_c _ _ _ _ (by decide)]
              refine ty_iconst hx hb (1) dX4_readDigits_73 (by decide) (fun x99 h100 => ?_)
              refine ty_iadd hx hb dX4_readDigits_74 (fun x101 h102 => ?_)
              try have h103 : x101.toInt = x96.toInt + x99.toInt := ty_add h102 (by omega) (by omega)
              refine put_X4_4 hx hb hA hown hE hG hS hU t_h0 wd_1_49 dX4_readDigits_75 (fun H locs hG hS => ?_)
              refine lv_goto (tgt := 5) hx hb dX4_readDigits_78 (by decide) ?_
              have e104 : (gs (gs g3 18 0 x93.toInt) 16 0 x101.toInt) 6 0 = g3 6 0 := by rw [gs_c _ _ _ _ (by decide), gs_c _ _ _ _ (by decide)]
              have e105 : (gs (gs g3 18 0 x93.toInt) 16 0 x101.toInt) 16 0 = x101.toInt := by rw [gs_self]
              exact ih_5 (gs (gs g3 18 0 x93.toInt) 16 0 x101.toInt) _ _ ls (by omega) (by omega) (fun c j h16 h18 => by rw [gs_c _ _ _ _ h16, gs_c _ _ _ _ h18, hf6 c j h16 h18]) (by rw [gs_self, show x101.toInt = g3 16 0 + 1 by omega, ← pz_ru_go (p := pz_dg) (t := T) (n := N9) (a := g3 16 0) (by omega) (by omega) (pz_dgt (by omega))]; exact hq0) (by rw [gs_self, gs_c _ _ _ _ (by decide), gs_self]; exact pz_vb_go (d := T (g3 16 0).toNat - 48) hq1 (by omega) (by omega) (by omega) (by omega) (by omega)) (by rw [gs_c _ _ _ _ (by decide), gs_self, gs_self]; exact pz_di_go (a := g3 16 0) hq2 (by omega) (by omega) (by omega) (by omega) (by omega)) hG hS (lv_sub hl [0] rfl)
        · skip
          refine ty_if_eq (tgt := 81) hx hb dX4_readDigits_28 (by decide) (fun c106 => ?_) (fun c106 => ?_)
          · skip
            have he9 : pz_ru pz_dg T N9 (g3 16 0) = g3 16 0 := pz_ru_no (by omega) (pz_dgf (by omega))
            refine lv_aload_n hx hb dX4_readDigits_81 rfl (lv_at hl 0 rfl) ?_
            refine lv_aload_n hx hb dX4_readDigits_82 rfl (lv_at hl 0 rfl) ?_
            refine get_X4_4 hx hb hA hown hE hG t_h0 wd_1_49 dX4_readDigits_83 (fun x107 h108 => ?_)
            refine lv_aload_n hx hb dX4_readDigits_86 rfl (lv_at hl 0 rfl) ?_
            refine get_X4_6 hx hb hA hown hE hG t_h0 wd_1_51 dX4_readDigits_87 (fun x110 h111 => ?_)
            have hk113 : g3 17 0 = (gs g 18 0 x1.toInt) 17 0 := hf6 17 0 (by decide) (by decide)
            replace hk113 : g3 17 0 = g 17 0 := by rw [hk113, gs_c _ _ _ _ (by decide)]
            refine ty_isub hx hb dX4_readDigits_90 (fun x114 h115 => ?_)
            try have h116 : x114.toInt = x107.toInt - x110.toInt := ty_sub h115 (by omega) (by omega)
            refine ty_iconst hx hb (4) dX4_readDigits_91 (by decide) (fun x117 h118 => ?_)
            refine ty_icmp_gt (tgt := 99) hx hb dX4_readDigits_92 (by decide) (fun c119 => ?_) (fun c119 => ?_)
            · skip
              refine ty_iconst hx hb (4) dX4_readDigits_99 (by decide) (fun x120 h121 => ?_)
              refine put_X4_5 hx hb hA hown hE hG hS hU t_h0 wd_1_50 dX4_readDigits_100 (fun H locs hG hS => ?_)
              have e122 : (gs g3 15 0 x120.toInt) 15 0 = x120.toInt := by rw [gs_self]
              have e123 : (gs g3 15 0 x120.toInt) 16 0 = g3 16 0 := by rw [gs_c _ _ _ _ (by decide)]
              exact W.vret hx hb hr (fun t ht hW => ⟨⟨(gs g3 15 0 x120.toInt), rfl, ⟨(fun c j h15 h16 h18 => by rw [gs_c _ _ _ _ h15, hf6 c j h16 h18, gs_c _ _ _ _ h18]), (by omega), (by rw [gs_c _ _ _ _ (by decide), gs_c _ _ _ _ (by decide)]; exact hq2)⟩, ok1 ht hG⟩, hS.F ht⟩) hS.2.2 dX4_readDigits_103
            · skip
              refine ty_iconst hx hb (2) dX4_readDigits_95 (by decide) (fun x124 h125 => ?_)
              refine lv_goto (tgt := 100) hx hb dX4_readDigits_96 (by decide) ?_
              refine put_X4_5 hx hb hA hown hE hG hS hU t_h0 wd_1_50 dX4_readDigits_100 (fun H locs hG hS => ?_)
              have e126 : (gs g3 15 0 x124.toInt) 15 0 = x124.toInt := by rw [gs_self]
              have e127 : (gs g3 15 0 x124.toInt) 16 0 = g3 16 0 := by rw [gs_c _ _ _ _ (by decide)]
              exact W.vret hx hb hr (fun t ht hW => ⟨⟨(gs g3 15 0 x124.toInt), rfl, ⟨(fun c j h15 h16 h18 => by rw [gs_c _ _ _ _ h15, hf6 c j h16 h18, gs_c _ _ _ _ h18]), (by omega), (by rw [gs_c _ _ _ _ (by decide), gs_c _ _ _ _ (by decide)]; exact hq2)⟩, ok1 ht hG⟩, hS.F ht⟩) hS.2.2 dX4_readDigits_103
          · exfalso; omega
  have e128 : (gs g 18 0 x1.toInt) 6 0 = g 6 0 := by rw [gs_c _ _ _ _ (by decide)]
  have e129 : (gs g 18 0 x1.toInt) 16 0 = g 16 0 := by rw [gs_c _ _ _ _ (by decide)]
  exact L_5 (((gs g 18 0 x1.toInt) 6 0 - (gs g 18 0 x1.toInt) 16 0) + 1).toNat (gs g 18 0 x1.toInt) _ _ ls (by omega) (by omega) (fun c j _ _ => rfl) (by rw [gs_c _ _ _ _ (by decide)]) (by rw [gs_self, gs_c _ _ _ _ (by decide)]; exact pz_vb_0 (by omega) (by omega)) (by rw [gs_self, gs_c _ _ _ _ (by decide), pz_di_0 (by omega)]; omega) hG hS (lv_sub hl [0] rfl)

set_option maxHeartbeats 4000000 in
set_option maxRecDepth 100000 in
/-- WeekBank$Reader.readToken:  -/
theorem k_X4_readToken (l : Launch) (dC : Nat → ClassId) (dI : Nat → Nat → Nat) (dA : Nat → ClassId) (sz : Nat) (X : va_W) (Γ : ty_G) (hU : Un Γ) (g : gh) (h0 : Nat) (t_h0 : ty Γ h0 7) (T : Nat → Int) (N9 : Nat) (hp : 0 ≤ g 16 0 ∧ g 16 0 ≤ g 6 0 ∧ g 6 0 ≤ 300) (hT : g 19 = T) (hN : g 6 0 = (N9 : Int)) : Met l yX4_readToken (.code yX4_readToken cX4_readToken 1 (Option.none : Option Jvm.ClassFile.FieldType) :: AL) ({ frames := 2, cells := 0, slots := 0, locals := 40 }) (PCx dC dI dA sz X Γ g [.ref h0]) (va_Qv (fun (u : gh) => (∀ c j : Nat, c ≠ 15 → c ≠ 16 → c ≠ 17 → c ≠ 18 → u c j = g c j) ∧ ((0 ≤ u 17 0 ∧ u 17 0 ≤ u 16 0 ∧ u 16 0 ≤ g 6 0) ∧ (u 9 0 = u 9 0 ∧ u 14 0 = u 14 0 ∧ u 15 0 = u 15 0 ∧ u 16 0 = u 16 0 ∧ u 17 0 = u 17 0 ∧ u 18 0 = u 18 0)) ∧ (pz_c u = pz_nx T N9 (pz_c g))) (okb dC dI dA sz X Γ) (ty_A sz)) 0 0 (ty_A sz) := by
  refine Met.ofW (cc := cX4_readToken) (maxL := 1) (ret := (Option.none : Option Jvm.ClassFile.FieldType)) (by decide) rfl ?_
  intro p e s m args below meth c s₁ B hml hv
  obtain ⟨rfl, hG, hE⟩ := hv
  have hx := B.exec
  have hb := B.bytes
  have hr := B.returns
  have hts := atoms_spec B.pre
  have hA : ∀ w ∈ AL, w.before _ s = true := fun w h => hts w (List.mem_cons_of_mem _ h)
  have hown : s.vm.findClass RX4 = some m.cls := findClass_of_methodNamed B.named
  have hlocks := B.notSynchronized
  have hS : va_S (ty_A sz) s.heap s.heap [] := va_S.rf
  have hl := lv_entry ([.ref h0]) (n := 1) (Nat.le_of_ble_eq_true rfl)
  rw [lg_entry_eq]
  generalize (lg_sl ([.ref h0]) ++ List.replicate (1 - (lg_sl ([.ref h0])).length) Slot.unset).toArray = ls at hl ⊢
  have hl : lv_has ls 1 [(0, .ref h0)] := hl
  have L_0 : ∀ (n : Nat)  (g1 : gh) (H : Heap) (locs : List Loc) (ls : Array Slot), (g1 6 0 - g1 16 0 : Int) < n → g 16 0 ≤ g1 16 0 ∧ g1 16 0 ≤ g1 6 0 → (∀ c j : Nat, c ≠ 16 → g1 c j = g c j) → (pz_ru pz_bk T N9 (g1 16 0) = pz_ru pz_bk T N9 (g 16 0)) → ty_ok (dC, dI) vwCl Γ (TP dA Γ g1) sz X H → va_S (ty_A sz) s.heap H locs → lv_has ls 1 [(0, .ref h0)] → W p l e (headSpec (.code yX4_readToken cX4_readToken 1 (Option.none : Option Jvm.ClassFile.FieldType) :: AL) ({ frames := 2, cells := 0, slots := 0, locals := 40 })).room s m ([.ref h0] : List Value).toArray below meth c H locs 0 0 (MQ below (va_Qv (fun (u : gh) => (∀ c j : Nat, c ≠ 15 → c ≠ 16 → c ≠ 17 → c ≠ 18 → u c j = g c j) ∧ ((0 ≤ u 17 0 ∧ u 17 0 ≤ u 16 0 ∧ u 16 0 ≤ g 6 0) ∧ (u 9 0 = u 9 0 ∧ u 14 0 = u 14 0 ∧ u 15 0 = u 15 0 ∧ u 16 0 = u 16 0 ∧ u 17 0 = u 17 0 ∧ u 18 0 = u 18 0)) ∧ (pz_c u = pz_nx T N9 (pz_c g))) (okb dC dI dA sz X Γ) (ty_A sz)) ([.ref h0] : List Value).toArray s 0 0 (ty_A sz)) (F0 m 0 ls []) := by
    intro n
    induction n with
    | zero => intro g1 H locs ls hm hi0 hf2 hq0 hG hS hl; exfalso; omega
    | succ n ih_0 =>
      intro g1 H locs ls hm hi0 hf2 hq0 hG hS hl
      have hk3 : g1 6 0 = g 6 0 := hf2 6 0 (by decide)
      refine lv_aload_n hx hb dX4_readToken_0 rfl (lv_at hl 0 rfl) ?_
      refine get_X4_4 hx hb hA hown hE hG t_h0 wd_1_49 dX4_readToken_1 (fun x4 h5 => ?_)
      refine lv_aload_n hx hb dX4_readToken_4 rfl (lv_at hl 0 rfl) ?_
      refine get_X4_1 hx hb hA hown hE hG t_h0 wd_1_43 dX4_readToken_5 (fun x7 h8 => ?_)
      refine ty_icmp_ge (tgt := 39) hx hb dX4_readToken_8 (by decide) (fun c10 => ?_) (fun c10 => ?_)
      · skip
        have he9 : pz_ru pz_bk T N9 (g1 16 0) = g1 16 0 := pz_ru_end (by omega) (by omega)
        refine lv_aload_n hx hb dX4_readToken_39 rfl (lv_at hl 0 rfl) ?_
        refine lv_aload_n hx hb dX4_readToken_40 rfl (lv_at hl 0 rfl) ?_
        refine get_X4_4 hx hb hA hown hE hG t_h0 wd_1_49 dX4_readToken_41 (fun x11 h12 => ?_)
        refine put_X4_6 hx hb hA hown hE hG hS hU t_h0 wd_1_51 dX4_readToken_44 (fun H locs hG hS => ?_)
        refine lv_aload_n hx hb dX4_readToken_47 rfl (lv_at hl 0 rfl) ?_
        refine get_X4_4 hx hb hA hown hE hG t_h0 wd_1_49 dX4_readToken_48 (fun x14 h15 => ?_)
        replace h15 : x14.toInt = g1 16 0 := by rw [h15, gs_c _ _ _ _ (by decide)]
        refine lv_aload_n hx hb dX4_readToken_51 rfl (lv_at hl 0 rfl) ?_
        refine get_X4_1 hx hb hA hown hE hG t_h0 wd_1_43 dX4_readToken_52 (fun x17 h18 => ?_)
        replace h18 : x17.toInt = g1 6 0 := by rw [h18, gs_c _ _ _ _ (by decide)]
        refine ty_icmp_lt (tgt := 66) hx hb dX4_readToken_55 (by decide) (fun c20 => ?_) (fun c20 => ?_)
        · exfalso; omega
        · skip
          refine lv_aload_n hx hb dX4_readToken_58 rfl (lv_at hl 0 rfl) ?_
          refine ty_iconst hx hb (0) dX4_readToken_59 (by decide) (fun x21 h22 => ?_)
          refine put_X4_5 hx hb hA hown hE hG hS hU t_h0 wd_1_50 dX4_readToken_60 (fun H locs hG hS => ?_)
          refine lv_goto (tgt := 148) hx hb dX4_readToken_63 (by decide) ?_
          have hk23 : g1 9 0 = g 9 0 := hf2 9 0 (by decide)
          have e24 : (gs (gs g1 17 0 x11.toInt) 15 0 x21.toInt) 9 0 = g1 9 0 := by rw [gs_c _ _ _ _ (by decide), gs_c _ _ _ _ (by decide)]
          have hk25 : g1 14 0 = g 14 0 := hf2 14 0 (by decide)
          have e26 : (gs (gs g1 17 0 x11.toInt) 15 0 x21.toInt) 14 0 = g1 14 0 := by rw [gs_c _ _ _ _ (by decide), gs_c _ _ _ _ (by decide)]
          have e27 : (gs (gs g1 17 0 x11.toInt) 15 0 x21.toInt) 15 0 = x21.toInt := by rw [gs_self]
          have e28 : (gs (gs g1 17 0 x11.toInt) 15 0 x21.toInt) 16 0 = g1 16 0 := by rw [gs_c _ _ _ _ (by decide), gs_c _ _ _ _ (by decide)]
          have e29 : (gs (gs g1 17 0 x11.toInt) 15 0 x21.toInt) 17 0 = x11.toInt := by rw [gs_c _ _ _ _ (by decide), gs_self]
          have hk30 : g1 18 0 = g 18 0 := hf2 18 0 (by decide)
          have e31 : (gs (gs g1 17 0 x11.toInt) 15 0 x21.toInt) 18 0 = g1 18 0 := by rw [gs_c _ _ _ _ (by decide), gs_c _ _ _ _ (by decide)]
          exact W.vret hx hb hr (fun t ht hW => ⟨⟨(gs (gs g1 17 0 x11.toInt) 15 0 x21.toInt), rfl, ⟨(fun c j h15 h16 h17 h18 => by rw [gs_c _ _ _ _ h15, gs_c _ _ _ _ h17, hf2 c j h16]), (by omega), (by (rw [pz_mx_e (x := pz_c g) (s := g1 16 0) (show g1 16 0 = pz_ru pz_bk T N9 (g 16 0) by omega) (by omega)]; exact pz_mk (show (gs (gs g1 17 0 x11.toInt) 15 0 x21.toInt) 16 0 = g1 16 0 by omega) (show (gs (gs g1 17 0 x11.toInt) 15 0 x21.toInt) 17 0 = g1 16 0 by omega) (show (gs (gs g1 17 0 x11.toInt) 15 0 x21.toInt) 15 0 = 0 by omega) (show (gs (gs g1 17 0 x11.toInt) 15 0 x21.toInt) 18 0 = g 18 0 by omega) (show (gs (gs g1 17 0 x11.toInt) 15 0 x21.toInt) 9 0 = g 9 0 by omega) (show (gs (gs g1 17 0 x11.toInt) 15 0 x21.toInt) 14 0 = g 14 0 by omega)))⟩, ok1 ht hG⟩, hS.F ht⟩) hS.2.2 dX4_readToken_148
      · skip
        refine lv_aload_n hx hb dX4_readToken_11 rfl (lv_at hl 0 rfl) ?_
        refine get_X4_0 hx hb hA hown hE hG t_h0 wd_1_42 dX4_readToken_12 (fun b32 (t_b32 : ty Γ b32 18) => ?_)
        refine lv_aload_n hx hb dX4_readToken_15 rfl (lv_at hl 0 rfl) ?_
        refine get_X4_4 hx hb hA hown hE hG t_h0 wd_1_49 dX4_readToken_16 (fun x33 h34 => ?_)
        refine ald_18 hx hb hE hG t_b32 (by omega) dX4_readToken_19 (fun j37 x36 h38 h39 => ?_)
        obtain rfl : j37 = x33.toInt.toNat := by omega
        replace h39 : x36.toInt = T x33.toInt.toNat := by rw [h39, hf2 19 x33.toInt.toNat (by decide), hT]
        rw [show x33.toInt = g1 16 0 by omega] at h39
        refine cI (va_runS (As := [.int x36]) (rest := []) ⟨hx, hb, hml, hown, hA⟩ (k_X4_isBlank l dC dI dA sz X Γ hU g1 x36   ) ⟨callB_of 1 hA (al_A wd_2_103) rfl rfl rfl (hA _ wd_1_2) (hA _ wd_2_101) (by decide +kernel) ⟨Nat.le_of_ble_eq_true rfl, Nat.le_of_ble_eq_true rfl⟩, hA _ wd_2_102⟩ ⟨bl, fun U hU9 hW9 => ⟨rfl, by rw [hU9]; exact hG, hE.go hS hU9 hW9⟩⟩ rfl rfl hl.1 rfl (lv_room (Nat.le_of_ble_eq_true rfl)) dX4_readToken_20 ⟨Nat.zero_le _, Nat.zero_le _⟩) hS (fun x42 u40 H locs w41 hG hS => ?_)
        obtain ⟨eu43, w41⟩ := w41
        rw [eu43] at hG
        rcases pz_or w41 with w41 | w41
        · skip
          refine ty_if_eq (tgt := 39) hx hb dX4_readToken_23 (by decide) (fun c44 => ?_) (fun c44 => ?_)
          · exfalso; omega
          · skip
            refine lv_aload_n hx hb dX4_readToken_26 rfl (lv_at hl 0 rfl) ?_
            refine lv_dup hx hb dX4_readToken_27 rfl ?_
            refine get_X4_4 hx hb hA hown hE hG t_h0 wd_1_49 dX4_readToken_28 (fun x45 h46 => ?_)
            refine ty_iconst hx hb (1) dX4_readToken_31 (by decide) (fun x48 h49 => ?_)
            refine ty_iadd hx hb dX4_readToken_32 (fun x50 h51 => ?_)
            try have h52 : x50.toInt = x45.toInt + x48.toInt := ty_add h51 (by omega) (by omega)
            refine put_X4_4 hx hb hA hown hE hG hS hU t_h0 wd_1_49 dX4_readToken_33 (fun H locs hG hS => ?_)
            refine lv_goto (tgt := 0) hx hb dX4_readToken_36 (by decide) ?_
            have e53 : (gs g1 16 0 x50.toInt) 6 0 = g1 6 0 := by rw [gs_c _ _ _ _ (by decide)]
            have e54 : (gs g1 16 0 x50.toInt) 16 0 = x50.toInt := by rw [gs_self]
            exact ih_0 (gs g1 16 0 x50.toInt) _ _ ls (by omega) (by omega) (fun c j h16 => by rw [gs_c _ _ _ _ h16, hf2 c j h16]) (by rw [gs_self, show x50.toInt = g1 16 0 + 1 by omega, ← pz_ru_go (p := pz_bk) (t := T) (n := N9) (a := g1 16 0) (by omega) (by omega) (pz_bkt (by omega))]; exact hq0) hG hS (lv_sub hl [0] rfl)
        · skip
          refine ty_if_eq (tgt := 39) hx hb dX4_readToken_23 (by decide) (fun c55 => ?_) (fun c55 => ?_)
          · skip
            have he9 : pz_ru pz_bk T N9 (g1 16 0) = g1 16 0 := pz_ru_no (by omega) (pz_bkf (by omega))
            refine lv_aload_n hx hb dX4_readToken_39 rfl (lv_at hl 0 rfl) ?_
            refine lv_aload_n hx hb dX4_readToken_40 rfl (lv_at hl 0 rfl) ?_
            refine get_X4_4 hx hb hA hown hE hG t_h0 wd_1_49 dX4_readToken_41 (fun x56 h57 => ?_)
            refine put_X4_6 hx hb hA hown hE hG hS hU t_h0 wd_1_51 dX4_readToken_44 (fun H locs hG hS => ?_)
            refine lv_aload_n hx hb dX4_readToken_47 rfl (lv_at hl 0 rfl) ?_
            refine get_X4_4 hx hb hA hown hE hG t_h0 wd_1_49 dX4_readToken_48 (fun x59 h60 => ?_)
            replace h60 : x59.toInt = g1 16 0 := by rw [h60, gs_c _ _ _ _ (by decide)]
            refine lv_aload_n hx hb dX4_readToken_51 rfl (lv_at hl 0 rfl) ?_
            refine get_X4_1 hx hb hA hown hE hG t_h0 wd_1_43 dX4_readToken_52 (fun x62 h63 => ?_)
            replace h63 : x62.toInt = g1 6 0 := by rw [h63, gs_c _ _ _ _ (by decide)]
            refine ty_icmp_lt (tgt := 66) hx hb dX4_readToken_55 (by decide) (fun c65 => ?_) (fun c65 => ?_)
            · skip
              refine lv_aload_n hx hb dX4_readToken_66 rfl (lv_at hl 0 rfl) ?_
              refine get_X4_0 hx hb hA hown hE hG t_h0 wd_1_42 dX4_readToken_67 (fun b66 (t_b66 : ty Γ b66 18) => ?_)
              refine lv_aload_n hx hb dX4_readToken_70 rfl (lv_at hl 0 rfl) ?_
              refine get_X4_4 hx hb hA hown hE hG t_h0 wd_1_49 dX4_readToken_71 (fun x67 h68 => ?_)
              replace h68 : x67.toInt = g1 16 0 := by rw [h68, gs_c _ _ _ _ (by decide)]
              refine ald_18 hx hb hE hG t_b66 (by omega) dX4_readToken_74 (fun j71 x70 h72 h73 => ?_)
              obtain rfl : j71 = x67.toInt.toNat := by omega
              replace h73 : x70.toInt = T x67.toInt.toNat := by rw [h73, gs_c _ _ _ _ (by decide), hf2 19 x67.toInt.toNat (by decide), hT]
              rw [show x67.toInt = g1 16 0 by omega] at h73
              refine cI (va_runS (As := [.int x70]) (rest := []) ⟨hx, hb, hml, hown, hA⟩ (k_X4_isLetter l dC dI dA sz X Γ hU (gs g1 17 0 x56.toInt) x70   ) ⟨callB_of 1 hA (al_A wd_2_106) rfl rfl rfl (hA _ wd_1_2) (hA _ wd_2_104) (by decide +kernel) ⟨Nat.le_of_ble_eq_true rfl, Nat.le_of_ble_eq_true rfl⟩, hA _ wd_2_105⟩ ⟨bl, fun U hU9 hW9 => ⟨rfl, by rw [hU9]; exact hG, hE.go hS hU9 hW9⟩⟩ rfl rfl hl.1 rfl (lv_room (Nat.le_of_ble_eq_true rfl)) dX4_readToken_75 ⟨Nat.zero_le _, Nat.zero_le _⟩) hS (fun x76 u74 H locs w75 hG hS => ?_)
              obtain ⟨eu77, w75⟩ := w75
              rw [eu77] at hG
              rcases pz_or w75 with w75 | w75
              · skip
                refine ty_if_eq (tgt := 93) hx hb dX4_readToken_78 (by decide) (fun c78 => ?_) (fun c78 => ?_)
                · exfalso; omega
                · skip
                  refine lv_aload_n hx hb dX4_readToken_81 rfl (lv_at hl 0 rfl) ?_
                  refine ty_iconst hx hb (1) dX4_readToken_82 (by decide) (fun x79 h80 => ?_)
                  refine put_X4_5 hx hb hA hown hE hG hS hU t_h0 wd_1_50 dX4_readToken_83 (fun H locs hG hS => ?_)
                  refine lv_aload_n hx hb dX4_readToken_86 rfl (lv_at hl 0 rfl) ?_
                  have e81 : (gs (gs g1 17 0 x56.toInt) 15 0 x79.toInt) 16 0 = g1 16 0 := by rw [gs_c _ _ _ _ (by decide), gs_c _ _ _ _ (by decide)]
                  have e82 : (gs (gs g1 17 0 x56.toInt) 15 0 x79.toInt) 6 0 = g1 6 0 := by rw [gs_c _ _ _ _ (by decide), gs_c _ _ _ _ (by decide)]
                  have e83 : (gs (gs g1 17 0 x56.toInt) 15 0 x79.toInt) 6 0 = g1 6 0 := by rw [gs_c _ _ _ _ (by decide), gs_c _ _ _ _ (by decide)]
                  have e84 : (gs (gs g1 17 0 x56.toInt) 15 0 x79.toInt) 16 0 = g1 16 0 := by rw [gs_c _ _ _ _ (by decide), gs_c _ _ _ _ (by decide)]
                  have e85 : (gs (gs g1 17 0 x56.toInt) 15 0 x79.toInt) 6 0 = g1 6 0 := by rw [gs_c _ _ _ _ (by decide), gs_c _ _ _ _ (by decide)]
                  have e86 : (gs (gs g1 17 0 x56.toInt) 15 0 x79.toInt) 16 0 = g1 16 0 := by rw [gs_c _ _ _ _ (by decide), gs_c _ _ _ _ (by decide)]
                  refine cV (va_runV (C := RX4) (As := []) (rest := []) ⟨hx, hb, hml, hown, hA⟩ (k_X4_skipLetters l dC dI dA sz X Γ hU (gs (gs g1 17 0 x56.toInt) 15 0 x79.toInt) h0 t_h0 T N9  (by omega) ((funext fun j => by rw [gs_c _ _ _ _ (by decide), gs_c _ _ _ _ (by decide), hf2 19 j (by decide)]).trans hT) (by omega)) ⟨callB_of 0 hA (al_A wd_2_110) rfl rfl rfl (hA _ wd_1_2) (hA _ wd_2_107) (by decide +kernel) ⟨Nat.le_of_ble_eq_true rfl, Nat.le_of_ble_eq_true rfl⟩, hA _ wd_2_109, hA _ ws_4⟩ ⟨bl, recv_X4 hE hG t_h0, fun U hU9 hW9 => ⟨rfl, by rw [hU9]; exact hG, hE.go hS hU9 hW9⟩⟩ rfl rfl hl.1 rfl (lv_room (Nat.le_of_ble_eq_true rfl)) dX4_readToken_87 ⟨Nat.zero_le _, Nat.zero_le _⟩) hS (fun u87 H locs w88 hG hS => ?_)
                  obtain ⟨hf89, w88⟩ := w88
                  refine lv_goto (tgt := 148) hx hb dX4_readToken_90 (by decide) ?_
                  have hk90 : u87 9 0 = (gs (gs g1 17 0 x56.toInt) 15 0 x79.toInt) 9 0 := hf89 9 0 (by decide)
                  replace hk90 : u87 9 0 = g1 9 0 := by rw [hk90, gs_c _ _ _ _ (by decide), gs_c _ _ _ _ (by decide)]
                  have hk91 : g1 9 0 = g 9 0 := hf2 9 0 (by decide)
                  have hk92 : u87 14 0 = (gs (gs g1 17 0 x56.toInt) 15 0 x79.toInt) 14 0 := hf89 14 0 (by decide)
                  replace hk92 : u87 14 0 = g1 14 0 := by rw [hk92, gs_c _ _ _ _ (by decide), gs_c _ _ _ _ (by decide)]
                  have hk93 : g1 14 0 = g 14 0 := hf2 14 0 (by decide)
                  have hk94 : u87 15 0 = (gs (gs g1 17 0 x56.toInt) 15 0 x79.toInt) 15 0 := hf89 15 0 (by decide)
                  replace hk94 : u87 15 0 = x79.toInt := by rw [hk94, gs_self]
                  have hk95 : u87 17 0 = (gs (gs g1 17 0 x56.toInt) 15 0 x79.toInt) 17 0 := hf89 17 0 (by decide)
                  replace hk95 : u87 17 0 = x56.toInt := by rw [hk95, gs_c _ _ _ _ (by decide), gs_self]
                  have hk96 : u87 18 0 = (gs (gs g1 17 0 x56.toInt) 15 0 x79.toInt) 18 0 := hf89 18 0 (by decide)
                  replace hk96 : u87 18 0 = g1 18 0 := by rw [hk96, gs_c _ _ _ _ (by decide), gs_c _ _ _ _ (by decide)]
                  have hk97 : g1 18 0 = g 18 0 := hf2 18 0 (by decide)
                  exact W.vret hx hb hr (fun t ht hW => ⟨⟨u87, rfl, ⟨(fun c j h15 h16 h17 h18 => by rw [hf89 c j h16, gs_c _ _ _ _ h15, gs_c _ _ _ _ h17, hf2 c j h16]), (by omega), (by (rw [pz_mx_l (x := pz_c g) (s := g1 16 0) (e := u87 16 0) (show g1 16 0 = pz_ru pz_bk T N9 (g 16 0) by omega) (by omega) (by omega) (by rw [show g1 16 0 = (gs (gs g1 17 0 x56.toInt) 15 0 x79.toInt) 16 0 by omega]; omega)]; exact pz_mk rfl (show u87 17 0 = g1 16 0 by omega) (show u87 15 0 = 1 by omega) (show u87 18 0 = g 18 0 by omega) (show u87 9 0 = g 9 0 by omega) (show u87 14 0 = g 14 0 by omega)))⟩, ok1 ht hG⟩, hS.F ht⟩) hS.2.2 dX4_readToken_148
              · skip
                refine ty_if_eq (tgt := 93) hx hb dX4_readToken_78 (by decide) (fun c98 => ?_) (fun c98 => ?_)
                · skip
                  refine lv_aload_n hx hb dX4_readToken_93 rfl (lv_at hl 0 rfl) ?_
                  refine get_X4_0 hx hb hA hown hE hG t_h0 wd_1_42 dX4_readToken_94 (fun b99 (t_b99 : ty Γ b99 18) => ?_)
                  refine lv_aload_n hx hb dX4_readToken_97 rfl (lv_at hl 0 rfl) ?_
                  refine get_X4_4 hx hb hA hown hE hG t_h0 wd_1_49 dX4_readToken_98 (fun x100 h101 => ?_)
                  replace h101 : x100.toInt = g1 16 0 := by rw [h101, gs_c _ _ _ _ (by decide)]
                  refine ald_18 hx hb hE hG t_b99 (by omega) dX4_readToken_101 (fun j104 x103 h105 h106 => ?_)
                  obtain rfl : j104 = x100.toInt.toNat := by omega
                  replace h106 : x103.toInt = T x100.toInt.toNat := by rw [h106, gs_c _ _ _ _ (by decide), hf2 19 x100.toInt.toNat (by decide), hT]
                  rw [show x100.toInt = g1 16 0 by omega] at h106
                  refine cI (va_runS (As := [.int x103]) (rest := []) ⟨hx, hb, hml, hown, hA⟩ (k_X4_isDigit l dC dI dA sz X Γ hU (gs g1 17 0 x56.toInt) x103   ) ⟨callB_of 1 hA (al_A wd_2_113) rfl rfl rfl (hA _ wd_1_2) (hA _ wd_2_111) (by decide +kernel) ⟨Nat.le_of_ble_eq_true rfl, Nat.le_of_ble_eq_true rfl⟩, hA _ wd_2_112⟩ ⟨bl, fun U hU9 hW9 => ⟨rfl, by rw [hU9]; exact hG, hE.go hS hU9 hW9⟩⟩ rfl rfl hl.1 rfl (lv_room (Nat.le_of_ble_eq_true rfl)) dX4_readToken_102 ⟨Nat.zero_le _, Nat.zero_le _⟩) hS (fun x109 u107 H locs w108 hG hS => ?_)
                  obtain ⟨eu110, w108⟩ := w108
                  rw [eu110] at hG
                  rcases pz_or w108 with w108 | w108
                  · skip
                    refine ty_if_eq (tgt := 115) hx hb dX4_readToken_105 (by decide) (fun c111 => ?_) (fun c111 => ?_)
                    · exfalso; omega
                    · skip
                      refine lv_aload_n hx hb dX4_readToken_108 rfl (lv_at hl 0 rfl) ?_
                      have e112 : (gs g1 17 0 x56.toInt) 16 0 = g1 16 0 := by rw [gs_c _ _ _ _ (by decide)]
                      have e113 : (gs g1 17 0 x56.toInt) 17 0 = x56.toInt := by rw [gs_self]
                      have e114 : (gs g1 17 0 x56.toInt) 6 0 = g1 6 0 := by rw [gs_c _ _ _ _ (by decide)]
                      have e115 : (gs g1 17 0 x56.toInt) 6 0 = g1 6 0 := by rw [gs_c _ _ _ _ (by decide)]
                      have e116 : (gs g1 17 0 x56.toInt) 16 0 = g1 16 0 := by rw [gs_c _ _ _ _ (by decide)]
                      have e117 : (gs g1 17 0 x56.toInt) 17 0 = x56.toInt := by rw [gs_self]
                      have e118 : (gs g1 17 0 x56.toInt) 16 0 = g1 16 0 := by rw [gs_c _ _ _ _ (by decide)]
                      have e119 : (gs g1 17 0 x56.toInt) 6 0 = g1 6 0 := by rw [gs_c _ _ _ _ (by decide)]
                      have e120 : (gs g1 17 0 x56.toInt) 16 0 = g1 16 0 := by rw [gs_c _ _ _ _ (by decide)]
                      have e121 : (gs g1 17 0 x56.toInt) 17 0 = x56.toInt := by rw [gs_self]
                      refine cV (va_runV (C := RX4) (As := []) (rest := []) ⟨hx, hb, hml, hown, hA⟩ (k_X4_readDigits l dC dI dA sz X Γ hU (gs g1 17 0 x56.toInt) h0 t_h0 T N9  (by omega) ((funext fun j => by rw [gs_c _ _ _ _ (by decide), hf2 19 j (by decide)]).trans hT) (by omega) (by omega)) ⟨callB_of 0 hA (al_A wd_2_117) rfl rfl rfl (hA _ wd_1_2) (hA _ wd_2_114) (by decide +kernel) ⟨Nat.le_of_ble_eq_true rfl, Nat.le_of_ble_eq_true rfl⟩, hA _ wd_2_116, hA _ ws_5⟩ ⟨bl, recv_X4 hE hG t_h0, fun U hU9 hW9 => ⟨rfl, by rw [hU9]; exact hG, hE.go hS hU9 hW9⟩⟩ rfl rfl hl.1 rfl (lv_room (Nat.le_of_ble_eq_true rfl)) dX4_readToken_109 ⟨Nat.zero_le _, Nat.zero_le _⟩) hS (fun u122 H locs w123 hG hS => ?_)
                      obtain ⟨hf125, w123, hq124⟩ := w123
                      refine lv_goto (tgt := 148) hx hb dX4_readToken_112 (by decide) ?_
                      have hk126 : u122 9 0 = (gs g1 17 0 x56.toInt) 9 0 := hf125 9 0 (by decide) (by decide) (by decide)
                      replace hk126 : u122 9 0 = g1 9 0 := by rw [hk126, gs_c _ _ _ _ (by decide)]
                      have hk127 : g1 9 0 = g 9 0 := hf2 9 0 (by decide)
                      have hk128 : u122 14 0 = (gs g1 17 0 x56.toInt) 14 0 := hf125 14 0 (by decide) (by decide) (by decide)
                      replace hk128 : u122 14 0 = g1 14 0 := by rw [hk128, gs_c _ _ _ _ (by decide)]
                      have hk129 : g1 14 0 = g 14 0 := hf2 14 0 (by decide)
                      have hk130 : u122 17 0 = (gs g1 17 0 x56.toInt) 17 0 := hf125 17 0 (by decide) (by decide) (by decide)
                      replace hk130 : u122 17 0 = x56.toInt := by rw [hk130, gs_self]
                      exact W.vret hx hb hr (fun t ht hW => ⟨⟨u122, rfl, ⟨(fun c j h15 h16 h17 h18 => by rw [hf125 c j h15 h16 h18, gs_c _ _ _ _ h17, hf2 c j h16]), (by omega), (by (rw [pz_mx_d (x := pz_c g) (s := g1 16 0) (e := u122 16 0) (k := u122 15 0) (v := u122 18 0) (show g1 16 0 = pz_ru pz_bk T N9 (g 16 0) by omega) (by omega) (by omega) (by rw [show g1 16 0 = (gs g1 17 0 x56.toInt) 16 0 by omega]; omega) (by rw [show g1 16 0 = (gs g1 17 0 x56.toInt) 17 0 by omega]; exact hq124) (by omega)]; exact pz_mk rfl (show u122 17 0 = g1 16 0 by omega) rfl rfl (show u122 9 0 = g 9 0 by omega) (show u122 14 0 = g 14 0 by omega)))⟩, ok1 ht hG⟩, hS.F ht⟩) hS.2.2 dX4_readToken_148
                  · skip
                    refine ty_if_eq (tgt := 115) hx hb dX4_readToken_105 (by decide) (fun c131 => ?_) (fun c131 => ?_)
                    · skip
                      refine lv_aload_n hx hb dX4_readToken_115 rfl (lv_at hl 0 rfl) ?_
                      refine lv_aload_n hx hb dX4_readToken_116 rfl (lv_at hl 0 rfl) ?_
                      refine get_X4_0 hx hb hA hown hE hG t_h0 wd_1_42 dX4_readToken_117 (fun b132 (t_b132 : ty Γ b132 18) => ?_)
                      refine lv_aload_n hx hb dX4_readToken_120 rfl (lv_at hl 0 rfl) ?_
                      refine get_X4_4 hx hb hA hown hE hG t_h0 wd_1_49 dX4_readToken_121 (fun x133 h134 => ?_)
                      replace h134 : x133.toInt = g1 16 0 := by rw [h134, gs_c _ _ _ _ (by decide)]
                      refine ald_18 hx hb hE hG t_b132 (by omega) dX4_readToken_124 (fun j137 x136 h138 h139 => ?_)
                      obtain rfl : j137 = x133.toInt.toNat := by omega
                      replace h139 : x136.toInt = T x133.toInt.toNat := by rw [h139, gs_c _ _ _ _ (by decide), hf2 19 x133.toInt.toNat (by decide), hT]
                      rw [show x133.toInt = g1 16 0 by omega] at h139
                      refine ty_bipush hx hb (59) dX4_readToken_125 (by decide) (fun x140 h141 => ?_)
                      refine ty_icmp_ne (tgt := 134) hx hb dX4_readToken_127 (by decide) (fun c142 => ?_) (fun c142 => ?_)
                      · skip
                        refine ty_iconst hx hb (4) dX4_readToken_134 (by decide) (fun x143 h144 => ?_)
                        refine put_X4_5 hx hb hA hown hE hG hS hU t_h0 wd_1_50 dX4_readToken_135 (fun H locs hG hS => ?_)
                        refine lv_aload_n hx hb dX4_readToken_138 rfl (lv_at hl 0 rfl) ?_
                        refine lv_dup hx hb dX4_readToken_139 rfl ?_
                        refine get_X4_4 hx hb hA hown hE hG t_h0 wd_1_49 dX4_readToken_140 (fun x145 h146 => ?_)
                        replace h146 : x145.toInt = g1 16 0 := by rw [h146, gs_c _ _ _ _ (by decide), gs_c _ _ _ _ (by decide)]
                        refine ty_iconst hx hb (1) dX4_readToken_143 (by decide) (fun x148 h149 => ?_)
                        refine ty_iadd hx hb dX4_readToken_144 (fun x150 h151 => ?_)
                        try have h152 : x150.toInt = x145.toInt + x148.toInt := ty_add h151 (by omega) (by omega)
                        refine put_X4_4 hx hb hA hown hE hG hS hU t_h0 wd_1_49 dX4_readToken_145 (fun H locs hG hS => ?_)
                        generalize eg154 : (gs (gs (gs g1 17 0 x56.toInt) 15 0 x143.toInt) 16 0 x150.toInt) = g153 at hG
                        have hf155 : ∀ c j : Nat, c ≠ 17 → c ≠ 15 → c ≠ 16 → g153 c j = g1 c j := fun c j h17 h15 h16 => by rw [← eg154, gs_c _ _ _ _ h16, gs_c _ _ _ _ h15, gs_c _ _ _ _ h17]
                        have v156 : g153 17 0 = x56.toInt := by rw [← eg154, gs_c _ _ _ _ (by decide), gs_c _ _ _ _ (by decide), gs_self]
                        have v157 : g153 15 0 = x143.toInt := by rw [← eg154, gs_c _ _ _ _ (by decide), gs_self]
                        have v158 : g153 16 0 = x150.toInt := by rw [← eg154, gs_self]
                        have hk159 : g153 9 0 = g1 9 0 := hf155 9 0 (by decide) (by decide) (by decide)
                        have hk160 : g1 9 0 = g 9 0 := hf2 9 0 (by decide)
                        have hk161 : g153 14 0 = g1 14 0 := hf155 14 0 (by decide) (by decide) (by decide)
                        have hk162 : g1 14 0 = g 14 0 := hf2 14 0 (by decide)
                        have hk163 : g153 18 0 = g1 18 0 := hf155 18 0 (by decide) (by decide) (by decide)
                        have hk164 : g1 18 0 = g 18 0 := hf2 18 0 (by decide)
                        exact W.vret hx hb hr (fun t ht hW => ⟨⟨g153, rfl, ⟨(fun c j h15 h16 h17 h18 => by rw [hf155 c j h17 h15 h16, hf2 c j h16]), (by omega), (by (rw [pz_mx_o (x := pz_c g) (s := g1 16 0) (e := g153 16 0) (k := g153 15 0) (show g1 16 0 = pz_ru pz_bk T N9 (g 16 0) by omega) (by omega) (by omega) (by omega) (by omega) (by omega)]; exact pz_mk rfl (show g153 17 0 = g1 16 0 by omega) rfl (show g153 18 0 = g 18 0 by omega) (show g153 9 0 = g 9 0 by omega) (show g153 14 0 = g 14 0 by omega)))⟩, ok1 ht hG⟩, hS.F ht⟩) hS.2.2 dX4_readToken_148
                      · skip
                        refine ty_iconst hx hb (3) dX4_readToken_130 (by decide) (fun x165 h166 => ?_)
                        refine lv_goto (tgt := 135) hx hb dX4_readToken_131 (by decide) ?_
                        refine put_X4_5 hx hb hA hown hE hG hS hU t_h0 wd_1_50 dX4_readToken_135 (fun H locs hG hS => ?_)
                        refine lv_aload_n hx hb dX4_readToken_138 rfl (lv_at hl 0 rfl) ?_
                        refine lv_dup hx hb dX4_readToken_139 rfl ?_
                        refine get_X4_4 hx hb hA hown hE hG t_h0 wd_1_49 dX4_readToken_140 (fun x167 h168 => ?_)
                        replace h168 : x167.toInt = g1 16 0 := by rw [h168, gs_c _ _ _ _ (by decide), gs_c _ _ _ _ (by decide)]
                        refine ty_iconst hx hb (1) dX4_readToken_143 (by decide) (fun x170 h171 => ?_)
                        refine ty_iadd hx hb dX4_readToken_144 (fun x172 h173 => ?_)
                        try have h174 : x172.toInt = x167.toInt + x170.toInt := ty_add h173 (by omega) (by omega)
                        refine put_X4_4 hx hb hA hown hE hG hS hU t_h0 wd_1_49 dX4_readToken_145 (fun H locs hG hS => ?_)
                        generalize eg176 : (gs (gs (gs g1 17 0 x56.toInt) 15 0 x165.toInt) 16 0 x172.toInt) = g175 at hG
                        have hf177 : ∀ c j : Nat, c ≠ 17 → c ≠ 15 → c ≠ 16 → g175 c j = g1 c j := fun c j h17 h15 h16 => by rw [← eg176, gs_c _ _ _ _ h16, gs_c _ _ _ _ h15, gs_c _ _ _ _ h17]
                        have v178 : g175 17 0 = x56.toInt := by rw [← eg176, gs_c _ _ _ _ (by decide), gs_c _ _ _ _ (by decide), gs_self]
                        have v179 : g175 15 0 = x165.toInt := by rw [← eg176, gs_c _ _ _ _ (by decide), gs_self]
                        have v180 : g175 16 0 = x172.toInt := by rw [← eg176, gs_self]
                        have hk181 : g175 9 0 = g1 9 0 := hf177 9 0 (by decide) (by decide) (by decide)
                        have hk182 : g1 9 0 = g 9 0 := hf2 9 0 (by decide)
                        have hk183 : g175 14 0 = g1 14 0 := hf177 14 0 (by decide) (by decide) (by decide)
                        have hk184 : g1 14 0 = g 14 0 := hf2 14 0 (by decide)
                        have hk185 : g175 18 0 = g1 18 0 := hf177 18 0 (by decide) (by decide) (by decide)
                        have hk186 : g1 18 0 = g 18 0 := hf2 18 0 (by decide)
                        exact W.vret hx hb hr (fun t ht hW => ⟨⟨g175, rfl, ⟨(fun c j h15 h16 h17 h18 => by rw [hf177 c j h17 h15 h16, hf2 c j h16]), (by omega), (by (rw [pz_mx_o (x := pz_c g) (s := g1 16 0) (e := g175 16 0) (k := g175 15 0) (show g1 16 0 = pz_ru pz_bk T N9 (g 16 0) by omega) (by omega) (by omega) (by omega) (by omega) (by omega)]; exact pz_mk rfl (show g175 17 0 = g1 16 0 by omega) rfl (show g175 18 0 = g 18 0 by omega) (show g175 9 0 = g 9 0 by omega) (show g175 14 0 = g 14 0 by omega)))⟩, ok1 ht hG⟩, hS.F ht⟩) hS.2.2 dX4_readToken_148
                    · exfalso; omega
                · exfalso; omega
            · exfalso; omega
          · exfalso; omega
  exact L_0 ((g 6 0 - g 16 0) + 1).toNat g _ _ ls (by omega) (by omega) (fun c j _ => rfl) (rfl) hG hS (lv_sub hl [0] rfl)
